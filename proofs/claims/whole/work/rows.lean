section
-- ===== PART A: goes FIRST, ahead of the names: the tables' words, and 'selects' of the private methods out of them =====
/-- a private method of a class that the tables say can be made, by its rows of tables_1 -/
def lw_okq (q : MethodName × Nat) : Prop := (q.1.cls ≠ "java/lang/invoke/MethodHandle" ∧ q.1.cls ≠ "java/lang/invoke/VarHandle") ∧ Cond.instantiable q.1.cls q.2 ∈ tables_1 ∧ Cond.privateMethod q.1 ∈ tables_1 ∧ Cond.instanceMethod q.1 ∈ tables_1
theorem lw_p0 : lw_okq (⟨"ModuleLinker$Compiler", "compile", "([CILModuleLinker$Unit;)I"⟩, 9) := ⟨⟨by decide +kernel, by decide +kernel⟩, List.mem_of_getElem? (i := 99) (by decide +kernel), List.mem_of_getElem? (i := 263) (by decide +kernel), List.mem_of_getElem? (i := 264) (by decide +kernel)⟩
theorem lw_p1 : lw_okq (⟨"ModuleLinker$Compiler", "readHeads", "()V"⟩, 9) := ⟨⟨by decide +kernel, by decide +kernel⟩, List.mem_of_getElem? (i := 99) (by decide +kernel), List.mem_of_getElem? (i := 267) (by decide +kernel), List.mem_of_getElem? (i := 268) (by decide +kernel)⟩
theorem lw_p2 : lw_okq (⟨"ModuleLinker$Compiler", "readAmong", "(CC)I"⟩, 9) := ⟨⟨by decide +kernel, by decide +kernel⟩, List.mem_of_getElem? (i := 99) (by decide +kernel), List.mem_of_getElem? (i := 271) (by decide +kernel), List.mem_of_getElem? (i := 272) (by decide +kernel)⟩
theorem lw_p3 : lw_okq (⟨"ModuleLinker$Compiler", "peek", "()C"⟩, 9) := ⟨⟨by decide +kernel, by decide +kernel⟩, List.mem_of_getElem? (i := 99) (by decide +kernel), List.mem_of_getElem? (i := 275) (by decide +kernel), List.mem_of_getElem? (i := 276) (by decide +kernel)⟩
theorem lw_p4 : lw_okq (⟨"ModuleLinker$Compiler", "refuse", "()I"⟩, 9) := ⟨⟨by decide +kernel, by decide +kernel⟩, List.mem_of_getElem? (i := 99) (by decide +kernel), List.mem_of_getElem? (i := 282) (by decide +kernel), List.mem_of_getElem? (i := 283) (by decide +kernel)⟩
theorem lw_p5 : lw_okq (⟨"ModuleLinker$Compiler", "take", "(C)V"⟩, 9) := ⟨⟨by decide +kernel, by decide +kernel⟩, List.mem_of_getElem? (i := 99) (by decide +kernel), List.mem_of_getElem? (i := 286) (by decide +kernel), List.mem_of_getElem? (i := 287) (by decide +kernel)⟩
theorem lw_p6 : lw_okq (⟨"ModuleLinker$Compiler", "takeIf", "(C)Z"⟩, 9) := ⟨⟨by decide +kernel, by decide +kernel⟩, List.mem_of_getElem? (i := 99) (by decide +kernel), List.mem_of_getElem? (i := 290) (by decide +kernel), List.mem_of_getElem? (i := 291) (by decide +kernel)⟩
theorem lw_p7 : lw_okq (⟨"ModuleLinker$Compiler", "readHead", "(LModuleLinker$Item;)V"⟩, 9) := ⟨⟨by decide +kernel, by decide +kernel⟩, List.mem_of_getElem? (i := 99) (by decide +kernel), List.mem_of_getElem? (i := 294) (by decide +kernel), List.mem_of_getElem? (i := 295) (by decide +kernel)⟩
theorem lw_p8 : lw_okq (⟨"ModuleLinker$Unit", "find", "(II)LModuleLinker$Item;"⟩, 5) := ⟨⟨by decide +kernel, by decide +kernel⟩, List.mem_of_getElem? (i := 25) (by decide +kernel), List.mem_of_getElem? (i := 298) (by decide +kernel), List.mem_of_getElem? (i := 299) (by decide +kernel)⟩
theorem lw_p9 : lw_okq (⟨"ModuleLinker$Compiler", "readSignature", "()I"⟩, 9) := ⟨⟨by decide +kernel, by decide +kernel⟩, List.mem_of_getElem? (i := 99) (by decide +kernel), List.mem_of_getElem? (i := 302) (by decide +kernel), List.mem_of_getElem? (i := 303) (by decide +kernel)⟩
theorem lw_p10 : lw_okq (⟨"ModuleLinker$Compiler", "readType", "()I"⟩, 9) := ⟨⟨by decide +kernel, by decide +kernel⟩, List.mem_of_getElem? (i := 99) (by decide +kernel), List.mem_of_getElem? (i := 306) (by decide +kernel), List.mem_of_getElem? (i := 307) (by decide +kernel)⟩
theorem lw_p11 : lw_okq (⟨"ModuleLinker$Compiler", "skipBody", "()V"⟩, 9) := ⟨⟨by decide +kernel, by decide +kernel⟩, List.mem_of_getElem? (i := 99) (by decide +kernel), List.mem_of_getElem? (i := 316) (by decide +kernel), List.mem_of_getElem? (i := 317) (by decide +kernel)⟩
theorem lw_p12 : lw_okq (⟨"ModuleLinker$Compiler", "readBody", "(LModuleLinker$Item;)V"⟩, 9) := ⟨⟨by decide +kernel, by decide +kernel⟩, List.mem_of_getElem? (i := 99) (by decide +kernel), List.mem_of_getElem? (i := 320) (by decide +kernel), List.mem_of_getElem? (i := 321) (by decide +kernel)⟩
theorem lw_p13 : lw_okq (⟨"ModuleLinker$Compiler", "readExpression", "(I)I"⟩, 9) := ⟨⟨by decide +kernel, by decide +kernel⟩, List.mem_of_getElem? (i := 99) (by decide +kernel), List.mem_of_getElem? (i := 325) (by decide +kernel), List.mem_of_getElem? (i := 326) (by decide +kernel)⟩
theorem lw_p14 : lw_okq (⟨"ModuleLinker$Compiler", "readProduct", "(I)I"⟩, 9) := ⟨⟨by decide +kernel, by decide +kernel⟩, List.mem_of_getElem? (i := 99) (by decide +kernel), List.mem_of_getElem? (i := 329) (by decide +kernel), List.mem_of_getElem? (i := 330) (by decide +kernel)⟩
theorem lw_p15 : lw_okq (⟨"ModuleLinker$Compiler", "readFactor", "(I)I"⟩, 9) := ⟨⟨by decide +kernel, by decide +kernel⟩, List.mem_of_getElem? (i := 99) (by decide +kernel), List.mem_of_getElem? (i := 333) (by decide +kernel), List.mem_of_getElem? (i := 334) (by decide +kernel)⟩
def lw_privs_1 : List (MethodName × Nat) := [(⟨"ModuleLinker$Compiler", "compile", "([CILModuleLinker$Unit;)I"⟩, 9), (⟨"ModuleLinker$Compiler", "readHeads", "()V"⟩, 9), (⟨"ModuleLinker$Compiler", "readAmong", "(CC)I"⟩, 9), (⟨"ModuleLinker$Compiler", "peek", "()C"⟩, 9), (⟨"ModuleLinker$Compiler", "refuse", "()I"⟩, 9), (⟨"ModuleLinker$Compiler", "take", "(C)V"⟩, 9), (⟨"ModuleLinker$Compiler", "takeIf", "(C)Z"⟩, 9), (⟨"ModuleLinker$Compiler", "readHead", "(LModuleLinker$Item;)V"⟩, 9), (⟨"ModuleLinker$Unit", "find", "(II)LModuleLinker$Item;"⟩, 5), (⟨"ModuleLinker$Compiler", "readSignature", "()I"⟩, 9), (⟨"ModuleLinker$Compiler", "readType", "()I"⟩, 9), (⟨"ModuleLinker$Compiler", "skipBody", "()V"⟩, 9), (⟨"ModuleLinker$Compiler", "readBody", "(LModuleLinker$Item;)V"⟩, 9), (⟨"ModuleLinker$Compiler", "readExpression", "(I)I"⟩, 9), (⟨"ModuleLinker$Compiler", "readProduct", "(I)I"⟩, 9), (⟨"ModuleLinker$Compiler", "readFactor", "(I)I"⟩, 9)]
theorem lw_r1 : ∀ q ∈ lw_privs_1, lw_okq q := List.forall_mem_cons.mpr ⟨lw_p0, List.forall_mem_cons.mpr ⟨lw_p1, List.forall_mem_cons.mpr ⟨lw_p2, List.forall_mem_cons.mpr ⟨lw_p3, List.forall_mem_cons.mpr ⟨lw_p4, List.forall_mem_cons.mpr ⟨lw_p5, List.forall_mem_cons.mpr ⟨lw_p6, List.forall_mem_cons.mpr ⟨lw_p7, List.forall_mem_cons.mpr ⟨lw_p8, List.forall_mem_cons.mpr ⟨lw_p9, List.forall_mem_cons.mpr ⟨lw_p10, List.forall_mem_cons.mpr ⟨lw_p11, List.forall_mem_cons.mpr ⟨lw_p12, List.forall_mem_cons.mpr ⟨lw_p13, List.forall_mem_cons.mpr ⟨lw_p14, List.forall_mem_cons.mpr ⟨lw_p15, fun _ h => absurd h List.not_mem_nil⟩⟩⟩⟩⟩⟩⟩⟩⟩⟩⟩⟩⟩⟩⟩⟩
theorem lw_p16 : lw_okq (⟨"ModuleLinker$Compiler", "readWhole", "(I)I"⟩, 9) := ⟨⟨by decide +kernel, by decide +kernel⟩, List.mem_of_getElem? (i := 99) (by decide +kernel), List.mem_of_getElem? (i := 337) (by decide +kernel), List.mem_of_getElem? (i := 338) (by decide +kernel)⟩
theorem lw_p17 : lw_okq (⟨"ModuleLinker$Compiler", "readNumber", "()I"⟩, 9) := ⟨⟨by decide +kernel, by decide +kernel⟩, List.mem_of_getElem? (i := 99) (by decide +kernel), List.mem_of_getElem? (i := 341) (by decide +kernel), List.mem_of_getElem? (i := 342) (by decide +kernel)⟩
theorem lw_p18 : lw_okq (⟨"ModuleLinker$Unit", "emit", "(II)I"⟩, 5) := ⟨⟨by decide +kernel, by decide +kernel⟩, List.mem_of_getElem? (i := 25) (by decide +kernel), List.mem_of_getElem? (i := 345) (by decide +kernel), List.mem_of_getElem? (i := 346) (by decide +kernel)⟩
theorem lw_p19 : lw_okq (⟨"ModuleLinker$Compiler", "readParameter", "()I"⟩, 9) := ⟨⟨by decide +kernel, by decide +kernel⟩, List.mem_of_getElem? (i := 99) (by decide +kernel), List.mem_of_getElem? (i := 349) (by decide +kernel), List.mem_of_getElem? (i := 350) (by decide +kernel)⟩
theorem lw_p20 : lw_okq (⟨"ModuleLinker$Compiler", "readCall", "(II)I"⟩, 9) := ⟨⟨by decide +kernel, by decide +kernel⟩, List.mem_of_getElem? (i := 99) (by decide +kernel), List.mem_of_getElem? (i := 353) (by decide +kernel), List.mem_of_getElem? (i := 354) (by decide +kernel)⟩
theorem lw_p21 : lw_okq (⟨"ModuleLinker$Compiler", "readArguments", "(II)V"⟩, 9) := ⟨⟨by decide +kernel, by decide +kernel⟩, List.mem_of_getElem? (i := 99) (by decide +kernel), List.mem_of_getElem? (i := 357) (by decide +kernel), List.mem_of_getElem? (i := 358) (by decide +kernel)⟩
theorem lw_p22 : lw_okq (⟨"ModuleLinker$Compiler", "need", "(II)V"⟩, 9) := ⟨⟨by decide +kernel, by decide +kernel⟩, List.mem_of_getElem? (i := 99) (by decide +kernel), List.mem_of_getElem? (i := 361) (by decide +kernel), List.mem_of_getElem? (i := 362) (by decide +kernel)⟩
theorem lw_p23 : lw_okq (⟨"ModuleLinker$Compiler", "hold", "(I)V"⟩, 9) := ⟨⟨by decide +kernel, by decide +kernel⟩, List.mem_of_getElem? (i := 99) (by decide +kernel), List.mem_of_getElem? (i := 365) (by decide +kernel), List.mem_of_getElem? (i := 366) (by decide +kernel)⟩
theorem lw_p24 : lw_okq (⟨"ModuleLinker$Compiler", "release", "(I)V"⟩, 9) := ⟨⟨by decide +kernel, by decide +kernel⟩, List.mem_of_getElem? (i := 99) (by decide +kernel), List.mem_of_getElem? (i := 370) (by decide +kernel), List.mem_of_getElem? (i := 371) (by decide +kernel)⟩
theorem lw_p25 : lw_okq (⟨"ModuleLinker$Compiler", "readGroup", "(I)I"⟩, 9) := ⟨⟨by decide +kernel, by decide +kernel⟩, List.mem_of_getElem? (i := 99) (by decide +kernel), List.mem_of_getElem? (i := 374) (by decide +kernel), List.mem_of_getElem? (i := 375) (by decide +kernel)⟩
theorem lw_p26 : lw_okq (⟨"ModuleLinker$Compiler", "readPair", "(I)I"⟩, 9) := ⟨⟨by decide +kernel, by decide +kernel⟩, List.mem_of_getElem? (i := 99) (by decide +kernel), List.mem_of_getElem? (i := 378) (by decide +kernel), List.mem_of_getElem? (i := 379) (by decide +kernel)⟩
theorem lw_p27 : lw_okq (⟨"ModuleLinker$Compiler", "readChoice", "(I)I"⟩, 9) := ⟨⟨by decide +kernel, by decide +kernel⟩, List.mem_of_getElem? (i := 99) (by decide +kernel), List.mem_of_getElem? (i := 382) (by decide +kernel), List.mem_of_getElem? (i := 383) (by decide +kernel)⟩
theorem lw_p28 : lw_okq (⟨"ModuleLinker$Unit", "landHere", "(I)V"⟩, 5) := ⟨⟨by decide +kernel, by decide +kernel⟩, List.mem_of_getElem? (i := 25) (by decide +kernel), List.mem_of_getElem? (i := 386) (by decide +kernel), List.mem_of_getElem? (i := 387) (by decide +kernel)⟩
theorem lw_p29 : lw_okq (⟨"java/lang/Throwable", "fillInStackTrace", "(I)Ljava/lang/Throwable;"⟩, 6) := ⟨⟨by decide +kernel, by decide +kernel⟩, List.mem_of_getElem? (i := 429) (by decide +kernel), List.mem_of_getElem? (i := 427) (by decide +kernel), List.mem_of_getElem? (i := 428) (by decide +kernel)⟩
theorem lw_p30 : lw_okq (⟨"ModuleLinker", "isPresent", "(I)Z"⟩, 11) := ⟨⟨by decide +kernel, by decide +kernel⟩, List.mem_of_getElem? (i := 16) (by decide +kernel), List.mem_of_getElem? (i := 462) (by decide +kernel), List.mem_of_getElem? (i := 463) (by decide +kernel)⟩
theorem lw_p31 : lw_okq (⟨"ModuleLinker", "countModules", "()I"⟩, 11) := ⟨⟨by decide +kernel, by decide +kernel⟩, List.mem_of_getElem? (i := 16) (by decide +kernel), List.mem_of_getElem? (i := 490) (by decide +kernel), List.mem_of_getElem? (i := 491) (by decide +kernel)⟩
def lw_privs_2 : List (MethodName × Nat) := [(⟨"ModuleLinker$Compiler", "readWhole", "(I)I"⟩, 9), (⟨"ModuleLinker$Compiler", "readNumber", "()I"⟩, 9), (⟨"ModuleLinker$Unit", "emit", "(II)I"⟩, 5), (⟨"ModuleLinker$Compiler", "readParameter", "()I"⟩, 9), (⟨"ModuleLinker$Compiler", "readCall", "(II)I"⟩, 9), (⟨"ModuleLinker$Compiler", "readArguments", "(II)V"⟩, 9), (⟨"ModuleLinker$Compiler", "need", "(II)V"⟩, 9), (⟨"ModuleLinker$Compiler", "hold", "(I)V"⟩, 9), (⟨"ModuleLinker$Compiler", "release", "(I)V"⟩, 9), (⟨"ModuleLinker$Compiler", "readGroup", "(I)I"⟩, 9), (⟨"ModuleLinker$Compiler", "readPair", "(I)I"⟩, 9), (⟨"ModuleLinker$Compiler", "readChoice", "(I)I"⟩, 9), (⟨"ModuleLinker$Unit", "landHere", "(I)V"⟩, 5), (⟨"java/lang/Throwable", "fillInStackTrace", "(I)Ljava/lang/Throwable;"⟩, 6), (⟨"ModuleLinker", "isPresent", "(I)Z"⟩, 11), (⟨"ModuleLinker", "countModules", "()I"⟩, 11)]
theorem lw_r2 : ∀ q ∈ lw_privs_2, lw_okq q := List.forall_mem_cons.mpr ⟨lw_p16, List.forall_mem_cons.mpr ⟨lw_p17, List.forall_mem_cons.mpr ⟨lw_p18, List.forall_mem_cons.mpr ⟨lw_p19, List.forall_mem_cons.mpr ⟨lw_p20, List.forall_mem_cons.mpr ⟨lw_p21, List.forall_mem_cons.mpr ⟨lw_p22, List.forall_mem_cons.mpr ⟨lw_p23, List.forall_mem_cons.mpr ⟨lw_p24, List.forall_mem_cons.mpr ⟨lw_p25, List.forall_mem_cons.mpr ⟨lw_p26, List.forall_mem_cons.mpr ⟨lw_p27, List.forall_mem_cons.mpr ⟨lw_p28, List.forall_mem_cons.mpr ⟨lw_p29, List.forall_mem_cons.mpr ⟨lw_p30, List.forall_mem_cons.mpr ⟨lw_p31, fun _ h => absurd h List.not_mem_nil⟩⟩⟩⟩⟩⟩⟩⟩⟩⟩⟩⟩⟩⟩⟩⟩
theorem lw_p32 : lw_okq (⟨"ModuleLinker", "findUnfit", "()V"⟩, 11) := ⟨⟨by decide +kernel, by decide +kernel⟩, List.mem_of_getElem? (i := 16) (by decide +kernel), List.mem_of_getElem? (i := 509) (by decide +kernel), List.mem_of_getElem? (i := 510) (by decide +kernel)⟩
theorem lw_p33 : lw_okq (⟨"ModuleLinker", "firstUnfit", "(LModuleLinker$Unit;)I"⟩, 11) := ⟨⟨by decide +kernel, by decide +kernel⟩, List.mem_of_getElem? (i := 16) (by decide +kernel), List.mem_of_getElem? (i := 513) (by decide +kernel), List.mem_of_getElem? (i := 514) (by decide +kernel)⟩
theorem lw_p34 : lw_okq (⟨"ModuleLinker", "fits", "(LModuleLinker$Item;)Z"⟩, 11) := ⟨⟨by decide +kernel, by decide +kernel⟩, List.mem_of_getElem? (i := 16) (by decide +kernel), List.mem_of_getElem? (i := 517) (by decide +kernel), List.mem_of_getElem? (i := 518) (by decide +kernel)⟩
theorem lw_p35 : lw_okq (⟨"ModuleLinker", "definitionOf", "(II)LModuleLinker$Item;"⟩, 11) := ⟨⟨by decide +kernel, by decide +kernel⟩, List.mem_of_getElem? (i := 16) (by decide +kernel), List.mem_of_getElem? (i := 521) (by decide +kernel), List.mem_of_getElem? (i := 522) (by decide +kernel)⟩
theorem lw_p36 : lw_okq (⟨"ModuleLinker", "countDefinitions", "()I"⟩, 11) := ⟨⟨by decide +kernel, by decide +kernel⟩, List.mem_of_getElem? (i := 16) (by decide +kernel), List.mem_of_getElem? (i := 541) (by decide +kernel), List.mem_of_getElem? (i := 542) (by decide +kernel)⟩
theorem lw_p37 : lw_okq (⟨"ModuleLinker$Unit", "countDefinitions", "()I"⟩, 5) := ⟨⟨by decide +kernel, by decide +kernel⟩, List.mem_of_getElem? (i := 25) (by decide +kernel), List.mem_of_getElem? (i := 545) (by decide +kernel), List.mem_of_getElem? (i := 546) (by decide +kernel)⟩
theorem lw_p38 : lw_okq (⟨"ModuleLinker$Machine", "load", "(IIII)V"⟩, 15) := ⟨⟨by decide +kernel, by decide +kernel⟩, List.mem_of_getElem? (i := 133) (by decide +kernel), List.mem_of_getElem? (i := 563) (by decide +kernel), List.mem_of_getElem? (i := 564) (by decide +kernel)⟩
theorem lw_p39 : lw_okq (⟨"ModuleLinker$Machine", "run", "([LModuleLinker$Unit;ILModuleLinker$Item;I)I"⟩, 15) := ⟨⟨by decide +kernel, by decide +kernel⟩, List.mem_of_getElem? (i := 133) (by decide +kernel), List.mem_of_getElem? (i := 567) (by decide +kernel), List.mem_of_getElem? (i := 568) (by decide +kernel)⟩
theorem lw_p40 : lw_okq (⟨"ModuleLinker$Machine", "enter", "(LModuleLinker$Unit;LModuleLinker$Item;I)V"⟩, 15) := ⟨⟨by decide +kernel, by decide +kernel⟩, List.mem_of_getElem? (i := 133) (by decide +kernel), List.mem_of_getElem? (i := 571) (by decide +kernel), List.mem_of_getElem? (i := 572) (by decide +kernel)⟩
theorem lw_p41 : lw_okq (⟨"ModuleLinker$Machine", "push", "(I)V"⟩, 15) := ⟨⟨by decide +kernel, by decide +kernel⟩, List.mem_of_getElem? (i := 133) (by decide +kernel), List.mem_of_getElem? (i := 576) (by decide +kernel), List.mem_of_getElem? (i := 577) (by decide +kernel)⟩
theorem lw_p42 : lw_okq (⟨"ModuleLinker$Machine", "step", "()V"⟩, 15) := ⟨⟨by decide +kernel, by decide +kernel⟩, List.mem_of_getElem? (i := 133) (by decide +kernel), List.mem_of_getElem? (i := 581) (by decide +kernel), List.mem_of_getElem? (i := 582) (by decide +kernel)⟩
theorem lw_p43 : lw_okq (⟨"ModuleLinker$Machine", "pop", "()I"⟩, 15) := ⟨⟨by decide +kernel, by decide +kernel⟩, List.mem_of_getElem? (i := 133) (by decide +kernel), List.mem_of_getElem? (i := 585) (by decide +kernel), List.mem_of_getElem? (i := 586) (by decide +kernel)⟩
theorem lw_p44 : lw_okq (⟨"ModuleLinker$Machine", "enterNamed", "(II)V"⟩, 15) := ⟨⟨by decide +kernel, by decide +kernel⟩, List.mem_of_getElem? (i := 133) (by decide +kernel), List.mem_of_getElem? (i := 589) (by decide +kernel), List.mem_of_getElem? (i := 590) (by decide +kernel)⟩
theorem lw_p45 : lw_okq (⟨"ModuleLinker$Machine", "leave", "()V"⟩, 15) := ⟨⟨by decide +kernel, by decide +kernel⟩, List.mem_of_getElem? (i := 133) (by decide +kernel), List.mem_of_getElem? (i := 594) (by decide +kernel), List.mem_of_getElem? (i := 595) (by decide +kernel)⟩
theorem lw_p46 : lw_okq (⟨"ModuleLinkerModel", "letter", "(CC)I"⟩, 51) := ⟨⟨by decide +kernel, by decide +kernel⟩, List.mem_of_getElem? (i := 599) (by decide +kernel), List.mem_of_getElem? (i := 774) (by decide +kernel), List.mem_of_getElem? (i := 775) (by decide +kernel)⟩
theorem lw_p47 : lw_okq (⟨"ModuleLinkerModel", "look", "()C"⟩, 51) := ⟨⟨by decide +kernel, by decide +kernel⟩, List.mem_of_getElem? (i := 599) (by decide +kernel), List.mem_of_getElem? (i := 778) (by decide +kernel), List.mem_of_getElem? (i := 779) (by decide +kernel)⟩
def lw_privs_3 : List (MethodName × Nat) := [(⟨"ModuleLinker", "findUnfit", "()V"⟩, 11), (⟨"ModuleLinker", "firstUnfit", "(LModuleLinker$Unit;)I"⟩, 11), (⟨"ModuleLinker", "fits", "(LModuleLinker$Item;)Z"⟩, 11), (⟨"ModuleLinker", "definitionOf", "(II)LModuleLinker$Item;"⟩, 11), (⟨"ModuleLinker", "countDefinitions", "()I"⟩, 11), (⟨"ModuleLinker$Unit", "countDefinitions", "()I"⟩, 5), (⟨"ModuleLinker$Machine", "load", "(IIII)V"⟩, 15), (⟨"ModuleLinker$Machine", "run", "([LModuleLinker$Unit;ILModuleLinker$Item;I)I"⟩, 15), (⟨"ModuleLinker$Machine", "enter", "(LModuleLinker$Unit;LModuleLinker$Item;I)V"⟩, 15), (⟨"ModuleLinker$Machine", "push", "(I)V"⟩, 15), (⟨"ModuleLinker$Machine", "step", "()V"⟩, 15), (⟨"ModuleLinker$Machine", "pop", "()I"⟩, 15), (⟨"ModuleLinker$Machine", "enterNamed", "(II)V"⟩, 15), (⟨"ModuleLinker$Machine", "leave", "()V"⟩, 15), (⟨"ModuleLinkerModel", "letter", "(CC)I"⟩, 51), (⟨"ModuleLinkerModel", "look", "()C"⟩, 51)]
theorem lw_r3 : ∀ q ∈ lw_privs_3, lw_okq q := List.forall_mem_cons.mpr ⟨lw_p32, List.forall_mem_cons.mpr ⟨lw_p33, List.forall_mem_cons.mpr ⟨lw_p34, List.forall_mem_cons.mpr ⟨lw_p35, List.forall_mem_cons.mpr ⟨lw_p36, List.forall_mem_cons.mpr ⟨lw_p37, List.forall_mem_cons.mpr ⟨lw_p38, List.forall_mem_cons.mpr ⟨lw_p39, List.forall_mem_cons.mpr ⟨lw_p40, List.forall_mem_cons.mpr ⟨lw_p41, List.forall_mem_cons.mpr ⟨lw_p42, List.forall_mem_cons.mpr ⟨lw_p43, List.forall_mem_cons.mpr ⟨lw_p44, List.forall_mem_cons.mpr ⟨lw_p45, List.forall_mem_cons.mpr ⟨lw_p46, List.forall_mem_cons.mpr ⟨lw_p47, fun _ h => absurd h List.not_mem_nil⟩⟩⟩⟩⟩⟩⟩⟩⟩⟩⟩⟩⟩⟩⟩⟩
theorem lw_p48 : lw_okq (⟨"ModuleLinkerModel", "must", "(Z)V"⟩, 51) := ⟨⟨by decide +kernel, by decide +kernel⟩, List.mem_of_getElem? (i := 599) (by decide +kernel), List.mem_of_getElem? (i := 782) (by decide +kernel), List.mem_of_getElem? (i := 783) (by decide +kernel)⟩
theorem lw_p49 : lw_okq (⟨"ModuleLinkerModel", "readItems", "(Z)V"⟩, 51) := ⟨⟨by decide +kernel, by decide +kernel⟩, List.mem_of_getElem? (i := 599) (by decide +kernel), List.mem_of_getElem? (i := 786) (by decide +kernel), List.mem_of_getElem? (i := 787) (by decide +kernel)⟩
theorem lw_p50 : lw_okq (⟨"ModuleLinkerModel", "pass", "(C)Z"⟩, 51) := ⟨⟨by decide +kernel, by decide +kernel⟩, List.mem_of_getElem? (i := 599) (by decide +kernel), List.mem_of_getElem? (i := 790) (by decide +kernel), List.mem_of_getElem? (i := 791) (by decide +kernel)⟩
theorem lw_p51 : lw_okq (⟨"ModuleLinkerModel", "readItem", "(I)V"⟩, 51) := ⟨⟨by decide +kernel, by decide +kernel⟩, List.mem_of_getElem? (i := 599) (by decide +kernel), List.mem_of_getElem? (i := 794) (by decide +kernel), List.mem_of_getElem? (i := 795) (by decide +kernel)⟩
theorem lw_p52 : lw_okq (⟨"ModuleLinkerModel", "expect", "(C)V"⟩, 51) := ⟨⟨by decide +kernel, by decide +kernel⟩, List.mem_of_getElem? (i := 599) (by decide +kernel), List.mem_of_getElem? (i := 798) (by decide +kernel), List.mem_of_getElem? (i := 799) (by decide +kernel)⟩
theorem lw_p53 : lw_okq (⟨"ModuleLinkerModel", "find", "(III)I"⟩, 51) := ⟨⟨by decide +kernel, by decide +kernel⟩, List.mem_of_getElem? (i := 599) (by decide +kernel), List.mem_of_getElem? (i := 802) (by decide +kernel), List.mem_of_getElem? (i := 803) (by decide +kernel)⟩
theorem lw_p54 : lw_okq (⟨"ModuleLinkerModel", "readSignature", "(I)V"⟩, 51) := ⟨⟨by decide +kernel, by decide +kernel⟩, List.mem_of_getElem? (i := 599) (by decide +kernel), List.mem_of_getElem? (i := 806) (by decide +kernel), List.mem_of_getElem? (i := 807) (by decide +kernel)⟩
theorem lw_p55 : lw_okq (⟨"ModuleLinkerModel", "readType", "()Z"⟩, 51) := ⟨⟨by decide +kernel, by decide +kernel⟩, List.mem_of_getElem? (i := 599) (by decide +kernel), List.mem_of_getElem? (i := 810) (by decide +kernel), List.mem_of_getElem? (i := 811) (by decide +kernel)⟩
theorem lw_p56 : lw_okq (⟨"ModuleLinkerModel", "readExpression", "(I)V"⟩, 51) := ⟨⟨by decide +kernel, by decide +kernel⟩, List.mem_of_getElem? (i := 599) (by decide +kernel), List.mem_of_getElem? (i := 814) (by decide +kernel), List.mem_of_getElem? (i := 815) (by decide +kernel)⟩
theorem lw_p57 : lw_okq (⟨"ModuleLinkerModel", "opened", "(I)V"⟩, 51) := ⟨⟨by decide +kernel, by decide +kernel⟩, List.mem_of_getElem? (i := 599) (by decide +kernel), List.mem_of_getElem? (i := 818) (by decide +kernel), List.mem_of_getElem? (i := 819) (by decide +kernel)⟩
theorem lw_p58 : lw_okq (⟨"ModuleLinkerModel", "beginFactor", "()Z"⟩, 51) := ⟨⟨by decide +kernel, by decide +kernel⟩, List.mem_of_getElem? (i := 599) (by decide +kernel), List.mem_of_getElem? (i := 822) (by decide +kernel), List.mem_of_getElem? (i := 823) (by decide +kernel)⟩
theorem lw_p59 : lw_okq (⟨"ModuleLinkerModel", "isDigit", "()Z"⟩, 51) := ⟨⟨by decide +kernel, by decide +kernel⟩, List.mem_of_getElem? (i := 599) (by decide +kernel), List.mem_of_getElem? (i := 826) (by decide +kernel), List.mem_of_getElem? (i := 827) (by decide +kernel)⟩
theorem lw_p60 : lw_okq (⟨"ModuleLinkerModel", "readNumber", "()V"⟩, 51) := ⟨⟨by decide +kernel, by decide +kernel⟩, List.mem_of_getElem? (i := 599) (by decide +kernel), List.mem_of_getElem? (i := 830) (by decide +kernel), List.mem_of_getElem? (i := 831) (by decide +kernel)⟩
theorem lw_p61 : lw_okq (⟨"ModuleLinkerModel", "emit", "(II)V"⟩, 51) := ⟨⟨by decide +kernel, by decide +kernel⟩, List.mem_of_getElem? (i := 599) (by decide +kernel), List.mem_of_getElem? (i := 834) (by decide +kernel), List.mem_of_getElem? (i := 835) (by decide +kernel)⟩
theorem lw_p62 : lw_okq (⟨"ModuleLinkerModel", "readParameter", "()V"⟩, 51) := ⟨⟨by decide +kernel, by decide +kernel⟩, List.mem_of_getElem? (i := 599) (by decide +kernel), List.mem_of_getElem? (i := 838) (by decide +kernel), List.mem_of_getElem? (i := 839) (by decide +kernel)⟩
theorem lw_p63 : lw_okq (⟨"ModuleLinkerModel", "type", "(Z)V"⟩, 51) := ⟨⟨by decide +kernel, by decide +kernel⟩, List.mem_of_getElem? (i := 599) (by decide +kernel), List.mem_of_getElem? (i := 842) (by decide +kernel), List.mem_of_getElem? (i := 843) (by decide +kernel)⟩
def lw_privs_4 : List (MethodName × Nat) := [(⟨"ModuleLinkerModel", "must", "(Z)V"⟩, 51), (⟨"ModuleLinkerModel", "readItems", "(Z)V"⟩, 51), (⟨"ModuleLinkerModel", "pass", "(C)Z"⟩, 51), (⟨"ModuleLinkerModel", "readItem", "(I)V"⟩, 51), (⟨"ModuleLinkerModel", "expect", "(C)V"⟩, 51), (⟨"ModuleLinkerModel", "find", "(III)I"⟩, 51), (⟨"ModuleLinkerModel", "readSignature", "(I)V"⟩, 51), (⟨"ModuleLinkerModel", "readType", "()Z"⟩, 51), (⟨"ModuleLinkerModel", "readExpression", "(I)V"⟩, 51), (⟨"ModuleLinkerModel", "opened", "(I)V"⟩, 51), (⟨"ModuleLinkerModel", "beginFactor", "()Z"⟩, 51), (⟨"ModuleLinkerModel", "isDigit", "()Z"⟩, 51), (⟨"ModuleLinkerModel", "readNumber", "()V"⟩, 51), (⟨"ModuleLinkerModel", "emit", "(II)V"⟩, 51), (⟨"ModuleLinkerModel", "readParameter", "()V"⟩, 51), (⟨"ModuleLinkerModel", "type", "(Z)V"⟩, 51)]
theorem lw_r4 : ∀ q ∈ lw_privs_4, lw_okq q := List.forall_mem_cons.mpr ⟨lw_p48, List.forall_mem_cons.mpr ⟨lw_p49, List.forall_mem_cons.mpr ⟨lw_p50, List.forall_mem_cons.mpr ⟨lw_p51, List.forall_mem_cons.mpr ⟨lw_p52, List.forall_mem_cons.mpr ⟨lw_p53, List.forall_mem_cons.mpr ⟨lw_p54, List.forall_mem_cons.mpr ⟨lw_p55, List.forall_mem_cons.mpr ⟨lw_p56, List.forall_mem_cons.mpr ⟨lw_p57, List.forall_mem_cons.mpr ⟨lw_p58, List.forall_mem_cons.mpr ⟨lw_p59, List.forall_mem_cons.mpr ⟨lw_p60, List.forall_mem_cons.mpr ⟨lw_p61, List.forall_mem_cons.mpr ⟨lw_p62, List.forall_mem_cons.mpr ⟨lw_p63, fun _ h => absurd h List.not_mem_nil⟩⟩⟩⟩⟩⟩⟩⟩⟩⟩⟩⟩⟩⟩⟩⟩
theorem lw_p64 : lw_okq (⟨"ModuleLinkerModel", "before", "(II)I"⟩, 51) := ⟨⟨by decide +kernel, by decide +kernel⟩, List.mem_of_getElem? (i := 599) (by decide +kernel), List.mem_of_getElem? (i := 846) (by decide +kernel), List.mem_of_getElem? (i := 847) (by decide +kernel)⟩
theorem lw_p65 : lw_okq (⟨"ModuleLinkerModel", "readCall", "()Z"⟩, 51) := ⟨⟨by decide +kernel, by decide +kernel⟩, List.mem_of_getElem? (i := 599) (by decide +kernel), List.mem_of_getElem? (i := 850) (by decide +kernel), List.mem_of_getElem? (i := 851) (by decide +kernel)⟩
theorem lw_p66 : lw_okq (⟨"ModuleLinkerModel", "endCall", "()V"⟩, 51) := ⟨⟨by decide +kernel, by decide +kernel⟩, List.mem_of_getElem? (i := 599) (by decide +kernel), List.mem_of_getElem? (i := 854) (by decide +kernel), List.mem_of_getElem? (i := 855) (by decide +kernel)⟩
theorem lw_p67 : lw_okq (⟨"ModuleLinkerModel", "calleeItem", "()I"⟩, 51) := ⟨⟨by decide +kernel, by decide +kernel⟩, List.mem_of_getElem? (i := 599) (by decide +kernel), List.mem_of_getElem? (i := 858) (by decide +kernel), List.mem_of_getElem? (i := 859) (by decide +kernel)⟩
theorem lw_p68 : lw_okq (⟨"ModuleLinkerModel", "endFactor", "()Z"⟩, 51) := ⟨⟨by decide +kernel, by decide +kernel⟩, List.mem_of_getElem? (i := 599) (by decide +kernel), List.mem_of_getElem? (i := 862) (by decide +kernel), List.mem_of_getElem? (i := 863) (by decide +kernel)⟩
theorem lw_p69 : lw_okq (⟨"ModuleLinkerModel", "project", "()V"⟩, 51) := ⟨⟨by decide +kernel, by decide +kernel⟩, List.mem_of_getElem? (i := 599) (by decide +kernel), List.mem_of_getElem? (i := 866) (by decide +kernel), List.mem_of_getElem? (i := 867) (by decide +kernel)⟩
theorem lw_p70 : lw_okq (⟨"ModuleLinkerModel", "operate", "(I)V"⟩, 51) := ⟨⟨by decide +kernel, by decide +kernel⟩, List.mem_of_getElem? (i := 599) (by decide +kernel), List.mem_of_getElem? (i := 870) (by decide +kernel), List.mem_of_getElem? (i := 871) (by decide +kernel)⟩
theorem lw_p71 : lw_okq (⟨"ModuleLinkerModel", "keep", "()V"⟩, 51) := ⟨⟨by decide +kernel, by decide +kernel⟩, List.mem_of_getElem? (i := 599) (by decide +kernel), List.mem_of_getElem? (i := 874) (by decide +kernel), List.mem_of_getElem? (i := 875) (by decide +kernel)⟩
theorem lw_p72 : lw_okq (⟨"ModuleLinkerModel", "grow", "(I)V"⟩, 51) := ⟨⟨by decide +kernel, by decide +kernel⟩, List.mem_of_getElem? (i := 599) (by decide +kernel), List.mem_of_getElem? (i := 878) (by decide +kernel), List.mem_of_getElem? (i := 879) (by decide +kernel)⟩
theorem lw_p73 : lw_okq (⟨"ModuleLinkerModel", "endSum", "()Z"⟩, 51) := ⟨⟨by decide +kernel, by decide +kernel⟩, List.mem_of_getElem? (i := 599) (by decide +kernel), List.mem_of_getElem? (i := 882) (by decide +kernel), List.mem_of_getElem? (i := 883) (by decide +kernel)⟩
theorem lw_p74 : lw_okq (⟨"ModuleLinkerModel", "choose", "(II)Z"⟩, 51) := ⟨⟨by decide +kernel, by decide +kernel⟩, List.mem_of_getElem? (i := 599) (by decide +kernel), List.mem_of_getElem? (i := 886) (by decide +kernel), List.mem_of_getElem? (i := 887) (by decide +kernel)⟩
theorem lw_p75 : lw_okq (⟨"ModuleLinkerModel", "refuse", "(I)I"⟩, 51) := ⟨⟨by decide +kernel, by decide +kernel⟩, List.mem_of_getElem? (i := 599) (by decide +kernel), List.mem_of_getElem? (i := 890) (by decide +kernel), List.mem_of_getElem? (i := 891) (by decide +kernel)⟩
theorem lw_p76 : lw_okq (⟨"ModuleLinkerModel", "accept", "(I)V"⟩, 51) := ⟨⟨by decide +kernel, by decide +kernel⟩, List.mem_of_getElem? (i := 599) (by decide +kernel), List.mem_of_getElem? (i := 894) (by decide +kernel), List.mem_of_getElem? (i := 895) (by decide +kernel)⟩
theorem lw_p77 : lw_okq (⟨"ModuleLinkerModel", "isModule", "(I)Z"⟩, 51) := ⟨⟨by decide +kernel, by decide +kernel⟩, List.mem_of_getElem? (i := 599) (by decide +kernel), List.mem_of_getElem? (i := 906) (by decide +kernel), List.mem_of_getElem? (i := 907) (by decide +kernel)⟩
theorem lw_p78 : lw_okq (⟨"ModuleLinkerModel", "meant", "(I)I"⟩, 51) := ⟨⟨by decide +kernel, by decide +kernel⟩, List.mem_of_getElem? (i := 599) (by decide +kernel), List.mem_of_getElem? (i := 914) (by decide +kernel), List.mem_of_getElem? (i := 915) (by decide +kernel)⟩
theorem lw_p79 : lw_okq (⟨"ModuleLinkerModel", "words", "(I)I"⟩, 51) := ⟨⟨by decide +kernel, by decide +kernel⟩, List.mem_of_getElem? (i := 599) (by decide +kernel), List.mem_of_getElem? (i := 926) (by decide +kernel), List.mem_of_getElem? (i := 927) (by decide +kernel)⟩
def lw_privs_5 : List (MethodName × Nat) := [(⟨"ModuleLinkerModel", "before", "(II)I"⟩, 51), (⟨"ModuleLinkerModel", "readCall", "()Z"⟩, 51), (⟨"ModuleLinkerModel", "endCall", "()V"⟩, 51), (⟨"ModuleLinkerModel", "calleeItem", "()I"⟩, 51), (⟨"ModuleLinkerModel", "endFactor", "()Z"⟩, 51), (⟨"ModuleLinkerModel", "project", "()V"⟩, 51), (⟨"ModuleLinkerModel", "operate", "(I)V"⟩, 51), (⟨"ModuleLinkerModel", "keep", "()V"⟩, 51), (⟨"ModuleLinkerModel", "grow", "(I)V"⟩, 51), (⟨"ModuleLinkerModel", "endSum", "()Z"⟩, 51), (⟨"ModuleLinkerModel", "choose", "(II)Z"⟩, 51), (⟨"ModuleLinkerModel", "refuse", "(I)I"⟩, 51), (⟨"ModuleLinkerModel", "accept", "(I)V"⟩, 51), (⟨"ModuleLinkerModel", "isModule", "(I)Z"⟩, 51), (⟨"ModuleLinkerModel", "meant", "(I)I"⟩, 51), (⟨"ModuleLinkerModel", "words", "(I)I"⟩, 51)]
theorem lw_r5 : ∀ q ∈ lw_privs_5, lw_okq q := List.forall_mem_cons.mpr ⟨lw_p64, List.forall_mem_cons.mpr ⟨lw_p65, List.forall_mem_cons.mpr ⟨lw_p66, List.forall_mem_cons.mpr ⟨lw_p67, List.forall_mem_cons.mpr ⟨lw_p68, List.forall_mem_cons.mpr ⟨lw_p69, List.forall_mem_cons.mpr ⟨lw_p70, List.forall_mem_cons.mpr ⟨lw_p71, List.forall_mem_cons.mpr ⟨lw_p72, List.forall_mem_cons.mpr ⟨lw_p73, List.forall_mem_cons.mpr ⟨lw_p74, List.forall_mem_cons.mpr ⟨lw_p75, List.forall_mem_cons.mpr ⟨lw_p76, List.forall_mem_cons.mpr ⟨lw_p77, List.forall_mem_cons.mpr ⟨lw_p78, List.forall_mem_cons.mpr ⟨lw_p79, fun _ h => absurd h List.not_mem_nil⟩⟩⟩⟩⟩⟩⟩⟩⟩⟩⟩⟩⟩⟩⟩⟩
theorem lw_p80 : lw_okq (⟨"ModuleLinkerModel", "callable", "(II)I"⟩, 51) := ⟨⟨by decide +kernel, by decide +kernel⟩, List.mem_of_getElem? (i := 599) (by decide +kernel), List.mem_of_getElem? (i := 934) (by decide +kernel), List.mem_of_getElem? (i := 935) (by decide +kernel)⟩
theorem lw_p81 : lw_okq (⟨"ModuleLinkerModel", "push", "(I)V"⟩, 51) := ⟨⟨by decide +kernel, by decide +kernel⟩, List.mem_of_getElem? (i := 599) (by decide +kernel), List.mem_of_getElem? (i := 938) (by decide +kernel), List.mem_of_getElem? (i := 939) (by decide +kernel)⟩
theorem lw_p82 : lw_okq (⟨"ModuleLinkerModel", "enter", "(II)I"⟩, 51) := ⟨⟨by decide +kernel, by decide +kernel⟩, List.mem_of_getElem? (i := 599) (by decide +kernel), List.mem_of_getElem? (i := 942) (by decide +kernel), List.mem_of_getElem? (i := 943) (by decide +kernel)⟩
theorem lw_p83 : lw_okq (⟨"ModuleLinkerModel", "go", "()I"⟩, 51) := ⟨⟨by decide +kernel, by decide +kernel⟩, List.mem_of_getElem? (i := 599) (by decide +kernel), List.mem_of_getElem? (i := 946) (by decide +kernel), List.mem_of_getElem? (i := 947) (by decide +kernel)⟩
theorem lw_p84 : lw_okq (⟨"ModuleLinkerModel", "invoke", "(III)I"⟩, 51) := ⟨⟨by decide +kernel, by decide +kernel⟩, List.mem_of_getElem? (i := 599) (by decide +kernel), List.mem_of_getElem? (i := 950) (by decide +kernel), List.mem_of_getElem? (i := 951) (by decide +kernel)⟩
theorem lw_p85 : lw_okq (⟨"ModuleLinkerModel", "leave", "()V"⟩, 51) := ⟨⟨by decide +kernel, by decide +kernel⟩, List.mem_of_getElem? (i := 599) (by decide +kernel), List.mem_of_getElem? (i := 954) (by decide +kernel), List.mem_of_getElem? (i := 955) (by decide +kernel)⟩
theorem lw_p86 : lw_okq (⟨"ModuleLinkerModel", "pop", "()I"⟩, 51) := ⟨⟨by decide +kernel, by decide +kernel⟩, List.mem_of_getElem? (i := 599) (by decide +kernel), List.mem_of_getElem? (i := 958) (by decide +kernel), List.mem_of_getElem? (i := 959) (by decide +kernel)⟩
theorem lw_p87 : lw_okq (⟨"ModuleLinkerModel", "work", "(III)V"⟩, 51) := ⟨⟨by decide +kernel, by decide +kernel⟩, List.mem_of_getElem? (i := 599) (by decide +kernel), List.mem_of_getElem? (i := 962) (by decide +kernel), List.mem_of_getElem? (i := 963) (by decide +kernel)⟩
def lw_privs_6 : List (MethodName × Nat) := [(⟨"ModuleLinkerModel", "callable", "(II)I"⟩, 51), (⟨"ModuleLinkerModel", "push", "(I)V"⟩, 51), (⟨"ModuleLinkerModel", "enter", "(II)I"⟩, 51), (⟨"ModuleLinkerModel", "go", "()I"⟩, 51), (⟨"ModuleLinkerModel", "invoke", "(III)I"⟩, 51), (⟨"ModuleLinkerModel", "leave", "()V"⟩, 51), (⟨"ModuleLinkerModel", "pop", "()I"⟩, 51), (⟨"ModuleLinkerModel", "work", "(III)V"⟩, 51)]
theorem lw_r6 : ∀ q ∈ lw_privs_6, lw_okq q := List.forall_mem_cons.mpr ⟨lw_p80, List.forall_mem_cons.mpr ⟨lw_p81, List.forall_mem_cons.mpr ⟨lw_p82, List.forall_mem_cons.mpr ⟨lw_p83, List.forall_mem_cons.mpr ⟨lw_p84, List.forall_mem_cons.mpr ⟨lw_p85, List.forall_mem_cons.mpr ⟨lw_p86, List.forall_mem_cons.mpr ⟨lw_p87, fun _ h => absurd h List.not_mem_nil⟩⟩⟩⟩⟩⟩⟩⟩
def lw_privs : List (MethodName × Nat) := lw_privs_1 ++ (lw_privs_2 ++ (lw_privs_3 ++ (lw_privs_4 ++ (lw_privs_5 ++ (lw_privs_6)))))
def lw_tbl : List Cond := k2_sels lw_privs ++ tables_1
theorem lw_privs_ok : ∀ q ∈ lw_privs, lw_okq q := by
  show ∀ q ∈ lw_privs_1 ++ (lw_privs_2 ++ (lw_privs_3 ++ (lw_privs_4 ++ (lw_privs_5 ++ (lw_privs_6))))), lw_okq q
  exact List.forall_mem_append.mpr ⟨lw_r1, List.forall_mem_append.mpr ⟨lw_r2, List.forall_mem_append.mpr ⟨lw_r3, List.forall_mem_append.mpr ⟨lw_r4, List.forall_mem_append.mpr ⟨lw_r5, lw_r6⟩⟩⟩⟩⟩
end
section
/-! ===== BEGIN words of one list among another's, by their places ===== -/
theorem goodIn_r {big : List Cond} (ws : List Cond) (ps : List Nat) (hp : ws = ps.filterMap (fun i => big[i]?)) (h : ws.all goodWord = true) : GoodIn big ws := by
  intro w hw
  have h1 := List.all_eq_true.mp h w hw
  rw [hp] at hw
  obtain ⟨i, -, hi⟩ := List.mem_filterMap.mp hw
  have hm : w ∈ big := by first | exact List.mem_of_getElem? hi | exact List.getElem?_mem hi
  exact ⟨hm, good_of_word h1⟩
theorem goodIn_app {big a b : List Cond} (ha : GoodIn big a) (hb : GoodIn big b) : GoodIn big (a ++ b) := fun w h => (List.mem_append.mp h).elim (ha w) (hb w)
theorem goodIn_ca {big a b : List Cond} {c : Cond} (ha : GoodIn big (c :: a)) (hb : GoodIn big b) : GoodIn big (c :: (a ++ b)) := fun w h => (List.mem_cons.mp h).elim (fun e => ha w (List.mem_cons.mpr (Or.inl e))) (fun h => (List.mem_append.mp h).elim (fun h => ha w (List.mem_cons.mpr (Or.inr h))) (hb w))
theorem goodIn_sub {big ws : List Cond} (hm : ∀ w ∈ ws, w ∈ big) (h : ws.all goodWord = true) : GoodIn big ws := fun w hw => ⟨hm w hw, good_of_word (List.all_eq_true.mp h w hw)⟩
/-! ===== END ===== -/

/-! ===== BEGIN exceptions that leave a method, and their catching by the caller (launches without stack traces) ===== -/
section VXA
/-! The laws vx_back, vx_callV, vx_callS, vx_callSW, vx_throw0, vx_throwS follow proofs of the library, with one case more: JvmDerived/Free/Laws.lean (Back.of_free), Shelf42/LK1.lean (callV, callS), Shelf/KitTraced.lean (throwNew0V, throwNewS). -/
def vx_T (XC : String → State → State → Prop) (st : State) (q : Addr) (t : State) (mc ms : Nat) (free : Addr → Prop) : Prop :=
  ∃ (E : String) (ce : Cell) (L : List Loc), XC E st t ∧ t.heap[q]? = some ce ∧ ce.vm = .none ∧ st.vm.findClass E = some ce.cls ∧ st.WarmedH t.vm ∧ st.sameButNew ({ t with vm := st.vm } : State) L mc ms ∧ ∀ z ∈ L, free z.base
def vx_Q (Qc : Array Value → State → Outcome → State → Prop) (XC : String → State → State → Prop) (mc ms : Nat) (free : Addr → Prop) : Array Value → State → Outcome → State → Prop := fun a st o t =>
  (Qc a st o t ∧ ∃ L, FrameEnd st o t L mc ms ∧ ∀ q ∈ L, free q.base) ∨ ∃ q, o = .threw q ∧ vx_T XC st q t mc ms free
def vx_Met (l : Launch) (y : MethodName) (ws : List Cond) (rm : Room) (Pc : Array Value → State → Prop) (Qc : Array Value → State → Outcome → State → Prop) (XC : String → State → State → Prop) (mc ms : Nat) (free : Addr → Prop) : Prop :=
  MetFree l y (headSpec ws rm) Pc (fun _ _ _ _ _ => True) (vx_Q Qc XC mc ms free)
def vx_Post (XC : String → State → State → Prop) (mc ms : Nat) (free : Addr → Prop) : Pt → Array Value → Addr → Pt → Prop := fun A a q B =>
  ∃ (g : JFrame) (mk : MethodId) (t : State) (L : List Loc) (E : String) (ce : Cell), B.U.heap = t.heap ∧ B.U.vm = t.vm ∧ XC E (A.U.calling g mk a) t ∧ t.heap[q]? = some ce ∧ ce.vm = .none ∧ A.U.vm.findClass E = some ce.cls ∧ B.locs = A.locs ++ L ∧ (∀ z ∈ L, free z.base) ∧ B.cells = A.cells + mc ∧ B.slots = A.slots + ms
def vx_Back (l : Launch) (R : Room) (p : Program) (e : Env) (below : List Frame) (s : State) (sargs : Array Value) (y : MethodName) (len W9 : Nat)
    (Pre : Pt → Array Value → Prop) (Post : Pt → Array Value → Option Value → Pt → Prop) (PostX : Pt → Array Value → Addr → Pt → Prop) : Prop :=
  ∀ (m : MethodId) (meth : Method) (c : Code) (A : Pt) (g : JFrame) (ig : Instr) (mk : MethodId) (a : Array Value),
    Stand p l e R s m sargs below meth c A.U A.locs A.cells A.slots → g.method = m → g.locals.size = c.maxLocals → decode c.code g.pc = .ok (ig, len) →
    2 * g.monitorRoom + (g.stack.map fun v => v.category).sum ≤ W9 → A.U.methodNamed? y = some mk → Pre A a →
    (∃ (v : Option Value) (B : Pt), Stand p l e R s m sargs below meth c B.U B.locs B.cells B.slots ∧ Post A a v B ∧
      Steps p.tables e below (doInvoke e (A.U.setTop g) [] mk a).1 (B.U.setTop { g with pc := g.pc + len, stack := v.toList ++ g.stack })) ∨
    (∃ (q : Addr) (B : Pt), Stand p l e R s m sargs below meth c B.U B.locs B.cells B.slots ∧ PostX A a q B ∧
      Steps p.tables e below (doInvoke e (A.U.setTop g) [] mk a).1 ((B.U.setTop g).pushFrame (.throwing q)))
section Payer
variable {l : Launch} {R : Room} {p : Program} {e : Env} {below : List Frame} {s : State} {sargs : Array Value} {y : MethodName} {len W9 : Nat}
theorem vx_back {ws : List Cond} {rm : Room} {Pc : Array Value → State → Prop} {Qc : Array Value → State → Outcome → State → Prop} {XC : String → State → State → Prop} {mc ms : Nat} {free : Addr → Prop} {bytes : ByteArray} {maxL : Nat} {ret : Option FieldType}
    (hM : vx_Met l y ws rm Pc Qc XC mc ms free) (hblind : FrameBlind Pc) (hrc : rm.cells = mc) (hrs : rm.slots = ms)
    (hframes : rm.frames + 1 ≤ R.frames) (hlocals : W9 + (maxL + 11) + rm.locals ≤ R.locals)
    (hws : ∀ w ∈ ws, ∀ a' U, s.WarmedH U.vm → w.before a' U = true) (hcode : Cond.code y bytes maxL ret ∈ ws) (hinit : ∀ a' U, s.WarmedH U.vm → (Cond.initialized y.cls).before a' U = true) :
    vx_Back l R p e below s sargs y len W9 (PreOf R mc ms Pc) (PostOf Qc mc ms free) (vx_Post XC mc ms free) := by
  intro m meth c A g ig mk a X hg hsize hdg hW hn hp
  have h1 : (headSpec ws rm).pre.before a A.U = true := atoms_intro fun w hw => hws w hw _ _ X.warmed
  have h2 : (Cond.code y bytes maxL ret).before a A.U = true := hws _ hcode _ _ X.warmed
  have h3 : (Cond.initialized y.cls).before a A.U = true := hinit _ _ X.warmed
  have h4 : A.cells + (headSpec ws rm).room.cells ≤ R.cells := by rw [show (headSpec ws rm).room.cells = mc from hrc]; exact hp.1
  have h5 : A.slots + (headSpec ws rm).room.slots ≤ R.slots := by rw [show (headSpec ws rm).room.slots = ms from hrs]; exact hp.2.1
  have hPc : Pc a (A.U.calling g mk a) := hblind _ _ _ _ hp.2.2
  obtain ⟨U, Ls, c0, s0⟩ := A
  dsimp only [Pt.U, Pt.locs, Pt.cells, Pt.slots] at h1 h2 h3 h4 h5 X hn hPc ⊢
  obtain ⟨methY, cY, hmY, hcY, -, hlY, -, -, -, -⟩ := Cond.code_spec hn h2
  obtain ⟨kY, hkY, -⟩ := className_of_methodNamed hn
  have hinitY : kY.init = .initialized := Cond.initialized_spec (findClass_of_methodNamed hn) hkY h3
  have h : At U g.method c below := by rw [hg]; exact X.here
  have hlocals9 : W9 + (maxL + 11) + (headSpec ws rm).room.locals ≤ R.locals := hlocals
  have happ : (headSpec ws rm).appliesLoose y e.platform (U.calling g mk a) = true :=
    Spec.appliesLoose_calling (g := g) h hdg hn hkY hinitY
      (X.room_calling (g := g) (R' := (headSpec ws rm).room) hsize hmY hcY hframes (by rw [hlY]; omega) h4 h5) h1
  obtain ⟨mid, hmid⟩ := h.above
  have hfr : (U.setTop g).frames = (.java g :: mid) ++ below := by rw [State.frames_setTop' g h.top, hmid]; rfl
  obtain ⟨o, s₂, hsteps, -, hend, hq⟩ := Steps.callFree hM p X.admits X.cas X.clock (acts := []) hfr happ hPc trivial
  have hq' : vx_Q Qc XC mc ms free a (U.calling g mk a) o s₂ := hq
  rw [State.frames_setTop' g h.top] at hend
  obtain ⟨g₀, hg0⟩ := Option.isSome_iff_exists.mp h.top
  obtain ⟨r, hr⟩ := State.topJava?_eq_some.mp hg0
  have hr' : (({ U with heap := s₂.heap, slotsUsed := s₂.slotsUsed } : State).setVm s₂.vm).frames = .java g₀ :: r := hr
  rcases hq' with ⟨hqc, L, hfe, hL⟩ | ⟨q, rfl, E, ce, L, hx, hce, hcv, hcl, hW₂, hsm, hL⟩
  · obtain ⟨⟨v, rfl⟩, hW₂, e2, q2, q3, q4, q5, q6⟩ := id hfe
    have e3 : s₂ = ({ (U.calling g mk a).setFrames s₂.frames with heap := s₂.heap, slotsUsed := s₂.slotsUsed } : State).setVm s₂.vm := by
      have : s₂ = ({ s₂ with vm := (U.calling g mk a).vm } : State).setVm s₂.vm := rfl
      rw [e2] at this
      exact this
    obtain ⟨c₂, i₂, len₂, hc₂, hd₂, hf₂⟩ := hend
    have hW' : U.WarmedH s₂.vm := hW₂
    have hcc : c₂ = c := by
      have h1 : s₂.code? g.method = U.code? g.method := by
        rw [State.code?_eq, State.code?_eq, hW'.alike.method?]
      exact Option.some.inj (hc₂.symm.trans (h1.trans h.code))
    subst hcc
    have hlen : len₂ = len := by rw [hdg] at hd₂; cases hd₂; rfl
    subst hlen
    have hs₂ : s₂ = (({ U with heap := s₂.heap, slotsUsed := s₂.slotsUsed } : State).setVm s₂.vm).setTop { g with pc := g.pc + len₂, stack := v.toList ++ g.stack } := by
      refine e3.trans ?_
      rw [hf₂, State.calling_eq h.top, State.setFrames_setFrames, State.setTop_of_frames _ hr', hr]
      rfl
    have hsame : U.sameButNew ({ U with heap := s₂.heap, slotsUsed := s₂.slotsUsed } : State) L mc ms := by
      refine ⟨?_, q2, q3, q4, q5, q6⟩
      obtain ⟨t, ht, -⟩ := State.frames_cons hr
      show ({ U with heap := s₂.heap, slotsUsed := s₂.slotsUsed } : State) = { U.setFrames U.frames with heap := s₂.heap, slotsUsed := s₂.slotsUsed }
      rw [State.setFrames_self ht]
    subst hg
    refine Or.inl ⟨v, ⟨(({ U with heap := s₂.heap, slotsUsed := s₂.slotsUsed } : State).setVm s₂.vm), Ls ++ L, c0 + mc, s0 + ms⟩,
      ⟨X.admits, X.cas, X.clock, X.frames, X.room, X.hears, X.method, X.code, (X.here.setHeapUsed s₂.heap s₂.slotsUsed).setVm hW'.alike, X.tail, State.WarmedH.trans X.warmed hW', X.limits, X.bytes, X.same.trans (hsame.setVm s.vm)⟩,
      ⟨g, mk, s₂, L, rfl, rfl, hqc, rfl, hL, rfl, rfl⟩, ?_⟩
    show Steps p.tables e below _ ((({ U with heap := s₂.heap, slotsUsed := s₂.slotsUsed } : State).setVm s₂.vm).setTop { g with pc := g.pc + len₂, stack := v.toList ++ g.stack })
    rw [← hs₂]
    exact hsteps
  · obtain ⟨e2, q2, q3, q4, q5, q6⟩ := id hsm
    have e3 : s₂ = ({ (U.calling g mk a).setFrames s₂.frames with heap := s₂.heap, slotsUsed := s₂.slotsUsed } : State).setVm s₂.vm := by
      have : s₂ = ({ s₂ with vm := (U.calling g mk a).vm } : State).setVm s₂.vm := rfl
      rw [e2] at this
      exact this
    have hf₂ : s₂.frames = .throwing q :: .java g :: U.frames.tail := hend
    have hW' : U.WarmedH s₂.vm := hW₂
    have hs₂ : s₂ = ((({ U with heap := s₂.heap, slotsUsed := s₂.slotsUsed } : State).setVm s₂.vm).setTop g).pushFrame (.throwing q) := by
      refine e3.trans ?_
      rw [hf₂, State.calling_eq h.top, State.setFrames_setFrames, State.pushFrame, State.frames_setTop _ hr', State.setTop_of_frames _ hr', State.setFrames_setFrames, hr]
      rfl
    have hsame : U.sameButNew ({ U with heap := s₂.heap, slotsUsed := s₂.slotsUsed } : State) L mc ms := by
      refine ⟨?_, q2, q3, q4, q5, q6⟩
      obtain ⟨t, ht, -⟩ := State.frames_cons hr
      show ({ U with heap := s₂.heap, slotsUsed := s₂.slotsUsed } : State) = { U.setFrames U.frames with heap := s₂.heap, slotsUsed := s₂.slotsUsed }
      rw [State.setFrames_self ht]
    subst hg
    refine Or.inr ⟨q, ⟨(({ U with heap := s₂.heap, slotsUsed := s₂.slotsUsed } : State).setVm s₂.vm), Ls ++ L, c0 + mc, s0 + ms⟩,
      ⟨X.admits, X.cas, X.clock, X.frames, X.room, X.hears, X.method, X.code, (X.here.setHeapUsed s₂.heap s₂.slotsUsed).setVm hW'.alike, X.tail, State.WarmedH.trans X.warmed hW', X.limits, X.bytes, X.same.trans (hsame.setVm s.vm)⟩,
      ⟨g, mk, s₂, L, E, ce, rfl, rfl, hx, hce, hcv, hcl, rfl, hL, rfl, rfl⟩, ?_⟩
    show Steps p.tables e below _ (((({ U with heap := s₂.heap, slotsUsed := s₂.slotsUsed } : State).setVm s₂.vm).setTop g).pushFrame (.throwing q))
    rw [← hs₂]
    exact hsteps
end Payer
section Calls
variable {p : Program} {l : Launch} {e : Env} {R : Room} {s : State} {m : MethodId} {args : Array Value} {below : List Frame} {meth : Method} {c : Code} {T : State} {locs : List Loc} {cells slots : Nat}
theorem vx_callV (X : Stand p l e R s m args below meth c T locs cells slots) (hexec : p.tables.exec = Jvm.exec) {own C : String} {index : Nat} {y : MethodName} {bytes : ByteArray} {maxL : Nat} {ret : Option FieldType}
    (hown : s.vm.findClass own = some m.cls) (hlink : (Cond.methodLink own index y).before args s = true) (hinst : (Cond.instanceMethod y).before args s = true) (hsel : (Cond.selects C y y).before args s = true)
    (hcode : (Cond.code y bytes maxL ret).before args s = true) (hy : y.cls ≠ "java/lang/invoke/MethodHandle" ∧ y.cls ≠ "java/lang/invoke/VarHandle")
    {W9 : Nat} {Pre : Pt → Array Value → Prop} {Post : Pt → Array Value → Option Value → Pt → Prop} {PostX : Pt → Array Value → Addr → Pt → Prop} (hK : vx_Back l R p e below s args y 3 W9 Pre Post PostX)
    {b : Addr} {cellB : Cell} (hcell : T.heap[b]? = some cellB) (hobj : cellB.vm.isStatics = false) (hcls : s.vm.findClass C = some cellB.cls)
    {g : JFrame} (hg : g.method = m) (hsize : g.locals.size = c.maxLocals) {argsL rest : List Value} (hlen : ∀ sig, parseMethodDescriptor y.desc = some sig → argsL.length = sig.parameters.length)
    (hstack : g.stack = argsL.reverse ++ .ref b :: rest) (hW : 2 * g.monitorRoom + (rest.map fun v => v.category).sum ≤ W9) (hdg : decode c.code g.pc = .ok (.invokevirtual index, 3))
    (hpre : ∀ vm₁, s.WarmedH vm₁ → Pre ⟨T.setVm vm₁, locs, cells, slots⟩ (Value.ref b :: argsL).toArray) :
    (∃ (v : Option Value) (vm₁ : Vm) (B : Pt), s.WarmedH vm₁ ∧ Stand p l e R s m args below meth c B.U B.locs B.cells B.slots ∧ Post ⟨T.setVm vm₁, locs, cells, slots⟩ (Value.ref b :: argsL).toArray v B ∧
      ∀ target, Steps p.tables e below (B.U.setTop { g with pc := g.pc + 3, stack := v.toList ++ rest }) target → Steps p.tables e below (T.setTop g) target) ∨
    (∃ (q : Addr) (vm₁ : Vm) (B : Pt), s.WarmedH vm₁ ∧ Stand p l e R s m args below meth c B.U B.locs B.cells B.slots ∧ PostX ⟨T.setVm vm₁, locs, cells, slots⟩ (Value.ref b :: argsL).toArray q B ∧
      Steps p.tables e below (T.setTop g) ((B.U.setTop { g with stack := rest }).pushFrame (.throwing q))) := by
  obtain ⟨mk, methM, hnamed, hmethM, hstM, habM⟩ := Cond.instanceMethod_spec hinst
  obtain ⟨methM', cM, hmethM', -, -, -, -, -, -, hsigM⟩ := Cond.code_spec hnamed hcode
  cases hmethM.symm.trans hmethM'
  obtain ⟨c2, r2, m2, q1, q2, q3, q4, kP, hkP, hkPi⟩ := Cond.selects_spec hsel
  cases hcls.symm.trans q1
  cases (State.methodFound?_of_named hnamed hy).symm.trans q2
  cases hnamed.symm.trans q3
  have hselP : selectMethod e.platform s.vm cellB.cls mk = .method mk := by rw [Launch.admits_selectMethod X.admits]; exact q4
  obtain ⟨vm₁, X₁, hstep₁⟩ := X.invokevirtual hexec hown hlink hnamed hmethM hstM hkP hkPi hy (a := b) (cell := cellB) hcell
    (fun z h => by rw [h] at hobj; cases hobj) hselP hmethM habM hkP hkPi (g := g) hg (argsL := argsL) (rest := rest) (hlen _ hsigM) hstack hdg
  rcases hK m meth c ⟨T.setVm vm₁, locs, cells, slots⟩ { g with stack := rest } (.invokevirtual index) mk (Value.ref b :: argsL).toArray X₁ hg hsize hdg hW (X₁.named hnamed) (hpre vm₁ X₁.warmed) with ⟨v, B, X', hpost, hsteps⟩ | ⟨q, B, X', hpost, hsteps⟩
  · exact Or.inl ⟨v, vm₁, B, X₁.warmed, X', hpost, fun target h => hstep₁ _ fun acts => by rw [doInvoke_state]; exact hsteps.trans h⟩
  · exact Or.inr ⟨q, vm₁, B, X₁.warmed, X', hpost, hstep₁ _ fun acts => by rw [doInvoke_state]; exact hsteps⟩
theorem vx_callS (X : Stand p l e R s m args below meth c T locs cells slots) (hexec : p.tables.exec = Jvm.exec) {own : String} {index : Nat} {y : MethodName} {bytes : ByteArray} {maxL : Nat} {ret : Option FieldType}
    (hown : s.vm.findClass own = some m.cls) (hlink : (Cond.methodLink own index y).before args s = true) (hstat : (Cond.static y).before args s = true) (hinit : (Cond.initialized y.cls).before args s = true)
    (hcode : (Cond.code y bytes maxL ret).before args s = true) (hy : y.cls ≠ "java/lang/invoke/MethodHandle" ∧ y.cls ≠ "java/lang/invoke/VarHandle")
    {W9 : Nat} {Pre : Pt → Array Value → Prop} {Post : Pt → Array Value → Option Value → Pt → Prop} {PostX : Pt → Array Value → Addr → Pt → Prop} (hK : vx_Back l R p e below s args y 3 W9 Pre Post PostX)
    {g : JFrame} (hg : g.method = m) (hsize : g.locals.size = c.maxLocals) {argsL rest : List Value} (hlen : ∀ sig, parseMethodDescriptor y.desc = some sig → argsL.length = sig.parameters.length)
    (hstack : g.stack = argsL.reverse ++ rest) (hW : 2 * g.monitorRoom + (rest.map fun v => v.category).sum ≤ W9) (hdg : decode c.code g.pc = .ok (.invokestatic index, 3))
    (hpre : ∀ vm₁, s.WarmedH vm₁ → Pre ⟨T.setVm vm₁, locs, cells, slots⟩ argsL.toArray) :
    (∃ (v : Option Value) (vm₁ : Vm) (B : Pt), s.WarmedH vm₁ ∧ Stand p l e R s m args below meth c B.U B.locs B.cells B.slots ∧ Post ⟨T.setVm vm₁, locs, cells, slots⟩ argsL.toArray v B ∧
      ∀ target, Steps p.tables e below (B.U.setTop { g with pc := g.pc + 3, stack := v.toList ++ rest }) target → Steps p.tables e below (T.setTop g) target) ∨
    (∃ (q : Addr) (vm₁ : Vm) (B : Pt), s.WarmedH vm₁ ∧ Stand p l e R s m args below meth c B.U B.locs B.cells B.slots ∧ PostX ⟨T.setVm vm₁, locs, cells, slots⟩ argsL.toArray q B ∧
      Steps p.tables e below (T.setTop g) ((B.U.setTop { g with stack := rest }).pushFrame (.throwing q))) := by
  obtain ⟨mk, hnamed⟩ := Cond.code_named hcode
  obtain ⟨methM, cM, hmethM, -, -, -, -, -, -, hsigM⟩ := Cond.code_spec hnamed hcode
  have hstatic : methM.isStatic = true := Cond.static_spec hnamed hmethM hstat
  obtain ⟨kP, hkP, -⟩ := className_of_methodNamed hnamed
  have hinitP : kP.init = .initialized := Cond.initialized_spec (findClass_of_methodNamed hnamed) hkP hinit
  obtain ⟨vm₁, X₁, hstep₁⟩ := X.invokestatic hexec hown hlink hnamed hmethM hstatic hkP hinitP hy (g := g) hg (argsL := argsL) (rest := rest) (hlen _ hsigM) hstack hdg
  rcases hK m meth c ⟨T.setVm vm₁, locs, cells, slots⟩ { g with stack := rest } (.invokestatic index) mk argsL.toArray X₁ hg hsize hdg hW (X₁.named hnamed) (hpre vm₁ X₁.warmed) with ⟨v, B, X', hpost, hsteps⟩ | ⟨q, B, X', hpost, hsteps⟩
  · exact Or.inl ⟨v, vm₁, B, X₁.warmed, X', hpost, fun target h => hstep₁ _ fun acts => by rw [doInvoke_state]; exact hsteps.trans h⟩
  · exact Or.inr ⟨q, vm₁, B, X₁.warmed, X', hpost, hstep₁ _ fun acts => by rw [doInvoke_state]; exact hsteps⟩
end Calls
theorem vx_cls {s : State} {T : State} {vm₁ : Vm} {E : String} {k : ClassId} (hW : s.WarmedH vm₁) (h : (T.setVm vm₁).vm.findClass E = some k) : s.vm.findClass E = some k := by
  have h1 : vm₁.findClass E = some k := h
  rw [hW.alike.findClass] at h1
  exact h1
def vx_W (p : Program) (l : Launch) (e : Env) (R : Room) (s : State) (m : MethodId) (args : Array Value) (below : List Frame) (meth : Method) (c : Code) (H : Heap) (locs : List Loc) (cells slots : Nat) (Q : State → Prop) (g : JFrame) (q : Addr) : Prop :=
  ∀ T : State, T.heap = H → Stand p l e R s m args below meth c T locs cells slots → ∃ t, Steps p.tables e below ((T.setTop g).pushFrame (.throwing q)) t ∧ Q t
def vx_Run (p : Program) (l : Launch) (e : Env) (R : Room) (s : State) (m : MethodId) (args : Array Value) (below : List Frame) (meth : Method) (c : Code) (H : Heap) (locs : List Loc) (cells slots mc ms : Nat) (g : JFrame) (rest : List Value) (Qa : State → Outcome → State → Prop) (XC : String → State → State → Prop) (free : Addr → Prop) : Prop :=
  ∀ T : State, T.heap = H → Stand p l e R s m args below meth c T locs cells slots →
    (∃ (v : Option Value) (st₀ t T' : State) (L : List Loc), st₀.heap = H ∧ Stand p l e R s m args below meth c T' (locs ++ L) (cells + mc) (slots + ms) ∧ (∀ q ∈ L, free q.base) ∧ T'.heap = t.heap ∧ T'.vm = t.vm ∧ Qa st₀ (.returned v) t ∧
      Goes p e below T g T' { g with pc := g.pc + 3, stack := v.toList ++ rest }) ∨
    (∃ (q : Addr) (st₀ t T' : State) (L : List Loc) (E : String) (ce : Cell), st₀.heap = H ∧ Stand p l e R s m args below meth c T' (locs ++ L) (cells + mc) (slots + ms) ∧ (∀ z ∈ L, free z.base) ∧ T'.heap = t.heap ∧ T'.vm = t.vm ∧ XC E st₀ t ∧ t.heap[q]? = some ce ∧ ce.vm = .none ∧ s.vm.findClass E = some ce.cls ∧
      Steps p.tables e below (T.setTop g) ((T'.setTop { g with stack := rest }).pushFrame (.throwing q)))
def vx_X {S : Type} (px : S → Prop) (B : String → S → State → Prop) (A : Nat → Prop) : String → State → State → Prop := fun E st t => ∃ u : S, px u ∧ B E u t ∧ va_F A st t
section Runs
variable {p : Program} {l : Launch} {e : Env} {R : Room} {s : State} {m : MethodId} {args : Array Value} {below : List Frame} {meth : Method} {c : Code} {H : Heap} {locs : List Loc} {cells slots : Nat}
variable {y : MethodName} {bytes cc : ByteArray} {maxL nL mc ms n index : Nat} {ret : Option FieldType} {ws : List Cond} {rm : Room} {Pc : Array Value → State → Prop} {Qc : Array Value → State → Outcome → State → Prop} {XC : String → State → State → Prop} {free : Addr → Prop} {Ts : List Cond} {own C : String} {b : Addr} {As rest : List Value} {g : JFrame}
theorem vx_callBack (cb : CallB R s args own index y bytes maxL ret ws rm mc ms n) (hM : vx_Met l y ws rm Pc Qc XC mc ms free) (hbl : FrameBlind Pc) : vx_Back l R p e below s args y 3 8 (PreOf R mc ms Pc) (PostOf Qc mc ms free) (vx_Post XC mc ms free) := by
  obtain ⟨hrc, hrs, hfr, hlo, hws, hcw, -, hini, -⟩ := cb
  exact vx_back (bytes := bytes) (maxL := maxL) (ret := ret) hM hbl hrc hrs hfr hlo hws hcw (fun a' U hW => word_at hW (Or.inl (by first | rfl | simp [Cond.onTables, Cond.keeps, Cond.steady])) hini)
theorem vx_runV (S : CallFix p m c cc nL s args Ts own) (hM : vx_Met l y ws rm Pc Qc XC mc ms free) (cw : CallW R s args own C index y bytes maxL ret ws rm mc ms n) (hp : PreV s H C b Pc As)
    (hg : g.method = m) (hn : As.length = n) (hsize : g.locals.size = nL) (hstack : g.stack = As.reverse ++ .ref b :: rest) (hW : 2 * g.monitorRoom + (rest.map fun v => v.category).sum ≤ 8) (hdg : decode cc g.pc = .ok (.invokevirtual index, 3)) (hf : cells + mc ≤ R.cells ∧ slots + ms ≤ R.slots) :
    vx_Run p l e R s m args below meth c H locs cells slots mc ms g rest (Qc (Value.ref b :: As).toArray) XC free := by
  have hK : vx_Back l R p e below s args y 3 8 (PreOf R mc ms Pc) (PostOf Qc mc ms free) (vx_Post XC mc ms free) := vx_callBack cw.1 hM hp.1
  obtain ⟨⟨-, -, -, -, -, -, hcode, -, hy, hlen, hl⟩, hin, hse⟩ := cw
  obtain ⟨hx, hb, hml, ho, -⟩ := S
  obtain ⟨-, ⟨cellB, hcB, hoB, hclB⟩, hPc⟩ := hp
  intro T hT X
  rcases vx_callV X hx (C := C) (bytes := bytes) (maxL := maxL) (ret := ret) ho hl hin hse hcode hy hK (by rw [hT]; exact hcB) hoB hclB hg (hsize.trans hml.symm) (argsL := As) (rest := rest) (fun sig h => hn.trans (hlen sig h)) hstack hW (by rw [hb]; exact hdg)
    (fun vm₁ hW₁ => ⟨hf.1, hf.2, hPc (T.setVm vm₁) hT hW₁⟩) with ⟨v, vm₁, ⟨U', l2, c2, s2⟩, hW₁, X', ⟨g', mk, t, L, e1, e2, hq, h1, hL, h2, h3⟩, st⟩ | ⟨q, vm₁, ⟨U', l2, c2, s2⟩, hW₁, X', ⟨g', mk, t, L, E, ce, e1, e2, hq, hce, hcv, hcl, h1, hL, h2, h3⟩, st⟩
  · dsimp only [Pt.U, Pt.locs, Pt.cells, Pt.slots] at X' e1 e2 h1 h2 h3 st
    subst h1; subst h2; subst h3
    exact Or.inl ⟨v, (T.setVm vm₁).calling g' mk (Value.ref b :: As).toArray, t, U', L, hT, X', hL, e1, e2, hq, st⟩
  · dsimp only [Pt.U, Pt.locs, Pt.cells, Pt.slots] at X' e1 e2 h1 h2 h3 st hcl
    subst h1; subst h2; subst h3
    exact Or.inr ⟨q, (T.setVm vm₁).calling g' mk (Value.ref b :: As).toArray, t, U', L, E, ce, hT, X', hL, e1, e2, hq, hce, hcv, vx_cls hW₁ hcl, st⟩
theorem vx_runS (S : CallFix p m c cc nL s args Ts own) (hM : vx_Met l y ws rm Pc Qc XC mc ms free) (cw : CallB R s args own index y bytes maxL ret ws rm mc ms n ∧ (Cond.static y).before args s = true) (hp : PreS s H Pc As)
    (hg : g.method = m) (hn : As.length = n) (hsize : g.locals.size = nL) (hstack : g.stack = As.reverse ++ rest) (hW : 2 * g.monitorRoom + (rest.map fun v => v.category).sum ≤ 8) (hdg : decode cc g.pc = .ok (.invokestatic index, 3)) (hf : cells + mc ≤ R.cells ∧ slots + ms ≤ R.slots) :
    vx_Run p l e R s m args below meth c H locs cells slots mc ms g rest (Qc As.toArray) XC free := by
  have hK : vx_Back l R p e below s args y 3 8 (PreOf R mc ms Pc) (PostOf Qc mc ms free) (vx_Post XC mc ms free) := vx_callBack cw.1 hM hp.1
  obtain ⟨⟨-, -, -, -, -, -, hcode, hini, hy, hlen, hl⟩, hstt⟩ := cw
  obtain ⟨hx, hb, hml, ho, -⟩ := S
  intro T hT X
  rcases vx_callS X hx (bytes := bytes) (maxL := maxL) (ret := ret) ho hl hstt hini hcode hy hK hg (hsize.trans hml.symm) (argsL := As) (rest := rest) (fun sig h => hn.trans (hlen sig h)) hstack hW (by rw [hb]; exact hdg)
    (fun vm₁ hW₁ => ⟨hf.1, hf.2, hp.2 (T.setVm vm₁) hT hW₁⟩) with ⟨v, vm₁, ⟨U', l2, c2, s2⟩, hW₁, X', ⟨g', mk, t, L, e1, e2, hq, h1, hL, h2, h3⟩, st⟩ | ⟨q, vm₁, ⟨U', l2, c2, s2⟩, hW₁, X', ⟨g', mk, t, L, E, ce, e1, e2, hq, hce, hcv, hcl, h1, hL, h2, h3⟩, st⟩
  · dsimp only [Pt.U, Pt.locs, Pt.cells, Pt.slots] at X' e1 e2 h1 h2 h3 st
    subst h1; subst h2; subst h3
    exact Or.inl ⟨v, (T.setVm vm₁).calling g' mk As.toArray, t, U', L, hT, X', hL, e1, e2, hq, st⟩
  · dsimp only [Pt.U, Pt.locs, Pt.cells, Pt.slots] at X' e1 e2 h1 h2 h3 st hcl
    subst h1; subst h2; subst h3
    exact Or.inr ⟨q, (T.setVm vm₁).calling g' mk As.toArray, t, U', L, E, ce, hT, X', hL, e1, e2, hq, hce, hcv, vx_cls hW₁ hcl, st⟩
end Runs
section Rows
variable {p : Program} {l : Launch} {e : Env} {R : Room} {s : State} {m : MethodId} {args : Array Value} {below : List Frame} {meth : Method} {c : Code} {H : Heap} {locs : List Loc} {cells slots : Nat} {Q : State → Prop}
variable {mc ms : Nat} {free : Addr → Prop} {A0 A1 : Nat → Prop} {H0 : Heap} {a : Array Value} {pc : Nat} {ls : Array Slot} {st0 rest : List Value}
theorem vx_keep {st₀ t T' : State} {L : List Loc} (h0 : st₀.heap = H) (e1 : T'.heap = t.heap) (hS : va_S A0 H0 H locs) (hA : ∀ q, q < H.size → A1 q → A0 q) (hf : ∀ q, free q → A0 q) (hL : ∀ q ∈ L, free q.base) (hF : va_F A1 st₀ t) :
    H.size ≤ T'.heap.size ∧ (∀ q : Nat, q < H.size → ¬ A1 q → T'.heap[q]? = H[q]?) ∧ va_S A0 H0 T'.heap (locs ++ L) := by
  obtain ⟨hz, hk⟩ := hF
  rw [h0] at hz hk
  exact ⟨by rw [e1]; exact hz, fun q h1 h2 => by rw [e1]; exact hk q h1 h2,
    ⟨Nat.le_trans hS.1 (by rw [e1]; exact hz), fun q h1 h2 => by rw [e1, hk q (Nat.lt_of_lt_of_le h1 hS.1) (fun z => h2 (hA q (Nat.lt_of_lt_of_le h1 hS.1) z))]; exact hS.2.1 q h1 h2, fun q hq => by
      rcases List.mem_append.mp hq with h | h
      · exact hS.2.2 q h
      · exact hf _ (hL q h)⟩⟩
theorem vx_calli {S SX : Type} {post : Int32 → S → Prop} {px : SX → Prop} {B : S → State → Prop} {BX : String → SX → State → Prop} {AX : Nat → Prop} (hr : vx_Run p l e R s m args below meth c H locs cells slots mc ms (F0 m pc ls st0) rest (va_Qi post B A1 a) (vx_X px BX AX) free) (hS : va_S A0 H0 H locs) (hA : ∀ q, q < H.size → A1 q → A0 q) (hf : ∀ q, free q → A0 q) (hAX : ∀ q, q < H.size → AX q → A0 q)
    (kx : ∀ (E : String) (ce : Cell) (q9 : Addr) (u : SX) (t : State) (H1 : Heap) (locs1 : List Loc), t.heap = H1 → s.vm.Alike t.vm → px u → BX E u t → H.size ≤ H1.size → (∀ q : Nat, q < H.size → ¬ AX q → H1[q]? = H[q]?) → va_S A0 H0 H1 locs1 → H1[q9]? = some ce → ce.vm = .none → s.vm.findClass E = some ce.cls → vx_W p l e R s m args below meth c H1 locs1 (cells + mc) (slots + ms) Q (F0 m pc ls rest) q9)
    (kk : ∀ (r : Int32) (u : S) (t : State) (H1 : Heap) (locs1 : List Loc), t.heap = H1 → s.vm.Alike t.vm → post r u → B u t → H.size ≤ H1.size → (∀ q : Nat, q < H.size → ¬ A1 q → H1[q]? = H[q]?) → va_S A0 H0 H1 locs1 → W p l e R s m args below meth c H1 locs1 (cells + mc) (slots + ms) Q (F0 m (pc + 3) ls (.int r :: rest))) : W p l e R s m args below meth c H locs cells slots Q (F0 m pc ls st0) := by
  intro T hT X
  rcases hr T hT X with ⟨v, st₀, t, T', L, h0, X', hL, e1, e2, ⟨⟨r, u, hv, hp, hb⟩, hF⟩, st⟩ | ⟨q, st₀, t, T', L, E, ce, h0, X', hL, e1, e2, ⟨u, hp, hb, hF⟩, hce, hcv, hcl, st⟩
  · cases hv
    obtain ⟨k1, k2, k3⟩ := vx_keep h0 e1 hS hA hf hL hF
    obtain ⟨t2, a1, b1⟩ := kk r u t T'.heap (locs ++ L) e1.symm (by rw [← e2]; exact X'.warmed.alike) hp hb k1 k2 k3 T' rfl X'
    exact ⟨t2, st t2 a1, b1⟩
  · obtain ⟨k1, k2, k3⟩ := vx_keep h0 e1 hS hAX hf hL hF
    obtain ⟨t2, a1, b1⟩ := kx E ce q u t T'.heap (locs ++ L) e1.symm (by rw [← e2]; exact X'.warmed.alike) hp hb k1 k2 k3 (by rw [e1]; exact hce) hcv hcl T' rfl X'
    exact ⟨t2, st.trans a1, b1⟩
theorem vx_calll {S SX : Type} {post : Int64 → S → Prop} {px : SX → Prop} {B : S → State → Prop} {BX : String → SX → State → Prop} {AX : Nat → Prop} (hr : vx_Run p l e R s m args below meth c H locs cells slots mc ms (F0 m pc ls st0) rest (va_Ql post B A1 a) (vx_X px BX AX) free) (hS : va_S A0 H0 H locs) (hA : ∀ q, q < H.size → A1 q → A0 q) (hf : ∀ q, free q → A0 q) (hAX : ∀ q, q < H.size → AX q → A0 q)
    (kx : ∀ (E : String) (ce : Cell) (q9 : Addr) (u : SX) (t : State) (H1 : Heap) (locs1 : List Loc), t.heap = H1 → s.vm.Alike t.vm → px u → BX E u t → H.size ≤ H1.size → (∀ q : Nat, q < H.size → ¬ AX q → H1[q]? = H[q]?) → va_S A0 H0 H1 locs1 → H1[q9]? = some ce → ce.vm = .none → s.vm.findClass E = some ce.cls → vx_W p l e R s m args below meth c H1 locs1 (cells + mc) (slots + ms) Q (F0 m pc ls rest) q9)
    (kk : ∀ (r : Int64) (u : S) (t : State) (H1 : Heap) (locs1 : List Loc), t.heap = H1 → s.vm.Alike t.vm → post r u → B u t → H.size ≤ H1.size → (∀ q : Nat, q < H.size → ¬ A1 q → H1[q]? = H[q]?) → va_S A0 H0 H1 locs1 → W p l e R s m args below meth c H1 locs1 (cells + mc) (slots + ms) Q (F0 m (pc + 3) ls (.long r :: rest))) : W p l e R s m args below meth c H locs cells slots Q (F0 m pc ls st0) := by
  intro T hT X
  rcases hr T hT X with ⟨v, st₀, t, T', L, h0, X', hL, e1, e2, ⟨⟨r, u, hv, hp, hb⟩, hF⟩, st⟩ | ⟨q, st₀, t, T', L, E, ce, h0, X', hL, e1, e2, ⟨u, hp, hb, hF⟩, hce, hcv, hcl, st⟩
  · cases hv
    obtain ⟨k1, k2, k3⟩ := vx_keep h0 e1 hS hA hf hL hF
    obtain ⟨t2, a1, b1⟩ := kk r u t T'.heap (locs ++ L) e1.symm (by rw [← e2]; exact X'.warmed.alike) hp hb k1 k2 k3 T' rfl X'
    exact ⟨t2, st t2 a1, b1⟩
  · obtain ⟨k1, k2, k3⟩ := vx_keep h0 e1 hS hAX hf hL hF
    obtain ⟨t2, a1, b1⟩ := kx E ce q u t T'.heap (locs ++ L) e1.symm (by rw [← e2]; exact X'.warmed.alike) hp hb k1 k2 k3 (by rw [e1]; exact hce) hcv hcl T' rfl X'
    exact ⟨t2, st.trans a1, b1⟩
theorem vx_callf {S SX : Type} {post : UInt32 → S → Prop} {px : SX → Prop} {B : S → State → Prop} {BX : String → SX → State → Prop} {AX : Nat → Prop} (hr : vx_Run p l e R s m args below meth c H locs cells slots mc ms (F0 m pc ls st0) rest (va_Qf post B A1 a) (vx_X px BX AX) free) (hS : va_S A0 H0 H locs) (hA : ∀ q, q < H.size → A1 q → A0 q) (hf : ∀ q, free q → A0 q) (hAX : ∀ q, q < H.size → AX q → A0 q)
    (kx : ∀ (E : String) (ce : Cell) (q9 : Addr) (u : SX) (t : State) (H1 : Heap) (locs1 : List Loc), t.heap = H1 → s.vm.Alike t.vm → px u → BX E u t → H.size ≤ H1.size → (∀ q : Nat, q < H.size → ¬ AX q → H1[q]? = H[q]?) → va_S A0 H0 H1 locs1 → H1[q9]? = some ce → ce.vm = .none → s.vm.findClass E = some ce.cls → vx_W p l e R s m args below meth c H1 locs1 (cells + mc) (slots + ms) Q (F0 m pc ls rest) q9)
    (kk : ∀ (r : UInt32) (u : S) (t : State) (H1 : Heap) (locs1 : List Loc), t.heap = H1 → s.vm.Alike t.vm → post r u → B u t → H.size ≤ H1.size → (∀ q : Nat, q < H.size → ¬ A1 q → H1[q]? = H[q]?) → va_S A0 H0 H1 locs1 → W p l e R s m args below meth c H1 locs1 (cells + mc) (slots + ms) Q (F0 m (pc + 3) ls (.float r :: rest))) : W p l e R s m args below meth c H locs cells slots Q (F0 m pc ls st0) := by
  intro T hT X
  rcases hr T hT X with ⟨v, st₀, t, T', L, h0, X', hL, e1, e2, ⟨⟨r, u, hv, hp, hb⟩, hF⟩, st⟩ | ⟨q, st₀, t, T', L, E, ce, h0, X', hL, e1, e2, ⟨u, hp, hb, hF⟩, hce, hcv, hcl, st⟩
  · cases hv
    obtain ⟨k1, k2, k3⟩ := vx_keep h0 e1 hS hA hf hL hF
    obtain ⟨t2, a1, b1⟩ := kk r u t T'.heap (locs ++ L) e1.symm (by rw [← e2]; exact X'.warmed.alike) hp hb k1 k2 k3 T' rfl X'
    exact ⟨t2, st t2 a1, b1⟩
  · obtain ⟨k1, k2, k3⟩ := vx_keep h0 e1 hS hAX hf hL hF
    obtain ⟨t2, a1, b1⟩ := kx E ce q u t T'.heap (locs ++ L) e1.symm (by rw [← e2]; exact X'.warmed.alike) hp hb k1 k2 k3 (by rw [e1]; exact hce) hcv hcl T' rfl X'
    exact ⟨t2, st.trans a1, b1⟩
theorem vx_calld {S SX : Type} {post : UInt64 → S → Prop} {px : SX → Prop} {B : S → State → Prop} {BX : String → SX → State → Prop} {AX : Nat → Prop} (hr : vx_Run p l e R s m args below meth c H locs cells slots mc ms (F0 m pc ls st0) rest (va_Qd post B A1 a) (vx_X px BX AX) free) (hS : va_S A0 H0 H locs) (hA : ∀ q, q < H.size → A1 q → A0 q) (hf : ∀ q, free q → A0 q) (hAX : ∀ q, q < H.size → AX q → A0 q)
    (kx : ∀ (E : String) (ce : Cell) (q9 : Addr) (u : SX) (t : State) (H1 : Heap) (locs1 : List Loc), t.heap = H1 → s.vm.Alike t.vm → px u → BX E u t → H.size ≤ H1.size → (∀ q : Nat, q < H.size → ¬ AX q → H1[q]? = H[q]?) → va_S A0 H0 H1 locs1 → H1[q9]? = some ce → ce.vm = .none → s.vm.findClass E = some ce.cls → vx_W p l e R s m args below meth c H1 locs1 (cells + mc) (slots + ms) Q (F0 m pc ls rest) q9)
    (kk : ∀ (r : UInt64) (u : S) (t : State) (H1 : Heap) (locs1 : List Loc), t.heap = H1 → s.vm.Alike t.vm → post r u → B u t → H.size ≤ H1.size → (∀ q : Nat, q < H.size → ¬ A1 q → H1[q]? = H[q]?) → va_S A0 H0 H1 locs1 → W p l e R s m args below meth c H1 locs1 (cells + mc) (slots + ms) Q (F0 m (pc + 3) ls (.double r :: rest))) : W p l e R s m args below meth c H locs cells slots Q (F0 m pc ls st0) := by
  intro T hT X
  rcases hr T hT X with ⟨v, st₀, t, T', L, h0, X', hL, e1, e2, ⟨⟨r, u, hv, hp, hb⟩, hF⟩, st⟩ | ⟨q, st₀, t, T', L, E, ce, h0, X', hL, e1, e2, ⟨u, hp, hb, hF⟩, hce, hcv, hcl, st⟩
  · cases hv
    obtain ⟨k1, k2, k3⟩ := vx_keep h0 e1 hS hA hf hL hF
    obtain ⟨t2, a1, b1⟩ := kk r u t T'.heap (locs ++ L) e1.symm (by rw [← e2]; exact X'.warmed.alike) hp hb k1 k2 k3 T' rfl X'
    exact ⟨t2, st t2 a1, b1⟩
  · obtain ⟨k1, k2, k3⟩ := vx_keep h0 e1 hS hAX hf hL hF
    obtain ⟨t2, a1, b1⟩ := kx E ce q u t T'.heap (locs ++ L) e1.symm (by rw [← e2]; exact X'.warmed.alike) hp hb k1 k2 k3 (by rw [e1]; exact hce) hcv hcl T' rfl X'
    exact ⟨t2, st.trans a1, b1⟩
theorem vx_callv {S SX : Type} {post : S → Prop} {px : SX → Prop} {B : S → State → Prop} {BX : String → SX → State → Prop} {AX : Nat → Prop} (hr : vx_Run p l e R s m args below meth c H locs cells slots mc ms (F0 m pc ls st0) rest (va_Qv post B A1 a) (vx_X px BX AX) free) (hS : va_S A0 H0 H locs) (hA : ∀ q, q < H.size → A1 q → A0 q) (hf : ∀ q, free q → A0 q) (hAX : ∀ q, q < H.size → AX q → A0 q)
    (kx : ∀ (E : String) (ce : Cell) (q9 : Addr) (u : SX) (t : State) (H1 : Heap) (locs1 : List Loc), t.heap = H1 → s.vm.Alike t.vm → px u → BX E u t → H.size ≤ H1.size → (∀ q : Nat, q < H.size → ¬ AX q → H1[q]? = H[q]?) → va_S A0 H0 H1 locs1 → H1[q9]? = some ce → ce.vm = .none → s.vm.findClass E = some ce.cls → vx_W p l e R s m args below meth c H1 locs1 (cells + mc) (slots + ms) Q (F0 m pc ls rest) q9)
    (kk : ∀ (u : S) (t : State) (H1 : Heap) (locs1 : List Loc), t.heap = H1 → s.vm.Alike t.vm → post u → B u t → H.size ≤ H1.size → (∀ q : Nat, q < H.size → ¬ A1 q → H1[q]? = H[q]?) → va_S A0 H0 H1 locs1 → W p l e R s m args below meth c H1 locs1 (cells + mc) (slots + ms) Q (F0 m (pc + 3) ls (rest))) : W p l e R s m args below meth c H locs cells slots Q (F0 m pc ls st0) := by
  intro T hT X
  rcases hr T hT X with ⟨v, st₀, t, T', L, h0, X', hL, e1, e2, ⟨⟨u, hv, hp, hb⟩, hF⟩, st⟩ | ⟨q, st₀, t, T', L, E, ce, h0, X', hL, e1, e2, ⟨u, hp, hb, hF⟩, hce, hcv, hcl, st⟩
  · cases hv
    obtain ⟨k1, k2, k3⟩ := vx_keep h0 e1 hS hA hf hL hF
    obtain ⟨t2, a1, b1⟩ := kk u t T'.heap (locs ++ L) e1.symm (by rw [← e2]; exact X'.warmed.alike) hp hb k1 k2 k3 T' rfl X'
    exact ⟨t2, st t2 a1, b1⟩
  · obtain ⟨k1, k2, k3⟩ := vx_keep h0 e1 hS hAX hf hL hF
    obtain ⟨t2, a1, b1⟩ := kx E ce q u t T'.heap (locs ++ L) e1.symm (by rw [← e2]; exact X'.warmed.alike) hp hb k1 k2 k3 (by rw [e1]; exact hce) hcv hcl T' rfl X'
    exact ⟨t2, st.trans a1, b1⟩
end Rows
section Ends
variable {p : Program} {l : Launch} {e : Env} {R : Room} {s : State} {m : MethodId} {args : Array Value} {below : List Frame} {meth : Method} {c : Code} {H : Heap} {locs : List Loc} {cells slots : Nat} {Q : State → Prop}
variable {mc ms : Nat} {free : Addr → Prop} {A0 A1 : Nat → Prop} {H0 : Heap} {a : Array Value} {ls : Array Slot} {st0 rest : List Value}
variable {Qc : Array Value → State → Outcome → State → Prop} {XC : String → State → State → Prop}
def vx_MQ (below : List Frame) (Qc : Array Value → State → Outcome → State → Prop) (XC : String → State → State → Prop) (a : Array Value) (s : State) (mc ms : Nat) (free : Addr → Prop) : State → Prop := fun t =>
  ∃ o, t.status = .running ∧ Ended t below o ∧ vx_Q Qc XC mc ms free a s o t
theorem vx_ret {g : JFrame} {mc ms : Nat} (k : W p l e R s m args below meth c H locs cells slots (MQ below Qc args s mc ms free) g) : W p l e R s m args below meth c H locs cells slots (vx_MQ below Qc XC args s mc ms free) g := by
  intro T hT X
  obtain ⟨t, a1, o, b1, b2, b3, b4⟩ := k T hT X
  exact ⟨t, a1, o, b1, b2, Or.inl ⟨b3, b4⟩⟩
theorem vx_widen {g : JFrame} {q : Addr} {k n : Nat} (h1 : cells ≤ k) (h2 : slots ≤ n) (kk : vx_W p l e R s m args below meth c H locs k n Q g q) : vx_W p l e R s m args below meth c H locs cells slots Q g q := fun T hT X => kk T hT (stand_widen X h1 h2)
theorem vx_out {pc : Nat} {E : String} {ce : Cell} {q : Addr} {mc ms : Nat} (hout : ∀ x ∈ c.exceptionTable.toList, covers x pc = false) (hlocks : meth.locks = false) (hcell : H[q]? = some ce) (hv : ce.vm = .none) (hcl : s.vm.findClass E = some ce.cls)
    (hx : ∀ t : State, t.heap = H → s.vm.Alike t.vm → XC E s t) (hf : ∀ z ∈ locs, free z.base) (hc : cells ≤ mc) (hs : slots ≤ ms) :
    vx_W p l e R s m args below meth c H locs cells slots (vx_MQ below Qc XC args s mc ms free) (F0 m pc ls rest) q := by
  intro T hT X
  obtain ⟨st1, hrun, hend, hW, hsm⟩ := X.leaveThrown q (g := F0 m pc ls rest) rfl rfl rfl hout hlocks
  have hcell9 : (T.setFrames (.throwing q :: below)).heap[q]? = some ce := by
    show T.heap[q]? = some ce
    rw [hT]; exact hcell
  exact ⟨_, st1, .threw q, hrun, hend, Or.inr ⟨q, rfl, E, ce, locs, hx _ hT hW.alike, hcell9, hv, hcl, hW, hsm.mono hc hs, hf⟩⟩
theorem vx_frame {U : State} {k n : Nat} (h : s.sameButNew ({ U with vm := s.vm } : State) locs k n) : s.heap.size ≤ U.heap.size ∧ ∀ q : Nat, q < s.heap.size → (∀ z ∈ locs, z.base ≠ q) → U.heap[q]? = s.heap[q]? := by
  obtain ⟨-, h2, -, -, -, h6⟩ := h
  refine ⟨h2, fun q hq hz => ?_⟩
  obtain ⟨c9, e1, e2, e3, e4⟩ := h6 q _ (Array.getElem?_eq_getElem hq)
  have hs : c9.slots = (s.heap[q]).slots := Array.ext_getElem? fun i => e4 i fun hm => hz _ hm rfl
  have h9 : c9 = s.heap[q] := by
    rw [hs] at e2
    exact e2
  have e5 : U.heap[q]? = some c9 := e1
  rw [e5, h9, Array.getElem?_eq_getElem hq]
def vx_no (w : Cond) : Bool := decide (w ≠ .isRef (.static Bundle.tN "UNASSIGNED_STACK" Bundle.steD)) && decide (w ≠ .isRef (.static Bundle.tN "SUPPRESSED_SENTINEL" Bundle.listD)) && decide (w ≠ .laysStatic Bundle.tN "UNASSIGNED_STACK" Bundle.steD) && decide (w ≠ .laysStatic Bundle.tN "SUPPRESSED_SENTINEL" Bundle.listD)
def vx_at0 (own : String) (ic : Nat) (X : String) (names : List String) : List Cond := (Bundle.ownAtoms0 own ic X names).filter vx_no
def vx_atS (own : String) (ic : Nat) (X : String) (names : List String) : List Cond := (Bundle.ownAtoms own ic X names).filter vx_no
def vx_ot (w : Cond) : Bool := w.onTables || goodWord w
theorem vx_ot_at {args a' : Array Value} {s U : State} {w : Cond} (hW : s.WarmedH U.vm) (hvm : s.vm = U.vm) (hg : vx_ot w = true) (h : w.before args s = true) : w.before a' U = true := by
  simp only [vx_ot, Bool.or_eq_true] at hg
  rcases hg with hg | hg
  · exact va_tabs hg hvm h
  · exact word_at hW (good_of_word hg) h
theorem vx_hat {args : Array Value} {s : State} {L B : List Cond} (h1 : ∀ w ∈ L.filter goodWord, w.before args s = true) (h2 : ∀ w ∈ L.filter (fun w => !goodWord w), w ∈ B) (h3 : ∀ w ∈ B, w.before args s = true) : ∀ w ∈ L, w.before args s = true := by
  intro w hw
  by_cases g : goodWord w = true
  · exact h1 w (List.mem_filter.mpr ⟨hw, g⟩)
  · refine h3 w (h2 w (List.mem_filter.mpr ⟨hw, ?_⟩))
    show (!goodWord w) = true
    cases hgw : goodWord w
    · rfl
    · exact absurd hgw g
theorem vx_c {args : Array Value} {s : State} {w : Cond} {B : List Cond} (h : w.before args s = true) (t : ∀ w ∈ B, w.before args s = true) : ∀ w' ∈ w :: B, w'.before args s = true := fun w' h' => (List.mem_cons.mp h').elim (fun e => by rw [e]; exact h) (t w')
theorem vx_n {args : Array Value} {s : State} : ∀ w ∈ ([] : List Cond), w.before args s = true := fun _ h => nomatch h
theorem vx_own {args : Array Value} {s : State} {L : List Cond} (h1 : ∀ w ∈ L.filter vx_no, w.before args s = true)
    (hU : (Cond.isRef (.static Bundle.tN "UNASSIGNED_STACK" Bundle.steD)).before args s = true) (hN : (Cond.isRef (.static Bundle.tN "SUPPRESSED_SENTINEL" Bundle.listD)).before args s = true)
    (lU : (Cond.laysStatic Bundle.tN "UNASSIGNED_STACK" Bundle.steD).before args s = true) (lN : (Cond.laysStatic Bundle.tN "SUPPRESSED_SENTINEL" Bundle.listD).before args s = true) : ∀ w ∈ L, w.before args s = true := by
  intro w hw
  by_cases e1 : w = .isRef (.static Bundle.tN "UNASSIGNED_STACK" Bundle.steD)
  · rw [e1]; exact hU
  · by_cases e2 : w = .isRef (.static Bundle.tN "SUPPRESSED_SENTINEL" Bundle.listD)
    · rw [e2]; exact hN
    · by_cases e3 : w = .laysStatic Bundle.tN "UNASSIGNED_STACK" Bundle.steD
      · rw [e3]; exact lU
      · by_cases e4 : w = .laysStatic Bundle.tN "SUPPRESSED_SENTINEL" Bundle.listD
        · rw [e4]; exact lN
        · exact h1 w (List.mem_filter.mpr ⟨hw, by unfold vx_no; rw [decide_eq_true e1, decide_eq_true e2, decide_eq_true e3, decide_eq_true e4]; rfl⟩)
def vx_L (C n d : String) (A : Nat → Prop) (U : State) (H : Heap) : Prop := ∃ (c : ClassId) (k : Class) (i : Nat) (f : Field) (a : Nat) (cell : Cell), U.vm.findClass C = some c ∧ U.fieldFound? C n d = some (c, k, i, f) ∧ f.isStatic = true ∧ k.statics = some a ∧ H[a]? = some cell ∧ cell.vm.isStatics = true ∧ cell.cls = c ∧ f.slot < cell.slots.size ∧ k.staticTypes[f.slot]? = some f.type ∧ ¬ A a
theorem vx_L.moved {C n d : String} {A : Nat → Prop} {u U : State} {H : Heap} (hvm : u.vm.Alike U.vm) (h : vx_L C n d A u H) : vx_L C n d A U H := by
  obtain ⟨c, k, i, f, a, cell, h1, h2, h3, h4, h5, h6, h7, h8, h9, h10⟩ := h
  obtain ⟨k', hi', he⟩ := State.fieldFound?_setVm hvm h2
  exact ⟨c, k', i, f, a, cell, by rw [hvm.findClass]; exact h1, hi', h3, by rw [he]; exact h4, h5, h6, h7, h8, by rw [he]; exact h9, h10⟩
theorem vx_L.kept {C n d : String} {A : Nat → Prop} {U : State} {H H1 : Heap} (h : vx_L C n d A U H) (hq : ∀ a : Nat, a < H.size → ¬ A a → H1[a]? = H[a]?) : vx_L C n d A U H1 := by
  obtain ⟨c, k, i, f, a, cell, h1, h2, h3, h4, h5, h6, h7, h8, h9, h10⟩ := h
  exact ⟨c, k, i, f, a, cell, h1, h2, h3, h4, by rw [hq a (Array.getElem?_eq_some_iff.mp h5).1 h10]; exact h5, h6, h7, h8, h9, h10⟩
theorem vx_L.narrow {C n d : String} {A B : Nat → Prop} {U : State} {H : Heap} (h : vx_L C n d A U H) (hAB : ∀ q, B q → A q) : vx_L C n d B U H := by
  obtain ⟨c, k, i, f, a, cell, h1, h2, h3, h4, h5, h6, h7, h8, h9, h10⟩ := h
  exact ⟨c, k, i, f, a, cell, h1, h2, h3, h4, h5, h6, h7, h8, h9, fun z => h10 (hAB _ z)⟩
theorem vx_L.word {C n d : String} {A : Nat → Prop} {s : State} {args : Array Value} (h : vx_L C n d A s s.heap) : (Cond.laysStatic C n d).before args s = true := by
  obtain ⟨c, k, i, f, a, cell, h1, h2, h3, h4, h5, h6, h7, h8, h9, -⟩ := h
  show (Cond.laysStatic C n d).holds args s none s [] = true
  exact Cond.laysStatic_of h1 h2 h3 h4 h5 h6 h7 h8 h9
def vx_Zq (C n d : String) (A : Nat → Prop) (U : State) (H : Heap) : Prop := va_Zq C n d A U H ∧ vx_L C n d A U H
theorem vx_Zq.moved {C n d : String} {A : Nat → Prop} {u U : State} {H : Heap} (hvm : u.vm.Alike U.vm) (h : vx_Zq C n d A u H) : vx_Zq C n d A U H := ⟨va_Zq.moved hvm h.1, vx_L.moved hvm h.2⟩
theorem vx_Zq.kept {C n d : String} {A : Nat → Prop} {U : State} {H H1 : Heap} (h : vx_Zq C n d A U H) (hq : ∀ a : Nat, a < H.size → ¬ A a → H1[a]? = H[a]?) : vx_Zq C n d A U H1 := ⟨va_Zq.kept h.1 hq, vx_L.kept h.2 hq⟩
theorem vx_Zq.narrow {C n d : String} {A B : Nat → Prop} {U : State} {H : Heap} (h : vx_Zq C n d A U H) (hAB : ∀ q, B q → A q) : vx_Zq C n d B U H := ⟨va_Zq.narrow h.1 hAB, vx_L.narrow h.2 hAB⟩
theorem vx_Zqof {args : Array Value} {s : State} {C n d : String} {A : Nat → Prop} (hl : (Cond.laysStatic C n d).before args s = true) (hini : (Cond.initialized C).before args s = true) (h : (Cond.isRef (.static C n d)).before args s = true) (hA : ∀ a : Nat, a < s.heap.size → ¬ A a) : vx_Zq C n d A s s.heap := by
  refine ⟨va_Zqof hl hini h hA, ?_⟩
  obtain ⟨c, k, i, f, a, cell, h1, h2, h3, h4, h5, h6, h7, h8, h9⟩ := Cond.laysStatic_spec hl
  exact ⟨c, k, i, f, a, cell, h1, h2, h3, h4, h5, h6, h7, h8, h9, hA a (Array.getElem?_eq_some_iff.mp h5).1⟩
theorem vx_isRef {C n d : String} {v : Value} {A : Nat → Prop} {s : State} {args : Array Value} (h : va_Z C n d v A s s.heap) (hv : v.isRef = true) : (Cond.isRef (.static C n d)).before args s = true := by
  obtain ⟨cf, kf, fi, f, a, cell, h1, h2, h3, h4, h5, h6, h7, -⟩ := h
  have he : (Term.static C n d).eval args s none [] s = some v := by
    simp [Term.eval, State.fieldNamed?, h1, h2, h4, h5, h6, h7]
  simp only [Cond.before, Cond.holds, Cond.value, he]
  cases v <;> simp_all [Value.isRef]
theorem vx_isRefq {C n d : String} {A : Nat → Prop} {s : State} {args : Array Value} (h : va_Zq C n d A s s.heap) : (Cond.isRef (.static C n d)).before args s = true := by
  rcases h with h | ⟨t, h⟩
  · exact vx_isRef h rfl
  · exact vx_isRef h rfl
theorem vx_rebase {T : State} (X : Stand p l e R s m args below meth c T locs cells slots) {R' : Room} (hf : R'.frames ≤ R.frames) (hl : R'.locals ≤ R.locals) (hc : cells + R'.cells ≤ R.cells) (hs : slots + R'.slots ≤ R.slots) :
    Stand p l e R' ((T.setVm s.vm).setFrames (.invoking m args :: below)) m args below meth c T [] 0 0 := by
  have htop : (T.setVm s.vm).topJava?.isSome := X.here.top
  have hF : ((T.setVm s.vm).setFrames (.invoking m args :: below)).frames = .invoking m args :: below := State.frames_setFrames _ (State.cur_lt_of_top htop)
  obtain ⟨g₀, hg0⟩ := Option.isSome_iff_exists.mp htop
  obtain ⟨r, hr⟩ := State.topJava?_eq_some.mp hg0
  have hl9 : e.platform.stackLimits (T.setVm s.vm).me = e.platform.stackLimits s.me := X.limits
  have hb9 : (T.setVm s.vm).me.stackBytes = s.me.stackBytes := X.bytes
  refine ⟨X.admits, X.cas, X.clock, hF, ?_, X.hears, X.method, X.code, X.here, X.tail, X.warmed, ?_, ?_, ?_⟩
  · have h := X.room
    have hU : ((T.setVm s.vm).setFrames (.invoking m args :: below)).localsInUse = s.localsInUse := by
      rw [State.localsInUse_invoking hF (meth := meth) (c := c) X.method X.code, State.localsInUse_invoking X.frames X.method X.code]
    simp only [State.hasRoom, Bool.and_eq_true, decide_eq_true_eq] at h ⊢
    obtain ⟨⟨⟨⟨h1, h2, h3, h4, h5, h6⟩, h7⟩, h8⟩, h9⟩ := h
    rw [X.frames, List.length_cons] at h2 h3
    have q1 := X.heapSize
    have q2 := X.used
    simp only [hF, hU, List.length_cons, State.stackLimits_setFrames, State.stackBytes_setFrames, hl9, hb9]
    refine ⟨⟨⟨⟨by omega, by omega, by omega, by omega, by omega, h6⟩, ?_⟩, ?_⟩, X.book⟩
    · show T.heap.size + R'.cells ≤ e.platform.maxCells
      omega
    · show T.slotsUsed + R'.slots ≤ e.platform.maxSlots
      omega
  · rw [State.stackLimits_setFrames]; rfl
  · rw [State.stackBytes_setFrames]; rfl
  · refine ⟨?_, Nat.le_refl _, Nat.le_refl _, ?_, ?_, fun a c9 h9 => ⟨c9, h9, rfl, rfl, fun _ _ => rfl⟩⟩
    · obtain ⟨t, ht, -⟩ := State.frames_cons hr
      show T.setVm s.vm = { ((T.setVm s.vm).setFrames (.invoking m args :: below)).setFrames (T.setVm s.vm).frames with heap := T.heap, slotsUsed := T.slotsUsed }
      rw [State.setFrames_setFrames, State.setFrames_self ht]
      rfl
    · show T.slotsUsed = T.slotsUsed + ((T.heap.toList.drop T.heap.size).map (·.slots.size)).sum
      rw [List.drop_eq_nil_of_le (Nat.le_of_eq Array.length_toList)]
      rfl
    · show ((T.heap.toList.drop T.heap.size).map (·.slots.size)).sum ≤ 0
      rw [List.drop_eq_nil_of_le (Nat.le_of_eq Array.length_toList)]
      exact Nat.le_refl _
theorem vx_throw0 {cc : ByteArray} {pc : Nat} (hexec : p.tables.exec = Jvm.exec) (hb : c.code = cc) (hl : l.stackTraces = false) {own cls : String} {names : List String} {ik ic mc ms : Nat} {A : Nat → Prop}
    (hown : s.vm.findClass own = some m.cls) (hcls : Bundle.fit cls = true) (hnames : ∀ n ∈ names, Bundle.fit n = true)
    (hk : (Cond.classLink own ik cls).before args s = true) (hini : (Cond.initialized cls).before args s = true) (hat : ∀ w ∈ vx_at0 own ic cls names, w.before args s = true)
    (hgood : ∀ w ∈ Cond.classLink own ik cls :: Cond.initialized cls :: vx_at0 own ic cls names, vx_ot w = true)
    (hU : vx_Zq Bundle.tN "UNASSIGNED_STACK" Bundle.steD A s s.heap) (hN : vx_Zq Bundle.tN "SUPPRESSED_SENTINEL" Bundle.listD A s s.heap) (hS : va_S A s.heap H locs) (hsize : ls.size = c.maxLocals)
    (d0 : decode cc pc = .ok (.new ik, 3)) (d3 : decode cc (pc + 3) = .ok (.dup, 1)) (d4 : decode cc (pc + 4) = .ok (.invokespecial ic, 3)) (d7 : decode cc (pc + 7) = .ok (.athrow, 1))
    (hout : ∀ x ∈ c.exceptionTable.toList, covers x (pc + 7) = false)
    (hRframes : names.length + 3 < R.frames) (hRlocals : (rest.map fun v => v.category).sum + (13 * (names.length + 1) + 42) ≤ R.locals) (hRcells : cells + 1 ≤ R.cells) (hRslots : slots + 6 ≤ R.slots) (hlocks : meth.locks = false)
    (hx : ∀ t : State, s.vm.Alike t.vm → H.size ≤ t.heap.size → (∀ q : Nat, q < H.size → t.heap[q]? = H[q]?) → XC cls s t)
    (hf : ∀ z ∈ locs, free z.base) (hc : cells + 1 ≤ mc) (hs : slots + 6 ≤ ms) :
    W p l e R s m args below meth c H locs cells slots (vx_MQ below Qc XC args s mc ms free) (F0 m pc ls rest) := by
  intro T hT X
  have htr : e.platform.stackTraces = false := (show e.platform.stackTraces = l.stackTraces by rw [X.admits.platform]).trans hl
  have Y := vx_rebase X (R' := { frames := R.frames, locals := R.locals, cells := 1, slots := 6 }) (Nat.le_refl _) (Nat.le_refl _) hRcells hRslots
  obtain ⟨s', hA⟩ : ∃ z, z = (T.setVm s.vm).setFrames (.invoking m args :: below) := ⟨_, rfl⟩
  rw [← hA] at Y
  have hvm : s'.vm = s.vm := by rw [hA]; rfl
  have hhp : s'.heap = H := by rw [hA]; exact hT
  have hW0 : s.WarmedH s'.vm := by rw [hvm]; exact State.WarmedH.refl s
  have hat' : ∀ w ∈ vx_at0 own ic cls names, w.before args s' = true := fun w hw => vx_ot_at hW0 hvm.symm (hgood w (List.mem_cons_of_mem _ (List.mem_cons_of_mem _ hw))) (hat w hw)
  have hk' : (Cond.classLink own ik cls).before args s' = true := vx_ot_at hW0 hvm.symm (hgood _ List.mem_cons_self) hk
  have hini' : (Cond.initialized cls).before args s' = true := vx_ot_at hW0 hvm.symm (hgood _ (List.mem_cons_of_mem _ List.mem_cons_self)) hini
  have hU' : vx_Zq Bundle.tN "UNASSIGNED_STACK" Bundle.steD A s' s'.heap := by rw [hhp]; exact vx_Zq.moved hW0.alike (hU.kept hS.2.1)
  have hN' : vx_Zq Bundle.tN "SUPPRESSED_SENTINEL" Bundle.listD A s' s'.heap := by rw [hhp]; exact vx_Zq.moved hW0.alike (hN.kept hS.2.1)
  have h : ∀ w ∈ Bundle.ownAtoms0 own ic cls names, w.before args s' = true := vx_own hat' (vx_isRefq hU'.1) (vx_isRefq hN'.1) hU'.2.word hN'.2.word
  have hown' : s'.vm.findClass own = some m.cls := by rw [hvm]; exact hown
  have hins : (Cond.instantiable cls 6).before args s' = true := h _ (by simp [Bundle.ownAtoms0])
  obtain ⟨vm₁, cX, kX, hfX, hkX, -, -, X₁, st1⟩ := Y.newCold hexec (own := own) (C := cls) (index := ik) (n := 6) hown' hk' hins hini'
    (g := F0 m pc ls rest) rfl (by rw [hb]; exact d0) (Nat.le_refl _) (Nat.le_refl _)
  generalize hT1 : (T.setVm vm₁).pushCell { cls := cX, slots := kX.instanceTypes.map defaultValue, vm := .none } = T1 at X₁ st1
  have hcat : (Value.ref T.heap.size).category = 1 := rfl
  have hcellA : T1.heap[T.heap.size]? = some (freshCell cX kX) := by rw [← hT1]; exact State.heap_pushCell_size _ _
  have d3' : decode c.code (pc + 3) = .ok (.dup, 1) := by rw [hb]; exact d3
  obtain ⟨U, hsteps, hrun, hend, hW, hsame, ce, hce, hO⟩ := X₁.ctorThrow0 hexec htr (own := own) (cls := cls) (names := names) (ic := ic) hown' hcls hnames h (fun x hx => nomatch hx) hfX hkX hcellA (by rw [hhp, hT]; exact Nat.le_refl _)
    (g := { method := m, pc := pc + 4, locals := ls, stack := .ref T.heap.size :: .ref T.heap.size :: rest, locked := none }) rfl hsize rfl rfl (rest := rest) rfl
    (by rw [hb]; exact d4) (by rw [hb]; exact d7) hout hRframes (by simp only [List.map_cons, List.sum_cons, hcat]; omega) hlocks
  obtain ⟨f1, f2⟩ := vx_frame hsame
  rw [hhp] at f1 f2
  have hWs : s.WarmedH U.vm := State.WarmedH.trans hW0 hW
  have hcl : s.vm.findClass cls = some ce.cls := by
    have h9 := hO.cls
    rw [hvm] at h9
    exact h9
  have hall : s.sameButNew ({ U with vm := s.vm } : State) locs mc ms := by
    subst hA
    obtain ⟨e1, e2⟩ := hsame
    rw [State.setFrames_setFrames] at e1
    have h2 : (T.setVm s.vm).sameButNew ({ U with vm := s.vm } : State) [] (0 + 1) (0 + 6) := ⟨e1, e2⟩
    have h3 := X.same.trans h2
    rw [List.append_nil] at h3
    exact h3.mono hc hs
  refine ⟨U, ?_, .threw T.heap.size, hrun, hend, Or.inr ⟨T.heap.size, rfl, cls, ce, locs, hx U hWs.alike f1 (fun q hq => f2 q hq (fun z hz => nomatch hz)), hce, hO.vm, hcl, hWs, hall, hf⟩⟩
  refine st1 _ ?_
  show Steps p.tables e below (T1.setTop { method := m, pc := pc + 3, locals := ls, stack := .ref T.heap.size :: rest, locked := none }) _
  jvm_step X₁.here [X₁.here.top, hexec, d3', Value.category]
  exact hsteps
theorem vx_throwS {cc : ByteArray} {pc : Nat} (hexec : p.tables.exec = Jvm.exec) (hb : c.code = cc) (hl : l.stackTraces = false) {own cls text : String} {names : List String} {ik is ic mc ms sa : Nat} {A : Nat → Prop}
    (hown : s.vm.findClass own = some m.cls) (hcls : Bundle.fit cls = true) (hnames : ∀ n ∈ names, Bundle.fit n = true)
    (hk : (Cond.classLink own ik cls).before args s = true) (hini : (Cond.initialized cls).before args s = true) (hstr : vk_R own is text sa s) (hat : ∀ w ∈ vx_atS own ic cls names, w.before args s = true)
    (hgood : ∀ w ∈ Cond.classLink own ik cls :: Cond.initialized cls :: vx_atS own ic cls names, vx_ot w = true)
    (hU : vx_Zq Bundle.tN "UNASSIGNED_STACK" Bundle.steD A s s.heap) (hN : vx_Zq Bundle.tN "SUPPRESSED_SENTINEL" Bundle.listD A s s.heap) (hS : va_S A s.heap H locs) (hsize : ls.size = c.maxLocals)
    (d0 : decode cc pc = .ok (.new ik, 3)) (d3 : decode cc (pc + 3) = .ok (.dup, 1)) (d4 : decode cc (pc + 4) = .ok (.ldc is, 2)) (d6 : decode cc (pc + 6) = .ok (.invokespecial ic, 3)) (d9 : decode cc (pc + 9) = .ok (.athrow, 1))
    (hout : ∀ x ∈ c.exceptionTable.toList, covers x (pc + 9) = false)
    (hRframes : names.length + 3 < R.frames) (hRlocals : (rest.map fun v => v.category).sum + (13 * (names.length + 1) + 43) ≤ R.locals) (hRcells : cells + 1 ≤ R.cells) (hRslots : slots + 6 ≤ R.slots) (hlocks : meth.locks = false)
    (hx : ∀ t : State, s.vm.Alike t.vm → H.size ≤ t.heap.size → (∀ q : Nat, q < H.size → t.heap[q]? = H[q]?) → XC cls s t)
    (hf : ∀ z ∈ locs, free z.base) (hc : cells + 1 ≤ mc) (hs : slots + 6 ≤ ms) :
    W p l e R s m args below meth c H locs cells slots (vx_MQ below Qc XC args s mc ms free) (F0 m pc ls rest) := by
  intro T hT X
  have htr : e.platform.stackTraces = false := (show e.platform.stackTraces = l.stackTraces by rw [X.admits.platform]).trans hl
  have Y := vx_rebase X (R' := { frames := R.frames, locals := R.locals, cells := 1, slots := 6 }) (Nat.le_refl _) (Nat.le_refl _) hRcells hRslots
  obtain ⟨s', hA⟩ : ∃ z, z = (T.setVm s.vm).setFrames (.invoking m args :: below) := ⟨_, rfl⟩
  rw [← hA] at Y
  have hvm : s'.vm = s.vm := by rw [hA]; rfl
  have hhp : s'.heap = H := by rw [hA]; exact hT
  have hW0 : s.WarmedH s'.vm := by rw [hvm]; exact State.WarmedH.refl s
  have hat' : ∀ w ∈ vx_atS own ic cls names, w.before args s' = true := fun w hw => vx_ot_at hW0 hvm.symm (hgood w (List.mem_cons_of_mem _ (List.mem_cons_of_mem _ hw))) (hat w hw)
  have hk' : (Cond.classLink own ik cls).before args s' = true := vx_ot_at hW0 hvm.symm (hgood _ List.mem_cons_self) hk
  have hini' : (Cond.initialized cls).before args s' = true := vx_ot_at hW0 hvm.symm (hgood _ (List.mem_cons_of_mem _ List.mem_cons_self)) hini
  have hU' : vx_Zq Bundle.tN "UNASSIGNED_STACK" Bundle.steD A s' s'.heap := by rw [hhp]; exact vx_Zq.moved hW0.alike (hU.kept hS.2.1)
  have hN' : vx_Zq Bundle.tN "SUPPRESSED_SENTINEL" Bundle.listD A s' s'.heap := by rw [hhp]; exact vx_Zq.moved hW0.alike (hN.kept hS.2.1)
  have h : ∀ w ∈ Bundle.ownAtoms own ic cls names, w.before args s' = true := vx_own hat' (vx_isRefq hU'.1) (vx_isRefq hN'.1) hU'.2.word hN'.2.word
  have hown' : s'.vm.findClass own = some m.cls := by rw [hvm]; exact hown
  have hins : (Cond.instantiable cls 6).before args s' = true := h _ (by simp [Bundle.ownAtoms])
  obtain ⟨vm₁, cX, kX, hfX, hkX, -, -, X₁, st1⟩ := Y.newCold hexec (own := own) (C := cls) (index := ik) (n := 6) hown' hk' hins hini'
    (g := F0 m pc ls rest) rfl (by rw [hb]; exact d0) (Nat.le_refl _) (Nat.le_refl _)
  generalize hT1 : (T.setVm vm₁).pushCell { cls := cX, slots := kX.instanceTypes.map defaultValue, vm := .none } = T1 at X₁ st1
  have hcat : (Value.ref T.heap.size).category = 1 := rfl
  have hcellA : T1.heap[T.heap.size]? = some (freshCell cX kX) := by rw [← hT1]; exact State.heap_pushCell_size _ _
  have d3' : decode c.code (pc + 3) = .ok (.dup, 1) := by rw [hb]; exact d3
  have d4' : decode c.code (pc + 4) = .ok (.ldc is, 2) := by rw [hb]; exact d4
  have hstr' : vk_R own is text sa s' := vk_R.warm hW0 hstr
  obtain ⟨U, hsteps, hrun, hend, hW, hsame, ce, hce, hO⟩ := X₁.ctorThrowS hexec htr (own := own) (cls := cls) (names := names) (ic := ic) hown' hcls hnames h (fun x hx => nomatch hx) hfX hkX hcellA (by rw [hhp, hT]; exact Nat.le_refl _) (msg := .ref sa) rfl
    (g := { method := m, pc := pc + 6, locals := ls, stack := .ref sa :: .ref T.heap.size :: .ref T.heap.size :: rest, locked := none }) rfl hsize rfl rfl (rest := rest) rfl
    (by rw [hb]; exact d6) (by rw [hb]; exact d9) hout hRframes (by simp only [List.map_cons, List.sum_cons, hcat]; omega) hlocks
  obtain ⟨f1, f2⟩ := vx_frame hsame
  rw [hhp] at f1 f2
  have hWs : s.WarmedH U.vm := State.WarmedH.trans hW0 hW
  have hcl : s.vm.findClass cls = some ce.cls := by
    have h9 := hO.cls
    rw [hvm] at h9
    exact h9
  have hall : s.sameButNew ({ U with vm := s.vm } : State) locs mc ms := by
    subst hA
    obtain ⟨e1, e2⟩ := hsame
    rw [State.setFrames_setFrames] at e1
    have h2 : (T.setVm s.vm).sameButNew ({ U with vm := s.vm } : State) [] (0 + 1) (0 + 6) := ⟨e1, e2⟩
    have h3 := X.same.trans h2
    rw [List.append_nil] at h3
    exact h3.mono hc hs
  refine ⟨U, ?_, .threw T.heap.size, hrun, hend, Or.inr ⟨T.heap.size, rfl, cls, ce, locs, hx U hWs.alike f1 (fun q hq => f2 q hq (fun z hz => nomatch hz)), hce, hO.vm, hcl, hWs, hall, hf⟩⟩
  refine st1 _ ?_
  show Steps p.tables e below (T1.setTop { method := m, pc := pc + 3, locals := ls, stack := .ref T.heap.size :: rest, locked := none }) _
  jvm_step X₁.here [X₁.here.top, hexec, d3', Value.category]
  exact X₁.ldcString hexec (own := own) (text := text) (index := is) (a := sa) hown' hstr'.1 hstr'.2
    (g := { method := m, pc := pc + 4, locals := ls, stack := .ref T.heap.size :: .ref T.heap.size :: rest, locked := none }) rfl d4' _ hsteps
theorem vx_throwSW {cc : ByteArray} {pc : Nat} (hexec : p.tables.exec = Jvm.exec) (hb : c.code = cc) (hl : l.stackTraces = false) {own cls text : String} {names : List String} {ik is ic mc ms sa : Nat} {A : Nat → Prop}
    (hown : s.vm.findClass own = some m.cls) (hcls : Bundle.fit cls = true) (hnames : ∀ n ∈ names, Bundle.fit n = true)
    (hk : (Cond.classLink own ik cls).before args s = true) (hini : (Cond.initialized cls).before args s = true) (hstr : vk_R own is text sa s) (hat : ∀ w ∈ vx_atS own ic cls names, w.before args s = true)
    (hgood : ∀ w ∈ Cond.classLink own ik cls :: Cond.initialized cls :: vx_atS own ic cls names, vx_ot w = true)
    (hU : vx_Zq Bundle.tN "UNASSIGNED_STACK" Bundle.steD A s s.heap) (hN : vx_Zq Bundle.tN "SUPPRESSED_SENTINEL" Bundle.listD A s s.heap) (hS : va_S A s.heap H locs) (hsize : ls.size = c.maxLocals)
    (d0 : decode cc pc = .ok (.new ik, 3)) (d3 : decode cc (pc + 3) = .ok (.dup, 1)) (d4 : decode cc (pc + 4) = .ok (.ldc_w is, 3)) (d7 : decode cc (pc + 7) = .ok (.invokespecial ic, 3)) (d10 : decode cc (pc + 10) = .ok (.athrow, 1))
    (hout : ∀ x ∈ c.exceptionTable.toList, covers x (pc + 10) = false)
    (hRframes : names.length + 3 < R.frames) (hRlocals : (rest.map fun v => v.category).sum + (13 * (names.length + 1) + 43) ≤ R.locals) (hRcells : cells + 1 ≤ R.cells) (hRslots : slots + 6 ≤ R.slots) (hlocks : meth.locks = false)
    (hx : ∀ t : State, s.vm.Alike t.vm → H.size ≤ t.heap.size → (∀ q : Nat, q < H.size → t.heap[q]? = H[q]?) → XC cls s t)
    (hf : ∀ z ∈ locs, free z.base) (hc : cells + 1 ≤ mc) (hs : slots + 6 ≤ ms) :
    W p l e R s m args below meth c H locs cells slots (vx_MQ below Qc XC args s mc ms free) (F0 m pc ls rest) := by
  intro T hT X
  have htr : e.platform.stackTraces = false := (show e.platform.stackTraces = l.stackTraces by rw [X.admits.platform]).trans hl
  have Y := vx_rebase X (R' := { frames := R.frames, locals := R.locals, cells := 1, slots := 6 }) (Nat.le_refl _) (Nat.le_refl _) hRcells hRslots
  obtain ⟨s', hA⟩ : ∃ z, z = (T.setVm s.vm).setFrames (.invoking m args :: below) := ⟨_, rfl⟩
  rw [← hA] at Y
  have hvm : s'.vm = s.vm := by rw [hA]; rfl
  have hhp : s'.heap = H := by rw [hA]; exact hT
  have hW0 : s.WarmedH s'.vm := by rw [hvm]; exact State.WarmedH.refl s
  have hat' : ∀ w ∈ vx_atS own ic cls names, w.before args s' = true := fun w hw => vx_ot_at hW0 hvm.symm (hgood w (List.mem_cons_of_mem _ (List.mem_cons_of_mem _ hw))) (hat w hw)
  have hk' : (Cond.classLink own ik cls).before args s' = true := vx_ot_at hW0 hvm.symm (hgood _ List.mem_cons_self) hk
  have hini' : (Cond.initialized cls).before args s' = true := vx_ot_at hW0 hvm.symm (hgood _ (List.mem_cons_of_mem _ List.mem_cons_self)) hini
  have hU' : vx_Zq Bundle.tN "UNASSIGNED_STACK" Bundle.steD A s' s'.heap := by rw [hhp]; exact vx_Zq.moved hW0.alike (hU.kept hS.2.1)
  have hN' : vx_Zq Bundle.tN "SUPPRESSED_SENTINEL" Bundle.listD A s' s'.heap := by rw [hhp]; exact vx_Zq.moved hW0.alike (hN.kept hS.2.1)
  have h : ∀ w ∈ Bundle.ownAtoms own ic cls names, w.before args s' = true := vx_own hat' (vx_isRefq hU'.1) (vx_isRefq hN'.1) hU'.2.word hN'.2.word
  have hown' : s'.vm.findClass own = some m.cls := by rw [hvm]; exact hown
  have hins : (Cond.instantiable cls 6).before args s' = true := h _ (by simp [Bundle.ownAtoms])
  obtain ⟨vm₁, cX, kX, hfX, hkX, -, -, X₁, st1⟩ := Y.newCold hexec (own := own) (C := cls) (index := ik) (n := 6) hown' hk' hins hini'
    (g := F0 m pc ls rest) rfl (by rw [hb]; exact d0) (Nat.le_refl _) (Nat.le_refl _)
  generalize hT1 : (T.setVm vm₁).pushCell { cls := cX, slots := kX.instanceTypes.map defaultValue, vm := .none } = T1 at X₁ st1
  have hcat : (Value.ref T.heap.size).category = 1 := rfl
  have hcellA : T1.heap[T.heap.size]? = some (freshCell cX kX) := by rw [← hT1]; exact State.heap_pushCell_size _ _
  have d3' : decode c.code (pc + 3) = .ok (.dup, 1) := by rw [hb]; exact d3
  have d4' : decode c.code (pc + 4) = .ok (.ldc_w is, 3) := by rw [hb]; exact d4
  have hstr' : vk_R own is text sa s' := vk_R.warm hW0 hstr
  obtain ⟨U, hsteps, hrun, hend, hW, hsame, ce, hce, hO⟩ := X₁.ctorThrowS hexec htr (own := own) (cls := cls) (names := names) (ic := ic) hown' hcls hnames h (fun x hx => nomatch hx) hfX hkX hcellA (by rw [hhp, hT]; exact Nat.le_refl _) (msg := .ref sa) rfl
    (g := { method := m, pc := pc + 7, locals := ls, stack := .ref sa :: .ref T.heap.size :: .ref T.heap.size :: rest, locked := none }) rfl hsize rfl rfl (rest := rest) rfl
    (by rw [hb]; exact d7) (by rw [hb]; exact d10) hout hRframes (by simp only [List.map_cons, List.sum_cons, hcat]; omega) hlocks
  obtain ⟨f1, f2⟩ := vx_frame hsame
  rw [hhp] at f1 f2
  have hWs : s.WarmedH U.vm := State.WarmedH.trans hW0 hW
  have hcl : s.vm.findClass cls = some ce.cls := by
    have h9 := hO.cls
    rw [hvm] at h9
    exact h9
  have hall : s.sameButNew ({ U with vm := s.vm } : State) locs mc ms := by
    subst hA
    obtain ⟨e1, e2⟩ := hsame
    rw [State.setFrames_setFrames] at e1
    have h2 : (T.setVm s.vm).sameButNew ({ U with vm := s.vm } : State) [] (0 + 1) (0 + 6) := ⟨e1, e2⟩
    have h3 := X.same.trans h2
    rw [List.append_nil] at h3
    exact h3.mono hc hs
  refine ⟨U, ?_, .threw T.heap.size, hrun, hend, Or.inr ⟨T.heap.size, rfl, cls, ce, locs, hx U hWs.alike f1 (fun q hq => f2 q hq (fun z hz => nomatch hz)), hce, hO.vm, hcl, hWs, hall, hf⟩⟩
  refine st1 _ ?_
  show Steps p.tables e below (T1.setTop { method := m, pc := pc + 3, locals := ls, stack := .ref T.heap.size :: rest, locked := none }) _
  jvm_step X₁.here [X₁.here.top, hexec, d3', Value.category]
  exact X₁.ldcStringW hexec (own := own) (text := text) (index := is) (a := sa) hown' hstr'.1 hstr'.2
    (g := { method := m, pc := pc + 4, locals := ls, stack := .ref T.heap.size :: .ref T.heap.size :: rest, locked := none }) rfl d4' _ hsteps
end Ends
section Bodies
variable {l : Launch}
theorem vx_ofW {y : MethodName} {ws ws' : List Cond} {rm : Room} {Pc : Array Value → State → Prop} {Qc : Array Value → State → Outcome → State → Prop} {XC : String → State → State → Prop} {mc ms : Nat} {free : Addr → Prop} {cc : ByteArray} {maxL : Nat} {ret : Option FieldType}
    (hy : plainName y.cls = true) (hw : ws = Cond.code y cc maxL ret :: ws')
    (body : ∀ p e s m args below meth c s₁, BodyLoose p l y (headSpec ws rm) cc maxL ret e s m args below meth c s₁ → c.maxLocals = maxL → (∀ x ∈ c.exceptionTable.toList, False) → Pc args s →
      W p l e (headSpec ws rm).room s m args below meth c s.heap [] 0 0 (vx_MQ below Qc XC args s mc ms free) (entryFrame m args maxL)) : vx_Met l y ws rm Pc Qc XC mc ms free := by
  refine MetFree.of_bodyS (code := cc) (maxLocals := maxL) (ret := ret) hy ?_ ?_
  · intro args s m h hn
    obtain ⟨meth, c, h1, h2, h3, h4, h5, h6, -, -⟩ := Cond.code_spec hn (atoms_spec (ws := ws) h _ (by rw [hw]; exact List.mem_cons_self))
    exact ⟨meth, c, h1, h2, h3, h4, h5, h6⟩
  · intro p e s m args below meth c s₁ B hml hP _
    have hh0 : s₁.heap = s.heap := by rw [B.state]; rfl
    have ht : ∀ x ∈ c.exceptionTable.toList, False := by
      obtain ⟨meth9, c9, h1, h2, -, -, -, -, h7, -⟩ := Cond.code_spec B.named (atoms_spec (ws := ws) B.pre _ (by rw [hw]; exact List.mem_cons_self))
      cases Option.some.inj (h1.symm.trans B.method)
      cases Option.some.inj (h2.symm.trans (Stand.of_body B).code)
      intro x hx
      rw [Array.isEmpty_iff.mp h7] at hx
      cases hx
    obtain ⟨t, a1, o, b1, b2, b3⟩ := body p e s m args below meth c s₁ B hml ht hP s₁ hh0 (Stand.of_body B)
    exact ⟨t, o, a1, b1, b2, b3⟩
theorem vx_table {p : Program} {x y : MethodName} {S : Spec} {cc bytes : ByteArray} {maxL maxL' : Nat} {ret ret' : Option FieldType} {e : Env} {s s₁ : State} {m : MethodId} {args : Array Value} {below : List Frame} {meth : Method} {c : Code} {hh : List (Nat × Nat × Nat × Nat)}
    (B : BodyLoose p l y S cc maxL ret e s m args below meth c s₁) (h : (Cond.codeWith y bytes maxL' ret' hh).before args s = true) : c.exceptionTable.toList = tableOf hh := by
  obtain ⟨m9, meth9, c9, hn9, h1, h2, -, -, h6, -⟩ := Cond.codeWith_spec h
  cases Option.some.inj (hn9.symm.trans B.named)
  cases Option.some.inj (h1.symm.trans B.method)
  cases Option.some.inj (h2.symm.trans (Stand.of_body B).code)
  rw [← h6, table_eq]
end Bodies
end VXA
/-! ===== END ===== -/
/-! ===== BEGIN a static call of a method with an exception table ===== -/
section VXS
variable {p : Program} {l : Launch} {e : Env} {R : Room} {s : State} {m : MethodId} {args : Array Value} {below : List Frame} {meth : Method} {c : Code} {T : State} {H : Heap} {locs : List Loc} {cells slots : Nat}
abbrev vx_CSW (R : Room) (s : State) (args : Array Value) (own : String) (index : Nat) (y : MethodName) (bytes : ByteArray) (maxL : Nat) (ret : Option FieldType) (hh : List (Nat × Nat × Nat × Nat)) (ws : List Cond) (rm : Room) (mc ms n : Nat) : Prop :=
  (rm.cells = mc ∧ rm.slots = ms ∧ rm.frames + 1 ≤ R.frames ∧ 8 + (maxL + 11) + rm.locals ≤ R.locals ∧ (∀ w ∈ ws, ∀ (a' : Array Value) (U : State), s.WarmedH U.vm → w.before a' U = true) ∧ Cond.codeWith y bytes maxL ret hh ∈ ws) ∧
  (Cond.codeWith y bytes maxL ret hh).before args s = true ∧ (Cond.initialized y.cls).before args s = true ∧ (y.cls ≠ "java/lang/invoke/MethodHandle" ∧ y.cls ≠ "java/lang/invoke/VarHandle") ∧
  (∀ sig, parseMethodDescriptor y.desc = some sig → n = sig.parameters.length) ∧ (Cond.methodLink own index y).before args s = true ∧ (Cond.static y).before args s = true
theorem vx_cwSW {own : String} {index maxL mc ms : Nat} {y : MethodName} {bytes : ByteArray} {ret : Option FieldType} {hh : List (Nat × Nat × Nat × Nat)} {Ts ws ws' : List Cond} {rm : Room} (n : Nat) (ht : ∀ w ∈ Ts, w.before args s = true) (hT : GoodIn Ts (va_wsS own index y ws)) (hw : ws = Cond.codeWith y bytes maxL ret hh :: ws') (hrc : rm.cells = mc) (hrs : rm.slots = ms)
    (hd : y.cls ≠ "java/lang/invoke/MethodHandle" ∧ y.cls ≠ "java/lang/invoke/VarHandle" ∧ (parseMethodDescriptor y.desc).map (fun d => d.parameters.length) = some n) (hR : rm.frames + 1 ≤ R.frames ∧ 8 + (maxL + 11) + rm.locals ≤ R.locals) :
    vx_CSW R s args own index y bytes maxL ret hh ws rm mc ms n := by
  have ok : ∀ w ∈ va_wsS own index y ws, w.before args s = true := fun w h => ht w (hT w h).1
  have hG : GoodIn Ts ws := fun w h => hT w (by unfold va_wsS; exact List.mem_append_right _ h)
  have hc : Cond.codeWith y bytes maxL ret hh ∈ ws := by rw [hw]; exact List.mem_cons_self
  refine ⟨⟨hrc, hrs, hR.1, hR.2, pay_in ht hG, hc⟩, ht _ (hG _ hc).1, ok _ (by simp [va_wsS]), ⟨hd.1, hd.2.1⟩, fun sig h => ?_, ok _ (by simp [va_wsS]), ok _ (by simp [va_wsS])⟩
  have h2 := hd.2.2
  rw [h] at h2
  exact (Option.some.inj h2).symm
theorem vx_callSW (X : Stand p l e R s m args below meth c T locs cells slots) (hexec : p.tables.exec = Jvm.exec) {own : String} {index : Nat} {y : MethodName} {bytes : ByteArray} {maxL : Nat} {ret : Option FieldType} {hh : List (Nat × Nat × Nat × Nat)}
    (hown : s.vm.findClass own = some m.cls) (hlink : (Cond.methodLink own index y).before args s = true) (hstat : (Cond.static y).before args s = true) (hinit : (Cond.initialized y.cls).before args s = true)
    (hcode : (Cond.codeWith y bytes maxL ret hh).before args s = true) (hy : y.cls ≠ "java/lang/invoke/MethodHandle" ∧ y.cls ≠ "java/lang/invoke/VarHandle")
    {W9 : Nat} {Pre : Pt → Array Value → Prop} {Post : Pt → Array Value → Option Value → Pt → Prop} (hK : Back l R p e below s args y 3 W9 Pre Post)
    {g : JFrame} (hg : g.method = m) (hsize : g.locals.size = c.maxLocals) {argsL rest : List Value} (hlen : ∀ sig, parseMethodDescriptor y.desc = some sig → argsL.length = sig.parameters.length)
    (hstack : g.stack = argsL.reverse ++ rest) (hW : 2 * g.monitorRoom + (rest.map fun v => v.category).sum ≤ W9) (hdg : decode c.code g.pc = .ok (.invokestatic index, 3))
    (hpre : ∀ vm₁, s.WarmedH vm₁ → Pre ⟨T.setVm vm₁, locs, cells, slots⟩ argsL.toArray) :
    ∃ (v : Option Value) (vm₁ : Vm) (B : Pt), s.WarmedH vm₁ ∧ Stand p l e R s m args below meth c B.U B.locs B.cells B.slots ∧ Post ⟨T.setVm vm₁, locs, cells, slots⟩ argsL.toArray v B ∧
      ∀ target, Steps p.tables e below (B.U.setTop { g with pc := g.pc + 3, stack := v.toList ++ rest }) target → Steps p.tables e below (T.setTop g) target := by
  obtain ⟨mk, methM, cM, hnamed, hmethM, -, -, -, -, -, -, hsigM⟩ := Cond.codeWith_spec hcode
  have hstatic : methM.isStatic = true := Cond.static_spec hnamed hmethM hstat
  obtain ⟨kP, hkP, -⟩ := className_of_methodNamed hnamed
  have hinitP : kP.init = .initialized := Cond.initialized_spec (findClass_of_methodNamed hnamed) hkP hinit
  obtain ⟨vm₁, X₁, hstep₁⟩ := X.invokestatic hexec hown hlink hnamed hmethM hstatic hkP hinitP hy (g := g) hg (argsL := argsL) (rest := rest) (hlen _ hsigM) hstack hdg
  obtain ⟨v, B, X', hpost, hsteps⟩ := hK m meth c ⟨T.setVm vm₁, locs, cells, slots⟩ { g with stack := rest } (.invokestatic index) mk argsL.toArray X₁ hg hsize hdg hW (X₁.named hnamed) (hpre vm₁ X₁.warmed)
  exact ⟨v, vm₁, B, X₁.warmed, X', hpost, fun target h => hstep₁ _ fun acts => by rw [doInvoke_state]; exact hsteps.trans h⟩
theorem vx_runSW {y : MethodName} {bytes cc : ByteArray} {maxL nL mc ms n index : Nat} {ret : Option FieldType} {hh : List (Nat × Nat × Nat × Nat)} {ws : List Cond} {rm : Room} {Pc : Array Value → State → Prop} {Qc : Array Value → State → Outcome → State → Prop} {free : Addr → Prop} {Ts : List Cond} {own : String} {As rest : List Value} {g : JFrame}
    (S : CallFix p m c cc nL s args Ts own) (hM : Met l y ws rm Pc Qc mc ms free) (cw : vx_CSW R s args own index y bytes maxL ret hh ws rm mc ms n) (hp : PreS s H Pc As)
    (hg : g.method = m) (hn : As.length = n) (hsize : g.locals.size = nL) (hstack : g.stack = As.reverse ++ rest) (hW : 2 * g.monitorRoom + (rest.map fun v => v.category).sum ≤ 8) (hdg : decode cc g.pc = .ok (.invokestatic index, 3)) (hf : cells + mc ≤ R.cells ∧ slots + ms ≤ R.slots) :
    va_Run p l e R s m args below meth c H locs cells slots mc ms g rest (Qc As.toArray) (free) := by
  obtain ⟨⟨hrc, hrs, hfr, hlo, hws, hcw⟩, hcode, hini, hy, hlen, hl, hstt⟩ := cw
  have hK : Back l R p e below s args y 3 8 (PreOf R mc ms Pc) (PostOf Qc mc ms free) := va_backW (hh := hh) (bytes := bytes) (maxL := maxL) (ret := ret) hM hp.1 hrc hrs hfr hlo hws hcw (fun a' U hW => word_at hW (Or.inl (by first | rfl | simp [Cond.onTables, Cond.keeps, Cond.steady])) hini)
  obtain ⟨hx, hb, hml, ho, -⟩ := S
  intro T hT X
  obtain ⟨v, vm₁, ⟨U', l2, c2, s2⟩, hW₁, X', ⟨g', mk, t, L, e1, e2, hq, h1, hL, h2, h3⟩, st⟩ := vx_callSW X hx (hh := hh) (bytes := bytes) (maxL := maxL) (ret := ret) ho hl hstt hini hcode hy hK hg (hsize.trans hml.symm) (argsL := As) (rest := rest) (fun sig h => hn.trans (hlen sig h)) hstack hW (by rw [hb]; exact hdg)
    (fun vm₁ hW₁ => ⟨hf.1, hf.2, hp.2 (T.setVm vm₁) hT hW₁⟩)
  dsimp only [Pt.U, Pt.locs, Pt.cells, Pt.slots] at X' e1 e2 h1 h2 h3 st
  subst h1; subst h2; subst h3
  exact ⟨v, (T.setVm vm₁).calling g' mk As.toArray, t, U', L, hT, X', hL, e1, e2, hq, st⟩
theorem vx_lt {D : va_G} {cl : List vw_C} {ws : va_W} {H1 : Heap} (h : va_P D cl ws H1) {k : Nat} {q : Nat × va_E} (hk : ws[k]? = some q) : q.1 < H1.size := (h k q hk).lt
end VXS
/-! ===== END ===== -/
/-! ===== BEGIN methods with a table of their own: called by a name, returning or throwing ===== -/
section VXH
/-! vx_backW, vx_callVX, vx_callSX, vx_callVW, vx_runVW, vx_runVX, vx_runSX, vx_ofWH follow the same proofs as their sisters above (Free/Laws.lean, Shelf42/LK1.lean); vx_outP calls Shelf42/NT130.lean (outThrough). -/
section
variable {l : Launch} {R : Room} {p : Program} {e : Env} {below : List Frame} {s : State} {sargs : Array Value} {y : MethodName} {len W9 : Nat}
theorem vx_backW {ws : List Cond} {rm : Room} {Pc : Array Value → State → Prop} {Qc : Array Value → State → Outcome → State → Prop} {XC : String → State → State → Prop} {mc ms : Nat} {free : Addr → Prop} {bytes : ByteArray} {maxL : Nat} {ret : Option FieldType} {hh : List (Nat × Nat × Nat × Nat)}
    (hM : vx_Met l y ws rm Pc Qc XC mc ms free) (hblind : FrameBlind Pc) (hrc : rm.cells = mc) (hrs : rm.slots = ms)
    (hframes : rm.frames + 1 ≤ R.frames) (hlocals : W9 + (maxL + 11) + rm.locals ≤ R.locals)
    (hws : ∀ w ∈ ws, ∀ a' U, s.WarmedH U.vm → w.before a' U = true) (hcode : Cond.codeWith y bytes maxL ret hh ∈ ws) (hinit : ∀ a' U, s.WarmedH U.vm → (Cond.initialized y.cls).before a' U = true) :
    vx_Back l R p e below s sargs y len W9 (PreOf R mc ms Pc) (PostOf Qc mc ms free) (vx_Post XC mc ms free) := by
  intro m meth c A g ig mk a X hg hsize hdg hW hn hp
  have h1 : (headSpec ws rm).pre.before a A.U = true := atoms_intro fun w hw => hws w hw _ _ X.warmed
  have h2 : (Cond.codeWith y bytes maxL ret hh).before a A.U = true := hws _ hcode _ _ X.warmed
  have h3 : (Cond.initialized y.cls).before a A.U = true := hinit _ _ X.warmed
  have h4 : A.cells + (headSpec ws rm).room.cells ≤ R.cells := by rw [show (headSpec ws rm).room.cells = mc from hrc]; exact hp.1
  have h5 : A.slots + (headSpec ws rm).room.slots ≤ R.slots := by rw [show (headSpec ws rm).room.slots = ms from hrs]; exact hp.2.1
  have hPc : Pc a (A.U.calling g mk a) := hblind _ _ _ _ hp.2.2
  obtain ⟨U, Ls, c0, s0⟩ := A
  dsimp only [Pt.U, Pt.locs, Pt.cells, Pt.slots] at h1 h2 h3 h4 h5 X hn hPc ⊢
  obtain ⟨m9, methY, cY, hn9, hmY, hcY, -, hlY, -⟩ := Cond.codeWith_spec h2
  cases Option.some.inj (hn9.symm.trans hn)
  obtain ⟨kY, hkY, -⟩ := className_of_methodNamed hn
  have hinitY : kY.init = .initialized := Cond.initialized_spec (findClass_of_methodNamed hn) hkY h3
  have h : At U g.method c below := by rw [hg]; exact X.here
  have hlocals9 : W9 + (maxL + 11) + (headSpec ws rm).room.locals ≤ R.locals := hlocals
  have happ : (headSpec ws rm).appliesLoose y e.platform (U.calling g mk a) = true :=
    Spec.appliesLoose_calling (g := g) h hdg hn hkY hinitY
      (X.room_calling (g := g) (R' := (headSpec ws rm).room) hsize hmY hcY hframes (by rw [hlY]; omega) h4 h5) h1
  obtain ⟨mid, hmid⟩ := h.above
  have hfr : (U.setTop g).frames = (.java g :: mid) ++ below := by rw [State.frames_setTop' g h.top, hmid]; rfl
  obtain ⟨o, s₂, hsteps, -, hend, hq⟩ := Steps.callFree hM p X.admits X.cas X.clock (acts := []) hfr happ hPc trivial
  have hq' : vx_Q Qc XC mc ms free a (U.calling g mk a) o s₂ := hq
  rw [State.frames_setTop' g h.top] at hend
  obtain ⟨g₀, hg0⟩ := Option.isSome_iff_exists.mp h.top
  obtain ⟨r, hr⟩ := State.topJava?_eq_some.mp hg0
  have hr' : (({ U with heap := s₂.heap, slotsUsed := s₂.slotsUsed } : State).setVm s₂.vm).frames = .java g₀ :: r := hr
  rcases hq' with ⟨hqc, L, hfe, hL⟩ | ⟨q, rfl, E, ce, L, hx, hce, hcv, hcl, hW₂, hsm, hL⟩
  · obtain ⟨⟨v, rfl⟩, hW₂, e2, q2, q3, q4, q5, q6⟩ := id hfe
    have e3 : s₂ = ({ (U.calling g mk a).setFrames s₂.frames with heap := s₂.heap, slotsUsed := s₂.slotsUsed } : State).setVm s₂.vm := by
      have : s₂ = ({ s₂ with vm := (U.calling g mk a).vm } : State).setVm s₂.vm := rfl
      rw [e2] at this
      exact this
    obtain ⟨c₂, i₂, len₂, hc₂, hd₂, hf₂⟩ := hend
    have hW' : U.WarmedH s₂.vm := hW₂
    have hcc : c₂ = c := by
      have h1 : s₂.code? g.method = U.code? g.method := by
        rw [State.code?_eq, State.code?_eq, hW'.alike.method?]
      exact Option.some.inj (hc₂.symm.trans (h1.trans h.code))
    subst hcc
    have hlen : len₂ = len := by rw [hdg] at hd₂; cases hd₂; rfl
    subst hlen
    have hs₂ : s₂ = (({ U with heap := s₂.heap, slotsUsed := s₂.slotsUsed } : State).setVm s₂.vm).setTop { g with pc := g.pc + len₂, stack := v.toList ++ g.stack } := by
      refine e3.trans ?_
      rw [hf₂, State.calling_eq h.top, State.setFrames_setFrames, State.setTop_of_frames _ hr', hr]
      rfl
    have hsame : U.sameButNew ({ U with heap := s₂.heap, slotsUsed := s₂.slotsUsed } : State) L mc ms := by
      refine ⟨?_, q2, q3, q4, q5, q6⟩
      obtain ⟨t, ht, -⟩ := State.frames_cons hr
      show ({ U with heap := s₂.heap, slotsUsed := s₂.slotsUsed } : State) = { U.setFrames U.frames with heap := s₂.heap, slotsUsed := s₂.slotsUsed }
      rw [State.setFrames_self ht]
    subst hg
    refine Or.inl ⟨v, ⟨(({ U with heap := s₂.heap, slotsUsed := s₂.slotsUsed } : State).setVm s₂.vm), Ls ++ L, c0 + mc, s0 + ms⟩,
      ⟨X.admits, X.cas, X.clock, X.frames, X.room, X.hears, X.method, X.code, (X.here.setHeapUsed s₂.heap s₂.slotsUsed).setVm hW'.alike, X.tail, State.WarmedH.trans X.warmed hW', X.limits, X.bytes, X.same.trans (hsame.setVm s.vm)⟩,
      ⟨g, mk, s₂, L, rfl, rfl, hqc, rfl, hL, rfl, rfl⟩, ?_⟩
    show Steps p.tables e below _ ((({ U with heap := s₂.heap, slotsUsed := s₂.slotsUsed } : State).setVm s₂.vm).setTop { g with pc := g.pc + len₂, stack := v.toList ++ g.stack })
    rw [← hs₂]
    exact hsteps
  · obtain ⟨e2, q2, q3, q4, q5, q6⟩ := id hsm
    have e3 : s₂ = ({ (U.calling g mk a).setFrames s₂.frames with heap := s₂.heap, slotsUsed := s₂.slotsUsed } : State).setVm s₂.vm := by
      have : s₂ = ({ s₂ with vm := (U.calling g mk a).vm } : State).setVm s₂.vm := rfl
      rw [e2] at this
      exact this
    have hf₂ : s₂.frames = .throwing q :: .java g :: U.frames.tail := hend
    have hW' : U.WarmedH s₂.vm := hW₂
    have hs₂ : s₂ = ((({ U with heap := s₂.heap, slotsUsed := s₂.slotsUsed } : State).setVm s₂.vm).setTop g).pushFrame (.throwing q) := by
      refine e3.trans ?_
      rw [hf₂, State.calling_eq h.top, State.setFrames_setFrames, State.pushFrame, State.frames_setTop _ hr', State.setTop_of_frames _ hr', State.setFrames_setFrames, hr]
      rfl
    have hsame : U.sameButNew ({ U with heap := s₂.heap, slotsUsed := s₂.slotsUsed } : State) L mc ms := by
      refine ⟨?_, q2, q3, q4, q5, q6⟩
      obtain ⟨t, ht, -⟩ := State.frames_cons hr
      show ({ U with heap := s₂.heap, slotsUsed := s₂.slotsUsed } : State) = { U.setFrames U.frames with heap := s₂.heap, slotsUsed := s₂.slotsUsed }
      rw [State.setFrames_self ht]
    subst hg
    refine Or.inr ⟨q, ⟨(({ U with heap := s₂.heap, slotsUsed := s₂.slotsUsed } : State).setVm s₂.vm), Ls ++ L, c0 + mc, s0 + ms⟩,
      ⟨X.admits, X.cas, X.clock, X.frames, X.room, X.hears, X.method, X.code, (X.here.setHeapUsed s₂.heap s₂.slotsUsed).setVm hW'.alike, X.tail, State.WarmedH.trans X.warmed hW', X.limits, X.bytes, X.same.trans (hsame.setVm s.vm)⟩,
      ⟨g, mk, s₂, L, E, ce, rfl, rfl, hx, hce, hcv, hcl, rfl, hL, rfl, rfl⟩, ?_⟩
    show Steps p.tables e below _ (((({ U with heap := s₂.heap, slotsUsed := s₂.slotsUsed } : State).setVm s₂.vm).setTop g).pushFrame (.throwing q))
    rw [← hs₂]
    exact hsteps
end
variable {p : Program} {l : Launch} {e : Env} {R : Room} {s : State} {m : MethodId} {args : Array Value} {below : List Frame} {meth : Method} {c : Code} {T : State} {H : Heap} {locs : List Loc} {cells slots : Nat}
theorem vx_callVX (X : Stand p l e R s m args below meth c T locs cells slots) (hexec : p.tables.exec = Jvm.exec) {own C : String} {index : Nat} {y : MethodName} {bytes : ByteArray} {maxL : Nat} {ret : Option FieldType} {hh : List (Nat × Nat × Nat × Nat)}
    (hown : s.vm.findClass own = some m.cls) (hlink : (Cond.methodLink own index y).before args s = true) (hinst : (Cond.instanceMethod y).before args s = true) (hsel : (Cond.selects C y y).before args s = true)
    (hcode : (Cond.codeWith y bytes maxL ret hh).before args s = true) (hy : y.cls ≠ "java/lang/invoke/MethodHandle" ∧ y.cls ≠ "java/lang/invoke/VarHandle")
    {W9 : Nat} {Pre : Pt → Array Value → Prop} {Post : Pt → Array Value → Option Value → Pt → Prop} {PostX : Pt → Array Value → Addr → Pt → Prop} (hK : vx_Back l R p e below s args y 3 W9 Pre Post PostX)
    {b : Addr} {cellB : Cell} (hcell : T.heap[b]? = some cellB) (hobj : cellB.vm.isStatics = false) (hcls : s.vm.findClass C = some cellB.cls)
    {g : JFrame} (hg : g.method = m) (hsize : g.locals.size = c.maxLocals) {argsL rest : List Value} (hlen : ∀ sig, parseMethodDescriptor y.desc = some sig → argsL.length = sig.parameters.length)
    (hstack : g.stack = argsL.reverse ++ .ref b :: rest) (hW : 2 * g.monitorRoom + (rest.map fun v => v.category).sum ≤ W9) (hdg : decode c.code g.pc = .ok (.invokevirtual index, 3))
    (hpre : ∀ vm₁, s.WarmedH vm₁ → Pre ⟨T.setVm vm₁, locs, cells, slots⟩ (Value.ref b :: argsL).toArray) :
    (∃ (v : Option Value) (vm₁ : Vm) (B : Pt), s.WarmedH vm₁ ∧ Stand p l e R s m args below meth c B.U B.locs B.cells B.slots ∧ Post ⟨T.setVm vm₁, locs, cells, slots⟩ (Value.ref b :: argsL).toArray v B ∧
      ∀ target, Steps p.tables e below (B.U.setTop { g with pc := g.pc + 3, stack := v.toList ++ rest }) target → Steps p.tables e below (T.setTop g) target) ∨
    (∃ (q : Addr) (vm₁ : Vm) (B : Pt), s.WarmedH vm₁ ∧ Stand p l e R s m args below meth c B.U B.locs B.cells B.slots ∧ PostX ⟨T.setVm vm₁, locs, cells, slots⟩ (Value.ref b :: argsL).toArray q B ∧
      Steps p.tables e below (T.setTop g) ((B.U.setTop { g with stack := rest }).pushFrame (.throwing q))) := by
  obtain ⟨mk, methM, hnamed, hmethM, hstM, habM⟩ := Cond.instanceMethod_spec hinst
  obtain ⟨m8, methM', cM, hn8, hmethM', -, -, -, -, -, -, hsigM⟩ := Cond.codeWith_spec hcode
  cases Option.some.inj (hn8.symm.trans hnamed)
  cases hmethM.symm.trans hmethM'
  obtain ⟨c2, r2, m2, q1, q2, q3, q4, kP, hkP, hkPi⟩ := Cond.selects_spec hsel
  cases hcls.symm.trans q1
  cases (State.methodFound?_of_named hnamed hy).symm.trans q2
  cases hnamed.symm.trans q3
  have hselP : selectMethod e.platform s.vm cellB.cls mk = .method mk := by rw [Launch.admits_selectMethod X.admits]; exact q4
  obtain ⟨vm₁, X₁, hstep₁⟩ := X.invokevirtual hexec hown hlink hnamed hmethM hstM hkP hkPi hy (a := b) (cell := cellB) hcell
    (fun z h => by rw [h] at hobj; cases hobj) hselP hmethM habM hkP hkPi (g := g) hg (argsL := argsL) (rest := rest) (hlen _ hsigM) hstack hdg
  rcases hK m meth c ⟨T.setVm vm₁, locs, cells, slots⟩ { g with stack := rest } (.invokevirtual index) mk (Value.ref b :: argsL).toArray X₁ hg hsize hdg hW (X₁.named hnamed) (hpre vm₁ X₁.warmed) with ⟨v, B, X', hpost, hsteps⟩ | ⟨q, B, X', hpost, hsteps⟩
  · exact Or.inl ⟨v, vm₁, B, X₁.warmed, X', hpost, fun target h => hstep₁ _ fun acts => by rw [doInvoke_state]; exact hsteps.trans h⟩
  · exact Or.inr ⟨q, vm₁, B, X₁.warmed, X', hpost, hstep₁ _ fun acts => by rw [doInvoke_state]; exact hsteps⟩
theorem vx_callSX (X : Stand p l e R s m args below meth c T locs cells slots) (hexec : p.tables.exec = Jvm.exec) {own : String} {index : Nat} {y : MethodName} {bytes : ByteArray} {maxL : Nat} {ret : Option FieldType} {hh : List (Nat × Nat × Nat × Nat)}
    (hown : s.vm.findClass own = some m.cls) (hlink : (Cond.methodLink own index y).before args s = true) (hstat : (Cond.static y).before args s = true) (hinit : (Cond.initialized y.cls).before args s = true)
    (hcode : (Cond.codeWith y bytes maxL ret hh).before args s = true) (hy : y.cls ≠ "java/lang/invoke/MethodHandle" ∧ y.cls ≠ "java/lang/invoke/VarHandle")
    {W9 : Nat} {Pre : Pt → Array Value → Prop} {Post : Pt → Array Value → Option Value → Pt → Prop} {PostX : Pt → Array Value → Addr → Pt → Prop} (hK : vx_Back l R p e below s args y 3 W9 Pre Post PostX)
    {g : JFrame} (hg : g.method = m) (hsize : g.locals.size = c.maxLocals) {argsL rest : List Value} (hlen : ∀ sig, parseMethodDescriptor y.desc = some sig → argsL.length = sig.parameters.length)
    (hstack : g.stack = argsL.reverse ++ rest) (hW : 2 * g.monitorRoom + (rest.map fun v => v.category).sum ≤ W9) (hdg : decode c.code g.pc = .ok (.invokestatic index, 3))
    (hpre : ∀ vm₁, s.WarmedH vm₁ → Pre ⟨T.setVm vm₁, locs, cells, slots⟩ argsL.toArray) :
    (∃ (v : Option Value) (vm₁ : Vm) (B : Pt), s.WarmedH vm₁ ∧ Stand p l e R s m args below meth c B.U B.locs B.cells B.slots ∧ Post ⟨T.setVm vm₁, locs, cells, slots⟩ argsL.toArray v B ∧
      ∀ target, Steps p.tables e below (B.U.setTop { g with pc := g.pc + 3, stack := v.toList ++ rest }) target → Steps p.tables e below (T.setTop g) target) ∨
    (∃ (q : Addr) (vm₁ : Vm) (B : Pt), s.WarmedH vm₁ ∧ Stand p l e R s m args below meth c B.U B.locs B.cells B.slots ∧ PostX ⟨T.setVm vm₁, locs, cells, slots⟩ argsL.toArray q B ∧
      Steps p.tables e below (T.setTop g) ((B.U.setTop { g with stack := rest }).pushFrame (.throwing q))) := by
  obtain ⟨mk, methM, cM, hnamed, hmethM, -, -, -, -, -, -, hsigM⟩ := Cond.codeWith_spec hcode
  have hstatic : methM.isStatic = true := Cond.static_spec hnamed hmethM hstat
  obtain ⟨kP, hkP, -⟩ := className_of_methodNamed hnamed
  have hinitP : kP.init = .initialized := Cond.initialized_spec (findClass_of_methodNamed hnamed) hkP hinit
  obtain ⟨vm₁, X₁, hstep₁⟩ := X.invokestatic hexec hown hlink hnamed hmethM hstatic hkP hinitP hy (g := g) hg (argsL := argsL) (rest := rest) (hlen _ hsigM) hstack hdg
  rcases hK m meth c ⟨T.setVm vm₁, locs, cells, slots⟩ { g with stack := rest } (.invokestatic index) mk argsL.toArray X₁ hg hsize hdg hW (X₁.named hnamed) (hpre vm₁ X₁.warmed) with ⟨v, B, X', hpost, hsteps⟩ | ⟨q, B, X', hpost, hsteps⟩
  · exact Or.inl ⟨v, vm₁, B, X₁.warmed, X', hpost, fun target h => hstep₁ _ fun acts => by rw [doInvoke_state]; exact hsteps.trans h⟩
  · exact Or.inr ⟨q, vm₁, B, X₁.warmed, X', hpost, hstep₁ _ fun acts => by rw [doInvoke_state]; exact hsteps⟩
theorem vx_callVW (X : Stand p l e R s m args below meth c T locs cells slots) (hexec : p.tables.exec = Jvm.exec) {own C : String} {index : Nat} {y : MethodName} {bytes : ByteArray} {maxL : Nat} {ret : Option FieldType} {hh : List (Nat × Nat × Nat × Nat)}
    (hown : s.vm.findClass own = some m.cls) (hlink : (Cond.methodLink own index y).before args s = true) (hinst : (Cond.instanceMethod y).before args s = true) (hsel : (Cond.selects C y y).before args s = true)
    (hcode : (Cond.codeWith y bytes maxL ret hh).before args s = true) (hy : y.cls ≠ "java/lang/invoke/MethodHandle" ∧ y.cls ≠ "java/lang/invoke/VarHandle")
    {W9 : Nat} {Pre : Pt → Array Value → Prop} {Post : Pt → Array Value → Option Value → Pt → Prop} (hK : Back l R p e below s args y 3 W9 Pre Post)
    {b : Addr} {cellB : Cell} (hcell : T.heap[b]? = some cellB) (hobj : cellB.vm.isStatics = false) (hcls : s.vm.findClass C = some cellB.cls)
    {g : JFrame} (hg : g.method = m) (hsize : g.locals.size = c.maxLocals) {argsL rest : List Value} (hlen : ∀ sig, parseMethodDescriptor y.desc = some sig → argsL.length = sig.parameters.length)
    (hstack : g.stack = argsL.reverse ++ .ref b :: rest) (hW : 2 * g.monitorRoom + (rest.map fun v => v.category).sum ≤ W9) (hdg : decode c.code g.pc = .ok (.invokevirtual index, 3))
    (hpre : ∀ vm₁, s.WarmedH vm₁ → Pre ⟨T.setVm vm₁, locs, cells, slots⟩ (Value.ref b :: argsL).toArray) :
    ∃ (v : Option Value) (vm₁ : Vm) (B : Pt), s.WarmedH vm₁ ∧ Stand p l e R s m args below meth c B.U B.locs B.cells B.slots ∧ Post ⟨T.setVm vm₁, locs, cells, slots⟩ (Value.ref b :: argsL).toArray v B ∧
      ∀ target, Steps p.tables e below (B.U.setTop { g with pc := g.pc + 3, stack := v.toList ++ rest }) target → Steps p.tables e below (T.setTop g) target := by
  obtain ⟨mk, methM, hnamed, hmethM, hstM, habM⟩ := Cond.instanceMethod_spec hinst
  obtain ⟨m8, methM', cM, hn8, hmethM', -, -, -, -, -, -, hsigM⟩ := Cond.codeWith_spec hcode
  cases Option.some.inj (hn8.symm.trans hnamed)
  cases hmethM.symm.trans hmethM'
  obtain ⟨c2, r2, m2, q1, q2, q3, q4, kP, hkP, hkPi⟩ := Cond.selects_spec hsel
  cases hcls.symm.trans q1
  cases (State.methodFound?_of_named hnamed hy).symm.trans q2
  cases hnamed.symm.trans q3
  have hselP : selectMethod e.platform s.vm cellB.cls mk = .method mk := by rw [Launch.admits_selectMethod X.admits]; exact q4
  obtain ⟨vm₁, X₁, hstep₁⟩ := X.invokevirtual hexec hown hlink hnamed hmethM hstM hkP hkPi hy (a := b) (cell := cellB) hcell
    (fun z h => by rw [h] at hobj; cases hobj) hselP hmethM habM hkP hkPi (g := g) hg (argsL := argsL) (rest := rest) (hlen _ hsigM) hstack hdg
  obtain ⟨v, B, X', hpost, hsteps⟩ := hK m meth c ⟨T.setVm vm₁, locs, cells, slots⟩ { g with stack := rest } (.invokevirtual index) mk (Value.ref b :: argsL).toArray X₁ hg hsize hdg hW (X₁.named hnamed) (hpre vm₁ X₁.warmed)
  exact ⟨v, vm₁, B, X₁.warmed, X', hpost, fun target h => hstep₁ _ fun acts => by rw [doInvoke_state]; exact hsteps.trans h⟩
abbrev vx_CVW (R : Room) (s : State) (args : Array Value) (own C : String) (index : Nat) (y : MethodName) (bytes : ByteArray) (maxL : Nat) (ret : Option FieldType) (hh : List (Nat × Nat × Nat × Nat)) (ws : List Cond) (rm : Room) (mc ms n : Nat) : Prop :=
  (rm.cells = mc ∧ rm.slots = ms ∧ rm.frames + 1 ≤ R.frames ∧ 8 + (maxL + 11) + rm.locals ≤ R.locals ∧ (∀ w ∈ ws, ∀ (a' : Array Value) (U : State), s.WarmedH U.vm → w.before a' U = true) ∧ Cond.codeWith y bytes maxL ret hh ∈ ws) ∧
  (Cond.codeWith y bytes maxL ret hh).before args s = true ∧ (Cond.initialized y.cls).before args s = true ∧ (y.cls ≠ "java/lang/invoke/MethodHandle" ∧ y.cls ≠ "java/lang/invoke/VarHandle") ∧
  (∀ sig, parseMethodDescriptor y.desc = some sig → n = sig.parameters.length) ∧ (Cond.methodLink own index y).before args s = true ∧ (Cond.instanceMethod y).before args s = true ∧ (Cond.selects C y y).before args s = true
theorem vx_cwVW {own C : String} {index maxL mc ms : Nat} {y : MethodName} {bytes : ByteArray} {ret : Option FieldType} {hh : List (Nat × Nat × Nat × Nat)} {Ts ws ws' : List Cond} {rm : Room} (n : Nat) (ht : ∀ w ∈ Ts, w.before args s = true) (hT : GoodIn Ts (wsV own index C y ws)) (hw : ws = Cond.codeWith y bytes maxL ret hh :: ws') (hrc : rm.cells = mc) (hrs : rm.slots = ms)
    (hd : y.cls = C ∧ y.cls ≠ "java/lang/invoke/MethodHandle" ∧ y.cls ≠ "java/lang/invoke/VarHandle" ∧ (parseMethodDescriptor y.desc).map (fun d => d.parameters.length) = some n) (hR : rm.frames + 1 ≤ R.frames ∧ 8 + (maxL + 11) + rm.locals ≤ R.locals) :
    vx_CVW R s args own C index y bytes maxL ret hh ws rm mc ms n := by
  obtain ⟨hC, hd⟩ := hd
  subst hC
  have ok : ∀ w ∈ wsV own index y.cls y ws, w.before args s = true := fun w h => ht w (hT w h).1
  have hG : GoodIn Ts ws := fun w h => hT w (by unfold wsV; exact List.mem_append_right _ h)
  have hc : Cond.codeWith y bytes maxL ret hh ∈ ws := by rw [hw]; exact List.mem_cons_self
  refine ⟨⟨hrc, hrs, hR.1, hR.2, pay_in ht hG, hc⟩, ht _ (hG _ hc).1, ok _ (by simp [wsV]), ⟨hd.1, hd.2.1⟩, fun sig h => ?_, ok _ (by simp [wsV]), ok _ (by simp [wsV]), ok _ (by simp [wsV])⟩
  have h2 := hd.2.2
  rw [h] at h2
  exact (Option.some.inj h2).symm
theorem vx_runVW {y : MethodName} {bytes cc : ByteArray} {maxL nL mc ms n index : Nat} {ret : Option FieldType} {hh : List (Nat × Nat × Nat × Nat)} {ws : List Cond} {rm : Room} {Pc : Array Value → State → Prop} {Qc : Array Value → State → Outcome → State → Prop} {free : Addr → Prop} {Ts : List Cond} {own C : String} {b : Addr} {As rest : List Value} {g : JFrame}
    (S : CallFix p m c cc nL s args Ts own) (hM : Met l y ws rm Pc Qc mc ms free) (cw : vx_CVW R s args own C index y bytes maxL ret hh ws rm mc ms n) (hp : PreV s H C b Pc As)
    (hg : g.method = m) (hn : As.length = n) (hsize : g.locals.size = nL) (hstack : g.stack = As.reverse ++ .ref b :: rest) (hW : 2 * g.monitorRoom + (rest.map fun v => v.category).sum ≤ 8) (hdg : decode cc g.pc = .ok (.invokevirtual index, 3)) (hf : cells + mc ≤ R.cells ∧ slots + ms ≤ R.slots) :
    va_Run p l e R s m args below meth c H locs cells slots mc ms g rest (Qc (Value.ref b :: As).toArray) free := by
  obtain ⟨⟨hrc, hrs, hfr, hlo, hws, hcw⟩, hcode, hini, hy, hlen, hl, hin, hse⟩ := cw
  have hK : Back l R p e below s args y 3 8 (PreOf R mc ms Pc) (PostOf Qc mc ms free) := va_backW (hh := hh) (bytes := bytes) (maxL := maxL) (ret := ret) hM hp.1 hrc hrs hfr hlo hws hcw (fun a' U hW => word_at hW (Or.inl (by first | rfl | simp [Cond.onTables, Cond.keeps, Cond.steady])) hini)
  obtain ⟨hx, hb, hml, ho, -⟩ := S
  obtain ⟨-, ⟨cellB, hcB, hoB, hclB⟩, hPc⟩ := hp
  intro T hT X
  obtain ⟨v, vm₁, ⟨U', l2, c2, s2⟩, hW₁, X', ⟨g', mk, t, L, e1, e2, hq, h1, hL, h2, h3⟩, st⟩ := vx_callVW X hx (C := C) (hh := hh) (bytes := bytes) (maxL := maxL) (ret := ret) ho hl hin hse hcode hy hK (by rw [hT]; exact hcB) hoB hclB hg (hsize.trans hml.symm) (argsL := As) (rest := rest) (fun sig h => hn.trans (hlen sig h)) hstack hW (by rw [hb]; exact hdg)
    (fun vm₁ hW₁ => ⟨hf.1, hf.2, hPc (T.setVm vm₁) hT hW₁⟩)
  dsimp only [Pt.U, Pt.locs, Pt.cells, Pt.slots] at X' e1 e2 h1 h2 h3 st
  subst h1; subst h2; subst h3
  exact ⟨v, (T.setVm vm₁).calling g' mk (Value.ref b :: As).toArray, t, U', L, hT, X', hL, e1, e2, hq, st⟩
section
variable {y : MethodName} {bytes cc : ByteArray} {maxL nL mc ms n index : Nat} {ret : Option FieldType} {ws : List Cond} {rm : Room} {Pc : Array Value → State → Prop} {Qc : Array Value → State → Outcome → State → Prop} {XC : String → State → State → Prop} {free : Addr → Prop} {Ts : List Cond} {own C : String} {b : Addr} {As rest : List Value} {g : JFrame}
theorem vx_runVX {hh : List (Nat × Nat × Nat × Nat)} (S : CallFix p m c cc nL s args Ts own) (hM : vx_Met l y ws rm Pc Qc XC mc ms free) (cw : vx_CVW R s args own C index y bytes maxL ret hh ws rm mc ms n) (hp : PreV s H C b Pc As)
    (hg : g.method = m) (hn : As.length = n) (hsize : g.locals.size = nL) (hstack : g.stack = As.reverse ++ .ref b :: rest) (hW : 2 * g.monitorRoom + (rest.map fun v => v.category).sum ≤ 8) (hdg : decode cc g.pc = .ok (.invokevirtual index, 3)) (hf : cells + mc ≤ R.cells ∧ slots + ms ≤ R.slots) :
    vx_Run p l e R s m args below meth c H locs cells slots mc ms g rest (Qc (Value.ref b :: As).toArray) XC free := by
  obtain ⟨⟨hrc, hrs, hfr, hlo, hws, hcw⟩, hcode, hini, hy, hlen, hl, hin, hse⟩ := cw
  have hK : vx_Back l R p e below s args y 3 8 (PreOf R mc ms Pc) (PostOf Qc mc ms free) (vx_Post XC mc ms free) := vx_backW (hh := hh) (bytes := bytes) (maxL := maxL) (ret := ret) hM hp.1 hrc hrs hfr hlo hws hcw (fun a' U hW => word_at hW (Or.inl (by first | rfl | simp [Cond.onTables, Cond.keeps, Cond.steady])) hini)
  obtain ⟨hx, hb, hml, ho, -⟩ := S
  obtain ⟨-, ⟨cellB, hcB, hoB, hclB⟩, hPc⟩ := hp
  intro T hT X
  rcases vx_callVX X hx (C := C) (hh := hh) (bytes := bytes) (maxL := maxL) (ret := ret) ho hl hin hse hcode hy hK (by rw [hT]; exact hcB) hoB hclB hg (hsize.trans hml.symm) (argsL := As) (rest := rest) (fun sig h => hn.trans (hlen sig h)) hstack hW (by rw [hb]; exact hdg)
    (fun vm₁ hW₁ => ⟨hf.1, hf.2, hPc (T.setVm vm₁) hT hW₁⟩) with ⟨v, vm₁, ⟨U', l2, c2, s2⟩, hW₁, X', ⟨g', mk, t, L, e1, e2, hq, h1, hL, h2, h3⟩, st⟩ | ⟨q, vm₁, ⟨U', l2, c2, s2⟩, hW₁, X', ⟨g', mk, t, L, E, ce, e1, e2, hq, hce, hcv, hcl, h1, hL, h2, h3⟩, st⟩
  · dsimp only [Pt.U, Pt.locs, Pt.cells, Pt.slots] at X' e1 e2 h1 h2 h3 st
    subst h1; subst h2; subst h3
    exact Or.inl ⟨v, (T.setVm vm₁).calling g' mk (Value.ref b :: As).toArray, t, U', L, hT, X', hL, e1, e2, hq, st⟩
  · dsimp only [Pt.U, Pt.locs, Pt.cells, Pt.slots] at X' e1 e2 h1 h2 h3 st hcl
    subst h1; subst h2; subst h3
    exact Or.inr ⟨q, (T.setVm vm₁).calling g' mk (Value.ref b :: As).toArray, t, U', L, E, ce, hT, X', hL, e1, e2, hq, hce, hcv, vx_cls hW₁ hcl, st⟩
theorem vx_runSX {hh : List (Nat × Nat × Nat × Nat)} (S : CallFix p m c cc nL s args Ts own) (hM : vx_Met l y ws rm Pc Qc XC mc ms free) (cw : vx_CSW R s args own index y bytes maxL ret hh ws rm mc ms n) (hp : PreS s H Pc As)
    (hg : g.method = m) (hn : As.length = n) (hsize : g.locals.size = nL) (hstack : g.stack = As.reverse ++ rest) (hW : 2 * g.monitorRoom + (rest.map fun v => v.category).sum ≤ 8) (hdg : decode cc g.pc = .ok (.invokestatic index, 3)) (hf : cells + mc ≤ R.cells ∧ slots + ms ≤ R.slots) :
    vx_Run p l e R s m args below meth c H locs cells slots mc ms g rest (Qc As.toArray) XC free := by
  obtain ⟨⟨hrc, hrs, hfr, hlo, hws, hcw⟩, hcode, hini, hy, hlen, hl, hstt⟩ := cw
  have hK : vx_Back l R p e below s args y 3 8 (PreOf R mc ms Pc) (PostOf Qc mc ms free) (vx_Post XC mc ms free) := vx_backW (hh := hh) (bytes := bytes) (maxL := maxL) (ret := ret) hM hp.1 hrc hrs hfr hlo hws hcw (fun a' U hW => word_at hW (Or.inl (by first | rfl | simp [Cond.onTables, Cond.keeps, Cond.steady])) hini)
  obtain ⟨hx, hb, hml, ho, -⟩ := S
  intro T hT X
  rcases vx_callSX X hx (hh := hh) (bytes := bytes) (maxL := maxL) (ret := ret) ho hl hstt hini hcode hy hK hg (hsize.trans hml.symm) (argsL := As) (rest := rest) (fun sig h => hn.trans (hlen sig h)) hstack hW (by rw [hb]; exact hdg)
    (fun vm₁ hW₁ => ⟨hf.1, hf.2, hp.2 (T.setVm vm₁) hT hW₁⟩) with ⟨v, vm₁, ⟨U', l2, c2, s2⟩, hW₁, X', ⟨g', mk, t, L, e1, e2, hq, h1, hL, h2, h3⟩, st⟩ | ⟨q, vm₁, ⟨U', l2, c2, s2⟩, hW₁, X', ⟨g', mk, t, L, E, ce, e1, e2, hq, hce, hcv, hcl, h1, hL, h2, h3⟩, st⟩
  · dsimp only [Pt.U, Pt.locs, Pt.cells, Pt.slots] at X' e1 e2 h1 h2 h3 st
    subst h1; subst h2; subst h3
    exact Or.inl ⟨v, (T.setVm vm₁).calling g' mk As.toArray, t, U', L, hT, X', hL, e1, e2, hq, st⟩
  · dsimp only [Pt.U, Pt.locs, Pt.cells, Pt.slots] at X' e1 e2 h1 h2 h3 st hcl
    subst h1; subst h2; subst h3
    exact Or.inr ⟨q, (T.setVm vm₁).calling g' mk As.toArray, t, U', L, E, ce, hT, X', hL, e1, e2, hq, hce, hcv, vx_cls hW₁ hcl, st⟩
end
end VXH
theorem vx_ofWH {l : Launch} {y : MethodName} {ws ws' : List Cond} {rm : Room} {Pc : Array Value → State → Prop} {Qc : Array Value → State → Outcome → State → Prop} {XC : String → State → State → Prop} {mc ms : Nat} {free : Addr → Prop} {cc : ByteArray} {maxL : Nat} {ret : Option FieldType} {hh : List (Nat × Nat × Nat × Nat)}
    (hy : plainName y.cls = true) (hw : ws = Cond.codeWith y cc maxL ret hh :: ws')
    (body : ∀ p e s m args below meth c s₁, BodyLoose p l y (headSpec ws rm) cc maxL ret e s m args below meth c s₁ → c.maxLocals = maxL → Pc args s →
      W p l e (headSpec ws rm).room s m args below meth c s.heap [] 0 0 (vx_MQ below Qc XC args s mc ms free) (entryFrame m args maxL)) : vx_Met l y ws rm Pc Qc XC mc ms free := by
  refine MetFree.of_bodyS (code := cc) (maxLocals := maxL) (ret := ret) hy ?_ ?_
  · intro args s m h hn
    obtain ⟨m9, meth, c, hn9, h1, h2, h3, h4, -, h5, h6, -⟩ := Cond.codeWith_spec (atoms_spec (ws := ws) h _ (by rw [hw]; exact List.mem_cons_self))
    cases hn.symm.trans hn9
    exact ⟨meth, c, h1, h2, h3, h4, h5, h6⟩
  · intro p e s m args below meth c s₁ B hml hP _
    have hh0 : s₁.heap = s.heap := by rw [B.state]; rfl
    obtain ⟨t, a1, o, b1, b2, b3⟩ := body p e s m args below meth c s₁ B hml hP s₁ hh0 (Stand.of_body B)
    exact ⟨t, o, a1, b1, b2, b3⟩
/-! ===== END ===== -/
end
section
/-! ===== BEGIN printed: names, fields, word lists, decode rows ===== -/
def RX0 : String := "ModuleLinker$Compiler"
def TX0 : u_T := fun k => match k with
  | 0 => ("ModuleLinker$Compiler", "text", "[C", false)
  | 1 => ("ModuleLinker$Compiler", "length", "I", false)
  | 2 => ("ModuleLinker$Compiler", "at", "I", false)
  | 3 => ("ModuleLinker$Compiler", "unit", "LModuleLinker$Unit;", false)
  | 4 => ("ModuleLinker$Compiler", "textWrong", "Z", false)
  | 5 => ("ModuleLinker$Compiler", "typesWrong", "Z", false)
  | 6 => ("ModuleLinker$Compiler", "signature", "I", false)
  | 7 => ("ModuleLinker$Compiler", "held", "I", false)
  | _ => ("ModuleLinker$Compiler", "room", "I", false)
def tyX0 : Nat → FieldType := fun k => match k with
  | 0 => .array .char
  | 1 => .int
  | 2 => .int
  | 3 => .object "ModuleLinker$Unit"
  | 4 => .boolean
  | 5 => .boolean
  | 6 => .int
  | 7 => .int
  | _ => .int
abbrev wsX00 : List Cond := u_ws RX0 TX0 9
theorem nmX0 : ∀ a, a < 9 → ∀ b, b < 9 → a ≠ b → (TX0 a).2.1 ≠ (TX0 b).2.1 := by decide +kernel
theorem tyX0_ok : ∀ k, k < 9 → parseFieldDescriptor (TX0 k).2.2.1 = some (tyX0 k) := by decide +kernel
abbrev cX0_init : ByteArray := prog_2_method_1_code
def yX0_init : MethodName := ⟨RX0, "<init>", "()V"⟩
abbrev cX0_compile : ByteArray := prog_2_method_2_code
def yX0_compile : MethodName := ⟨RX0, "compile", "([CILModuleLinker$Unit;)I"⟩
abbrev cX0_readHeads : ByteArray := prog_2_method_3_code
def yX0_readHeads : MethodName := ⟨RX0, "readHeads", "()V"⟩
abbrev cX0_readHead : ByteArray := prog_2_method_4_code
def yX0_readHead : MethodName := ⟨RX0, "readHead", "(LModuleLinker$Item;)V"⟩
abbrev cX0_skipBody : ByteArray := prog_2_method_5_code
def yX0_skipBody : MethodName := ⟨RX0, "skipBody", "()V"⟩
abbrev cX0_readSignature : ByteArray := prog_2_method_6_code
def yX0_readSignature : MethodName := ⟨RX0, "readSignature", "()I"⟩
abbrev cX0_readType : ByteArray := prog_2_method_7_code
def yX0_readType : MethodName := ⟨RX0, "readType", "()I"⟩
abbrev cX0_readBody : ByteArray := prog_2_method_8_code
def yX0_readBody : MethodName := ⟨RX0, "readBody", "(LModuleLinker$Item;)V"⟩
abbrev cX0_readExpression : ByteArray := prog_2_method_9_code
def yX0_readExpression : MethodName := ⟨RX0, "readExpression", "(I)I"⟩
abbrev cX0_readProduct : ByteArray := prog_2_method_10_code
def yX0_readProduct : MethodName := ⟨RX0, "readProduct", "(I)I"⟩
abbrev cX0_readFactor : ByteArray := prog_2_method_11_code
def yX0_readFactor : MethodName := ⟨RX0, "readFactor", "(I)I"⟩
abbrev cX0_readWhole : ByteArray := prog_2_method_12_code
def yX0_readWhole : MethodName := ⟨RX0, "readWhole", "(I)I"⟩
abbrev cX0_readNumber : ByteArray := prog_2_method_13_code
def yX0_readNumber : MethodName := ⟨RX0, "readNumber", "()I"⟩
abbrev cX0_readParameter : ByteArray := prog_2_method_14_code
def yX0_readParameter : MethodName := ⟨RX0, "readParameter", "()I"⟩
abbrev cX0_readGroup : ByteArray := prog_2_method_15_code
def yX0_readGroup : MethodName := ⟨RX0, "readGroup", "(I)I"⟩
abbrev cX0_readPair : ByteArray := prog_2_method_16_code
def yX0_readPair : MethodName := ⟨RX0, "readPair", "(I)I"⟩
abbrev cX0_readChoice : ByteArray := prog_2_method_17_code
def yX0_readChoice : MethodName := ⟨RX0, "readChoice", "(I)I"⟩
abbrev cX0_readCall : ByteArray := prog_2_method_18_code
def yX0_readCall : MethodName := ⟨RX0, "readCall", "(II)I"⟩
abbrev cX0_readArguments : ByteArray := prog_2_method_19_code
def yX0_readArguments : MethodName := ⟨RX0, "readArguments", "(II)V"⟩
abbrev cX0_hold : ByteArray := prog_2_method_20_code
def yX0_hold : MethodName := ⟨RX0, "hold", "(I)V"⟩
abbrev cX0_release : ByteArray := prog_2_method_21_code
def yX0_release : MethodName := ⟨RX0, "release", "(I)V"⟩
abbrev cX0_need : ByteArray := prog_2_method_22_code
def yX0_need : MethodName := ⟨RX0, "need", "(II)V"⟩
abbrev cX0_peek : ByteArray := prog_2_method_23_code
def yX0_peek : MethodName := ⟨RX0, "peek", "()C"⟩
abbrev cX0_takeIf : ByteArray := prog_2_method_24_code
def yX0_takeIf : MethodName := ⟨RX0, "takeIf", "(C)Z"⟩
abbrev cX0_take : ByteArray := prog_2_method_25_code
def yX0_take : MethodName := ⟨RX0, "take", "(C)V"⟩
abbrev cX0_readAmong : ByteArray := prog_2_method_26_code
def yX0_readAmong : MethodName := ⟨RX0, "readAmong", "(CC)I"⟩
abbrev cX0_refuse : ByteArray := prog_2_method_27_code
def yX0_refuse : MethodName := ⟨RX0, "refuse", "()I"⟩
abbrev cX0_isIn : ByteArray := prog_2_method_28_code
def yX0_isIn : MethodName := ⟨RX0, "isIn", "(CCC)Z"⟩
def RX1 : String := "ModuleLinker$Item"
def TX1 : u_T := fun k => match k with
  | 0 => ("ModuleLinker$Item", "owner", "I", false)
  | 1 => ("ModuleLinker$Item", "name", "I", false)
  | 2 => ("ModuleLinker$Item", "signature", "I", false)
  | 3 => ("ModuleLinker$Item", "words", "I", false)
  | 4 => ("ModuleLinker$Item", "exported", "Z", false)
  | 5 => ("ModuleLinker$Item", "start", "I", false)
  | _ => ("ModuleLinker$Item", "room", "I", false)
def tyX1 : Nat → FieldType := fun k => match k with
  | 0 => .int
  | 1 => .int
  | 2 => .int
  | 3 => .int
  | 4 => .boolean
  | 5 => .int
  | _ => .int
abbrev wsX10 : List Cond := u_ws RX1 TX1 7
theorem nmX1 : ∀ a, a < 7 → ∀ b, b < 7 → a ≠ b → (TX1 a).2.1 ≠ (TX1 b).2.1 := by decide +kernel
theorem tyX1_ok : ∀ k, k < 7 → parseFieldDescriptor (TX1 k).2.2.1 = some (tyX1 k) := by decide +kernel
abbrev cX1_init : ByteArray := prog_3_method_1_code
def yX1_init : MethodName := ⟨RX1, "<init>", "()V"⟩
def RX2 : String := "ModuleLinker$Machine"
def TX2 : u_T := fun k => match k with
  | 0 => ("ModuleLinker$Machine", "size", "I", true)
  | 1 => ("ModuleLinker$Machine", "units", "[LModuleLinker$Unit;", false)
  | 2 => ("ModuleLinker$Machine", "stack", "[I", true)
  | 3 => ("ModuleLinker$Machine", "height", "I", false)
  | 4 => ("ModuleLinker$Machine", "base", "I", false)
  | 5 => ("ModuleLinker$Machine", "unit", "LModuleLinker$Unit;", false)
  | 6 => ("ModuleLinker$Machine", "next", "I", false)
  | 7 => ("ModuleLinker$Machine", "first", "I", false)
  | 8 => ("ModuleLinker$Machine", "second", "I", false)
  | 9 => ("ModuleLinker$Machine", "fuel", "I", false)
  | 10 => ("ModuleLinker$Machine", "outcome", "I", false)
  | 11 => ("ModuleLinker$Machine", "most", "I", false)
  | 12 => ("ModuleLinker$Machine", "spent", "I", false)
  | 13 => ("ModuleLinker$Machine", "firstResult", "I", false)
  | _ => ("ModuleLinker$Machine", "secondResult", "I", false)
def tyX2 : Nat → FieldType := fun k => match k with
  | 0 => .int
  | 1 => .array (.object "ModuleLinker$Unit")
  | 2 => .array .int
  | 3 => .int
  | 4 => .int
  | 5 => .object "ModuleLinker$Unit"
  | 6 => .int
  | 7 => .int
  | 8 => .int
  | 9 => .int
  | 10 => .int
  | 11 => .int
  | 12 => .int
  | 13 => .int
  | _ => .int
abbrev wsX20 : List Cond := u_ws RX2 TX2 15
theorem nmX2 : ∀ a, a < 15 → ∀ b, b < 15 → a ≠ b → (TX2 a).2.1 ≠ (TX2 b).2.1 := by decide +kernel
theorem tyX2_ok : ∀ k, k < 15 → parseFieldDescriptor (TX2 k).2.2.1 = some (tyX2 k) := by decide +kernel
abbrev cX2_init : ByteArray := prog_4_method_1_code
def yX2_init : MethodName := ⟨RX2, "<init>", "(I)V"⟩
abbrev cX2_load : ByteArray := prog_4_method_2_code
def yX2_load : MethodName := ⟨RX2, "load", "(IIII)V"⟩
abbrev cX2_run : ByteArray := prog_4_method_3_code
def yX2_run : MethodName := ⟨RX2, "run", "([LModuleLinker$Unit;ILModuleLinker$Item;I)I"⟩
abbrev cX2_enter : ByteArray := prog_4_method_4_code
def yX2_enter : MethodName := ⟨RX2, "enter", "(LModuleLinker$Unit;LModuleLinker$Item;I)V"⟩
abbrev cX2_leave : ByteArray := prog_4_method_5_code
def yX2_leave : MethodName := ⟨RX2, "leave", "()V"⟩
abbrev cX2_step : ByteArray := prog_4_method_6_code
def yX2_step : MethodName := ⟨RX2, "step", "()V"⟩
abbrev cX2_enterNamed : ByteArray := prog_4_method_7_code
def yX2_enterNamed : MethodName := ⟨RX2, "enterNamed", "(II)V"⟩
abbrev cX2_push : ByteArray := prog_4_method_8_code
def yX2_push : MethodName := ⟨RX2, "push", "(I)V"⟩
abbrev cX2_pop : ByteArray := prog_4_method_9_code
def yX2_pop : MethodName := ⟨RX2, "pop", "()I"⟩
def RX3 : String := "ModuleLinker$Unit"
def TX3 : u_T := fun k => match k with
  | 0 => ("ModuleLinker$Unit", "name", "I", false)
  | 1 => ("ModuleLinker$Unit", "count", "I", false)
  | 2 => ("ModuleLinker$Unit", "items", "[LModuleLinker$Item;", true)
  | 3 => ("ModuleLinker$Unit", "codeLength", "I", false)
  | _ => ("ModuleLinker$Unit", "code", "[I", true)
def tyX3 : Nat → FieldType := fun k => match k with
  | 0 => .int
  | 1 => .int
  | 2 => .array (.object "ModuleLinker$Item")
  | 3 => .int
  | _ => .array .int
abbrev wsX30 : List Cond := u_ws RX3 TX3 5
theorem nmX3 : ∀ a, a < 5 → ∀ b, b < 5 → a ≠ b → (TX3 a).2.1 ≠ (TX3 b).2.1 := by decide +kernel
theorem tyX3_ok : ∀ k, k < 5 → parseFieldDescriptor (TX3 k).2.2.1 = some (tyX3 k) := by decide +kernel
abbrev cX3_init : ByteArray := prog_5_method_1_code
def yX3_init : MethodName := ⟨RX3, "<init>", "()V"⟩
abbrev cX3_find : ByteArray := prog_5_method_2_code
def yX3_find : MethodName := ⟨RX3, "find", "(II)LModuleLinker$Item;"⟩
abbrev cX3_countDefinitions : ByteArray := prog_5_method_3_code
def yX3_countDefinitions : MethodName := ⟨RX3, "countDefinitions", "()I"⟩
abbrev cX3_emit : ByteArray := prog_5_method_4_code
def yX3_emit : MethodName := ⟨RX3, "emit", "(II)I"⟩
abbrev cX3_landHere : ByteArray := prog_5_method_5_code
def yX3_landHere : MethodName := ⟨RX3, "landHere", "(I)V"⟩
def RX4 : String := "ModuleLinker"
def TX4 : u_T := fun k => match k with
  | 0 => ("ModuleLinker", "buffer", "[C", true)
  | 1 => ("ModuleLinker", "length", "I", false)
  | 2 => ("ModuleLinker", "units", "[LModuleLinker$Unit;", true)
  | 3 => ("ModuleLinker", "present", "[Z", true)
  | 4 => ("ModuleLinker", "spare", "LModuleLinker$Unit;", false)
  | 5 => ("ModuleLinker", "compiler", "LModuleLinker$Compiler;", true)
  | 6 => ("ModuleLinker", "machine", "LModuleLinker$Machine;", true)
  | 7 => ("ModuleLinker", "latestFault", "I", false)
  | 8 => ("ModuleLinker", "linked", "Z", false)
  | 9 => ("ModuleLinker", "unfitModule", "I", false)
  | _ => ("ModuleLinker", "unfitItem", "I", false)
def tyX4 : Nat → FieldType := fun k => match k with
  | 0 => .array .char
  | 1 => .int
  | 2 => .array (.object "ModuleLinker$Unit")
  | 3 => .array .boolean
  | 4 => .object "ModuleLinker$Unit"
  | 5 => .object "ModuleLinker$Compiler"
  | 6 => .object "ModuleLinker$Machine"
  | 7 => .int
  | 8 => .boolean
  | 9 => .int
  | _ => .int
abbrev wsX40 : List Cond := u_ws RX4 TX4 11
theorem nmX4 : ∀ a, a < 11 → ∀ b, b < 11 → a ≠ b → (TX4 a).2.1 ≠ (TX4 b).2.1 := by decide +kernel
theorem tyX4_ok : ∀ k, k < 11 → parseFieldDescriptor (TX4 k).2.2.1 = some (tyX4 k) := by decide +kernel
abbrev cX4_init : ByteArray := prog_1_method_1_code
def yX4_init : MethodName := ⟨RX4, "<init>", "(I)V"⟩
abbrev cX4_put : ByteArray := prog_1_method_2_code
def yX4_put : MethodName := ⟨RX4, "put", "(II)Z"⟩
abbrev cX4_module : ByteArray := prog_1_method_3_code
def yX4_module : MethodName := ⟨RX4, "module", "()I"⟩
abbrev cX4_fault : ByteArray := prog_1_method_4_code
def yX4_fault : MethodName := ⟨RX4, "fault", "()I"⟩
abbrev cX4_drop : ByteArray := prog_1_method_5_code
def yX4_drop : MethodName := ⟨RX4, "drop", "(I)V"⟩
abbrev cX4_link : ByteArray := prog_1_method_6_code
def yX4_link : MethodName := ⟨RX4, "link", "()I"⟩
abbrev cX4_unfit : ByteArray := prog_1_method_7_code
def yX4_unfit : MethodName := ⟨RX4, "unfit", "(I)I"⟩
abbrev cX4_about : ByteArray := prog_1_method_8_code
def yX4_about : MethodName := ⟨RX4, "about", "(III)I"⟩
abbrev cX4_call : ByteArray := prog_1_method_9_code
def yX4_call : MethodName := ⟨RX4, "call", "(IIIIIII)I"⟩
abbrev cX4_result : ByteArray := prog_1_method_10_code
def yX4_result : MethodName := ⟨RX4, "result", "(I)I"⟩
abbrev cX4_took : ByteArray := prog_1_method_11_code
def yX4_took : MethodName := ⟨RX4, "took", "(I)I"⟩
abbrev cX4_isPresent : ByteArray := prog_1_method_12_code
def yX4_isPresent : MethodName := ⟨RX4, "isPresent", "(I)Z"⟩
abbrev cX4_definitionOf : ByteArray := prog_1_method_13_code
def yX4_definitionOf : MethodName := ⟨RX4, "definitionOf", "(II)LModuleLinker$Item;"⟩
abbrev cX4_countModules : ByteArray := prog_1_method_14_code
def yX4_countModules : MethodName := ⟨RX4, "countModules", "()I"⟩
abbrev cX4_countDefinitions : ByteArray := prog_1_method_15_code
def yX4_countDefinitions : MethodName := ⟨RX4, "countDefinitions", "()I"⟩
abbrev cX4_findUnfit : ByteArray := prog_1_method_16_code
def yX4_findUnfit : MethodName := ⟨RX4, "findUnfit", "()V"⟩
abbrev cX4_firstUnfit : ByteArray := prog_1_method_17_code
def yX4_firstUnfit : MethodName := ⟨RX4, "firstUnfit", "(LModuleLinker$Unit;)I"⟩
abbrev cX4_fits : ByteArray := prog_1_method_18_code
def yX4_fits : MethodName := ⟨RX4, "fits", "(LModuleLinker$Item;)Z"⟩
abbrev cX4_byteOf : ByteArray := prog_1_method_19_code
def yX4_byteOf : MethodName := ⟨RX4, "byteOf", "(II)I"⟩
abbrev cX4_typeAt : ByteArray := prog_1_method_20_code
def yX4_typeAt : MethodName := ⟨RX4, "typeAt", "(II)I"⟩
abbrev cX4_wordsBefore : ByteArray := prog_1_method_21_code
def yX4_wordsBefore : MethodName := ⟨RX4, "wordsBefore", "(II)I"⟩
def RX5 : String := "ModuleLinkerModel"
def TX5 : u_T := fun k => match k with
  | 0 => ("ModuleLinkerModel", "code", "I", false)
  | 1 => ("ModuleLinkerModel", "size", "I", true)
  | 2 => ("ModuleLinkerModel", "text", "[C", true)
  | 3 => ("ModuleLinkerModel", "length", "I", false)
  | 4 => ("ModuleLinkerModel", "at", "I", false)
  | 5 => ("ModuleLinkerModel", "good", "Z", false)
  | 6 => ("ModuleLinkerModel", "typed", "Z", false)
  | 7 => ("ModuleLinkerModel", "declaring", "Z", false)
  | 8 => ("ModuleLinkerModel", "there", "[Z", true)
  | 9 => ("ModuleLinkerModel", "many", "[I", true)
  | 10 => ("ModuleLinkerModel", "name", "[I", true)
  | 11 => ("ModuleLinkerModel", "from", "[I", true)
  | 12 => ("ModuleLinkerModel", "exported", "[Z", true)
  | 13 => ("ModuleLinkerModel", "takes", "[I", true)
  | 14 => ("ModuleLinkerModel", "pairs", "[Z", true)
  | 15 => ("ModuleLinkerModel", "result", "[Z", true)
  | 16 => ("ModuleLinkerModel", "room", "[I", true)
  | 17 => ("ModuleLinkerModel", "begins", "[I", true)
  | 18 => ("ModuleLinkerModel", "sign", "[I", true)
  | 19 => ("ModuleLinkerModel", "number", "[I", true)
  | 20 => ("ModuleLinkerModel", "below", "[I", true)
  | 21 => ("ModuleLinkerModel", "signs", "I", false)
  | 22 => ("ModuleLinkerModel", "item", "I", false)
  | 23 => ("ModuleLinkerModel", "open", "I", false)
  | 24 => ("ModuleLinkerModel", "kind", "[I", true)
  | 25 => ("ModuleLinkerModel", "state", "[I", true)
  | 26 => ("ModuleLinkerModel", "sumSign", "[I", true)
  | 27 => ("ModuleLinkerModel", "product", "[Z", true)
  | 28 => ("ModuleLinkerModel", "keptPair", "[Z", true)
  | 29 => ("ModuleLinkerModel", "kept", "[I", true)
  | 30 => ("ModuleLinkerModel", "callee", "[I", true)
  | 31 => ("ModuleLinkerModel", "height", "I", false)
  | 32 => ("ModuleLinkerModel", "most", "I", false)
  | 33 => ("ModuleLinkerModel", "isPair", "Z", false)
  | 34 => ("ModuleLinkerModel", "linked", "Z", false)
  | 35 => ("ModuleLinkerModel", "fault", "I", false)
  | 36 => ("ModuleLinkerModel", "unfitModule", "I", false)
  | 37 => ("ModuleLinkerModel", "unfitItem", "I", false)
  | 38 => ("ModuleLinkerModel", "high", "I", false)
  | 39 => ("ModuleLinkerModel", "word", "[I", true)
  | 40 => ("ModuleLinkerModel", "frames", "I", false)
  | 41 => ("ModuleLinkerModel", "inModule", "[I", true)
  | 42 => ("ModuleLinkerModel", "inItem", "[I", true)
  | 43 => ("ModuleLinkerModel", "next", "[I", true)
  | 44 => ("ModuleLinkerModel", "base", "[I", true)
  | 45 => ("ModuleLinkerModel", "entered", "[I", true)
  | 46 => ("ModuleLinkerModel", "fuel", "I", false)
  | 47 => ("ModuleLinkerModel", "taken", "I", false)
  | 48 => ("ModuleLinkerModel", "greatest", "I", false)
  | 49 => ("ModuleLinkerModel", "first", "I", false)
  | _ => ("ModuleLinkerModel", "second", "I", false)
def tyX5 : Nat → FieldType := fun k => match k with
  | 0 => .int
  | 1 => .int
  | 2 => .array .char
  | 3 => .int
  | 4 => .int
  | 5 => .boolean
  | 6 => .boolean
  | 7 => .boolean
  | 8 => .array .boolean
  | 9 => .array .int
  | 10 => .array .int
  | 11 => .array .int
  | 12 => .array .boolean
  | 13 => .array .int
  | 14 => .array .boolean
  | 15 => .array .boolean
  | 16 => .array .int
  | 17 => .array .int
  | 18 => .array .int
  | 19 => .array .int
  | 20 => .array .int
  | 21 => .int
  | 22 => .int
  | 23 => .int
  | 24 => .array .int
  | 25 => .array .int
  | 26 => .array .int
  | 27 => .array .boolean
  | 28 => .array .boolean
  | 29 => .array .int
  | 30 => .array .int
  | 31 => .int
  | 32 => .int
  | 33 => .boolean
  | 34 => .boolean
  | 35 => .int
  | 36 => .int
  | 37 => .int
  | 38 => .int
  | 39 => .array .int
  | 40 => .int
  | 41 => .array .int
  | 42 => .array .int
  | 43 => .array .int
  | 44 => .array .int
  | 45 => .array .int
  | 46 => .int
  | 47 => .int
  | 48 => .int
  | 49 => .int
  | _ => .int
abbrev wsX50 : List Cond := u_ws RX5 TX5 51
theorem nmX5 : ∀ a, a < 51 → ∀ b, b < 51 → a ≠ b → (TX5 a).2.1 ≠ (TX5 b).2.1 := by decide +kernel
theorem tyX5_ok : ∀ k, k < 51 → parseFieldDescriptor (TX5 k).2.2.1 = some (tyX5 k) := by decide +kernel
abbrev cX5_init : ByteArray := prog_7_method_1_code
def yX5_init : MethodName := ⟨RX5, "<init>", "(I)V"⟩
abbrev cX5_thrown : ByteArray := prog_7_method_2_code
def yX5_thrown : MethodName := ⟨RX5, "thrown", "()I"⟩
abbrev cX5_refuse : ByteArray := prog_7_method_3_code
def yX5_refuse : MethodName := ⟨RX5, "refuse", "(I)I"⟩
abbrev cX5_outside : ByteArray := prog_7_method_4_code
def yX5_outside : MethodName := ⟨RX5, "outside", "(III)Z"⟩
abbrev cX5_put : ByteArray := prog_7_method_5_code
def yX5_put : MethodName := ⟨RX5, "put", "(II)Z"⟩
abbrev cX5_look : ByteArray := prog_7_method_6_code
def yX5_look : MethodName := ⟨RX5, "look", "()C"⟩
abbrev cX5_must : ByteArray := prog_7_method_7_code
def yX5_must : MethodName := ⟨RX5, "must", "(Z)V"⟩
abbrev cX5_type : ByteArray := prog_7_method_8_code
def yX5_type : MethodName := ⟨RX5, "type", "(Z)V"⟩
abbrev cX5_pass : ByteArray := prog_7_method_9_code
def yX5_pass : MethodName := ⟨RX5, "pass", "(C)Z"⟩
abbrev cX5_expect : ByteArray := prog_7_method_10_code
def yX5_expect : MethodName := ⟨RX5, "expect", "(C)V"⟩
abbrev cX5_letter : ByteArray := prog_7_method_11_code
def yX5_letter : MethodName := ⟨RX5, "letter", "(CC)I"⟩
abbrev cX5_isDigit : ByteArray := prog_7_method_12_code
def yX5_isDigit : MethodName := ⟨RX5, "isDigit", "()Z"⟩
abbrev cX5_emit : ByteArray := prog_7_method_13_code
def yX5_emit : MethodName := ⟨RX5, "emit", "(II)V"⟩
abbrev cX5_grow : ByteArray := prog_7_method_14_code
def yX5_grow : MethodName := ⟨RX5, "grow", "(I)V"⟩
abbrev cX5_find : ByteArray := prog_7_method_15_code
def yX5_find : MethodName := ⟨RX5, "find", "(III)I"⟩
abbrev cX5_before : ByteArray := prog_7_method_16_code
def yX5_before : MethodName := ⟨RX5, "before", "(II)I"⟩
abbrev cX5_words : ByteArray := prog_7_method_17_code
def yX5_words : MethodName := ⟨RX5, "words", "(I)I"⟩
abbrev cX5_opened : ByteArray := prog_7_method_18_code
def yX5_opened : MethodName := ⟨RX5, "opened", "(I)V"⟩
abbrev cX5_readNumber : ByteArray := prog_7_method_19_code
def yX5_readNumber : MethodName := ⟨RX5, "readNumber", "()V"⟩
abbrev cX5_readParameter : ByteArray := prog_7_method_20_code
def yX5_readParameter : MethodName := ⟨RX5, "readParameter", "()V"⟩
abbrev cX5_readCall : ByteArray := prog_7_method_21_code
def yX5_readCall : MethodName := ⟨RX5, "readCall", "()Z"⟩
abbrev cX5_calleeItem : ByteArray := prog_7_method_22_code
def yX5_calleeItem : MethodName := ⟨RX5, "calleeItem", "()I"⟩
abbrev cX5_endCall : ByteArray := prog_7_method_23_code
def yX5_endCall : MethodName := ⟨RX5, "endCall", "()V"⟩
abbrev cX5_beginFactor : ByteArray := prog_7_method_24_code
def yX5_beginFactor : MethodName := ⟨RX5, "beginFactor", "()Z"⟩
abbrev cX5_project : ByteArray := prog_7_method_25_code
def yX5_project : MethodName := ⟨RX5, "project", "()V"⟩
abbrev cX5_endFactor : ByteArray := prog_7_method_26_code
def yX5_endFactor : MethodName := ⟨RX5, "endFactor", "()Z"⟩
abbrev cX5_keep : ByteArray := prog_7_method_27_code
def yX5_keep : MethodName := ⟨RX5, "keep", "()V"⟩
abbrev cX5_operate : ByteArray := prog_7_method_28_code
def yX5_operate : MethodName := ⟨RX5, "operate", "(I)V"⟩
abbrev cX5_endSum : ByteArray := prog_7_method_29_code
def yX5_endSum : MethodName := ⟨RX5, "endSum", "()Z"⟩
abbrev cX5_choose : ByteArray := prog_7_method_30_code
def yX5_choose : MethodName := ⟨RX5, "choose", "(II)Z"⟩
abbrev cX5_readExpression : ByteArray := prog_7_method_31_code
def yX5_readExpression : MethodName := ⟨RX5, "readExpression", "(I)V"⟩
abbrev cX5_readSignature : ByteArray := prog_7_method_32_code
def yX5_readSignature : MethodName := ⟨RX5, "readSignature", "(I)V"⟩
abbrev cX5_readType : ByteArray := prog_7_method_33_code
def yX5_readType : MethodName := ⟨RX5, "readType", "()Z"⟩
abbrev cX5_readItem : ByteArray := prog_7_method_34_code
def yX5_readItem : MethodName := ⟨RX5, "readItem", "(I)V"⟩
abbrev cX5_readItems : ByteArray := prog_7_method_35_code
def yX5_readItems : MethodName := ⟨RX5, "readItems", "(Z)V"⟩
abbrev cX5_accept : ByteArray := prog_7_method_36_code
def yX5_accept : MethodName := ⟨RX5, "accept", "(I)V"⟩
abbrev cX5_module : ByteArray := prog_7_method_37_code
def yX5_module : MethodName := ⟨RX5, "module", "()I"⟩
abbrev cX5_fault : ByteArray := prog_7_method_38_code
def yX5_fault : MethodName := ⟨RX5, "fault", "()I"⟩
abbrev cX5_isModule : ByteArray := prog_7_method_39_code
def yX5_isModule : MethodName := ⟨RX5, "isModule", "(I)Z"⟩
abbrev cX5_drop : ByteArray := prog_7_method_40_code
def yX5_drop : MethodName := ⟨RX5, "drop", "(I)V"⟩
abbrev cX5_meant : ByteArray := prog_7_method_41_code
def yX5_meant : MethodName := ⟨RX5, "meant", "(I)I"⟩
abbrev cX5_link : ByteArray := prog_7_method_42_code
def yX5_link : MethodName := ⟨RX5, "link", "()I"⟩
abbrev cX5_unfit : ByteArray := prog_7_method_43_code
def yX5_unfit : MethodName := ⟨RX5, "unfit", "(I)I"⟩
abbrev cX5_about : ByteArray := prog_7_method_44_code
def yX5_about : MethodName := ⟨RX5, "about", "(III)I"⟩
abbrev cX5_push : ByteArray := prog_7_method_45_code
def yX5_push : MethodName := ⟨RX5, "push", "(I)V"⟩
abbrev cX5_pop : ByteArray := prog_7_method_46_code
def yX5_pop : MethodName := ⟨RX5, "pop", "()I"⟩
abbrev cX5_enter : ByteArray := prog_7_method_47_code
def yX5_enter : MethodName := ⟨RX5, "enter", "(II)I"⟩
abbrev cX5_leave : ByteArray := prog_7_method_48_code
def yX5_leave : MethodName := ⟨RX5, "leave", "()V"⟩
abbrev cX5_invoke : ByteArray := prog_7_method_49_code
def yX5_invoke : MethodName := ⟨RX5, "invoke", "(III)I"⟩
abbrev cX5_work : ByteArray := prog_7_method_50_code
def yX5_work : MethodName := ⟨RX5, "work", "(III)V"⟩
abbrev cX5_go : ByteArray := prog_7_method_51_code
def yX5_go : MethodName := ⟨RX5, "go", "()I"⟩
abbrev cX5_callable : ByteArray := prog_7_method_52_code
def yX5_callable : MethodName := ⟨RX5, "callable", "(II)I"⟩
abbrev cX5_call : ByteArray := prog_7_method_53_code
def yX5_call : MethodName := ⟨RX5, "call", "(IIIIIII)I"⟩
abbrev cX5_result : ByteArray := prog_7_method_54_code
def yX5_result : MethodName := ⟨RX5, "result", "(I)I"⟩
abbrev cX5_took : ByteArray := prog_7_method_55_code
def yX5_took : MethodName := ⟨RX5, "took", "(I)I"⟩
def RJ9 : String := "java/lang/Math"
def TJ9 : u_T := fun k => match k with
  | _ => ("", "", "", false)
def tyJ9 : Nat → FieldType := fun k => match k with
  | _ => .int
abbrev wsJ90 : List Cond := u_ws RJ9 TJ9 0
theorem nmJ9 : ∀ a, a < 0 → ∀ b, b < 0 → a ≠ b → (TJ9 a).2.1 ≠ (TJ9 b).2.1 := by decide +kernel
theorem tyJ9_ok : ∀ k, k < 0 → parseFieldDescriptor (TJ9 k).2.2.1 = some (tyJ9 k) := by decide +kernel
abbrev cJ9_max_7cf53 : ByteArray := prog_11_method_65_code
def yJ9_max_7cf53 : MethodName := ⟨RJ9, "max", "(II)I"⟩
abbrev cJ9_min_7cf53 : ByteArray := prog_11_method_69_code
def yJ9_min_7cf53 : MethodName := ⟨RJ9, "min", "(II)I"⟩
def RL : String := "ModuleLinkerLaw"
abbrev cL_cell : ByteArray := method_2_code
def yL_cell : MethodName := ⟨RL, "cell", "([II)I"⟩
abbrev cL_module : ByteArray := method_3_code
def yL_module : MethodName := ⟨RL, "module", "(LModuleLinker;[J)I"⟩
abbrev cL_drop : ByteArray := method_4_code
def yL_drop : MethodName := ⟨RL, "drop", "(LModuleLinker;I)I"⟩
abbrev cL_link : ByteArray := method_5_code
def yL_link : MethodName := ⟨RL, "link", "(LModuleLinker;[J)I"⟩
abbrev cL_about : ByteArray := method_6_code
def yL_about : MethodName := ⟨RL, "about", "(LModuleLinker;III[J)I"⟩
abbrev cL_call : ByteArray := method_7_code
def yL_call : MethodName := ⟨RL, "call", "(LModuleLinker;IIIIIII[J)I"⟩
abbrev cL_law : ByteArray := code
def yL_law : MethodName := ⟨RL, "law", "([I)Z"⟩
def wsL_law0_r1 : List Cond := [Cond.classLink RL 8 RX4, Cond.instantiable RX4 11, Cond.initialized RX4, Cond.classLink RL 44 RX5, Cond.instantiable RX5 51, Cond.initialized RX5, Cond.arrayClass .long, Cond.methodLink RL 36 yL_cell, Cond.static yL_cell, Cond.initialized RL, Cond.code yL_cell cL_cell 2 (some .int), Cond.methodLink RL 42 yX4_init, Cond.instanceMethod yX4_init, Cond.code yX4_init cX4_init 3 none, Cond.methodLink RX4 3 objectInit, Cond.instanceMethod objectInit, Cond.code objectInit ⟨#[0xb1]⟩ 1 none, Cond.arrayClass .char, Cond.fieldLink RX4 9 "ModuleLinker" "buffer" "[C", Cond.classLink RX4 13 RX3, Cond.fieldLink RX4 15 "ModuleLinker" "units" "[LModuleLinker$Unit;", Cond.arrayClass .boolean, Cond.fieldLink RX4 19 "ModuleLinker" "present" "[Z", Cond.instantiable RX3 5]
def wsL_law0_r2 : List Cond := [Cond.initialized RX3, Cond.fieldLink RX4 24 "ModuleLinker" "spare" "LModuleLinker$Unit;", Cond.classLink RX4 28 RX0, Cond.instantiable RX0 9, Cond.initialized RX0, Cond.fieldLink RX4 31 "ModuleLinker" "compiler" "LModuleLinker$Compiler;", Cond.fieldLink RX4 35 "ModuleLinker" "latestFault" "I", Cond.fieldLink RX4 39 "ModuleLinker" "unfitModule" "I", Cond.fieldLink RX4 42 "ModuleLinker" "unfitItem" "I", Cond.classLink RX4 45 RX2, Cond.instantiable RX2 15, Cond.initialized RX2, Cond.methodLink RX4 47 Lib.Math.min.name, Cond.static Lib.Math.min.name, Cond.initialized "java/lang/Math", Cond.code Lib.Math.min.name Lib.Math.min.code 2 (some .int), Cond.methodLink RX4 53 Lib.Math.max.name, Cond.static Lib.Math.max.name, Cond.code Lib.Math.max.name Lib.Math.max.code 2 (some .int), Cond.fieldLink RX4 59 "ModuleLinker" "machine" "LModuleLinker$Machine;", Cond.instanceMethod yX3_init, Cond.code yX3_init cX3_init 2 none, Cond.methodLink RX3 3 objectInit, Cond.classLink RX3 9 RX1]
def wsL_law0_r3 : List Cond := [Cond.fieldLink RX3 11 "ModuleLinker$Unit" "items" "[LModuleLinker$Item;", Cond.arrayClass .int, Cond.fieldLink RX3 17 "ModuleLinker$Unit" "code" "[I", Cond.instantiable RX1 7, Cond.initialized RX1, Cond.instanceMethod yX1_init, Cond.code yX1_init cX1_init 1 none, Cond.methodLink RX1 1 objectInit, Cond.instanceMethod yX0_init, Cond.code yX0_init cX0_init 1 none, Cond.methodLink RX0 3 objectInit, Cond.instanceMethod yX2_init, Cond.code yX2_init cX2_init 2 none, Cond.methodLink RX2 3 objectInit, Cond.fieldLink RX2 9 "ModuleLinker$Machine" "stack" "[I", Cond.fieldLink RX2 15 "ModuleLinker$Machine" "size" "I", Cond.methodLink RL 46 yX5_init, Cond.instanceMethod yX5_init, Cond.code yX5_init cX5_init 2 none, Cond.methodLink RX5 1 objectInit, Cond.fieldLink RX5 7 "ModuleLinkerModel" "text" "[C", Cond.fieldLink RX5 13 "ModuleLinkerModel" "there" "[Z", Cond.fieldLink RX5 17 "ModuleLinkerModel" "many" "[I", Cond.fieldLink RX5 21 "ModuleLinkerModel" "name" "[I"]
def wsL_law0_r4 : List Cond := [Cond.fieldLink RX5 24 "ModuleLinkerModel" "from" "[I", Cond.fieldLink RX5 27 "ModuleLinkerModel" "exported" "[Z", Cond.fieldLink RX5 30 "ModuleLinkerModel" "takes" "[I", Cond.fieldLink RX5 33 "ModuleLinkerModel" "pairs" "[Z", Cond.fieldLink RX5 36 "ModuleLinkerModel" "result" "[Z", Cond.fieldLink RX5 39 "ModuleLinkerModel" "room" "[I", Cond.fieldLink RX5 42 "ModuleLinkerModel" "begins" "[I", Cond.fieldLink RX5 45 "ModuleLinkerModel" "sign" "[I", Cond.fieldLink RX5 48 "ModuleLinkerModel" "number" "[I", Cond.fieldLink RX5 51 "ModuleLinkerModel" "below" "[I", Cond.fieldLink RX5 54 "ModuleLinkerModel" "kind" "[I", Cond.fieldLink RX5 57 "ModuleLinkerModel" "state" "[I", Cond.fieldLink RX5 60 "ModuleLinkerModel" "sumSign" "[I", Cond.fieldLink RX5 63 "ModuleLinkerModel" "product" "[Z", Cond.fieldLink RX5 66 "ModuleLinkerModel" "keptPair" "[Z", Cond.fieldLink RX5 69 "ModuleLinkerModel" "kept" "[I", Cond.fieldLink RX5 72 "ModuleLinkerModel" "callee" "[I", Cond.fieldLink RX5 75 "ModuleLinkerModel" "unfitModule" "I", Cond.fieldLink RX5 79 "ModuleLinkerModel" "unfitItem" "I", Cond.fieldLink RX5 82 "ModuleLinkerModel" "word" "[I", Cond.fieldLink RX5 85 "ModuleLinkerModel" "inModule" "[I", Cond.fieldLink RX5 88 "ModuleLinkerModel" "inItem" "[I", Cond.fieldLink RX5 91 "ModuleLinkerModel" "next" "[I", Cond.fieldLink RX5 94 "ModuleLinkerModel" "base" "[I"]
def wsL_law0_r5 : List Cond := [Cond.fieldLink RX5 97 "ModuleLinkerModel" "entered" "[I", Cond.fieldLink RX5 100 "ModuleLinkerModel" "size" "I", Cond.methodLink RL 47 yX4_put, Cond.instanceMethod yX4_put, Cond.selects RX4 yX4_put yX4_put, Cond.code yX4_put cX4_put 5 (some .boolean), Cond.fieldLink RX4 63 "ModuleLinker" "length" "I", Cond.methodLink RX4 66 yX4_byteOf, Cond.static yX4_byteOf, Cond.code yX4_byteOf cX4_byteOf 2 (some .int), Cond.methodLink RL 51 yX5_put, Cond.instanceMethod yX5_put, Cond.selects RX5 yX5_put yX5_put, Cond.code yX5_put cX5_put 4 (some .boolean), Cond.fieldLink RX5 103 "ModuleLinkerModel" "code" "I", Cond.fieldLink RX5 110 "ModuleLinkerModel" "length" "I", Cond.methodLink RX5 106 yX5_outside, Cond.static yX5_outside, Cond.code yX5_outside cX5_outside 3 (some .boolean), Cond.methodLink RL 52 yL_module, Cond.static yL_module, Cond.codeWith yL_module cL_module 3 (some .int) [(0, 8, 11, 13)], Cond.classLink RL 13 "java/lang/IllegalArgumentException", Cond.methodLink RL 7 yX4_module]
def wsL_law0_r6 : List Cond := [Cond.instanceMethod yX4_module, Cond.selects RX4 yX4_module yX4_module, Cond.code yX4_module cX4_module 3 (some .int), Cond.classLink RX4 73 "java/lang/IllegalArgumentException", Cond.initialized "java/lang/IllegalArgumentException", Cond.fieldLink RX4 79 "ModuleLinker" "linked" "Z", Cond.instanceMethod yX0_compile, Cond.selects RX0 yX0_compile yX0_compile, Cond.code yX0_compile cX0_compile 5 (some .int), Cond.fieldLink RX0 9 "ModuleLinker$Compiler" "text" "[C", Cond.fieldLink RX0 15 "ModuleLinker$Compiler" "length" "I", Cond.fieldLink RX0 19 "ModuleLinker$Compiler" "at" "I", Cond.fieldLink RX0 22 "ModuleLinker$Compiler" "unit" "LModuleLinker$Unit;", Cond.fieldLink RX0 34 "ModuleLinker$Compiler" "textWrong" "Z", Cond.fieldLink RX0 38 "ModuleLinker$Compiler" "typesWrong" "Z", Cond.methodLink RX0 41 yX0_readHeads, Cond.instanceMethod yX0_readHeads, Cond.selects RX0 yX0_readHeads yX0_readHeads, Cond.code yX0_readHeads cX0_readHeads 2 none, Cond.methodLink RX0 57 yX0_readAmong, Cond.instanceMethod yX0_readAmong, Cond.selects RX0 yX0_readAmong yX0_readAmong, Cond.code yX0_readAmong cX0_readAmong 4 (some .int), Cond.methodLink RX0 64 yX0_peek]
def wsL_law0_r7 : List Cond := [Cond.instanceMethod yX0_peek, Cond.selects RX0 yX0_peek yX0_peek, Cond.code yX0_peek cX0_peek 1 (some .char), Cond.methodLink RX0 151 yX0_isIn, Cond.static yX0_isIn, Cond.code yX0_isIn cX0_isIn 3 (some .boolean), Cond.methodLink RX0 75 yX0_refuse, Cond.instanceMethod yX0_refuse, Cond.selects RX0 yX0_refuse yX0_refuse, Cond.code yX0_refuse cX0_refuse 1 (some .int), Cond.methodLink RX0 68 yX0_take, Cond.instanceMethod yX0_take, Cond.selects RX0 yX0_take yX0_take, Cond.code yX0_take cX0_take 2 none, Cond.methodLink RX0 82 yX0_takeIf, Cond.instanceMethod yX0_takeIf, Cond.selects RX0 yX0_takeIf yX0_takeIf, Cond.code yX0_takeIf cX0_takeIf 2 (some .boolean), Cond.methodLink RX0 72 yX0_readHead, Cond.instanceMethod yX0_readHead, Cond.selects RX0 yX0_readHead yX0_readHead, Cond.code yX0_readHead cX0_readHead 2 none, Cond.instanceMethod yX3_find, Cond.selects RX3 yX3_find yX3_find]
def wsL_law0_r8 : List Cond := [Cond.code yX3_find cX3_find 4 (some (.object "ModuleLinker$Item")), Cond.fieldLink RX3 22 "ModuleLinker$Unit" "count" "I", Cond.methodLink RX0 91 yX0_readSignature, Cond.instanceMethod yX0_readSignature, Cond.selects RX0 yX0_readSignature yX0_readSignature, Cond.code yX0_readSignature cX0_readSignature 3 (some .int), Cond.methodLink RX0 110 yX0_readType, Cond.instanceMethod yX0_readType, Cond.selects RX0 yX0_readType yX0_readType, Cond.code yX0_readType cX0_readType 1 (some .int), Cond.static yX4_wordsBefore, Cond.code yX4_wordsBefore cX4_wordsBefore 4 (some .int), Cond.methodLink RX4 124 yX4_typeAt, Cond.static yX4_typeAt, Cond.code yX4_typeAt cX4_typeAt 2 (some .int), Cond.methodLink RX0 107 yX0_skipBody, Cond.instanceMethod yX0_skipBody, Cond.selects RX0 yX0_skipBody yX0_skipBody, Cond.code yX0_skipBody cX0_skipBody 2 none, Cond.methodLink RX0 53 yX0_readBody, Cond.instanceMethod yX0_readBody, Cond.selects RX0 yX0_readBody yX0_readBody, Cond.code yX0_readBody cX0_readBody 2 none, Cond.fieldLink RX0 113 "ModuleLinker$Compiler" "signature" "I"]
def wsL_law0_r9 : List Cond := [Cond.fieldLink RX0 114 "ModuleLinker$Compiler" "held" "I", Cond.fieldLink RX0 117 "ModuleLinker$Compiler" "room" "I", Cond.methodLink RX0 123 yX0_readExpression, Cond.instanceMethod yX0_readExpression, Cond.selects RX0 yX0_readExpression yX0_readExpression, Cond.code yX0_readExpression cX0_readExpression 5 (some .int), Cond.methodLink RX0 135 yX0_readProduct, Cond.instanceMethod yX0_readProduct, Cond.selects RX0 yX0_readProduct yX0_readProduct, Cond.methodLink RX0 127 yX0_need, Cond.instanceMethod yX0_need, Cond.selects RX0 yX0_need yX0_need, Cond.code yX0_need cX0_need 3 none, Cond.methodLink RX0 138 yX0_hold, Cond.instanceMethod yX0_hold, Cond.selects RX0 yX0_hold yX0_hold, Cond.code yX0_hold cX0_hold 2 none, Cond.methodLink RX0 179 Lib.Math.max.name, Cond.instanceMethod yX3_emit, Cond.selects RX3 yX3_emit yX3_emit, Cond.code yX3_emit cX3_emit 4 (some .int), Cond.fieldLink RX3 32 "ModuleLinker$Unit" "codeLength" "I", Cond.methodLink RX0 142 yX0_release, Cond.instanceMethod yX0_release]
def wsL_law0_r10 : List Cond := [Cond.selects RX0 yX0_release yX0_release, Cond.code yX0_release cX0_release 2 none, Cond.code yX0_readArguments cX0_readArguments 8 none, Cond.code yX0_readCall cX0_readCall 6 (some .int), Cond.methodLink RX0 176 yX0_readArguments, Cond.instanceMethod yX0_readArguments, Cond.selects RX0 yX0_readArguments yX0_readArguments, Cond.code yX0_readChoice cX0_readChoice 5 (some .int), Cond.instanceMethod yX3_landHere, Cond.selects RX3 yX3_landHere yX3_landHere, Cond.code yX3_landHere cX3_landHere 2 none, Cond.code yX0_readFactor cX0_readFactor 3 (some .int), Cond.methodLink RX0 148 yX0_readWhole, Cond.instanceMethod yX0_readWhole, Cond.selects RX0 yX0_readWhole yX0_readWhole, Cond.code yX0_readGroup cX0_readGroup 3 (some .int), Cond.code yX0_readPair cX0_readPair 2 (some .int), Cond.code yX0_readProduct cX0_readProduct 4 (some .int), Cond.methodLink RX0 145 yX0_readFactor, Cond.instanceMethod yX0_readFactor, Cond.selects RX0 yX0_readFactor yX0_readFactor, Cond.code yX0_readWhole cX0_readWhole 4 (some .int), Cond.methodLink RX0 155 yX0_readNumber, Cond.instanceMethod yX0_readNumber]
def wsL_law0_r11 : List Cond := [Cond.selects RX0 yX0_readNumber yX0_readNumber, Cond.code yX0_readNumber cX0_readNumber 3 (some .int), Cond.methodLink RX0 158 yX0_readParameter, Cond.instanceMethod yX0_readParameter, Cond.selects RX0 yX0_readParameter yX0_readParameter, Cond.code yX0_readParameter cX0_readParameter 3 (some .int), Cond.methodLink RX0 161 yX0_readCall, Cond.instanceMethod yX0_readCall, Cond.selects RX0 yX0_readCall yX0_readCall, Cond.methodLink RX0 164 yX0_readGroup, Cond.instanceMethod yX0_readGroup, Cond.selects RX0 yX0_readGroup yX0_readGroup, Cond.methodLink RX0 167 yX0_readPair, Cond.instanceMethod yX0_readPair, Cond.selects RX0 yX0_readPair yX0_readPair, Cond.methodLink RX0 170 yX0_readChoice, Cond.instanceMethod yX0_readChoice, Cond.selects RX0 yX0_readChoice yX0_readChoice, Cond.methodLink RL 55 yX5_module, Cond.instanceMethod yX5_module, Cond.selects RX5 yX5_module yX5_module, Cond.code yX5_module cX5_module 2 (some .int), Cond.fieldLink RX5 116 "ModuleLinkerModel" "good" "Z", Cond.fieldLink RX5 113 "ModuleLinkerModel" "at" "I"]
def wsL_law0_r12 : List Cond := [Cond.fieldLink RX5 120 "ModuleLinkerModel" "typed" "Z", Cond.fieldLink RX5 243 "ModuleLinkerModel" "fault" "I", Cond.fieldLink RX5 253 "ModuleLinkerModel" "linked" "Z", Cond.methodLink RX5 165 yX5_letter, Cond.instanceMethod yX5_letter, Cond.selects RX5 yX5_letter yX5_letter, Cond.code yX5_letter cX5_letter 3 (some .int), Cond.methodLink RX5 123 yX5_look, Cond.instanceMethod yX5_look, Cond.selects RX5 yX5_look yX5_look, Cond.code yX5_look cX5_look 1 (some .char), Cond.methodLink RX5 131 yX5_must, Cond.instanceMethod yX5_must, Cond.selects RX5 yX5_must yX5_must, Cond.code yX5_must cX5_must 2 none, Cond.methodLink RX5 240 yX5_readItems, Cond.instanceMethod yX5_readItems, Cond.selects RX5 yX5_readItems yX5_readItems, Cond.code yX5_readItems cX5_readItems 3 none, Cond.fieldLink RX5 135 "ModuleLinkerModel" "declaring" "Z", Cond.fieldLink RX5 138 "ModuleLinkerModel" "signs" "I", Cond.methodLink RX5 127 yX5_pass, Cond.instanceMethod yX5_pass, Cond.selects RX5 yX5_pass yX5_pass]
def wsL_law0_r13 : List Cond := [Cond.code yX5_pass cX5_pass 3 (some .boolean), Cond.methodLink RX5 237 yX5_readItem, Cond.instanceMethod yX5_readItem, Cond.selects RX5 yX5_readItem yX5_readItem, Cond.code yX5_readItem cX5_readItem 7 none, Cond.methodLink RX5 175 yX5_expect, Cond.instanceMethod yX5_expect, Cond.selects RX5 yX5_expect yX5_expect, Cond.code yX5_expect cX5_expect 2 none, Cond.methodLink RX5 183 yX5_find, Cond.instanceMethod yX5_find, Cond.selects RX5 yX5_find yX5_find, Cond.code yX5_find cX5_find 6 (some .int), Cond.methodLink RX5 231 yX5_readSignature, Cond.instanceMethod yX5_readSignature, Cond.selects RX5 yX5_readSignature yX5_readSignature, Cond.code yX5_readSignature cX5_readSignature 2 none, Cond.methodLink RX5 228 yX5_readType, Cond.instanceMethod yX5_readType, Cond.selects RX5 yX5_readType yX5_readType, Cond.code yX5_readType cX5_readType 2 (some .boolean), Cond.methodLink RX5 234 yX5_readExpression, Cond.instanceMethod yX5_readExpression, Cond.selects RX5 yX5_readExpression yX5_readExpression]
def wsL_law0_r14 : List Cond := [Cond.code yX5_readExpression cX5_readExpression 4 none, Cond.fieldLink RX5 169 "ModuleLinkerModel" "item" "I", Cond.fieldLink RX5 151 "ModuleLinkerModel" "open" "I", Cond.fieldLink RX5 141 "ModuleLinkerModel" "height" "I", Cond.fieldLink RX5 144 "ModuleLinkerModel" "most" "I", Cond.fieldLink RX5 162 "ModuleLinkerModel" "isPair" "Z", Cond.methodLink RX5 179 yX5_opened, Cond.instanceMethod yX5_opened, Cond.selects RX5 yX5_opened yX5_opened, Cond.code yX5_opened cX5_opened 2 none, Cond.methodLink RX5 219 yX5_beginFactor, Cond.instanceMethod yX5_beginFactor, Cond.selects RX5 yX5_beginFactor yX5_beginFactor, Cond.code yX5_beginFactor cX5_beginFactor 3 (some .boolean), Cond.methodLink RX5 154 yX5_isDigit, Cond.instanceMethod yX5_isDigit, Cond.selects RX5 yX5_isDigit yX5_isDigit, Cond.code yX5_isDigit cX5_isDigit 1 (some .boolean), Cond.methodLink RX5 191 yX5_readNumber, Cond.instanceMethod yX5_readNumber, Cond.selects RX5 yX5_readNumber yX5_readNumber, Cond.code yX5_readNumber cX5_readNumber 3 none, Cond.methodLink RX5 158 yX5_emit, Cond.instanceMethod yX5_emit]
def wsL_law0_r15 : List Cond := [Cond.selects RX5 yX5_emit yX5_emit, Cond.code yX5_emit cX5_emit 3 none, Cond.methodLink RX5 194 yX5_readParameter, Cond.instanceMethod yX5_readParameter, Cond.selects RX5 yX5_readParameter yX5_readParameter, Cond.code yX5_readParameter cX5_readParameter 3 none, Cond.methodLink RX5 172 yX5_type, Cond.instanceMethod yX5_type, Cond.selects RX5 yX5_type yX5_type, Cond.code yX5_type cX5_type 2 none, Cond.methodLink RX5 147 yX5_before, Cond.instanceMethod yX5_before, Cond.selects RX5 yX5_before yX5_before, Cond.code yX5_before cX5_before 5 (some .int), Cond.methodLink RX5 197 yX5_readCall, Cond.instanceMethod yX5_readCall, Cond.selects RX5 yX5_readCall yX5_readCall, Cond.code yX5_readCall cX5_readCall 4 (some .boolean), Cond.methodLink RX5 200 yX5_endCall, Cond.instanceMethod yX5_endCall, Cond.selects RX5 yX5_endCall yX5_endCall, Cond.code yX5_endCall cX5_endCall 2 none, Cond.methodLink RX5 187 yX5_calleeItem, Cond.instanceMethod yX5_calleeItem]
def wsL_law0_r16 : List Cond := [Cond.selects RX5 yX5_calleeItem yX5_calleeItem, Cond.code yX5_calleeItem cX5_calleeItem 1 (some .int), Cond.methodLink RX5 222 yX5_endFactor, Cond.instanceMethod yX5_endFactor, Cond.selects RX5 yX5_endFactor yX5_endFactor, Cond.code yX5_endFactor cX5_endFactor 2 (some .boolean), Cond.methodLink RX5 203 yX5_project, Cond.instanceMethod yX5_project, Cond.selects RX5 yX5_project yX5_project, Cond.code yX5_project cX5_project 1 none, Cond.methodLink RX5 206 yX5_operate, Cond.instanceMethod yX5_operate, Cond.selects RX5 yX5_operate yX5_operate, Cond.code yX5_operate cX5_operate 2 none, Cond.methodLink RX5 209 yX5_keep, Cond.instanceMethod yX5_keep, Cond.selects RX5 yX5_keep yX5_keep, Cond.code yX5_keep cX5_keep 1 none, Cond.methodLink RX5 212 yX5_grow, Cond.instanceMethod yX5_grow, Cond.selects RX5 yX5_grow yX5_grow, Cond.code yX5_grow cX5_grow 2 none, Cond.methodLink RX5 225 yX5_endSum, Cond.instanceMethod yX5_endSum]
def wsL_law0_r17 : List Cond := [Cond.selects RX5 yX5_endSum yX5_endSum, Cond.code yX5_endSum cX5_endSum 4 (some .boolean), Cond.methodLink RX5 215 yX5_choose, Cond.instanceMethod yX5_choose, Cond.selects RX5 yX5_choose yX5_choose, Cond.code yX5_choose cX5_choose 3 (some .boolean), Cond.methodLink RX5 246 yX5_refuse, Cond.instanceMethod yX5_refuse, Cond.selects RX5 yX5_refuse yX5_refuse, Cond.code yX5_refuse cX5_refuse 2 (some .int), Cond.methodLink RX5 250 yX5_accept, Cond.instanceMethod yX5_accept, Cond.selects RX5 yX5_accept yX5_accept, Cond.code yX5_accept cX5_accept 6 none, Cond.methodLink RL 56 yX5_thrown, Cond.instanceMethod yX5_thrown, Cond.selects RX5 yX5_thrown yX5_thrown, Cond.code yX5_thrown cX5_thrown 1 (some .int), Cond.methodLink RL 59 yX4_fault, Cond.instanceMethod yX4_fault, Cond.selects RX4 yX4_fault yX4_fault, Cond.code yX4_fault cX4_fault 1 (some .int), Cond.methodLink RL 62 yX5_fault, Cond.instanceMethod yX5_fault]
def wsL_law0_r18 : List Cond := [Cond.selects RX5 yX5_fault yX5_fault, Cond.code yX5_fault cX5_fault 1 (some .int), Cond.methodLink RL 63 yL_drop, Cond.static yL_drop, Cond.codeWith yL_drop cL_drop 3 (some .int) [(0, 5, 8, 19)], Cond.classLink RL 19 "java/util/NoSuchElementException", Cond.methodLink RL 15 yX4_drop, Cond.instanceMethod yX4_drop, Cond.selects RX4 yX4_drop yX4_drop, Cond.code yX4_drop cX4_drop 2 none, Cond.classLink RX4 87 "java/util/NoSuchElementException", Cond.initialized "java/util/NoSuchElementException", Cond.methodLink RX4 83 yX4_isPresent, Cond.instanceMethod yX4_isPresent, Cond.selects RX4 yX4_isPresent yX4_isPresent, Cond.code yX4_isPresent cX4_isPresent 2 (some .boolean), Cond.methodLink RL 66 yX5_drop, Cond.instanceMethod yX5_drop, Cond.selects RX5 yX5_drop yX5_drop, Cond.code yX5_drop cX5_drop 2 none, Cond.methodLink RX5 256 yX5_isModule, Cond.instanceMethod yX5_isModule, Cond.selects RX5 yX5_isModule yX5_isModule, Cond.code yX5_isModule cX5_isModule 2 (some .boolean)]
def wsL_law0_r19 : List Cond := [Cond.methodLink RL 67 yL_link, Cond.static yL_link, Cond.codeWith yL_link cL_link 3 (some .int) [(0, 8, 11, 24), (0, 8, 14, 26)], Cond.classLink RL 24 "java/lang/IllegalStateException", Cond.classLink RL 26 "java/lang/UnsupportedOperationException", Cond.methodLink RL 21 yX4_link, Cond.instanceMethod yX4_link, Cond.selects RX4 yX4_link yX4_link, Cond.code yX4_link cX4_link 1 (some .int), Cond.classLink RX4 94 "java/lang/IllegalStateException", Cond.initialized "java/lang/IllegalStateException", Cond.classLink RX4 100 "java/lang/UnsupportedOperationException", Cond.initialized "java/lang/UnsupportedOperationException", Cond.methodLink RX4 90 yX4_countModules, Cond.instanceMethod yX4_countModules, Cond.selects RX4 yX4_countModules yX4_countModules, Cond.code yX4_countModules cX4_countModules 3 (some .int), Cond.methodLink RX4 97 yX4_findUnfit, Cond.instanceMethod yX4_findUnfit, Cond.selects RX4 yX4_findUnfit yX4_findUnfit, Cond.code yX4_findUnfit cX4_findUnfit 3 none, Cond.methodLink RX4 151 yX4_firstUnfit, Cond.instanceMethod yX4_firstUnfit, Cond.selects RX4 yX4_firstUnfit yX4_firstUnfit]
def wsL_law0_r20 : List Cond := [Cond.code yX4_firstUnfit cX4_firstUnfit 4 (some .int), Cond.methodLink RX4 165 yX4_fits, Cond.instanceMethod yX4_fits, Cond.selects RX4 yX4_fits yX4_fits, Cond.code yX4_fits cX4_fits 3 (some .boolean), Cond.methodLink RX4 106 yX4_definitionOf, Cond.instanceMethod yX4_definitionOf, Cond.selects RX4 yX4_definitionOf yX4_definitionOf, Cond.code yX4_definitionOf cX4_definitionOf 3 (some (.object "ModuleLinker$Item")), Cond.methodLink RX4 103 yX4_countDefinitions, Cond.instanceMethod yX4_countDefinitions, Cond.selects RX4 yX4_countDefinitions yX4_countDefinitions, Cond.code yX4_countDefinitions cX4_countDefinitions 3 (some .int), Cond.instanceMethod yX3_countDefinitions, Cond.selects RX3 yX3_countDefinitions yX3_countDefinitions, Cond.code yX3_countDefinitions cX3_countDefinitions 3 (some .int), Cond.methodLink RL 69 yX5_link, Cond.instanceMethod yX5_link, Cond.selects RX5 yX5_link yX5_link, Cond.code yX5_link cX5_link 5 (some .int), Cond.methodLink RX5 260 yX5_meant, Cond.instanceMethod yX5_meant, Cond.selects RX5 yX5_meant yX5_meant, Cond.code yX5_meant cX5_meant 5 (some .int)]
def wsL_law0_r21 : List Cond := [Cond.methodLink RL 70 yX4_unfit, Cond.instanceMethod yX4_unfit, Cond.selects RX4 yX4_unfit yX4_unfit, Cond.code yX4_unfit cX4_unfit 2 (some .int), Cond.methodLink RL 74 yX5_unfit, Cond.instanceMethod yX5_unfit, Cond.selects RX5 yX5_unfit yX5_unfit, Cond.code yX5_unfit cX5_unfit 2 (some .int), Cond.methodLink RL 75 yL_about, Cond.static yL_about, Cond.codeWith yL_about cL_about 6 (some .int) [(0, 12, 15, 19)], Cond.methodLink RL 28 yX4_about, Cond.instanceMethod yX4_about, Cond.selects RX4 yX4_about yX4_about, Cond.code yX4_about cX4_about 5 (some .int), Cond.methodLink RL 78 yX5_about, Cond.instanceMethod yX5_about, Cond.selects RX5 yX5_about yX5_about, Cond.code yX5_about cX5_about 5 (some .int), Cond.methodLink RX5 263 yX5_words, Cond.instanceMethod yX5_words, Cond.selects RX5 yX5_words yX5_words, Cond.code yX5_words cX5_words 2 (some .int), Cond.methodLink RL 79 yL_call]
def wsL_law0_r22 : List Cond := [Cond.static yL_call, Cond.codeWith yL_call cL_call 10 (some .int) [(0, 20, 23, 24), (0, 20, 27, 19), (0, 20, 31, 13)], Cond.methodLink RL 32 yX4_call, Cond.instanceMethod yX4_call, Cond.selects RX4 yX4_call yX4_call, Cond.code yX4_call cX4_call 9 (some .int), Cond.instanceMethod yX2_load, Cond.selects RX2 yX2_load yX2_load, Cond.code yX2_load cX2_load 5 none, Cond.instanceMethod yX2_run, Cond.selects RX2 yX2_run yX2_run, Cond.code yX2_run cX2_run 6 (some .int), Cond.fieldLink RX2 19 "ModuleLinker$Machine" "units" "[LModuleLinker$Unit;", Cond.fieldLink RX2 28 "ModuleLinker$Machine" "height" "I", Cond.fieldLink RX2 31 "ModuleLinker$Machine" "base" "I", Cond.fieldLink RX2 34 "ModuleLinker$Machine" "fuel" "I", Cond.fieldLink RX2 37 "ModuleLinker$Machine" "most" "I", Cond.fieldLink RX2 40 "ModuleLinker$Machine" "spent" "I", Cond.fieldLink RX2 43 "ModuleLinker$Machine" "outcome" "I", Cond.constant RX2 50 (720240), Cond.fieldLink RX2 54 "ModuleLinker$Machine" "first" "I", Cond.fieldLink RX2 57 "ModuleLinker$Machine" "firstResult" "I", Cond.fieldLink RX2 67 "ModuleLinker$Machine" "second" "I", Cond.fieldLink RX2 70 "ModuleLinker$Machine" "secondResult" "I"]
def wsL_law0_r23 : List Cond := [Cond.methodLink RX2 46 yX2_enter, Cond.instanceMethod yX2_enter, Cond.selects RX2 yX2_enter yX2_enter, Cond.code yX2_enter cX2_enter 6 none, Cond.methodLink RX2 76 Lib.Math.max.name, Cond.fieldLink RX2 85 "ModuleLinker$Machine" "unit" "LModuleLinker$Unit;", Cond.fieldLink RX2 92 "ModuleLinker$Machine" "next" "I", Cond.methodLink RX2 81 yX2_push, Cond.instanceMethod yX2_push, Cond.selects RX2 yX2_push yX2_push, Cond.code yX2_push cX2_push 2 none, Cond.methodLink RX2 51 yX2_step, Cond.instanceMethod yX2_step, Cond.selects RX2 yX2_step yX2_step, Cond.code yX2_step cX2_step 3 none, Cond.methodLink RX2 95 yX2_pop, Cond.instanceMethod yX2_pop, Cond.selects RX2 yX2_pop yX2_pop, Cond.code yX2_pop cX2_pop 1 (some .int), Cond.methodLink RX2 104 yX2_enterNamed, Cond.instanceMethod yX2_enterNamed, Cond.selects RX2 yX2_enterNamed yX2_enterNamed, Cond.code yX2_enterNamed cX2_enterNamed 5 none, Cond.methodLink RX2 108 yX2_leave]
def wsL_law0_r24 : List Cond := [Cond.instanceMethod yX2_leave, Cond.selects RX2 yX2_leave yX2_leave, Cond.code yX2_leave cX2_leave 3 none, Cond.methodLink RL 82 yX5_call, Cond.instanceMethod yX5_call, Cond.selects RX5 yX5_call yX5_call, Cond.code yX5_call cX5_call 11 (some .int), Cond.fieldLink RX5 269 "ModuleLinkerModel" "fuel" "I", Cond.fieldLink RX5 272 "ModuleLinkerModel" "taken" "I", Cond.fieldLink RX5 275 "ModuleLinkerModel" "greatest" "I", Cond.fieldLink RX5 278 "ModuleLinkerModel" "frames" "I", Cond.fieldLink RX5 266 "ModuleLinkerModel" "high" "I", Cond.fieldLink RX5 306 "ModuleLinkerModel" "second" "I", Cond.fieldLink RX5 309 "ModuleLinkerModel" "first" "I", Cond.methodLink RX5 300 yX5_callable, Cond.instanceMethod yX5_callable, Cond.selects RX5 yX5_callable yX5_callable, Cond.code yX5_callable cX5_callable 4 (some .int), Cond.methodLink RX5 284 yX5_push, Cond.instanceMethod yX5_push, Cond.selects RX5 yX5_push yX5_push, Cond.code yX5_push cX5_push 2 none, Cond.methodLink RX5 287 yX5_enter, Cond.instanceMethod yX5_enter]
def wsL_law0_r25 : List Cond := [Cond.selects RX5 yX5_enter yX5_enter, Cond.code yX5_enter cX5_enter 4 (some .int), Cond.methodLink RX5 303 yX5_go, Cond.instanceMethod yX5_go, Cond.selects RX5 yX5_go yX5_go, Cond.code yX5_go cX5_go 6 (some .int), Cond.methodLink RX5 290 yX5_invoke, Cond.instanceMethod yX5_invoke, Cond.selects RX5 yX5_invoke yX5_invoke, Cond.code yX5_invoke cX5_invoke 5 (some .int), Cond.methodLink RX5 293 yX5_leave, Cond.instanceMethod yX5_leave, Cond.selects RX5 yX5_leave yX5_leave, Cond.code yX5_leave cX5_leave 4 none, Cond.methodLink RX5 281 yX5_pop, Cond.instanceMethod yX5_pop, Cond.selects RX5 yX5_pop yX5_pop, Cond.code yX5_pop cX5_pop 1 (some .int), Cond.methodLink RX5 296 yX5_work, Cond.instanceMethod yX5_work, Cond.selects RX5 yX5_work yX5_work, Cond.code yX5_work cX5_work 5 none, Cond.methodLink RL 83 yX4_result, Cond.instanceMethod yX4_result]
def wsL_law0_r26 : List Cond := [Cond.selects RX4 yX4_result yX4_result, Cond.code yX4_result cX4_result 2 (some .int), Cond.methodLink RL 86 yX5_result, Cond.instanceMethod yX5_result, Cond.selects RX5 yX5_result yX5_result, Cond.code yX5_result cX5_result 2 (some .int), Cond.methodLink RL 87 yX4_took, Cond.instanceMethod yX4_took, Cond.selects RX4 yX4_took yX4_took, Cond.code yX4_took cX4_took 2 (some .int), Cond.methodLink RL 90 yX5_took, Cond.instanceMethod yX5_took, Cond.selects RX5 yX5_took yX5_took, Cond.code yX5_took cX5_took 2 (some .int)]
def wsL_law0 : List Cond := (wsL_law0_r1 ++ (wsL_law0_r2 ++ (wsL_law0_r3 ++ (wsL_law0_r4 ++ (wsL_law0_r5 ++ (wsL_law0_r6 ++ (wsL_law0_r7 ++ (wsL_law0_r8 ++ (wsL_law0_r9 ++ (wsL_law0_r10 ++ (wsL_law0_r11 ++ (wsL_law0_r12 ++ (wsL_law0_r13 ++ (wsL_law0_r14 ++ (wsL_law0_r15 ++ (wsL_law0_r16 ++ (wsL_law0_r17 ++ (wsL_law0_r18 ++ (wsL_law0_r19 ++ (wsL_law0_r20 ++ (wsL_law0_r21 ++ (wsL_law0_r22 ++ (wsL_law0_r23 ++ (wsL_law0_r24 ++ (wsL_law0_r25 ++ wsL_law0_r26))))))))))))))))))))))))) ++ wsX40 ++ wsX50 ++ wsX30 ++ wsX00 ++ wsX20 ++ wsX10 ++ ([] : List Cond)
def wsL_law : List Cond := wsL_law0 ++ (vx_at0 RX4 75 "java/lang/IllegalArgumentException" ["java/lang/RuntimeException", "java/lang/Exception"]).filter goodWord ++ (vx_at0 RX4 89 "java/util/NoSuchElementException" ["java/lang/RuntimeException", "java/lang/Exception"]).filter goodWord ++ (vx_at0 RX4 96 "java/lang/IllegalStateException" ["java/lang/RuntimeException", "java/lang/Exception"]).filter goodWord ++ (vx_at0 RX4 102 "java/lang/UnsupportedOperationException" ["java/lang/RuntimeException", "java/lang/Exception"]).filter goodWord
theorem inlX0 : ∀ w ∈ wsX00, w ∈ wsL_law := fun _ h => List.mem_append_left _ (List.mem_append_left _ (List.mem_append_left _ (List.mem_append_left _ (List.mem_append_left _ (List.mem_append_left _ (List.mem_append_left _ (List.mem_append_right _ h)))))))
theorem inlX1 : ∀ w ∈ wsX10, w ∈ wsL_law := fun _ h => List.mem_append_left _ (List.mem_append_left _ (List.mem_append_left _ (List.mem_append_left _ (List.mem_append_left _ (List.mem_append_right _ h)))))
theorem inlX2 : ∀ w ∈ wsX20, w ∈ wsL_law := fun _ h => List.mem_append_left _ (List.mem_append_left _ (List.mem_append_left _ (List.mem_append_left _ (List.mem_append_left _ (List.mem_append_left _ (List.mem_append_right _ h))))))
theorem inlX3 : ∀ w ∈ wsX30, w ∈ wsL_law := fun _ h => List.mem_append_left _ (List.mem_append_left _ (List.mem_append_left _ (List.mem_append_left _ (List.mem_append_left _ (List.mem_append_left _ (List.mem_append_left _ (List.mem_append_left _ (List.mem_append_right _ h))))))))
theorem inlX4 : ∀ w ∈ wsX40, w ∈ wsL_law := fun _ h => List.mem_append_left _ (List.mem_append_left _ (List.mem_append_left _ (List.mem_append_left _ (List.mem_append_left _ (List.mem_append_left _ (List.mem_append_left _ (List.mem_append_left _ (List.mem_append_left _ (List.mem_append_left _ (List.mem_append_right _ h))))))))))
theorem inlX5 : ∀ w ∈ wsX50, w ∈ wsL_law := fun _ h => List.mem_append_left _ (List.mem_append_left _ (List.mem_append_left _ (List.mem_append_left _ (List.mem_append_left _ (List.mem_append_left _ (List.mem_append_left _ (List.mem_append_left _ (List.mem_append_left _ (List.mem_append_right _ h)))))))))
abbrev vwCl : List vw_C := [(RX0, TX0, 9), (RX1, TX1, 7), (RX2, TX2, 15), (RX3, TX3, 5), (RX4, TX4, 11), (RX5, TX5, 51)]
end
section
/-! THE SMALL MACHINE. The world has 99 cells, numbered in the order in which the law makes them; cell k lies at the address (jad w k). Of a heap h: h.1 k j is the number in field (or element) j of cell k, h.2.1 k j the reference (a cell's number), h.2.2 k j the long. -/
abbrev jK : Type := Nat ⊕ (Nat × Nat)
abbrev jH : Type := (Nat → Nat → Int32) × (Nat → Nat → Option Nat) × (Nat → Nat → Int64)
/-- the tables' numbers, the array classes, the addresses -/
abbrev jW : Type := va_G × (Nat → ClassId) × (Nat → Nat)
abbrev jad (w : jW) : Nat → Nat := w.2.2
def up2 {α : Type} (f : Nat → Nat → α) (k j : Nat) (v : α) : Nat → Nat → α := fun a b => if a = k ∧ b = j then v else f a b
theorem up2_s {α : Type} {f : Nat → Nat → α} {k j : Nat} {v : α} : up2 f k j v k j = v := by simp [up2]
theorem up2_n {α : Type} {f : Nat → Nat → α} {k j a b : Nat} {v : α} (h : ¬ (a = k ∧ b = j)) : up2 f k j v a b = f a b := by simp [up2, h]
theorem up2_o {α : Type} {f : Nat → Nat → α} {k j a : Nat} {v : α} (h : a ≠ k) : up2 f k j v a = f a := by funext b; simp [up2, h]
theorem up2_r {α : Type} {f : Nat → Nat → α} {k j : Nat} {v : α} : up2 f k j v k = va_up (f k) j v := by funext b; simp [up2, va_up]
/-- the unit with the number u: its cell; its items' row is the next, its code's the one behind, then its six items -/
def ub (u : Nat) : Nat := if u = 0 then 4 else 5 + 9 * u
def jR (ci : Nat) : String := match ci with
  | 0 => RX0
  | 1 => RX1
  | 2 => RX2
  | 3 => RX3
  | 4 => RX4
  | _ => RX5
def jT (ci : Nat) : u_T := match ci with
  | 0 => TX0
  | 1 => TX1
  | 2 => TX2
  | 3 => TX3
  | 4 => TX4
  | _ => TX5
def jty (ci : Nat) : Nat → FieldType := match ci with
  | 0 => tyX0
  | 1 => tyX1
  | 2 => tyX2
  | 3 => tyX3
  | 4 => tyX4
  | _ => tyX5
def jN (ci : Nat) : Nat := match ci with
  | 0 => 9
  | 1 => 7
  | 2 => 15
  | 3 => 5
  | 4 => 11
  | _ => 51
def jref (t : FieldType) : Bool := match t with
  | .object _ => true
  | .array _ => true
  | _ => false
/-- the array types: char, int, boolean, units, items, long -/
def jaT (t : Nat) : FieldType := match t with
  | 0 => .char
  | 1 => .int
  | 2 => .boolean
  | 3 => .object "ModuleLinker$Unit"
  | 4 => .object "ModuleLinker$Item"
  | _ => .long
/-- the kinds of a unit's nine cells -/
def jku (i : Nat) : jK := match i with
  | 0 => .inl 3
  | 1 => .inr (4, 6)
  | 2 => .inr (1, 240)
  | _ => .inl 1
/-- the kinds of the reference's cells, from 70 on -/
def jkr (i : Nat) : jK := match i with
  | 0 => .inl 5
  | 1 => .inr (0, 120)
  | 2 => .inr (2, 7)
  | 3 => .inr (1, 7)
  | 4 => .inr (1, 42)
  | 5 => .inr (1, 42)
  | 6 => .inr (2, 42)
  | 7 => .inr (1, 42)
  | 8 => .inr (2, 126)
  | 9 => .inr (2, 42)
  | 10 => .inr (1, 42)
  | 11 => .inr (1, 42)
  | 12 => .inr (1, 910)
  | 13 => .inr (1, 910)
  | 14 => .inr (1, 910)
  | 15 => .inr (1, 10)
  | 16 => .inr (1, 10)
  | 17 => .inr (1, 10)
  | 18 => .inr (2, 10)
  | 19 => .inr (2, 10)
  | 20 => .inr (1, 10)
  | 21 => .inr (1, 10)
  | 22 => .inr (1, 1600)
  | 23 => .inr (1, 260)
  | 24 => .inr (1, 260)
  | 25 => .inr (1, 260)
  | 26 => .inr (1, 260)
  | 27 => .inr (1, 260)
  | _ => .inr (5, 1)
def jk (k : Nat) : jK := if k = 0 then .inl 4 else if k = 1 then .inr (0, 120) else if k = 2 then .inr (3, 6) else if k = 3 then .inr (2, 6) else if k < 13 then jku (k - 4) else if k = 13 then .inl 0 else if k < 68 then jku ((k - 14) % 9) else if k = 68 then .inl 2 else if k = 69 then .inr (1, 500) else jkr (k - 70)
theorem jk_unit : ∀ u, u < 7 → jk (ub u) = .inl 3 ∧ jk (ub u + 1) = .inr (4, 6) ∧ jk (ub u + 2) = .inr (1, 240) ∧ ub u + 8 < 99 ∧ ∀ i, i < 6 → jk (ub u + 3 + i) = .inl 1 := by decide
def jfs (w : jW) (h : jH) (ci k : Nat) : List Value := (List.range (jN ci)).map fun j => if jref (jty ci j) then va_rf ((h.2.1 k j).map (jad w)) else .int (h.1 k j)
def jarr (w : jW) (h : jH) (t k : Nat) : (Nat → Int32) ⊕ (Nat → Int64) ⊕ (Nat → UInt32) ⊕ (Nat → UInt64) ⊕ (Nat → Option Nat) := match jaT t with
  | .object _ => .inr (.inr (.inr (.inr fun j => (h.2.1 k j).map (jad w))))
  | .long => .inr (.inl (h.2.2 k))
  | _ => .inl (h.1 k)
def jcel (w : jW) (h : jH) (k : Nat) : va_E := match jk k with
  | .inl ci => .inr (ci, jfs w h ci k)
  | .inr a => .inl (w.2.1 a.1, a.2, jarr w h a.1 k)
def jws (w : jW) (h : jH) : va_W := (List.range 99).map fun k => (jad w k, jcel w h k)
def jtys (w : jW) : List (ClassId × FieldType) := (List.range 6).map fun t => (w.2.1 t, jaT t)
theorem jws_at (w : jW) (h : jH) {k : Nat} (hk : k < 99) : (jws w h)[k]? = some (jad w k, jcel w h k) := by simp [jws, hk]
theorem jtys_at (w : jW) {t : Nat} (ht : t < 6) : (jtys w)[t]? = some (w.2.1 t, jaT t) := by simp [jtys, ht]
theorem jset {α : Type} (N j : Nat) (f g : Nat → α) (v : α) (hj : g j = v) (hn : ∀ i, i ≠ j → g i = f i) : ((List.range N).map f).set j v = (List.range N).map g := by
  apply List.ext_getElem
  · simp
  · intro i h1 h2
    simp only [List.getElem_set, List.getElem_map, List.getElem_range]
    split
    · next e => subst e; exact hj.symm
    · next e => exact (hn i (Ne.symm e)).symm
theorem jws_set (w : jW) (h h' : jH) (k : Nat) (E : va_E) (hE : jcel w h' k = E) (ho : ∀ i, i ≠ k → jcel w h' i = jcel w h i) : (jws w h).set k (jad w k, E) = jws w h' := by
  unfold jws
  refine jset 99 k _ _ _ ?_ ?_
  · rw [hE]
  · intro i hi; rw [ho i hi]
theorem jcel_i {w : jW} {h : jH} {k j i : Nat} {x : Int32} (hi : i ≠ k) : jcel w (up2 h.1 k j x, h.2) i = jcel w h i := by
  unfold jcel jfs jarr
  simp only [up2_o hi]
theorem jcel_r {w : jW} {h : jH} {k j i : Nat} {x : Option Nat} (hi : i ≠ k) : jcel w (h.1, up2 h.2.1 k j x, h.2.2) i = jcel w h i := by
  unfold jcel jfs jarr
  simp only [up2_o hi]
theorem jcel_l {w : jW} {h : jH} {k j i : Nat} {x : Int64} (hi : i ≠ k) : jcel w (h.1, h.2.1, up2 h.2.2 k j x) i = jcel w h i := by
  unfold jcel jfs jarr
  simp only [up2_o hi]
theorem jfs_i {w : jW} {h : jH} {ci k j : Nat} {x : Int32} (hr : jref (jty ci j) = false) : (jfs w h ci k).set j (.int x) = jfs w (up2 h.1 k j x, h.2) ci k := by
  unfold jfs
  refine jset _ _ _ _ _ ?_ ?_
  · simp [hr, up2]
  · intro i hi; simp [up2, hi]
theorem jfs_r {w : jW} {h : jH} {ci k j : Nat} {x : Option Nat} (hr : jref (jty ci j) = true) : (jfs w h ci k).set j (va_rf (x.map (jad w))) = jfs w (h.1, up2 h.2.1 k j x, h.2.2) ci k := by
  unfold jfs
  refine jset _ _ _ _ _ ?_ ?_
  · simp [hr, up2]
  · intro i hi; simp [up2, hi]
theorem jfs_len (w : jW) (h : jH) (ci k : Nat) : (jfs w h ci k).length = jN ci := by simp [jfs]
theorem jfs_at {w : jW} {h : jH} {ci k j : Nat} (hj : j < jN ci) : (jfs w h ci k)[j]? = some (if jref (jty ci j) then va_rf ((h.2.1 k j).map (jad w)) else .int (h.1 k j)) := by simp [jfs, hj]
/-- the cells of the world -/
def jA (w : jW) : Nat → Prop := fun q => ∃ k, k < 99 ∧ q = jad w k
def jok (w : jW) : Prop := ∀ i j, i < 99 → j < 99 → jad w i = jad w j → i = j
theorem jD {w : jW} (hw : jok w) (h : jH) : va_D (jA w) (jws w h) := by
  have key : ∀ (k : Nat) (q : Nat × va_E), (jws w h)[k]? = some q → k < 99 ∧ q.1 = jad w k := by
    intro k q hq
    by_cases hk : k < 99
    · rw [jws_at w h hk] at hq; cases hq; exact ⟨hk, rfl⟩
    · exfalso
      have := (List.getElem?_eq_some_iff.mp hq).1
      simp [jws] at this
      omega
  refine ⟨fun i j p q hi hj e => ?_, fun k q hq => ?_⟩
  · obtain ⟨h1, e1⟩ := key i p hi
    obtain ⟨h2, e2⟩ := key j q hj
    exact hw i j h1 h2 (by rw [← e1, ← e2, e])
  · obtain ⟨h1, e1⟩ := key k q hq
    exact ⟨k, h1, e1⟩
/-- a walk's context: the machine, the invocation, where it shall come -/
abbrev jX : Type := Program × Launch × Env × Room × State × MethodId × Array Value × List Frame × Method × Code × (State → Prop)
abbrev jXp (X : jX) : Program := X.1
abbrev jXl (X : jX) : Launch := X.2.1
abbrev jXe (X : jX) : Env := X.2.2.1
abbrev jXR (X : jX) : Room := X.2.2.2.1
abbrev jXs (X : jX) : State := X.2.2.2.2.1
abbrev jXm (X : jX) : MethodId := X.2.2.2.2.2.1
abbrev jXa (X : jX) : Array Value := X.2.2.2.2.2.2.1
abbrev jXb (X : jX) : List Frame := X.2.2.2.2.2.2.2.1
abbrev jXh (X : jX) : Method := X.2.2.2.2.2.2.2.2.1
abbrev jXc (X : jX) : Code := X.2.2.2.2.2.2.2.2.2.1
abbrev jXQ (X : jX) : State → Prop := X.2.2.2.2.2.2.2.2.2.2
/-- the walk stands at pc, with these locals and this stack, in the world h: it comes to its end -/
def J (X : jX) (w : jW) (h : jH) (pc : Nat) (lv : List (Nat × Value)) (st : List Value) : Prop :=
  ∀ (H : Heap) (locs : List Loc) (ls : Array Slot), va_P w.1 vwCl (jws w h) H → va_S (jA w) (jXs X).heap H locs → lv_has ls (jXc X).maxLocals lv →
    W (jXp X) (jXl X) (jXe X) (jXR X) (jXs X) (jXm X) (jXa X) (jXb X) (jXh X) (jXc X) H locs 0 0 (jXQ X) (F0 (jXm X) pc ls st)
end
section
def jNF : List (String × Nat × String × String × String) := [(RX4, 76, "ModuleLinker$Unit", "name", "I"), (RX4, 110, "ModuleLinker$Item", "room", "I"), (RX4, 115, "ModuleLinker$Item", "exported", "Z"), (RX4, 118, "ModuleLinker$Item", "words", "I"), (RX4, 121, "ModuleLinker$Item", "signature", "I"), (RX4, 135, "ModuleLinker$Machine", "firstResult", "I"), (RX4, 138, "ModuleLinker$Machine", "secondResult", "I"), (RX4, 141, "ModuleLinker$Machine", "most", "I"), (RX4, 144, "ModuleLinker$Machine", "spent", "I"), (RX4, 155, "ModuleLinker$Unit", "count", "I"), (RX4, 158, "ModuleLinker$Unit", "items", "[LModuleLinker$Item;"), (RX4, 162, "ModuleLinker$Item", "owner", "I"), (RX4, 169, "ModuleLinker$Item", "name", "I"), (RX0, 26, "ModuleLinker$Unit", "count", "I"), (RX0, 31, "ModuleLinker$Unit", "codeLength", "I"), (RX0, 44, "ModuleLinker$Unit", "items", "[LModuleLinker$Item;"), (RX0, 48, "ModuleLinker$Item", "owner", "I"), (RX0, 61, "ModuleLinker$Unit", "name", "I"), (RX0, 79, "ModuleLinker$Item", "exported", "Z"), (RX0, 86, "ModuleLinker$Item", "name", "I"), (RX0, 94, "ModuleLinker$Item", "signature", "I"), (RX0, 101, "ModuleLinker$Item", "words", "I"), (RX0, 104, "ModuleLinker$Item", "start", "I"), (RX0, 134, "ModuleLinker$Item", "room", "I"), (RX2, 23, "ModuleLinker$Item", "words", "I"), (RX2, 60, "ModuleLinker$Item", "signature", "I"), (RX2, 73, "ModuleLinker$Item", "room", "I"), (RX2, 89, "ModuleLinker$Item", "start", "I"), (RX2, 99, "ModuleLinker$Unit", "code", "[I"), (RX2, 115, "ModuleLinker$Unit", "name", "I"), (RX3, 26, "ModuleLinker$Item", "owner", "I"), (RX3, 29, "ModuleLinker$Item", "name", "I")]
def jNM : List (String × Nat × MethodName) := [(RX4, 23, yX3_init), (RX4, 30, yX0_init), (RX4, 56, yX2_init), (RX4, 69, yX0_compile), (RX4, 127, yX2_load), (RX4, 131, yX2_run), (RX4, 147, yX3_find), (RX4, 150, yX3_countDefinitions), (RX0, 87, yX3_find), (RX0, 97, yX4_wordsBefore), (RX0, 120, yX4_typeAt), (RX0, 131, yX3_emit), (RX0, 173, yX3_landHere), (RX2, 63, yX4_typeAt), (RX2, 111, yX3_find), (RX3, 21, yX1_init)]
end
section
/-- the nest links, fields and methods, of the tables -/
def jNok (s : State) : Prop := (∀ q ∈ jNF, va_Nw (.fieldLinkNest q.1 q.2.1 q.2.2.1 q.2.2.2.1 q.2.2.2.2 "ModuleLinker") s) ∧ (∀ q ∈ jNM, va_Nw (.methodLinkNest q.1 q.2.1 q.2.2 "ModuleLinker") s)
theorem jNok.warm {s U : State} (hW : s.WarmedH U.vm) (h : jNok s) : jNok U := ⟨fun q hq => va_Nw.warmF hW (h.1 q hq), fun q hq => va_Nw.warmM hW (h.2 q hq)⟩
theorem jNok.same {s U : State} (hv : s.vm = U.vm) (h : jNok s) : jNok U := ⟨fun q hq => va_Nw.same rfl hv (h.1 q hq), fun q hq => va_Nw.same rfl hv (h.2 q hq)⟩
/-- what a walk knows: the machine, its code, the words of the tables, the classes -/
def jC (X : jX) (w : jW) (cc : ByteArray) (own : String) : Prop :=
  (jXp X).tables.exec = Jvm.exec ∧ (jXc X).code = cc ∧ (jXs X).vm.findClass own = some (jXm X).cls ∧ (∀ v ∈ wsL_law, v.before (jXa X) (jXs X) = true) ∧ va_K w.1 vwCl (jtys w) (jXs X) ∧ jNok (jXs X) ∧ jok w ∧ (jXh X).locks = false
def jCl (ci : Nat) : Prop := vwCl[ci]? = some (jR ci, jT ci, jN ci) ∧ (∀ v ∈ u_ws (jR ci) (jT ci) (jN ci), v ∈ wsL_law) ∧ (∀ k, k < jN ci → parseFieldDescriptor (jT ci k).2.2.1 = some (jty ci k)) ∧ (∀ a, a < jN ci → ∀ b, b < jN ci → a ≠ b → (jT ci a).2.1 ≠ (jT ci b).2.1)
theorem jCl0 : jCl 0 := ⟨rfl, inlX0, tyX0_ok, nmX0⟩
theorem jCl1 : jCl 1 := ⟨rfl, inlX1, tyX1_ok, nmX1⟩
theorem jCl2 : jCl 2 := ⟨rfl, inlX2, tyX2_ok, nmX2⟩
theorem jCl3 : jCl 3 := ⟨rfl, inlX3, tyX3_ok, nmX3⟩
theorem jCl4 : jCl 4 := ⟨rfl, inlX4, tyX4_ok, nmX4⟩
theorem jCl5 : jCl 5 := ⟨rfl, inlX5, tyX5_ok, nmX5⟩
/-- pool entry 'index' of the class 'own' is field j of class ci -/
def jFl (own : String) (index ci j : Nat) : Prop := jCl ci ∧ j < jN ci ∧ (Cond.fieldLink own index (jT ci j).1 (jT ci j).2.1 (jT ci j).2.2.1 ∈ wsL_law ∨ (own, index, (jT ci j).1, (jT ci j).2.1, (jT ci j).2.2.1) ∈ jNF)
section JR
variable {X : jX} {w : jW} {h : jH} {cc : ByteArray} {own : String} {pc : Nat} {lv : List (Nat × Value)} {r : List Value}
theorem j_iconst (C : jC X w cc own) {n : Int} {v : Int32} (d : decode cc pc = .ok (.iconst n, 1)) (hv : Int32.ofInt n = v) (k : J X w h (pc + 1) lv (.int v :: r)) : J X w h pc lv r := fun H locs ls hP hS hl => lv_iconst C.1 C.2.1 d hv (k H locs ls hP hS hl)
theorem j_bipush (C : jC X w cc own) {n : Int} {v : Int32} (d : decode cc pc = .ok (.bipush n, 2)) (hv : (Int8.ofInt n).toInt32 = v) (k : J X w h (pc + 2) lv (.int v :: r)) : J X w h pc lv r := fun H locs ls hP hS hl => lv_bipush C.1 C.2.1 d hv (k H locs ls hP hS hl)
theorem j_sipush (C : jC X w cc own) {n : Int} {v : Int32} (d : decode cc pc = .ok (.sipush n, 3)) (hv : (Int16.ofInt n).toInt32 = v) (k : J X w h (pc + 3) lv (.int v :: r)) : J X w h pc lv r := fun H locs ls hP hS hl => lv_sipush C.1 C.2.1 d hv (k H locs ls hP hS hl)
theorem j_ldc (C : jC X w cc own) {index : Nat} {v : Int32} (hw : Jvm.Cond.constant own index v ∈ wsL_law) (d : decode cc pc = .ok (.ldc index, 2)) (k : J X w h (pc + 2) lv (.int v :: r)) : J X w h pc lv r := fun H locs ls hP hS hl => lv_ldc C.1 C.2.1 C.2.2.1 (C.2.2.2.1 _ hw) d (k H locs ls hP hS hl)
theorem j_null (C : jC X w cc own) (d : decode cc pc = .ok (.aconst_null, 1)) (k : J X w h (pc + 1) lv (.null :: r)) : J X w h pc lv r := fun H locs ls hP hS hl => lv_null C.1 C.2.1 d (k H locs ls hP hS hl)
theorem j_iload_n (C : jC X w cc own) {i : Fin 4} {x : Int32} (q : Nat) (d : decode cc pc = .ok (.iload_n i, 1)) (hq : lv[q]? = some ((i : Nat), .int x)) (k : J X w h (pc + 1) lv (.int x :: r)) : J X w h pc lv r := fun H locs ls hP hS hl => lv_iload_n C.1 C.2.1 d rfl (lv_at hl q hq) (k H locs ls hP hS hl)
theorem j_iload (C : jC X w cc own) {i : Nat} {x : Int32} (q : Nat) (d : decode cc pc = .ok (.iload i, 2)) (hq : lv[q]? = some (i, .int x)) (k : J X w h (pc + 2) lv (.int x :: r)) : J X w h pc lv r := fun H locs ls hP hS hl => lv_iload C.1 C.2.1 d (lv_at hl q hq) (k H locs ls hP hS hl)
theorem j_aload_n (C : jC X w cc own) {i : Fin 4} {x : Nat} (q : Nat) (d : decode cc pc = .ok (.aload_n i, 1)) (hq : lv[q]? = some ((i : Nat), .ref x)) (k : J X w h (pc + 1) lv (.ref x :: r)) : J X w h pc lv r := fun H locs ls hP hS hl => lv_aload_n C.1 C.2.1 d rfl (lv_at hl q hq) (k H locs ls hP hS hl)
theorem j_aload (C : jC X w cc own) {i : Nat} {x : Nat} (q : Nat) (d : decode cc pc = .ok (.aload i, 2)) (hq : lv[q]? = some (i, .ref x)) (k : J X w h (pc + 2) lv (.ref x :: r)) : J X w h pc lv r := fun H locs ls hP hS hl => lv_aload C.1 C.2.1 d (lv_at hl q hq) (k H locs ls hP hS hl)
theorem j_aload_nN (C : jC X w cc own) {i : Fin 4} (q : Nat) (d : decode cc pc = .ok (.aload_n i, 1)) (hq : lv[q]? = some ((i : Nat), .null)) (k : J X w h (pc + 1) lv (.null :: r)) : J X w h pc lv r := fun H locs ls hP hS hl => lv_aload_nN C.1 C.2.1 d rfl (lv_at hl q hq) (k H locs ls hP hS hl)
theorem j_aloadN (C : jC X w cc own) {i : Nat} (q : Nat) (d : decode cc pc = .ok (.aload i, 2)) (hq : lv[q]? = some (i, .null)) (k : J X w h (pc + 2) lv (.null :: r)) : J X w h pc lv r := fun H locs ls hP hS hl => lv_aloadN C.1 C.2.1 d (lv_at hl q hq) (k H locs ls hP hS hl)
/-- a local's new value: it stands first -/
def jst (i : Nat) (v : Value) (lv : List (Nat × Value)) : List (Nat × Value) := (i, v) :: lv.filter (fun q => !(q.1 == i) && !(q.1 + 1 == i && q.2.category == 2))
theorem j_istore_n (C : jC X w cc own) {i : Fin 4} {x : Int32} {lv' : List (Nat × Value)} (d : decode cc pc = .ok (.istore_n i, 1)) (hn : (i : Nat) < (jXc X).maxLocals) (hl' : jst i (.int x) lv = lv') (k : J X w h (pc + 1) lv' r) : J X w h pc lv (.int x :: r) := fun H locs ls hP hS hl => lv_istore_n C.1 C.2.1 d rfl hl hn hl' (fun ls' hl' => k H locs ls' hP hS hl')
theorem j_istore (C : jC X w cc own) {i : Nat} {x : Int32} {lv' : List (Nat × Value)} (d : decode cc pc = .ok (.istore i, 2)) (hn : i < (jXc X).maxLocals) (hl' : jst i (.int x) lv = lv') (k : J X w h (pc + 2) lv' r) : J X w h pc lv (.int x :: r) := fun H locs ls hP hS hl => lv_istore C.1 C.2.1 d hl hn hl' (fun ls' hl' => k H locs ls' hP hS hl')
theorem j_astore_n (C : jC X w cc own) {i : Fin 4} {x : Nat} {lv' : List (Nat × Value)} (d : decode cc pc = .ok (.astore_n i, 1)) (hn : (i : Nat) < (jXc X).maxLocals) (hl' : jst i (.ref x) lv = lv') (k : J X w h (pc + 1) lv' r) : J X w h pc lv (.ref x :: r) := fun H locs ls hP hS hl => lv_astore_n C.1 C.2.1 d rfl hl hn hl' (fun ls' hl' => k H locs ls' hP hS hl')
theorem j_astore (C : jC X w cc own) {i : Nat} {x : Nat} {lv' : List (Nat × Value)} (d : decode cc pc = .ok (.astore i, 2)) (hn : i < (jXc X).maxLocals) (hl' : jst i (.ref x) lv = lv') (k : J X w h (pc + 2) lv' r) : J X w h pc lv (.ref x :: r) := fun H locs ls hP hS hl => lv_astore C.1 C.2.1 d hl hn hl' (fun ls' hl' => k H locs ls' hP hS hl')
theorem j_astore_nN (C : jC X w cc own) {i : Fin 4} {lv' : List (Nat × Value)} (d : decode cc pc = .ok (.astore_n i, 1)) (hn : (i : Nat) < (jXc X).maxLocals) (hl' : jst i .null lv = lv') (k : J X w h (pc + 1) lv' r) : J X w h pc lv (.null :: r) := fun H locs ls hP hS hl => lv_astore_nN C.1 C.2.1 d rfl hl hn hl' (fun ls' hl' => k H locs ls' hP hS hl')
theorem j_astoreN (C : jC X w cc own) {i : Nat} {lv' : List (Nat × Value)} (d : decode cc pc = .ok (.astore i, 2)) (hn : i < (jXc X).maxLocals) (hl' : jst i .null lv = lv') (k : J X w h (pc + 2) lv' r) : J X w h pc lv (.null :: r) := fun H locs ls hP hS hl => lv_astoreN C.1 C.2.1 d hl hn hl' (fun ls' hl' => k H locs ls' hP hS hl')
theorem j_iinc (C : jC X w cc own) {i : Nat} {n : Int} {x v : Int32} {lv' : List (Nat × Value)} (q : Nat) (d : decode cc pc = .ok (.iinc i n, 3)) (hq : lv[q]? = some (i, .int x)) (hv : x + Int32.ofInt n = v) (hn : i < (jXc X).maxLocals) (hl' : jst i (.int v) lv = lv') (k : J X w h (pc + 3) lv' r) : J X w h pc lv r := fun H locs ls hP hS hl => lv_iinc C.1 C.2.1 d hl hq hv hn hl' (fun ls' hl' => k H locs ls' hP hS hl')
theorem j_iadd (C : jC X w cc own) {x y : Int32} (d : decode cc pc = .ok (.iadd, 1)) (k : J X w h (pc + 1) lv (.int (x + y) :: r)) : J X w h pc lv (.int y :: .int x :: r) := fun H locs ls hP hS hl => lv_iadd C.1 C.2.1 d (k H locs ls hP hS hl)
theorem j_isub (C : jC X w cc own) {x y : Int32} (d : decode cc pc = .ok (.isub, 1)) (k : J X w h (pc + 1) lv (.int (x - y) :: r)) : J X w h pc lv (.int y :: .int x :: r) := fun H locs ls hP hS hl => lv_isub C.1 C.2.1 d (k H locs ls hP hS hl)
theorem j_imul (C : jC X w cc own) {x y : Int32} (d : decode cc pc = .ok (.imul, 1)) (k : J X w h (pc + 1) lv (.int (x * y) :: r)) : J X w h pc lv (.int y :: .int x :: r) := fun H locs ls hP hS hl => lv_imul C.1 C.2.1 d (k H locs ls hP hS hl)
theorem j_iand (C : jC X w cc own) {x y : Int32} (d : decode cc pc = .ok (.iand, 1)) (k : J X w h (pc + 1) lv (.int (x &&& y) :: r)) : J X w h pc lv (.int y :: .int x :: r) := fun H locs ls hP hS hl => lv_iand C.1 C.2.1 d (k H locs ls hP hS hl)
theorem j_ior (C : jC X w cc own) {x y : Int32} (d : decode cc pc = .ok (.ior, 1)) (k : J X w h (pc + 1) lv (.int (x ||| y) :: r)) : J X w h pc lv (.int y :: .int x :: r) := fun H locs ls hP hS hl => lv_ior C.1 C.2.1 d (k H locs ls hP hS hl)
theorem j_idiv (C : jC X w cc own) {x y : Int32} (d : decode cc pc = .ok (.idiv, 1)) (hne : ¬ y = 0) (k : J X w h (pc + 1) lv (.int (x / y) :: r)) : J X w h pc lv (.int y :: .int x :: r) := fun H locs ls hP hS hl => lv_idiv C.1 C.2.1 d hne (k H locs ls hP hS hl)
theorem j_irem (C : jC X w cc own) {x y : Int32} (d : decode cc pc = .ok (.irem, 1)) (hne : ¬ y = 0) (k : J X w h (pc + 1) lv (.int (x - x / y * y) :: r)) : J X w h pc lv (.int y :: .int x :: r) := fun H locs ls hP hS hl => lv_irem C.1 C.2.1 d hne (k H locs ls hP hS hl)
theorem j_ishl (C : jC X w cc own) {x y : Int32} (d : decode cc pc = .ok (.ishl, 1)) (k : J X w h (pc + 1) lv (.int (x <<< (y &&& 31)) :: r)) : J X w h pc lv (.int y :: .int x :: r) := fun H locs ls hP hS hl => lv_ishl C.1 C.2.1 d (k H locs ls hP hS hl)
theorem j_ishr (C : jC X w cc own) {x y : Int32} (d : decode cc pc = .ok (.ishr, 1)) (k : J X w h (pc + 1) lv (.int (x >>> (y &&& 31)) :: r)) : J X w h pc lv (.int y :: .int x :: r) := fun H locs ls hP hS hl => lv_ishr C.1 C.2.1 d (k H locs ls hP hS hl)
theorem j_iushr (C : jC X w cc own) {x y v : Int32} (d : decode cc pc = .ok (.iushr, 1)) (hv : (x.toUInt32 >>> (y.toUInt32 &&& Int32.toUInt32 31)).toInt32 = v) (k : J X w h (pc + 1) lv (.int v :: r)) : J X w h pc lv (.int y :: .int x :: r) := fun H locs ls hP hS hl => lv_iushr C.1 C.2.1 d hv (k H locs ls hP hS hl)
theorem j_i2c (C : jC X w cc own) {x v : Int32} (d : decode cc pc = .ok (.i2c, 1)) (hv : (x.toUInt32 % 65536).toInt32 = v) (k : J X w h (pc + 1) lv (.int v :: r)) : J X w h pc lv (.int x :: r) := fun H locs ls hP hS hl => lv_i2c C.1 C.2.1 d hv (k H locs ls hP hS hl)
theorem j_i2l (C : jC X w cc own) {x : Int32} {v : Int64} (d : decode cc pc = .ok (.i2l, 1)) (hv : x.toInt64 = v) (k : J X w h (pc + 1) lv (.long v :: r)) : J X w h pc lv (.int x :: r) := fun H locs ls hP hS hl => lv_i2l C.1 C.2.1 d hv (k H locs ls hP hS hl)
theorem j_dup (C : jC X w cc own) {v : Value} (d : decode cc pc = .ok (.dup, 1)) (hv : v.category = 1) (k : J X w h (pc + 1) lv (v :: v :: r)) : J X w h pc lv (v :: r) := fun H locs ls hP hS hl => lv_dup C.1 C.2.1 d hv (k H locs ls hP hS hl)
theorem j_pop (C : jC X w cc own) {v : Value} (d : decode cc pc = .ok (.pop, 1)) (hv : v.category = 1) (k : J X w h (pc + 1) lv r) : J X w h pc lv (v :: r) := fun H locs ls hP hS hl => lv_pop C.1 C.2.1 d hv (k H locs ls hP hS hl)
theorem j_dup_x1 (C : jC X w cc own) {v u : Value} (d : decode cc pc = .ok (.dup_x1, 1)) (hv : v.category = 1) (hu : u.category = 1) (k : J X w h (pc + 1) lv (v :: u :: v :: r)) : J X w h pc lv (v :: u :: r) := fun H locs ls hP hS hl => lv_dup_x1 C.1 C.2.1 d hv hu (k H locs ls hP hS hl)
theorem j_dup2 (C : jC X w cc own) {v u : Value} (d : decode cc pc = .ok (.dup2, 1)) (hv : v.category = 1) (hu : u.category = 1) (k : J X w h (pc + 1) lv (v :: u :: v :: u :: r)) : J X w h pc lv (v :: u :: r) := fun H locs ls hP hS hl => lv_dup2_11 C.1 C.2.1 d hv hu (k H locs ls hP hS hl)
theorem j_goto (C : jC X w cc own) {off : Int} (tgt : Nat) (d : decode cc pc = .ok (.goto off, 3)) (ht : (pc : Int) + off = (tgt : Int)) (k : J X w h tgt lv r) : J X w h pc lv r := fun H locs ls hP hS hl => lv_goto C.1 C.2.1 d ht (k H locs ls hP hS hl)
theorem j_if_eq (C : jC X w cc own) {x : Int32} {off : Int} (tgt : Nat) (d : decode cc pc = .ok (.ifCond .eq off, 3)) (ht : (pc : Int) + off = (tgt : Int)) (kt : x = 0 → J X w h tgt lv r) (kf : ¬ x = 0 → J X w h (pc + 3) lv r) : J X w h pc lv (.int x :: r) := fun H locs ls hP hS hl => lv_if_eq C.1 C.2.1 d ht (fun z => kt z H locs ls hP hS hl) (fun z => kf z H locs ls hP hS hl)
theorem j_icmp_eq (C : jC X w cc own) {x y : Int32} {off : Int} (tgt : Nat) (d : decode cc pc = .ok (.if_icmp .eq off, 3)) (ht : (pc : Int) + off = (tgt : Int)) (kt : x = y → J X w h tgt lv r) (kf : ¬ x = y → J X w h (pc + 3) lv r) : J X w h pc lv (.int y :: .int x :: r) := fun H locs ls hP hS hl => lv_icmp_eq C.1 C.2.1 d ht (fun z => kt z H locs ls hP hS hl) (fun z => kf z H locs ls hP hS hl)
theorem j_if_ne (C : jC X w cc own) {x : Int32} {off : Int} (tgt : Nat) (d : decode cc pc = .ok (.ifCond .ne off, 3)) (ht : (pc : Int) + off = (tgt : Int)) (kt : ¬ x = 0 → J X w h tgt lv r) (kf : x = 0 → J X w h (pc + 3) lv r) : J X w h pc lv (.int x :: r) := fun H locs ls hP hS hl => lv_if_ne C.1 C.2.1 d ht (fun z => kt z H locs ls hP hS hl) (fun z => kf z H locs ls hP hS hl)
theorem j_icmp_ne (C : jC X w cc own) {x y : Int32} {off : Int} (tgt : Nat) (d : decode cc pc = .ok (.if_icmp .ne off, 3)) (ht : (pc : Int) + off = (tgt : Int)) (kt : ¬ x = y → J X w h tgt lv r) (kf : x = y → J X w h (pc + 3) lv r) : J X w h pc lv (.int y :: .int x :: r) := fun H locs ls hP hS hl => lv_icmp_ne C.1 C.2.1 d ht (fun z => kt z H locs ls hP hS hl) (fun z => kf z H locs ls hP hS hl)
theorem j_if_lt (C : jC X w cc own) {x : Int32} {off : Int} (tgt : Nat) (d : decode cc pc = .ok (.ifCond .lt off, 3)) (ht : (pc : Int) + off = (tgt : Int)) (kt : x < 0 → J X w h tgt lv r) (kf : ¬ x < 0 → J X w h (pc + 3) lv r) : J X w h pc lv (.int x :: r) := fun H locs ls hP hS hl => lv_if_lt C.1 C.2.1 d ht (fun z => kt z H locs ls hP hS hl) (fun z => kf z H locs ls hP hS hl)
theorem j_icmp_lt (C : jC X w cc own) {x y : Int32} {off : Int} (tgt : Nat) (d : decode cc pc = .ok (.if_icmp .lt off, 3)) (ht : (pc : Int) + off = (tgt : Int)) (kt : x < y → J X w h tgt lv r) (kf : ¬ x < y → J X w h (pc + 3) lv r) : J X w h pc lv (.int y :: .int x :: r) := fun H locs ls hP hS hl => lv_icmp_lt C.1 C.2.1 d ht (fun z => kt z H locs ls hP hS hl) (fun z => kf z H locs ls hP hS hl)
theorem j_if_ge (C : jC X w cc own) {x : Int32} {off : Int} (tgt : Nat) (d : decode cc pc = .ok (.ifCond .ge off, 3)) (ht : (pc : Int) + off = (tgt : Int)) (kt : 0 ≤ x → J X w h tgt lv r) (kf : ¬ 0 ≤ x → J X w h (pc + 3) lv r) : J X w h pc lv (.int x :: r) := fun H locs ls hP hS hl => lv_if_ge C.1 C.2.1 d ht (fun z => kt z H locs ls hP hS hl) (fun z => kf z H locs ls hP hS hl)
theorem j_icmp_ge (C : jC X w cc own) {x y : Int32} {off : Int} (tgt : Nat) (d : decode cc pc = .ok (.if_icmp .ge off, 3)) (ht : (pc : Int) + off = (tgt : Int)) (kt : y ≤ x → J X w h tgt lv r) (kf : ¬ y ≤ x → J X w h (pc + 3) lv r) : J X w h pc lv (.int y :: .int x :: r) := fun H locs ls hP hS hl => lv_icmp_ge C.1 C.2.1 d ht (fun z => kt z H locs ls hP hS hl) (fun z => kf z H locs ls hP hS hl)
theorem j_if_gt (C : jC X w cc own) {x : Int32} {off : Int} (tgt : Nat) (d : decode cc pc = .ok (.ifCond .gt off, 3)) (ht : (pc : Int) + off = (tgt : Int)) (kt : 0 < x → J X w h tgt lv r) (kf : ¬ 0 < x → J X w h (pc + 3) lv r) : J X w h pc lv (.int x :: r) := fun H locs ls hP hS hl => lv_if_gt C.1 C.2.1 d ht (fun z => kt z H locs ls hP hS hl) (fun z => kf z H locs ls hP hS hl)
theorem j_icmp_gt (C : jC X w cc own) {x y : Int32} {off : Int} (tgt : Nat) (d : decode cc pc = .ok (.if_icmp .gt off, 3)) (ht : (pc : Int) + off = (tgt : Int)) (kt : y < x → J X w h tgt lv r) (kf : ¬ y < x → J X w h (pc + 3) lv r) : J X w h pc lv (.int y :: .int x :: r) := fun H locs ls hP hS hl => lv_icmp_gt C.1 C.2.1 d ht (fun z => kt z H locs ls hP hS hl) (fun z => kf z H locs ls hP hS hl)
theorem j_if_le (C : jC X w cc own) {x : Int32} {off : Int} (tgt : Nat) (d : decode cc pc = .ok (.ifCond .le off, 3)) (ht : (pc : Int) + off = (tgt : Int)) (kt : x ≤ 0 → J X w h tgt lv r) (kf : ¬ x ≤ 0 → J X w h (pc + 3) lv r) : J X w h pc lv (.int x :: r) := fun H locs ls hP hS hl => lv_if_le C.1 C.2.1 d ht (fun z => kt z H locs ls hP hS hl) (fun z => kf z H locs ls hP hS hl)
theorem j_icmp_le (C : jC X w cc own) {x y : Int32} {off : Int} (tgt : Nat) (d : decode cc pc = .ok (.if_icmp .le off, 3)) (ht : (pc : Int) + off = (tgt : Int)) (kt : x ≤ y → J X w h tgt lv r) (kf : ¬ x ≤ y → J X w h (pc + 3) lv r) : J X w h pc lv (.int y :: .int x :: r) := fun H locs ls hP hS hl => lv_icmp_le C.1 C.2.1 d ht (fun z => kt z H locs ls hP hS hl) (fun z => kf z H locs ls hP hS hl)
theorem j_ifnull (C : jC X w cc own) {x : Nat} {off : Int} (d : decode cc pc = .ok (.ifnull off, 3)) (k : J X w h (pc + 3) lv r) : J X w h pc lv (.ref x :: r) := fun H locs ls hP hS hl => lv_ifnull C.1 C.2.1 d (k H locs ls hP hS hl)
theorem j_ifnullN (C : jC X w cc own) {off : Int} (tgt : Nat) (d : decode cc pc = .ok (.ifnull off, 3)) (ht : (pc : Int) + off = (tgt : Int)) (k : J X w h tgt lv r) : J X w h pc lv (.null :: r) := fun H locs ls hP hS hl => lv_ifnullN C.1 C.2.1 d ht (k H locs ls hP hS hl)
theorem j_ifnonnull (C : jC X w cc own) {x : Nat} {off : Int} (tgt : Nat) (d : decode cc pc = .ok (.ifnonnull off, 3)) (ht : (pc : Int) + off = (tgt : Int)) (k : J X w h tgt lv r) : J X w h pc lv (.ref x :: r) := fun H locs ls hP hS hl => lv_ifnonnull C.1 C.2.1 d ht (k H locs ls hP hS hl)
theorem j_ifnonnullN (C : jC X w cc own) {off : Int} (d : decode cc pc = .ok (.ifnonnull off, 3)) (k : J X w h (pc + 3) lv r) : J X w h pc lv (.null :: r) := fun H locs ls hP hS hl => lv_ifnonnullN C.1 C.2.1 d (k H locs ls hP hS hl)
theorem j_lookup (C : jC X w cc own) {dflt : Int} {ps : Array (Int × Int)} {len : Nat} {x : Int32} {off : Int} (tgt : Nat) (d : decode cc pc = .ok (.lookupswitch dflt ps, len)) (hp : (ps.toList.zip (ps.toList.drop 1)).all (fun (a, next) => a.1 < next.1) = true) (ho : Op.lookupswitch.offset ps.toList dflt x.toInt = off) (ht : (pc : Int) + off = (tgt : Int)) (k : J X w h tgt lv r) : J X w h pc lv (.int x :: r) := fun H locs ls hP hS hl => lv_lookup C.1 C.2.1 d hp ho ht (k H locs ls hP hS hl)
theorem j_tableOut (C : jC X w cc own) {dflt lo hi : Int} {offs : Array Int} {len : Nat} {x : Int32} (tgt : Nat) (d : decode cc pc = .ok (.tableswitch dflt lo hi offs, len)) (hx : x.toInt < lo ∨ hi < x.toInt) (ht : (pc : Int) + dflt = (tgt : Int)) (k : J X w h tgt lv r) : J X w h pc lv (.int x :: r) := fun H locs ls hP hS hl => lv_tableOut C.1 C.2.1 d hx ht (k H locs ls hP hS hl)
theorem j_tableIn (C : jC X w cc own) {dflt lo hi : Int} {offs : Array Int} {len : Nat} {x : Int32} {off : Int} (tgt : Nat) (d : decode cc pc = .ok (.tableswitch dflt lo hi offs, len)) (h1 : ¬ x.toInt < lo) (h2 : ¬ hi < x.toInt) (ho : offs[(x.toInt - lo).toNat]? = some off) (ht : (pc : Int) + off = (tgt : Int)) (k : J X w h tgt lv r) : J X w h pc lv (.int x :: r) := fun H locs ls hP hS hl => lv_tableIn C.1 C.2.1 d h1 h2 ho ht (k H locs ls hP hS hl)
/-- Math.max, Math.min -/
theorem j_mmax (C : jC X w cc own) {index : Nat} {x y : Int32} (hw : Cond.methodLink own index Lib.Math.max.name ∈ wsL_law ∧ Cond.static Lib.Math.max.name ∈ wsL_law ∧ Cond.initialized "java/lang/Math" ∈ wsL_law ∧ Cond.code Lib.Math.max.name Lib.Math.max.code 2 (some .int) ∈ wsL_law) (hR : 1 ≤ (jXR X).frames ∧ (r.map fun v => v.category).sum + 13 ≤ (jXR X).locals) (d : decode cc pc = .ok (.invokestatic index, 3)) (k : J X w h (pc + 3) lv (.int (if x < y then y else x) :: r)) : J X w h pc lv (.int y :: .int x :: r) := fun H locs ls hP hS hl =>
  va_mmax C.1 C.2.1 hl.1.symm C.2.2.1 (C.2.2.2.1 _ hw.1) (C.2.2.2.1 _ hw.2.1) (C.2.2.2.1 _ hw.2.2.1) (C.2.2.2.1 _ hw.2.2.2) hR.1 hR.2 (Nat.zero_le _) (Nat.zero_le _) d (k H locs ls hP hS hl)
theorem j_mmin (C : jC X w cc own) {index : Nat} {x y : Int32} (hw : Cond.methodLink own index Lib.Math.min.name ∈ wsL_law ∧ Cond.static Lib.Math.min.name ∈ wsL_law ∧ Cond.initialized "java/lang/Math" ∈ wsL_law ∧ Cond.code Lib.Math.min.name Lib.Math.min.code 2 (some .int) ∈ wsL_law) (hR : 1 ≤ (jXR X).frames ∧ (r.map fun v => v.category).sum + 13 ≤ (jXR X).locals) (d : decode cc pc = .ok (.invokestatic index, 3)) (k : J X w h (pc + 3) lv (.int (if y < x then y else x) :: r)) : J X w h pc lv (.int y :: .int x :: r) := fun H locs ls hP hS hl =>
  va_mmin C.1 C.2.1 hl.1.symm C.2.2.1 (C.2.2.2.1 _ hw.1) (C.2.2.2.1 _ hw.2.1) (C.2.2.2.1 _ hw.2.2.1) (C.2.2.2.1 _ hw.2.2.2) hR.1 hR.2 (Nat.zero_le _) (Nat.zero_le _) d (k H locs ls hP hS hl)
/-- fields -/
theorem jcel_o {k ci : Nat} (hk : jk k = .inl ci) : jcel w h k = .inr (ci, jfs w h ci k) := by simp [jcel, hk]
theorem jcel_a {k t n : Nat} (hk : jk k = .inr (t, n)) : jcel w h k = .inl (w.2.1 t, n, jarr w h t k) := by simp [jcel, hk]
theorem j_get (C : jC X w cc own) {index ci j k : Nat} (F : jFl own index ci j) (hk : k < 99) (hc : jk k = .inl ci) (d : decode cc pc = .ok (.getfield index, 3)) (kk : J X w h (pc + 3) lv ((if jref (jty ci j) then va_rf ((h.2.1 k j).map (jad w)) else .int (h.1 k j)) :: r)) : J X w h pc lv (.ref (jad w k) :: r) := by
  intro H locs ls hP hS hl
  obtain ⟨⟨hcl, hin, hty, hnm⟩, hj, hlk⟩ := F
  have he : (jws w h)[k]? = some (jad w k, .inr (ci, jfs w h ci k)) := by rw [jws_at w h hk, jcel_o hc]
  rcases hlk with hlk | hlk
  · exact va_get C.1 C.2.1 C.2.2.2.1 hin C.2.2.1 C.2.2.2.2.1 hP k he hcl j hj (C.2.2.2.1 _ hlk) (fun _ h9 => h9) (jfs_at hj) d (kk H locs ls hP hS hl)
  · exact va_getN C.1 C.2.1 C.2.2.2.1 hin C.2.2.1 C.2.2.2.2.1 hP k he hcl j hj (va_Nw.use rfl (C.2.2.2.2.2.1.1 _ hlk)) (fun _ h9 => h9) (jfs_at hj) d (kk H locs ls hP hS hl)
theorem j_geti (C : jC X w cc own) {index ci j k : Nat} (F : jFl own index ci j) (hr : jref (jty ci j) = false) (hk : k < 99) (hc : jk k = .inl ci) (d : decode cc pc = .ok (.getfield index, 3)) (kk : J X w h (pc + 3) lv (.int (h.1 k j) :: r)) : J X w h pc lv (.ref (jad w k) :: r) := j_get C F hk hc d (by rw [hr]; exact kk)
theorem j_getr (C : jC X w cc own) {index ci j k q : Nat} (F : jFl own index ci j) (hr : jref (jty ci j) = true) (hk : k < 99) (hc : jk k = .inl ci) (hv : h.2.1 k j = some q) (d : decode cc pc = .ok (.getfield index, 3)) (kk : J X w h (pc + 3) lv (.ref (jad w q) :: r)) : J X w h pc lv (.ref (jad w k) :: r) := j_get C F hk hc d (by rw [hr, hv]; exact kk)
theorem j_put (C : jC X w cc own) {index ci j k : Nat} {v : Value} {h' : jH} (F : jFl own index ci j) (hfin : (jT ci j).2.2.2 = false) (hk : k < 99) (hc : jk k = .inl ci) (hn : narrow (jty ci j) v = v) (hf : fits (jty ci j) v = true) (he1 : (jfs w h ci k).set j v = jfs w h' ci k) (he2 : ∀ i, i ≠ k → jcel w h' i = jcel w h i) (d : decode cc pc = .ok (.putfield index, 3)) (kk : J X w h' (pc + 3) lv r) : J X w h pc lv (v :: .ref (jad w k) :: r) := by
  intro H locs ls hP hS hl
  obtain ⟨⟨hcl, hin, hty, hnm⟩, hj, hlk⟩ := F
  have he : (jws w h)[k]? = some (jad w k, .inr (ci, jfs w h ci k)) := by rw [jws_at w h hk, jcel_o hc]
  have hs : (jws w h).set k (jad w k, .inr (ci, (jfs w h ci k).set j v)) = jws w h' := jws_set w h h' k _ (by rw [jcel_o hc, he1]) he2
  have hlen : j < (jfs w h ci k).length := by rw [jfs_len]; exact hj
  have goal : ∀ (H1 : Heap) (locs1 : List Loc), va_P w.1 vwCl ((jws w h).set k (jad w k, .inr (ci, (jfs w h ci k).set j v))) H1 → va_D (jA w) ((jws w h).set k (jad w k, .inr (ci, (jfs w h ci k).set j v))) → va_S (jA w) (jXs X).heap H1 locs1 → W (jXp X) (jXl X) (jXe X) (jXR X) (jXs X) (jXm X) (jXa X) (jXb X) (jXh X) (jXc X) H1 locs1 0 0 (jXQ X) (F0 (jXm X) (pc + 3) ls r) := by
    intro H1 locs1 p1 _ s1
    rw [hs] at p1
    exact kk H1 locs1 ls p1 s1 hl
  rcases hlk with hlk | hlk
  · exact va_put C.1 C.2.1 C.2.2.2.1 hin (jty ci) hty hnm C.2.2.1 C.2.2.2.2.1 hP (jD C.2.2.2.2.2.2.1 h) hS k he hcl j hj (C.2.2.2.1 _ hlk) (fun _ h9 => h9) hfin (hty j hj) hn hf hlen d goal
  · exact va_putN C.1 C.2.1 C.2.2.2.1 hin (jty ci) hty hnm C.2.2.1 C.2.2.2.2.1 hP (jD C.2.2.2.2.2.2.1 h) hS k he hcl j hj (va_Nw.use rfl (C.2.2.2.2.2.1.1 _ hlk)) (fun _ h9 => h9) hfin (hty j hj) hn hf hlen d goal
theorem j_puti (C : jC X w cc own) {index ci j k : Nat} {x : Int32} (F : jFl own index ci j) (hr : jty ci j = .int) (hfin : (jT ci j).2.2.2 = false) (hk : k < 99) (hc : jk k = .inl ci) (d : decode cc pc = .ok (.putfield index, 3)) (kk : J X w (up2 h.1 k j x, h.2) (pc + 3) lv r) : J X w h pc lv (.int x :: .ref (jad w k) :: r) :=
  j_put C F hfin hk hc (by rw [hr]; rfl) (by rw [hr]; rfl) (jfs_i (by rw [hr]; rfl)) (fun i hi => jcel_i hi) d kk
theorem j_putz (C : jC X w cc own) {index ci j k : Nat} {x : Int32} (F : jFl own index ci j) (hr : jty ci j = .boolean) (hfin : (jT ci j).2.2.2 = false) (hx : x = 0 ∨ x = 1) (hk : k < 99) (hc : jk k = .inl ci) (d : decode cc pc = .ok (.putfield index, 3)) (kk : J X w (up2 h.1 k j x, h.2) (pc + 3) lv r) : J X w h pc lv (.int x :: .ref (jad w k) :: r) :=
  j_put C F hfin hk hc (by rw [hr]; rcases hx with rfl | rfl <;> rfl) (by rw [hr]; rcases hx with rfl | rfl <;> rfl) (jfs_i (by rw [hr]; rfl)) (fun i hi => jcel_i hi) d kk
theorem j_putr (C : jC X w cc own) {index ci j k q : Nat} (F : jFl own index ci j) (hr : jref (jty ci j) = true) (hfin : (jT ci j).2.2.2 = false) (hk : k < 99) (hc : jk k = .inl ci) (hf : ∀ a, narrow (jty ci j) (.ref a) = .ref a ∧ fits (jty ci j) (.ref a) = true) (d : decode cc pc = .ok (.putfield index, 3)) (kk : J X w (h.1, up2 h.2.1 k j (some q), h.2.2) (pc + 3) lv r) : J X w h pc lv (.ref (jad w q) :: .ref (jad w k) :: r) :=
  j_put C F hfin hk hc (hf _).1 (hf _).2 (jfs_r (x := some q) hr) (fun i hi => jcel_r hi) d kk
/-- arrays -/
theorem j_iald (C : jC X w cc own) {k n len : Nat} {i : Int32} (hk : k < 99) (hc : jk k = .inr (1, len)) (hi : i = nI n) (hn : n < len) (hl : len < 2 ^ 31) (d : decode cc pc = .ok (.iaload, 1)) (kk : J X w h (pc + 1) lv (.int (h.1 k n) :: r)) : J X w h pc lv (.int i :: .ref (jad w k) :: r) := by
  intro H locs ls hP hS hl'
  subst hi
  refine va_iald C.1 C.2.1 C.2.2.2.2.1 hP k 1 (by rw [jws_at w h hk, jcel_a hc]; rfl) (jtys_at w (t := 1) (by decide)) (vp_in_nI hn hl) d ?_
  rw [nI_clamp (by omega)]
  exact kk H locs ls hP hS hl'
theorem j_cald (C : jC X w cc own) {k n len : Nat} {i : Int32} (hk : k < 99) (hc : jk k = .inr (0, len)) (hi : i = nI n) (hn : n < len) (hl : len < 2 ^ 31) (d : decode cc pc = .ok (.caload, 1)) (kk : J X w h (pc + 1) lv (.int (h.1 k n) :: r)) : J X w h pc lv (.int i :: .ref (jad w k) :: r) := by
  intro H locs ls hP hS hl'
  subst hi
  refine va_cald C.1 C.2.1 C.2.2.2.2.1 hP k 0 (by rw [jws_at w h hk, jcel_a hc]; rfl) (jtys_at w (t := 0) (by decide)) (vp_in_nI hn hl) d ?_
  rw [nI_clamp (by omega)]
  exact kk H locs ls hP hS hl'
theorem j_zald (C : jC X w cc own) {k n len : Nat} {i : Int32} (hk : k < 99) (hc : jk k = .inr (2, len)) (hi : i = nI n) (hn : n < len) (hl : len < 2 ^ 31) (d : decode cc pc = .ok (.baload, 1)) (kk : J X w h (pc + 1) lv (.int (h.1 k n) :: r)) : J X w h pc lv (.int i :: .ref (jad w k) :: r) := by
  intro H locs ls hP hS hl'
  subst hi
  refine va_zald C.1 C.2.1 C.2.2.2.2.1 hP k 2 (by rw [jws_at w h hk, jcel_a hc]; rfl) (jtys_at w (t := 2) (by decide)) (vp_in_nI hn hl) d ?_
  rw [nI_clamp (by omega)]
  exact kk H locs ls hP hS hl'
theorem j_aald (C : jC X w cc own) {k n len t : Nat} {S : String} {i : Int32} {q : Nat} (ht : t < 6) (hS0 : jaT t = .object S) (hk : k < 99) (hc : jk k = .inr (t, len)) (hi : i = nI n) (hn : n < len) (hl : len < 2 ^ 31) (hv : h.2.1 k n = some q) (d : decode cc pc = .ok (.aaload, 1)) (kk : J X w h (pc + 1) lv (.ref (jad w q) :: r)) : J X w h pc lv (.int i :: .ref (jad w k) :: r) := by
  intro H locs ls hP hS hl'
  subst hi
  have ha : jarr w h t k = .inr (.inr (.inr (.inr fun j => (h.2.1 k j).map (jad w)))) := by simp [jarr, hS0]
  refine va_aldq (C := S) C.1 C.2.1 C.2.2.2.2.1 hP k t (by rw [jws_at w h hk, jcel_a hc, ha]) (by rw [jtys_at w ht, hS0]) (vp_in_nI hn hl) d ?_
  rw [nI_clamp (by omega), hv]
  exact kk H locs ls hP hS hl'
theorem jst_arr {k t n len : Nat} {E : (Nat → Int32) ⊕ (Nat → Int64) ⊕ (Nat → UInt32) ⊕ (Nat → UInt64) ⊕ (Nat → Option Nat)} {h' : jH} (hc : jk k = .inr (t, len)) (hE : jarr w h' t k = E) (ho : ∀ i, i ≠ k → jcel w h' i = jcel w h i) : (jws w h).set k (jad w k, .inl (w.2.1 t, len, E)) = jws w h' := jws_set w h h' k _ (by rw [jcel_a hc, hE]) ho
theorem upd_up (f : Nat → Int32) (n : Nat) (x : Int32) : upd f n x = va_up f n x := by funext j; simp [upd, va_up]
theorem j_iast (C : jC X w cc own) {k n len : Nat} {i x : Int32} (hk : k < 99) (hc : jk k = .inr (1, len)) (hi : i = nI n) (hn : n < len) (hl : len < 2 ^ 31) (d : decode cc pc = .ok (.iastore, 1)) (kk : J X w (up2 h.1 k n x, h.2) (pc + 1) lv r) : J X w h pc lv (.int x :: .int i :: .ref (jad w k) :: r) := by
  intro H locs ls hP hS hl'
  subst hi
  refine va_iast C.1 C.2.1 C.2.2.2.2.1 hP (jD C.2.2.2.2.2.2.1 h) hS k 1 (by rw [jws_at w h hk, jcel_a hc]; rfl) (jtys_at w (t := 1) (by decide)) (vp_in_nI hn hl) d ?_
  intro H1 locs1 p1 _ s1
  rw [nI_clamp (by omega), jst_arr (h' := (up2 h.1 k n x, h.2)) (n := n) hc (by rw [upd_up]; show Sum.inl (up2 h.1 k n x k) = _; rw [up2_r]) (fun i hi => jcel_i hi)] at p1
  exact kk H1 locs1 ls p1 s1 hl'
theorem j_cast (C : jC X w cc own) {k n len : Nat} {i x : Int32} (hk : k < 99) (hc : jk k = .inr (0, len)) (hi : i = nI n) (hn : n < len) (hl : len < 2 ^ 31) (hx : vp_nar .char x = x) (d : decode cc pc = .ok (.castore, 1)) (kk : J X w (up2 h.1 k n x, h.2) (pc + 1) lv r) : J X w h pc lv (.int x :: .int i :: .ref (jad w k) :: r) := by
  intro H locs ls hP hS hl'
  subst hi
  refine va_cast C.1 C.2.1 C.2.2.2.2.1 hP (jD C.2.2.2.2.2.2.1 h) hS k 0 (by rw [jws_at w h hk, jcel_a hc]; rfl) (jtys_at w (t := 0) (by decide)) (vp_in_nI hn hl) d ?_
  intro H1 locs1 p1 _ s1
  rw [hx, nI_clamp (by omega), jst_arr (h' := (up2 h.1 k n x, h.2)) (n := n) hc (by rw [upd_up]; show Sum.inl (up2 h.1 k n x k) = _; rw [up2_r]) (fun i hi => jcel_i hi)] at p1
  exact kk H1 locs1 ls p1 s1 hl'
theorem j_zast (C : jC X w cc own) {k n len : Nat} {i x : Int32} (hk : k < 99) (hc : jk k = .inr (2, len)) (hi : i = nI n) (hn : n < len) (hl : len < 2 ^ 31) (hx : x = 0 ∨ x = 1) (d : decode cc pc = .ok (.bastore, 1)) (kk : J X w (up2 h.1 k n x, h.2) (pc + 1) lv r) : J X w h pc lv (.int x :: .int i :: .ref (jad w k) :: r) := by
  intro H locs ls hP hS hl'
  subst hi
  have hx' : vp_nar .boolean x = x := by rcases hx with rfl | rfl <;> rfl
  refine va_zast C.1 C.2.1 C.2.2.2.2.1 hP (jD C.2.2.2.2.2.2.1 h) hS k 2 (by rw [jws_at w h hk, jcel_a hc]; rfl) (jtys_at w (t := 2) (by decide)) (vp_in_nI hn hl) d ?_
  intro H1 locs1 p1 _ s1
  rw [hx', nI_clamp (by omega), jst_arr (h' := (up2 h.1 k n x, h.2)) (n := n) hc (by rw [upd_up]; show Sum.inl (up2 h.1 k n x k) = _; rw [up2_r]) (fun i hi => jcel_i hi)] at p1
  exact kk H1 locs1 ls p1 s1 hl'
theorem j_aast (C : jC X w cc own) {k n len t q ci : Nat} {i : Int32} (ht : t < 6) (hci : vwCl[ci]? = some (jR ci, jT ci, jN ci)) (hS0 : jaT t = .object (jR ci)) (hk : k < 99) (hc : jk k = .inr (t, len)) (hq : q < 99) (hcq : jk q = .inl ci) (hi : i = nI n) (hn : n < len) (hl : len < 2 ^ 31) (d : decode cc pc = .ok (.aastore, 1)) (kk : J X w (h.1, up2 h.2.1 k n (some q), h.2.2) (pc + 1) lv r) : J X w h pc lv (.ref (jad w q) :: .int i :: .ref (jad w k) :: r) := by
  intro H locs ls hP hS hl'
  subst hi
  have ha : ∀ g : jH, jarr w g t k = .inr (.inr (.inr (.inr fun j => (g.2.1 k j).map (jad w)))) := fun g => by simp [jarr, hS0]
  refine va_astq C.1 C.2.1 C.2.2.2.2.1 hP (jD C.2.2.2.2.2.2.1 h) hS k t q ci (r := (jR ci, jT ci, jN ci)) (by rw [jws_at w h hk, jcel_a hc, ha]) (by rw [jtys_at w ht, hS0]) (by rw [jws_at w h hq, jcel_o hcq]) hci (vp_in_nI hn hl) d ?_
  intro H1 locs1 p1 _ s1
  rw [nI_clamp (by omega), jst_arr (h' := (h.1, up2 h.2.1 k n (some q), h.2.2)) (n := n) hc (by
    rw [ha]
    congr 4
    funext j
    show (up2 h.2.1 k n (some q) k j).map (jad w) = _
    rw [up2_r]
    by_cases e : j = n
    · simp [va_up, e]
    · simp [va_up, e]) (fun i hi => jcel_r hi)] at p1
  exact kk H1 locs1 ls p1 s1 hl'
end JR
end
section
theorem rin_1 : ∀ v ∈ wsL_law0_r1, v ∈ wsL_law := fun v h => by simp only [wsL_law, wsL_law0, List.mem_append, h, true_or, or_true]
theorem rin_2 : ∀ v ∈ wsL_law0_r2, v ∈ wsL_law := fun v h => by simp only [wsL_law, wsL_law0, List.mem_append, h, true_or, or_true]
theorem rin_3 : ∀ v ∈ wsL_law0_r3, v ∈ wsL_law := fun v h => by simp only [wsL_law, wsL_law0, List.mem_append, h, true_or, or_true]
theorem rin_4 : ∀ v ∈ wsL_law0_r4, v ∈ wsL_law := fun v h => by simp only [wsL_law, wsL_law0, List.mem_append, h, true_or, or_true]
theorem rin_5 : ∀ v ∈ wsL_law0_r5, v ∈ wsL_law := fun v h => by simp only [wsL_law, wsL_law0, List.mem_append, h, true_or, or_true]
theorem rin_6 : ∀ v ∈ wsL_law0_r6, v ∈ wsL_law := fun v h => by simp only [wsL_law, wsL_law0, List.mem_append, h, true_or, or_true]
theorem rin_7 : ∀ v ∈ wsL_law0_r7, v ∈ wsL_law := fun v h => by simp only [wsL_law, wsL_law0, List.mem_append, h, true_or, or_true]
theorem rin_8 : ∀ v ∈ wsL_law0_r8, v ∈ wsL_law := fun v h => by simp only [wsL_law, wsL_law0, List.mem_append, h, true_or, or_true]
theorem rin_9 : ∀ v ∈ wsL_law0_r9, v ∈ wsL_law := fun v h => by simp only [wsL_law, wsL_law0, List.mem_append, h, true_or, or_true]
theorem rin_10 : ∀ v ∈ wsL_law0_r10, v ∈ wsL_law := fun v h => by simp only [wsL_law, wsL_law0, List.mem_append, h, true_or, or_true]
theorem rin_11 : ∀ v ∈ wsL_law0_r11, v ∈ wsL_law := fun v h => by simp only [wsL_law, wsL_law0, List.mem_append, h, true_or, or_true]
theorem rin_12 : ∀ v ∈ wsL_law0_r12, v ∈ wsL_law := fun v h => by simp only [wsL_law, wsL_law0, List.mem_append, h, true_or, or_true]
theorem rin_13 : ∀ v ∈ wsL_law0_r13, v ∈ wsL_law := fun v h => by simp only [wsL_law, wsL_law0, List.mem_append, h, true_or, or_true]
theorem rin_14 : ∀ v ∈ wsL_law0_r14, v ∈ wsL_law := fun v h => by simp only [wsL_law, wsL_law0, List.mem_append, h, true_or, or_true]
theorem rin_15 : ∀ v ∈ wsL_law0_r15, v ∈ wsL_law := fun v h => by simp only [wsL_law, wsL_law0, List.mem_append, h, true_or, or_true]
theorem rin_16 : ∀ v ∈ wsL_law0_r16, v ∈ wsL_law := fun v h => by simp only [wsL_law, wsL_law0, List.mem_append, h, true_or, or_true]
theorem rin_17 : ∀ v ∈ wsL_law0_r17, v ∈ wsL_law := fun v h => by simp only [wsL_law, wsL_law0, List.mem_append, h, true_or, or_true]
theorem rin_18 : ∀ v ∈ wsL_law0_r18, v ∈ wsL_law := fun v h => by simp only [wsL_law, wsL_law0, List.mem_append, h, true_or, or_true]
theorem rin_19 : ∀ v ∈ wsL_law0_r19, v ∈ wsL_law := fun v h => by simp only [wsL_law, wsL_law0, List.mem_append, h, true_or, or_true]
theorem rin_20 : ∀ v ∈ wsL_law0_r20, v ∈ wsL_law := fun v h => by simp only [wsL_law, wsL_law0, List.mem_append, h, true_or, or_true]
theorem rin_21 : ∀ v ∈ wsL_law0_r21, v ∈ wsL_law := fun v h => by simp only [wsL_law, wsL_law0, List.mem_append, h, true_or, or_true]
theorem rin_22 : ∀ v ∈ wsL_law0_r22, v ∈ wsL_law := fun v h => by simp only [wsL_law, wsL_law0, List.mem_append, h, true_or, or_true]
theorem rin_23 : ∀ v ∈ wsL_law0_r23, v ∈ wsL_law := fun v h => by simp only [wsL_law, wsL_law0, List.mem_append, h, true_or, or_true]
theorem rin_24 : ∀ v ∈ wsL_law0_r24, v ∈ wsL_law := fun v h => by simp only [wsL_law, wsL_law0, List.mem_append, h, true_or, or_true]
theorem rin_25 : ∀ v ∈ wsL_law0_r25, v ∈ wsL_law := fun v h => by simp only [wsL_law, wsL_law0, List.mem_append, h, true_or, or_true]
theorem rin_26 : ∀ v ∈ wsL_law0_r26, v ∈ wsL_law := fun v h => by simp only [wsL_law, wsL_law0, List.mem_append, h, true_or, or_true]
theorem fX0_9 : jFl RX0 9 0 0 := ⟨jCl0, by decide, Or.inl (rin_6 _ (List.mem_of_getElem? (i := 9) rfl))⟩
theorem fX0_15 : jFl RX0 15 0 1 := ⟨jCl0, by decide, Or.inl (rin_6 _ (List.mem_of_getElem? (i := 10) rfl))⟩
theorem fX0_19 : jFl RX0 19 0 2 := ⟨jCl0, by decide, Or.inl (rin_6 _ (List.mem_of_getElem? (i := 11) rfl))⟩
theorem fX0_22 : jFl RX0 22 0 3 := ⟨jCl0, by decide, Or.inl (rin_6 _ (List.mem_of_getElem? (i := 12) rfl))⟩
theorem fX0_26 : jFl RX0 26 3 1 := ⟨jCl3, by decide, Or.inr (List.mem_of_getElem? (i := 13) rfl)⟩
theorem fX0_31 : jFl RX0 31 3 3 := ⟨jCl3, by decide, Or.inr (List.mem_of_getElem? (i := 14) rfl)⟩
theorem fX0_34 : jFl RX0 34 0 4 := ⟨jCl0, by decide, Or.inl (rin_6 _ (List.mem_of_getElem? (i := 13) rfl))⟩
theorem fX0_38 : jFl RX0 38 0 5 := ⟨jCl0, by decide, Or.inl (rin_6 _ (List.mem_of_getElem? (i := 14) rfl))⟩
theorem fX0_44 : jFl RX0 44 3 2 := ⟨jCl3, by decide, Or.inr (List.mem_of_getElem? (i := 15) rfl)⟩
theorem fX0_48 : jFl RX0 48 1 0 := ⟨jCl1, by decide, Or.inr (List.mem_of_getElem? (i := 16) rfl)⟩
theorem fX0_61 : jFl RX0 61 3 0 := ⟨jCl3, by decide, Or.inr (List.mem_of_getElem? (i := 17) rfl)⟩
theorem fX0_79 : jFl RX0 79 1 4 := ⟨jCl1, by decide, Or.inr (List.mem_of_getElem? (i := 18) rfl)⟩
theorem fX0_86 : jFl RX0 86 1 1 := ⟨jCl1, by decide, Or.inr (List.mem_of_getElem? (i := 19) rfl)⟩
theorem fX0_94 : jFl RX0 94 1 2 := ⟨jCl1, by decide, Or.inr (List.mem_of_getElem? (i := 20) rfl)⟩
theorem fX0_101 : jFl RX0 101 1 3 := ⟨jCl1, by decide, Or.inr (List.mem_of_getElem? (i := 21) rfl)⟩
theorem fX0_104 : jFl RX0 104 1 5 := ⟨jCl1, by decide, Or.inr (List.mem_of_getElem? (i := 22) rfl)⟩
theorem fX0_113 : jFl RX0 113 0 6 := ⟨jCl0, by decide, Or.inl (rin_8 _ (List.mem_of_getElem? (i := 23) rfl))⟩
theorem fX0_114 : jFl RX0 114 0 7 := ⟨jCl0, by decide, Or.inl (rin_9 _ (List.mem_of_getElem? (i := 0) rfl))⟩
theorem fX0_117 : jFl RX0 117 0 8 := ⟨jCl0, by decide, Or.inl (rin_9 _ (List.mem_of_getElem? (i := 1) rfl))⟩
theorem fX0_134 : jFl RX0 134 1 6 := ⟨jCl1, by decide, Or.inr (List.mem_of_getElem? (i := 23) rfl)⟩
theorem fX2_9 : jFl RX2 9 2 2 := ⟨jCl2, by decide, Or.inl (rin_3 _ (List.mem_of_getElem? (i := 14) rfl))⟩
theorem fX2_15 : jFl RX2 15 2 0 := ⟨jCl2, by decide, Or.inl (rin_3 _ (List.mem_of_getElem? (i := 15) rfl))⟩
theorem fX2_19 : jFl RX2 19 2 1 := ⟨jCl2, by decide, Or.inl (rin_22 _ (List.mem_of_getElem? (i := 12) rfl))⟩
theorem fX2_23 : jFl RX2 23 1 3 := ⟨jCl1, by decide, Or.inr (List.mem_of_getElem? (i := 24) rfl)⟩
theorem fX2_28 : jFl RX2 28 2 3 := ⟨jCl2, by decide, Or.inl (rin_22 _ (List.mem_of_getElem? (i := 13) rfl))⟩
theorem fX2_31 : jFl RX2 31 2 4 := ⟨jCl2, by decide, Or.inl (rin_22 _ (List.mem_of_getElem? (i := 14) rfl))⟩
theorem fX2_34 : jFl RX2 34 2 9 := ⟨jCl2, by decide, Or.inl (rin_22 _ (List.mem_of_getElem? (i := 15) rfl))⟩
theorem fX2_37 : jFl RX2 37 2 11 := ⟨jCl2, by decide, Or.inl (rin_22 _ (List.mem_of_getElem? (i := 16) rfl))⟩
theorem fX2_40 : jFl RX2 40 2 12 := ⟨jCl2, by decide, Or.inl (rin_22 _ (List.mem_of_getElem? (i := 17) rfl))⟩
theorem fX2_43 : jFl RX2 43 2 10 := ⟨jCl2, by decide, Or.inl (rin_22 _ (List.mem_of_getElem? (i := 18) rfl))⟩
theorem fX2_54 : jFl RX2 54 2 7 := ⟨jCl2, by decide, Or.inl (rin_22 _ (List.mem_of_getElem? (i := 20) rfl))⟩
theorem fX2_57 : jFl RX2 57 2 13 := ⟨jCl2, by decide, Or.inl (rin_22 _ (List.mem_of_getElem? (i := 21) rfl))⟩
theorem fX2_60 : jFl RX2 60 1 2 := ⟨jCl1, by decide, Or.inr (List.mem_of_getElem? (i := 25) rfl)⟩
theorem fX2_67 : jFl RX2 67 2 8 := ⟨jCl2, by decide, Or.inl (rin_22 _ (List.mem_of_getElem? (i := 22) rfl))⟩
theorem fX2_70 : jFl RX2 70 2 14 := ⟨jCl2, by decide, Or.inl (rin_22 _ (List.mem_of_getElem? (i := 23) rfl))⟩
theorem fX2_73 : jFl RX2 73 1 6 := ⟨jCl1, by decide, Or.inr (List.mem_of_getElem? (i := 26) rfl)⟩
theorem fX2_85 : jFl RX2 85 2 5 := ⟨jCl2, by decide, Or.inl (rin_23 _ (List.mem_of_getElem? (i := 5) rfl))⟩
theorem fX2_89 : jFl RX2 89 1 5 := ⟨jCl1, by decide, Or.inr (List.mem_of_getElem? (i := 27) rfl)⟩
theorem fX2_92 : jFl RX2 92 2 6 := ⟨jCl2, by decide, Or.inl (rin_23 _ (List.mem_of_getElem? (i := 6) rfl))⟩
theorem fX2_99 : jFl RX2 99 3 4 := ⟨jCl3, by decide, Or.inr (List.mem_of_getElem? (i := 28) rfl)⟩
theorem fX2_115 : jFl RX2 115 3 0 := ⟨jCl3, by decide, Or.inr (List.mem_of_getElem? (i := 29) rfl)⟩
theorem fX3_11 : jFl RX3 11 3 2 := ⟨jCl3, by decide, Or.inl (rin_3 _ (List.mem_of_getElem? (i := 0) rfl))⟩
theorem fX3_17 : jFl RX3 17 3 4 := ⟨jCl3, by decide, Or.inl (rin_3 _ (List.mem_of_getElem? (i := 2) rfl))⟩
theorem fX3_22 : jFl RX3 22 3 1 := ⟨jCl3, by decide, Or.inl (rin_8 _ (List.mem_of_getElem? (i := 1) rfl))⟩
theorem fX3_26 : jFl RX3 26 1 0 := ⟨jCl1, by decide, Or.inr (List.mem_of_getElem? (i := 30) rfl)⟩
theorem fX3_29 : jFl RX3 29 1 1 := ⟨jCl1, by decide, Or.inr (List.mem_of_getElem? (i := 31) rfl)⟩
theorem fX3_32 : jFl RX3 32 3 3 := ⟨jCl3, by decide, Or.inl (rin_9 _ (List.mem_of_getElem? (i := 21) rfl))⟩
theorem fX4_9 : jFl RX4 9 4 0 := ⟨jCl4, by decide, Or.inl (rin_1 _ (List.mem_of_getElem? (i := 18) rfl))⟩
theorem fX4_15 : jFl RX4 15 4 2 := ⟨jCl4, by decide, Or.inl (rin_1 _ (List.mem_of_getElem? (i := 20) rfl))⟩
theorem fX4_19 : jFl RX4 19 4 3 := ⟨jCl4, by decide, Or.inl (rin_1 _ (List.mem_of_getElem? (i := 22) rfl))⟩
theorem fX4_24 : jFl RX4 24 4 4 := ⟨jCl4, by decide, Or.inl (rin_2 _ (List.mem_of_getElem? (i := 1) rfl))⟩
theorem fX4_31 : jFl RX4 31 4 5 := ⟨jCl4, by decide, Or.inl (rin_2 _ (List.mem_of_getElem? (i := 5) rfl))⟩
theorem fX4_35 : jFl RX4 35 4 7 := ⟨jCl4, by decide, Or.inl (rin_2 _ (List.mem_of_getElem? (i := 6) rfl))⟩
theorem fX4_39 : jFl RX4 39 4 9 := ⟨jCl4, by decide, Or.inl (rin_2 _ (List.mem_of_getElem? (i := 7) rfl))⟩
theorem fX4_42 : jFl RX4 42 4 10 := ⟨jCl4, by decide, Or.inl (rin_2 _ (List.mem_of_getElem? (i := 8) rfl))⟩
theorem fX4_59 : jFl RX4 59 4 6 := ⟨jCl4, by decide, Or.inl (rin_2 _ (List.mem_of_getElem? (i := 19) rfl))⟩
theorem fX4_63 : jFl RX4 63 4 1 := ⟨jCl4, by decide, Or.inl (rin_5 _ (List.mem_of_getElem? (i := 6) rfl))⟩
theorem fX4_76 : jFl RX4 76 3 0 := ⟨jCl3, by decide, Or.inr (List.mem_of_getElem? (i := 0) rfl)⟩
theorem fX4_79 : jFl RX4 79 4 8 := ⟨jCl4, by decide, Or.inl (rin_6 _ (List.mem_of_getElem? (i := 5) rfl))⟩
theorem fX4_110 : jFl RX4 110 1 6 := ⟨jCl1, by decide, Or.inr (List.mem_of_getElem? (i := 1) rfl)⟩
theorem fX4_115 : jFl RX4 115 1 4 := ⟨jCl1, by decide, Or.inr (List.mem_of_getElem? (i := 2) rfl)⟩
theorem fX4_118 : jFl RX4 118 1 3 := ⟨jCl1, by decide, Or.inr (List.mem_of_getElem? (i := 3) rfl)⟩
theorem fX4_121 : jFl RX4 121 1 2 := ⟨jCl1, by decide, Or.inr (List.mem_of_getElem? (i := 4) rfl)⟩
theorem fX4_135 : jFl RX4 135 2 13 := ⟨jCl2, by decide, Or.inr (List.mem_of_getElem? (i := 5) rfl)⟩
theorem fX4_138 : jFl RX4 138 2 14 := ⟨jCl2, by decide, Or.inr (List.mem_of_getElem? (i := 6) rfl)⟩
theorem fX4_141 : jFl RX4 141 2 11 := ⟨jCl2, by decide, Or.inr (List.mem_of_getElem? (i := 7) rfl)⟩
theorem fX4_144 : jFl RX4 144 2 12 := ⟨jCl2, by decide, Or.inr (List.mem_of_getElem? (i := 8) rfl)⟩
theorem fX4_155 : jFl RX4 155 3 1 := ⟨jCl3, by decide, Or.inr (List.mem_of_getElem? (i := 9) rfl)⟩
theorem fX4_158 : jFl RX4 158 3 2 := ⟨jCl3, by decide, Or.inr (List.mem_of_getElem? (i := 10) rfl)⟩
theorem fX4_162 : jFl RX4 162 1 0 := ⟨jCl1, by decide, Or.inr (List.mem_of_getElem? (i := 11) rfl)⟩
theorem fX4_169 : jFl RX4 169 1 1 := ⟨jCl1, by decide, Or.inr (List.mem_of_getElem? (i := 12) rfl)⟩
theorem fX5_7 : jFl RX5 7 5 2 := ⟨jCl5, by decide, Or.inl (rin_3 _ (List.mem_of_getElem? (i := 20) rfl))⟩
theorem fX5_13 : jFl RX5 13 5 8 := ⟨jCl5, by decide, Or.inl (rin_3 _ (List.mem_of_getElem? (i := 21) rfl))⟩
theorem fX5_17 : jFl RX5 17 5 9 := ⟨jCl5, by decide, Or.inl (rin_3 _ (List.mem_of_getElem? (i := 22) rfl))⟩
theorem fX5_21 : jFl RX5 21 5 10 := ⟨jCl5, by decide, Or.inl (rin_3 _ (List.mem_of_getElem? (i := 23) rfl))⟩
theorem fX5_24 : jFl RX5 24 5 11 := ⟨jCl5, by decide, Or.inl (rin_4 _ (List.mem_of_getElem? (i := 0) rfl))⟩
theorem fX5_27 : jFl RX5 27 5 12 := ⟨jCl5, by decide, Or.inl (rin_4 _ (List.mem_of_getElem? (i := 1) rfl))⟩
theorem fX5_30 : jFl RX5 30 5 13 := ⟨jCl5, by decide, Or.inl (rin_4 _ (List.mem_of_getElem? (i := 2) rfl))⟩
theorem fX5_33 : jFl RX5 33 5 14 := ⟨jCl5, by decide, Or.inl (rin_4 _ (List.mem_of_getElem? (i := 3) rfl))⟩
theorem fX5_36 : jFl RX5 36 5 15 := ⟨jCl5, by decide, Or.inl (rin_4 _ (List.mem_of_getElem? (i := 4) rfl))⟩
theorem fX5_39 : jFl RX5 39 5 16 := ⟨jCl5, by decide, Or.inl (rin_4 _ (List.mem_of_getElem? (i := 5) rfl))⟩
theorem fX5_42 : jFl RX5 42 5 17 := ⟨jCl5, by decide, Or.inl (rin_4 _ (List.mem_of_getElem? (i := 6) rfl))⟩
theorem fX5_45 : jFl RX5 45 5 18 := ⟨jCl5, by decide, Or.inl (rin_4 _ (List.mem_of_getElem? (i := 7) rfl))⟩
theorem fX5_48 : jFl RX5 48 5 19 := ⟨jCl5, by decide, Or.inl (rin_4 _ (List.mem_of_getElem? (i := 8) rfl))⟩
theorem fX5_51 : jFl RX5 51 5 20 := ⟨jCl5, by decide, Or.inl (rin_4 _ (List.mem_of_getElem? (i := 9) rfl))⟩
theorem fX5_54 : jFl RX5 54 5 24 := ⟨jCl5, by decide, Or.inl (rin_4 _ (List.mem_of_getElem? (i := 10) rfl))⟩
theorem fX5_57 : jFl RX5 57 5 25 := ⟨jCl5, by decide, Or.inl (rin_4 _ (List.mem_of_getElem? (i := 11) rfl))⟩
theorem fX5_60 : jFl RX5 60 5 26 := ⟨jCl5, by decide, Or.inl (rin_4 _ (List.mem_of_getElem? (i := 12) rfl))⟩
theorem fX5_63 : jFl RX5 63 5 27 := ⟨jCl5, by decide, Or.inl (rin_4 _ (List.mem_of_getElem? (i := 13) rfl))⟩
theorem fX5_66 : jFl RX5 66 5 28 := ⟨jCl5, by decide, Or.inl (rin_4 _ (List.mem_of_getElem? (i := 14) rfl))⟩
theorem fX5_69 : jFl RX5 69 5 29 := ⟨jCl5, by decide, Or.inl (rin_4 _ (List.mem_of_getElem? (i := 15) rfl))⟩
theorem fX5_72 : jFl RX5 72 5 30 := ⟨jCl5, by decide, Or.inl (rin_4 _ (List.mem_of_getElem? (i := 16) rfl))⟩
theorem fX5_75 : jFl RX5 75 5 36 := ⟨jCl5, by decide, Or.inl (rin_4 _ (List.mem_of_getElem? (i := 17) rfl))⟩
theorem fX5_79 : jFl RX5 79 5 37 := ⟨jCl5, by decide, Or.inl (rin_4 _ (List.mem_of_getElem? (i := 18) rfl))⟩
theorem fX5_82 : jFl RX5 82 5 39 := ⟨jCl5, by decide, Or.inl (rin_4 _ (List.mem_of_getElem? (i := 19) rfl))⟩
theorem fX5_85 : jFl RX5 85 5 41 := ⟨jCl5, by decide, Or.inl (rin_4 _ (List.mem_of_getElem? (i := 20) rfl))⟩
theorem fX5_88 : jFl RX5 88 5 42 := ⟨jCl5, by decide, Or.inl (rin_4 _ (List.mem_of_getElem? (i := 21) rfl))⟩
theorem fX5_91 : jFl RX5 91 5 43 := ⟨jCl5, by decide, Or.inl (rin_4 _ (List.mem_of_getElem? (i := 22) rfl))⟩
theorem fX5_94 : jFl RX5 94 5 44 := ⟨jCl5, by decide, Or.inl (rin_4 _ (List.mem_of_getElem? (i := 23) rfl))⟩
theorem fX5_97 : jFl RX5 97 5 45 := ⟨jCl5, by decide, Or.inl (rin_5 _ (List.mem_of_getElem? (i := 0) rfl))⟩
theorem fX5_100 : jFl RX5 100 5 1 := ⟨jCl5, by decide, Or.inl (rin_5 _ (List.mem_of_getElem? (i := 1) rfl))⟩
theorem fX5_103 : jFl RX5 103 5 0 := ⟨jCl5, by decide, Or.inl (rin_5 _ (List.mem_of_getElem? (i := 14) rfl))⟩
theorem fX5_110 : jFl RX5 110 5 3 := ⟨jCl5, by decide, Or.inl (rin_5 _ (List.mem_of_getElem? (i := 15) rfl))⟩
theorem fX5_113 : jFl RX5 113 5 4 := ⟨jCl5, by decide, Or.inl (rin_11 _ (List.mem_of_getElem? (i := 23) rfl))⟩
theorem fX5_116 : jFl RX5 116 5 5 := ⟨jCl5, by decide, Or.inl (rin_11 _ (List.mem_of_getElem? (i := 22) rfl))⟩
theorem fX5_120 : jFl RX5 120 5 6 := ⟨jCl5, by decide, Or.inl (rin_12 _ (List.mem_of_getElem? (i := 0) rfl))⟩
theorem fX5_135 : jFl RX5 135 5 7 := ⟨jCl5, by decide, Or.inl (rin_12 _ (List.mem_of_getElem? (i := 19) rfl))⟩
theorem fX5_138 : jFl RX5 138 5 21 := ⟨jCl5, by decide, Or.inl (rin_12 _ (List.mem_of_getElem? (i := 20) rfl))⟩
theorem fX5_141 : jFl RX5 141 5 31 := ⟨jCl5, by decide, Or.inl (rin_14 _ (List.mem_of_getElem? (i := 3) rfl))⟩
theorem fX5_144 : jFl RX5 144 5 32 := ⟨jCl5, by decide, Or.inl (rin_14 _ (List.mem_of_getElem? (i := 4) rfl))⟩
theorem fX5_151 : jFl RX5 151 5 23 := ⟨jCl5, by decide, Or.inl (rin_14 _ (List.mem_of_getElem? (i := 2) rfl))⟩
theorem fX5_162 : jFl RX5 162 5 33 := ⟨jCl5, by decide, Or.inl (rin_14 _ (List.mem_of_getElem? (i := 5) rfl))⟩
theorem fX5_169 : jFl RX5 169 5 22 := ⟨jCl5, by decide, Or.inl (rin_14 _ (List.mem_of_getElem? (i := 1) rfl))⟩
theorem fX5_243 : jFl RX5 243 5 35 := ⟨jCl5, by decide, Or.inl (rin_12 _ (List.mem_of_getElem? (i := 1) rfl))⟩
theorem fX5_253 : jFl RX5 253 5 34 := ⟨jCl5, by decide, Or.inl (rin_12 _ (List.mem_of_getElem? (i := 2) rfl))⟩
theorem fX5_266 : jFl RX5 266 5 38 := ⟨jCl5, by decide, Or.inl (rin_24 _ (List.mem_of_getElem? (i := 11) rfl))⟩
theorem fX5_269 : jFl RX5 269 5 46 := ⟨jCl5, by decide, Or.inl (rin_24 _ (List.mem_of_getElem? (i := 7) rfl))⟩
theorem fX5_272 : jFl RX5 272 5 47 := ⟨jCl5, by decide, Or.inl (rin_24 _ (List.mem_of_getElem? (i := 8) rfl))⟩
theorem fX5_275 : jFl RX5 275 5 48 := ⟨jCl5, by decide, Or.inl (rin_24 _ (List.mem_of_getElem? (i := 9) rfl))⟩
theorem fX5_278 : jFl RX5 278 5 40 := ⟨jCl5, by decide, Or.inl (rin_24 _ (List.mem_of_getElem? (i := 10) rfl))⟩
theorem fX5_306 : jFl RX5 306 5 50 := ⟨jCl5, by decide, Or.inl (rin_24 _ (List.mem_of_getElem? (i := 12) rfl))⟩
theorem fX5_309 : jFl RX5 309 5 49 := ⟨jCl5, by decide, Or.inl (rin_24 _ (List.mem_of_getElem? (i := 13) rfl))⟩
def jCB (own : String) (index : Nat) (y : MethodName) (bytes : ByteArray) (maxL : Nat) (ret : Option FieldType) (n : Nat) : Prop := y.cls ≠ "java/lang/invoke/MethodHandle" ∧ y.cls ≠ "java/lang/invoke/VarHandle" ∧ (parseMethodDescriptor y.desc).map (fun d => d.parameters.length) = some n ∧ Cond.code y bytes maxL ret ∈ wsL_law ∧ Cond.initialized y.cls ∈ wsL_law ∧ (Cond.methodLink own index y ∈ wsL_law ∨ (own, index, y) ∈ jNM)
theorem mL_7 : jCB RL 7 yX4_module cX4_module 3 (some .int) 0 ∧ Cond.instanceMethod yX4_module ∈ wsL_law ∧ Cond.selects RX4 yX4_module yX4_module ∈ wsL_law := ⟨⟨by decide, by decide, by decide +kernel, (rin_6 _ (List.mem_of_getElem? (i := 2) rfl)), (rin_1 _ (List.mem_of_getElem? (i := 2) rfl)), Or.inl (rin_5 _ (List.mem_of_getElem? (i := 23) rfl))⟩, (rin_6 _ (List.mem_of_getElem? (i := 0) rfl)), (rin_6 _ (List.mem_of_getElem? (i := 1) rfl))⟩
theorem mL_15 : jCB RL 15 yX4_drop cX4_drop 2 none 1 ∧ Cond.instanceMethod yX4_drop ∈ wsL_law ∧ Cond.selects RX4 yX4_drop yX4_drop ∈ wsL_law := ⟨⟨by decide, by decide, by decide +kernel, (rin_18 _ (List.mem_of_getElem? (i := 9) rfl)), (rin_1 _ (List.mem_of_getElem? (i := 2) rfl)), Or.inl (rin_18 _ (List.mem_of_getElem? (i := 6) rfl))⟩, (rin_18 _ (List.mem_of_getElem? (i := 7) rfl)), (rin_18 _ (List.mem_of_getElem? (i := 8) rfl))⟩
theorem mL_21 : jCB RL 21 yX4_link cX4_link 1 (some .int) 0 ∧ Cond.instanceMethod yX4_link ∈ wsL_law ∧ Cond.selects RX4 yX4_link yX4_link ∈ wsL_law := ⟨⟨by decide, by decide, by decide +kernel, (rin_19 _ (List.mem_of_getElem? (i := 8) rfl)), (rin_1 _ (List.mem_of_getElem? (i := 2) rfl)), Or.inl (rin_19 _ (List.mem_of_getElem? (i := 5) rfl))⟩, (rin_19 _ (List.mem_of_getElem? (i := 6) rfl)), (rin_19 _ (List.mem_of_getElem? (i := 7) rfl))⟩
theorem mL_28 : jCB RL 28 yX4_about cX4_about 5 (some .int) 3 ∧ Cond.instanceMethod yX4_about ∈ wsL_law ∧ Cond.selects RX4 yX4_about yX4_about ∈ wsL_law := ⟨⟨by decide, by decide, by decide +kernel, (rin_21 _ (List.mem_of_getElem? (i := 14) rfl)), (rin_1 _ (List.mem_of_getElem? (i := 2) rfl)), Or.inl (rin_21 _ (List.mem_of_getElem? (i := 11) rfl))⟩, (rin_21 _ (List.mem_of_getElem? (i := 12) rfl)), (rin_21 _ (List.mem_of_getElem? (i := 13) rfl))⟩
theorem mL_32 : jCB RL 32 yX4_call cX4_call 9 (some .int) 7 ∧ Cond.instanceMethod yX4_call ∈ wsL_law ∧ Cond.selects RX4 yX4_call yX4_call ∈ wsL_law := ⟨⟨by decide, by decide, by decide +kernel, (rin_22 _ (List.mem_of_getElem? (i := 5) rfl)), (rin_1 _ (List.mem_of_getElem? (i := 2) rfl)), Or.inl (rin_22 _ (List.mem_of_getElem? (i := 2) rfl))⟩, (rin_22 _ (List.mem_of_getElem? (i := 3) rfl)), (rin_22 _ (List.mem_of_getElem? (i := 4) rfl))⟩
theorem mL_36 : jCB RL 36 yL_cell cL_cell 2 (some .int) 2 ∧ Cond.static yL_cell ∈ wsL_law := ⟨⟨by decide, by decide, by decide +kernel, (rin_1 _ (List.mem_of_getElem? (i := 10) rfl)), (rin_1 _ (List.mem_of_getElem? (i := 9) rfl)), Or.inl (rin_1 _ (List.mem_of_getElem? (i := 7) rfl))⟩, (rin_1 _ (List.mem_of_getElem? (i := 8) rfl))⟩
theorem mL_47 : jCB RL 47 yX4_put cX4_put 5 (some .boolean) 2 ∧ Cond.instanceMethod yX4_put ∈ wsL_law ∧ Cond.selects RX4 yX4_put yX4_put ∈ wsL_law := ⟨⟨by decide, by decide, by decide +kernel, (rin_5 _ (List.mem_of_getElem? (i := 5) rfl)), (rin_1 _ (List.mem_of_getElem? (i := 2) rfl)), Or.inl (rin_5 _ (List.mem_of_getElem? (i := 2) rfl))⟩, (rin_5 _ (List.mem_of_getElem? (i := 3) rfl)), (rin_5 _ (List.mem_of_getElem? (i := 4) rfl))⟩
theorem mL_51 : jCB RL 51 yX5_put cX5_put 4 (some .boolean) 2 ∧ Cond.instanceMethod yX5_put ∈ wsL_law ∧ Cond.selects RX5 yX5_put yX5_put ∈ wsL_law := ⟨⟨by decide, by decide, by decide +kernel, (rin_5 _ (List.mem_of_getElem? (i := 13) rfl)), (rin_1 _ (List.mem_of_getElem? (i := 5) rfl)), Or.inl (rin_5 _ (List.mem_of_getElem? (i := 10) rfl))⟩, (rin_5 _ (List.mem_of_getElem? (i := 11) rfl)), (rin_5 _ (List.mem_of_getElem? (i := 12) rfl))⟩
theorem mL_55 : jCB RL 55 yX5_module cX5_module 2 (some .int) 0 ∧ Cond.instanceMethod yX5_module ∈ wsL_law ∧ Cond.selects RX5 yX5_module yX5_module ∈ wsL_law := ⟨⟨by decide, by decide, by decide +kernel, (rin_11 _ (List.mem_of_getElem? (i := 21) rfl)), (rin_1 _ (List.mem_of_getElem? (i := 5) rfl)), Or.inl (rin_11 _ (List.mem_of_getElem? (i := 18) rfl))⟩, (rin_11 _ (List.mem_of_getElem? (i := 19) rfl)), (rin_11 _ (List.mem_of_getElem? (i := 20) rfl))⟩
theorem mL_56 : jCB RL 56 yX5_thrown cX5_thrown 1 (some .int) 0 ∧ Cond.instanceMethod yX5_thrown ∈ wsL_law ∧ Cond.selects RX5 yX5_thrown yX5_thrown ∈ wsL_law := ⟨⟨by decide, by decide, by decide +kernel, (rin_17 _ (List.mem_of_getElem? (i := 17) rfl)), (rin_1 _ (List.mem_of_getElem? (i := 5) rfl)), Or.inl (rin_17 _ (List.mem_of_getElem? (i := 14) rfl))⟩, (rin_17 _ (List.mem_of_getElem? (i := 15) rfl)), (rin_17 _ (List.mem_of_getElem? (i := 16) rfl))⟩
theorem mL_59 : jCB RL 59 yX4_fault cX4_fault 1 (some .int) 0 ∧ Cond.instanceMethod yX4_fault ∈ wsL_law ∧ Cond.selects RX4 yX4_fault yX4_fault ∈ wsL_law := ⟨⟨by decide, by decide, by decide +kernel, (rin_17 _ (List.mem_of_getElem? (i := 21) rfl)), (rin_1 _ (List.mem_of_getElem? (i := 2) rfl)), Or.inl (rin_17 _ (List.mem_of_getElem? (i := 18) rfl))⟩, (rin_17 _ (List.mem_of_getElem? (i := 19) rfl)), (rin_17 _ (List.mem_of_getElem? (i := 20) rfl))⟩
theorem mL_62 : jCB RL 62 yX5_fault cX5_fault 1 (some .int) 0 ∧ Cond.instanceMethod yX5_fault ∈ wsL_law ∧ Cond.selects RX5 yX5_fault yX5_fault ∈ wsL_law := ⟨⟨by decide, by decide, by decide +kernel, (rin_18 _ (List.mem_of_getElem? (i := 1) rfl)), (rin_1 _ (List.mem_of_getElem? (i := 5) rfl)), Or.inl (rin_17 _ (List.mem_of_getElem? (i := 22) rfl))⟩, (rin_17 _ (List.mem_of_getElem? (i := 23) rfl)), (rin_18 _ (List.mem_of_getElem? (i := 0) rfl))⟩
theorem mL_66 : jCB RL 66 yX5_drop cX5_drop 2 none 1 ∧ Cond.instanceMethod yX5_drop ∈ wsL_law ∧ Cond.selects RX5 yX5_drop yX5_drop ∈ wsL_law := ⟨⟨by decide, by decide, by decide +kernel, (rin_18 _ (List.mem_of_getElem? (i := 19) rfl)), (rin_1 _ (List.mem_of_getElem? (i := 5) rfl)), Or.inl (rin_18 _ (List.mem_of_getElem? (i := 16) rfl))⟩, (rin_18 _ (List.mem_of_getElem? (i := 17) rfl)), (rin_18 _ (List.mem_of_getElem? (i := 18) rfl))⟩
theorem mL_69 : jCB RL 69 yX5_link cX5_link 5 (some .int) 0 ∧ Cond.instanceMethod yX5_link ∈ wsL_law ∧ Cond.selects RX5 yX5_link yX5_link ∈ wsL_law := ⟨⟨by decide, by decide, by decide +kernel, (rin_20 _ (List.mem_of_getElem? (i := 19) rfl)), (rin_1 _ (List.mem_of_getElem? (i := 5) rfl)), Or.inl (rin_20 _ (List.mem_of_getElem? (i := 16) rfl))⟩, (rin_20 _ (List.mem_of_getElem? (i := 17) rfl)), (rin_20 _ (List.mem_of_getElem? (i := 18) rfl))⟩
theorem mL_70 : jCB RL 70 yX4_unfit cX4_unfit 2 (some .int) 1 ∧ Cond.instanceMethod yX4_unfit ∈ wsL_law ∧ Cond.selects RX4 yX4_unfit yX4_unfit ∈ wsL_law := ⟨⟨by decide, by decide, by decide +kernel, (rin_21 _ (List.mem_of_getElem? (i := 3) rfl)), (rin_1 _ (List.mem_of_getElem? (i := 2) rfl)), Or.inl (rin_21 _ (List.mem_of_getElem? (i := 0) rfl))⟩, (rin_21 _ (List.mem_of_getElem? (i := 1) rfl)), (rin_21 _ (List.mem_of_getElem? (i := 2) rfl))⟩
theorem mL_74 : jCB RL 74 yX5_unfit cX5_unfit 2 (some .int) 1 ∧ Cond.instanceMethod yX5_unfit ∈ wsL_law ∧ Cond.selects RX5 yX5_unfit yX5_unfit ∈ wsL_law := ⟨⟨by decide, by decide, by decide +kernel, (rin_21 _ (List.mem_of_getElem? (i := 7) rfl)), (rin_1 _ (List.mem_of_getElem? (i := 5) rfl)), Or.inl (rin_21 _ (List.mem_of_getElem? (i := 4) rfl))⟩, (rin_21 _ (List.mem_of_getElem? (i := 5) rfl)), (rin_21 _ (List.mem_of_getElem? (i := 6) rfl))⟩
theorem mL_78 : jCB RL 78 yX5_about cX5_about 5 (some .int) 3 ∧ Cond.instanceMethod yX5_about ∈ wsL_law ∧ Cond.selects RX5 yX5_about yX5_about ∈ wsL_law := ⟨⟨by decide, by decide, by decide +kernel, (rin_21 _ (List.mem_of_getElem? (i := 18) rfl)), (rin_1 _ (List.mem_of_getElem? (i := 5) rfl)), Or.inl (rin_21 _ (List.mem_of_getElem? (i := 15) rfl))⟩, (rin_21 _ (List.mem_of_getElem? (i := 16) rfl)), (rin_21 _ (List.mem_of_getElem? (i := 17) rfl))⟩
theorem mL_82 : jCB RL 82 yX5_call cX5_call 11 (some .int) 7 ∧ Cond.instanceMethod yX5_call ∈ wsL_law ∧ Cond.selects RX5 yX5_call yX5_call ∈ wsL_law := ⟨⟨by decide, by decide, by decide +kernel, (rin_24 _ (List.mem_of_getElem? (i := 6) rfl)), (rin_1 _ (List.mem_of_getElem? (i := 5) rfl)), Or.inl (rin_24 _ (List.mem_of_getElem? (i := 3) rfl))⟩, (rin_24 _ (List.mem_of_getElem? (i := 4) rfl)), (rin_24 _ (List.mem_of_getElem? (i := 5) rfl))⟩
theorem mL_83 : jCB RL 83 yX4_result cX4_result 2 (some .int) 1 ∧ Cond.instanceMethod yX4_result ∈ wsL_law ∧ Cond.selects RX4 yX4_result yX4_result ∈ wsL_law := ⟨⟨by decide, by decide, by decide +kernel, (rin_26 _ (List.mem_of_getElem? (i := 1) rfl)), (rin_1 _ (List.mem_of_getElem? (i := 2) rfl)), Or.inl (rin_25 _ (List.mem_of_getElem? (i := 22) rfl))⟩, (rin_25 _ (List.mem_of_getElem? (i := 23) rfl)), (rin_26 _ (List.mem_of_getElem? (i := 0) rfl))⟩
theorem mL_86 : jCB RL 86 yX5_result cX5_result 2 (some .int) 1 ∧ Cond.instanceMethod yX5_result ∈ wsL_law ∧ Cond.selects RX5 yX5_result yX5_result ∈ wsL_law := ⟨⟨by decide, by decide, by decide +kernel, (rin_26 _ (List.mem_of_getElem? (i := 5) rfl)), (rin_1 _ (List.mem_of_getElem? (i := 5) rfl)), Or.inl (rin_26 _ (List.mem_of_getElem? (i := 2) rfl))⟩, (rin_26 _ (List.mem_of_getElem? (i := 3) rfl)), (rin_26 _ (List.mem_of_getElem? (i := 4) rfl))⟩
theorem mL_87 : jCB RL 87 yX4_took cX4_took 2 (some .int) 1 ∧ Cond.instanceMethod yX4_took ∈ wsL_law ∧ Cond.selects RX4 yX4_took yX4_took ∈ wsL_law := ⟨⟨by decide, by decide, by decide +kernel, (rin_26 _ (List.mem_of_getElem? (i := 9) rfl)), (rin_1 _ (List.mem_of_getElem? (i := 2) rfl)), Or.inl (rin_26 _ (List.mem_of_getElem? (i := 6) rfl))⟩, (rin_26 _ (List.mem_of_getElem? (i := 7) rfl)), (rin_26 _ (List.mem_of_getElem? (i := 8) rfl))⟩
theorem mL_90 : jCB RL 90 yX5_took cX5_took 2 (some .int) 1 ∧ Cond.instanceMethod yX5_took ∈ wsL_law ∧ Cond.selects RX5 yX5_took yX5_took ∈ wsL_law := ⟨⟨by decide, by decide, by decide +kernel, (rin_26 _ (List.mem_of_getElem? (i := 13) rfl)), (rin_1 _ (List.mem_of_getElem? (i := 5) rfl)), Or.inl (rin_26 _ (List.mem_of_getElem? (i := 10) rfl))⟩, (rin_26 _ (List.mem_of_getElem? (i := 11) rfl)), (rin_26 _ (List.mem_of_getElem? (i := 12) rfl))⟩
theorem mX0_41 : jCB RX0 41 yX0_readHeads cX0_readHeads 2 none 0 ∧ Cond.instanceMethod yX0_readHeads ∈ wsL_law ∧ Cond.selects RX0 yX0_readHeads yX0_readHeads ∈ wsL_law := ⟨⟨by decide, by decide, by decide +kernel, (rin_6 _ (List.mem_of_getElem? (i := 18) rfl)), (rin_2 _ (List.mem_of_getElem? (i := 4) rfl)), Or.inl (rin_6 _ (List.mem_of_getElem? (i := 15) rfl))⟩, (rin_6 _ (List.mem_of_getElem? (i := 16) rfl)), (rin_6 _ (List.mem_of_getElem? (i := 17) rfl))⟩
theorem mX0_53 : jCB RX0 53 yX0_readBody cX0_readBody 2 none 1 ∧ Cond.instanceMethod yX0_readBody ∈ wsL_law ∧ Cond.selects RX0 yX0_readBody yX0_readBody ∈ wsL_law := ⟨⟨by decide, by decide, by decide +kernel, (rin_8 _ (List.mem_of_getElem? (i := 22) rfl)), (rin_2 _ (List.mem_of_getElem? (i := 4) rfl)), Or.inl (rin_8 _ (List.mem_of_getElem? (i := 19) rfl))⟩, (rin_8 _ (List.mem_of_getElem? (i := 20) rfl)), (rin_8 _ (List.mem_of_getElem? (i := 21) rfl))⟩
theorem mX0_57 : jCB RX0 57 yX0_readAmong cX0_readAmong 4 (some .int) 2 ∧ Cond.instanceMethod yX0_readAmong ∈ wsL_law ∧ Cond.selects RX0 yX0_readAmong yX0_readAmong ∈ wsL_law := ⟨⟨by decide, by decide, by decide +kernel, (rin_6 _ (List.mem_of_getElem? (i := 22) rfl)), (rin_2 _ (List.mem_of_getElem? (i := 4) rfl)), Or.inl (rin_6 _ (List.mem_of_getElem? (i := 19) rfl))⟩, (rin_6 _ (List.mem_of_getElem? (i := 20) rfl)), (rin_6 _ (List.mem_of_getElem? (i := 21) rfl))⟩
theorem mX0_64 : jCB RX0 64 yX0_peek cX0_peek 1 (some .char) 0 ∧ Cond.instanceMethod yX0_peek ∈ wsL_law ∧ Cond.selects RX0 yX0_peek yX0_peek ∈ wsL_law := ⟨⟨by decide, by decide, by decide +kernel, (rin_7 _ (List.mem_of_getElem? (i := 2) rfl)), (rin_2 _ (List.mem_of_getElem? (i := 4) rfl)), Or.inl (rin_6 _ (List.mem_of_getElem? (i := 23) rfl))⟩, (rin_7 _ (List.mem_of_getElem? (i := 0) rfl)), (rin_7 _ (List.mem_of_getElem? (i := 1) rfl))⟩
theorem mX0_68 : jCB RX0 68 yX0_take cX0_take 2 none 1 ∧ Cond.instanceMethod yX0_take ∈ wsL_law ∧ Cond.selects RX0 yX0_take yX0_take ∈ wsL_law := ⟨⟨by decide, by decide, by decide +kernel, (rin_7 _ (List.mem_of_getElem? (i := 13) rfl)), (rin_2 _ (List.mem_of_getElem? (i := 4) rfl)), Or.inl (rin_7 _ (List.mem_of_getElem? (i := 10) rfl))⟩, (rin_7 _ (List.mem_of_getElem? (i := 11) rfl)), (rin_7 _ (List.mem_of_getElem? (i := 12) rfl))⟩
theorem mX0_72 : jCB RX0 72 yX0_readHead cX0_readHead 2 none 1 ∧ Cond.instanceMethod yX0_readHead ∈ wsL_law ∧ Cond.selects RX0 yX0_readHead yX0_readHead ∈ wsL_law := ⟨⟨by decide, by decide, by decide +kernel, (rin_7 _ (List.mem_of_getElem? (i := 21) rfl)), (rin_2 _ (List.mem_of_getElem? (i := 4) rfl)), Or.inl (rin_7 _ (List.mem_of_getElem? (i := 18) rfl))⟩, (rin_7 _ (List.mem_of_getElem? (i := 19) rfl)), (rin_7 _ (List.mem_of_getElem? (i := 20) rfl))⟩
theorem mX0_75 : jCB RX0 75 yX0_refuse cX0_refuse 1 (some .int) 0 ∧ Cond.instanceMethod yX0_refuse ∈ wsL_law ∧ Cond.selects RX0 yX0_refuse yX0_refuse ∈ wsL_law := ⟨⟨by decide, by decide, by decide +kernel, (rin_7 _ (List.mem_of_getElem? (i := 9) rfl)), (rin_2 _ (List.mem_of_getElem? (i := 4) rfl)), Or.inl (rin_7 _ (List.mem_of_getElem? (i := 6) rfl))⟩, (rin_7 _ (List.mem_of_getElem? (i := 7) rfl)), (rin_7 _ (List.mem_of_getElem? (i := 8) rfl))⟩
theorem mX0_82 : jCB RX0 82 yX0_takeIf cX0_takeIf 2 (some .boolean) 1 ∧ Cond.instanceMethod yX0_takeIf ∈ wsL_law ∧ Cond.selects RX0 yX0_takeIf yX0_takeIf ∈ wsL_law := ⟨⟨by decide, by decide, by decide +kernel, (rin_7 _ (List.mem_of_getElem? (i := 17) rfl)), (rin_2 _ (List.mem_of_getElem? (i := 4) rfl)), Or.inl (rin_7 _ (List.mem_of_getElem? (i := 14) rfl))⟩, (rin_7 _ (List.mem_of_getElem? (i := 15) rfl)), (rin_7 _ (List.mem_of_getElem? (i := 16) rfl))⟩
theorem mX0_87 : jCB RX0 87 yX3_find cX3_find 4 (some (.object "ModuleLinker$Item")) 2 ∧ Cond.instanceMethod yX3_find ∈ wsL_law ∧ Cond.selects RX3 yX3_find yX3_find ∈ wsL_law := ⟨⟨by decide, by decide, by decide +kernel, (rin_8 _ (List.mem_of_getElem? (i := 0) rfl)), (rin_2 _ (List.mem_of_getElem? (i := 0) rfl)), Or.inr (List.mem_of_getElem? (i := 8) rfl)⟩, (rin_7 _ (List.mem_of_getElem? (i := 22) rfl)), (rin_7 _ (List.mem_of_getElem? (i := 23) rfl))⟩
theorem mX0_91 : jCB RX0 91 yX0_readSignature cX0_readSignature 3 (some .int) 0 ∧ Cond.instanceMethod yX0_readSignature ∈ wsL_law ∧ Cond.selects RX0 yX0_readSignature yX0_readSignature ∈ wsL_law := ⟨⟨by decide, by decide, by decide +kernel, (rin_8 _ (List.mem_of_getElem? (i := 5) rfl)), (rin_2 _ (List.mem_of_getElem? (i := 4) rfl)), Or.inl (rin_8 _ (List.mem_of_getElem? (i := 2) rfl))⟩, (rin_8 _ (List.mem_of_getElem? (i := 3) rfl)), (rin_8 _ (List.mem_of_getElem? (i := 4) rfl))⟩
theorem mX0_97 : jCB RX0 97 yX4_wordsBefore cX4_wordsBefore 4 (some .int) 2 ∧ Cond.static yX4_wordsBefore ∈ wsL_law := ⟨⟨by decide, by decide, by decide +kernel, (rin_8 _ (List.mem_of_getElem? (i := 11) rfl)), (rin_1 _ (List.mem_of_getElem? (i := 2) rfl)), Or.inr (List.mem_of_getElem? (i := 9) rfl)⟩, (rin_8 _ (List.mem_of_getElem? (i := 10) rfl))⟩
theorem mX0_107 : jCB RX0 107 yX0_skipBody cX0_skipBody 2 none 0 ∧ Cond.instanceMethod yX0_skipBody ∈ wsL_law ∧ Cond.selects RX0 yX0_skipBody yX0_skipBody ∈ wsL_law := ⟨⟨by decide, by decide, by decide +kernel, (rin_8 _ (List.mem_of_getElem? (i := 18) rfl)), (rin_2 _ (List.mem_of_getElem? (i := 4) rfl)), Or.inl (rin_8 _ (List.mem_of_getElem? (i := 15) rfl))⟩, (rin_8 _ (List.mem_of_getElem? (i := 16) rfl)), (rin_8 _ (List.mem_of_getElem? (i := 17) rfl))⟩
theorem mX0_110 : jCB RX0 110 yX0_readType cX0_readType 1 (some .int) 0 ∧ Cond.instanceMethod yX0_readType ∈ wsL_law ∧ Cond.selects RX0 yX0_readType yX0_readType ∈ wsL_law := ⟨⟨by decide, by decide, by decide +kernel, (rin_8 _ (List.mem_of_getElem? (i := 9) rfl)), (rin_2 _ (List.mem_of_getElem? (i := 4) rfl)), Or.inl (rin_8 _ (List.mem_of_getElem? (i := 6) rfl))⟩, (rin_8 _ (List.mem_of_getElem? (i := 7) rfl)), (rin_8 _ (List.mem_of_getElem? (i := 8) rfl))⟩
theorem mX0_120 : jCB RX0 120 yX4_typeAt cX4_typeAt 2 (some .int) 2 ∧ Cond.static yX4_typeAt ∈ wsL_law := ⟨⟨by decide, by decide, by decide +kernel, (rin_8 _ (List.mem_of_getElem? (i := 14) rfl)), (rin_1 _ (List.mem_of_getElem? (i := 2) rfl)), Or.inr (List.mem_of_getElem? (i := 10) rfl)⟩, (rin_8 _ (List.mem_of_getElem? (i := 13) rfl))⟩
theorem mX0_123 : jCB RX0 123 yX0_readExpression cX0_readExpression 5 (some .int) 1 ∧ Cond.instanceMethod yX0_readExpression ∈ wsL_law ∧ Cond.selects RX0 yX0_readExpression yX0_readExpression ∈ wsL_law := ⟨⟨by decide, by decide, by decide +kernel, (rin_9 _ (List.mem_of_getElem? (i := 5) rfl)), (rin_2 _ (List.mem_of_getElem? (i := 4) rfl)), Or.inl (rin_9 _ (List.mem_of_getElem? (i := 2) rfl))⟩, (rin_9 _ (List.mem_of_getElem? (i := 3) rfl)), (rin_9 _ (List.mem_of_getElem? (i := 4) rfl))⟩
theorem mX0_127 : jCB RX0 127 yX0_need cX0_need 3 none 2 ∧ Cond.instanceMethod yX0_need ∈ wsL_law ∧ Cond.selects RX0 yX0_need yX0_need ∈ wsL_law := ⟨⟨by decide, by decide, by decide +kernel, (rin_9 _ (List.mem_of_getElem? (i := 12) rfl)), (rin_2 _ (List.mem_of_getElem? (i := 4) rfl)), Or.inl (rin_9 _ (List.mem_of_getElem? (i := 9) rfl))⟩, (rin_9 _ (List.mem_of_getElem? (i := 10) rfl)), (rin_9 _ (List.mem_of_getElem? (i := 11) rfl))⟩
theorem mX0_131 : jCB RX0 131 yX3_emit cX3_emit 4 (some .int) 2 ∧ Cond.instanceMethod yX3_emit ∈ wsL_law ∧ Cond.selects RX3 yX3_emit yX3_emit ∈ wsL_law := ⟨⟨by decide, by decide, by decide +kernel, (rin_9 _ (List.mem_of_getElem? (i := 20) rfl)), (rin_2 _ (List.mem_of_getElem? (i := 0) rfl)), Or.inr (List.mem_of_getElem? (i := 11) rfl)⟩, (rin_9 _ (List.mem_of_getElem? (i := 18) rfl)), (rin_9 _ (List.mem_of_getElem? (i := 19) rfl))⟩
theorem mX0_135 : jCB RX0 135 yX0_readProduct cX0_readProduct 4 (some .int) 1 ∧ Cond.instanceMethod yX0_readProduct ∈ wsL_law ∧ Cond.selects RX0 yX0_readProduct yX0_readProduct ∈ wsL_law := ⟨⟨by decide, by decide, by decide +kernel, (rin_10 _ (List.mem_of_getElem? (i := 17) rfl)), (rin_2 _ (List.mem_of_getElem? (i := 4) rfl)), Or.inl (rin_9 _ (List.mem_of_getElem? (i := 6) rfl))⟩, (rin_9 _ (List.mem_of_getElem? (i := 7) rfl)), (rin_9 _ (List.mem_of_getElem? (i := 8) rfl))⟩
theorem mX0_138 : jCB RX0 138 yX0_hold cX0_hold 2 none 1 ∧ Cond.instanceMethod yX0_hold ∈ wsL_law ∧ Cond.selects RX0 yX0_hold yX0_hold ∈ wsL_law := ⟨⟨by decide, by decide, by decide +kernel, (rin_9 _ (List.mem_of_getElem? (i := 16) rfl)), (rin_2 _ (List.mem_of_getElem? (i := 4) rfl)), Or.inl (rin_9 _ (List.mem_of_getElem? (i := 13) rfl))⟩, (rin_9 _ (List.mem_of_getElem? (i := 14) rfl)), (rin_9 _ (List.mem_of_getElem? (i := 15) rfl))⟩
theorem mX0_142 : jCB RX0 142 yX0_release cX0_release 2 none 1 ∧ Cond.instanceMethod yX0_release ∈ wsL_law ∧ Cond.selects RX0 yX0_release yX0_release ∈ wsL_law := ⟨⟨by decide, by decide, by decide +kernel, (rin_10 _ (List.mem_of_getElem? (i := 1) rfl)), (rin_2 _ (List.mem_of_getElem? (i := 4) rfl)), Or.inl (rin_9 _ (List.mem_of_getElem? (i := 22) rfl))⟩, (rin_9 _ (List.mem_of_getElem? (i := 23) rfl)), (rin_10 _ (List.mem_of_getElem? (i := 0) rfl))⟩
theorem mX0_145 : jCB RX0 145 yX0_readFactor cX0_readFactor 3 (some .int) 1 ∧ Cond.instanceMethod yX0_readFactor ∈ wsL_law ∧ Cond.selects RX0 yX0_readFactor yX0_readFactor ∈ wsL_law := ⟨⟨by decide, by decide, by decide +kernel, (rin_10 _ (List.mem_of_getElem? (i := 11) rfl)), (rin_2 _ (List.mem_of_getElem? (i := 4) rfl)), Or.inl (rin_10 _ (List.mem_of_getElem? (i := 18) rfl))⟩, (rin_10 _ (List.mem_of_getElem? (i := 19) rfl)), (rin_10 _ (List.mem_of_getElem? (i := 20) rfl))⟩
theorem mX0_148 : jCB RX0 148 yX0_readWhole cX0_readWhole 4 (some .int) 1 ∧ Cond.instanceMethod yX0_readWhole ∈ wsL_law ∧ Cond.selects RX0 yX0_readWhole yX0_readWhole ∈ wsL_law := ⟨⟨by decide, by decide, by decide +kernel, (rin_10 _ (List.mem_of_getElem? (i := 21) rfl)), (rin_2 _ (List.mem_of_getElem? (i := 4) rfl)), Or.inl (rin_10 _ (List.mem_of_getElem? (i := 12) rfl))⟩, (rin_10 _ (List.mem_of_getElem? (i := 13) rfl)), (rin_10 _ (List.mem_of_getElem? (i := 14) rfl))⟩
theorem mX0_151 : jCB RX0 151 yX0_isIn cX0_isIn 3 (some .boolean) 3 ∧ Cond.static yX0_isIn ∈ wsL_law := ⟨⟨by decide, by decide, by decide +kernel, (rin_7 _ (List.mem_of_getElem? (i := 5) rfl)), (rin_2 _ (List.mem_of_getElem? (i := 4) rfl)), Or.inl (rin_7 _ (List.mem_of_getElem? (i := 3) rfl))⟩, (rin_7 _ (List.mem_of_getElem? (i := 4) rfl))⟩
theorem mX0_155 : jCB RX0 155 yX0_readNumber cX0_readNumber 3 (some .int) 0 ∧ Cond.instanceMethod yX0_readNumber ∈ wsL_law ∧ Cond.selects RX0 yX0_readNumber yX0_readNumber ∈ wsL_law := ⟨⟨by decide, by decide, by decide +kernel, (rin_11 _ (List.mem_of_getElem? (i := 1) rfl)), (rin_2 _ (List.mem_of_getElem? (i := 4) rfl)), Or.inl (rin_10 _ (List.mem_of_getElem? (i := 22) rfl))⟩, (rin_10 _ (List.mem_of_getElem? (i := 23) rfl)), (rin_11 _ (List.mem_of_getElem? (i := 0) rfl))⟩
theorem mX0_158 : jCB RX0 158 yX0_readParameter cX0_readParameter 3 (some .int) 0 ∧ Cond.instanceMethod yX0_readParameter ∈ wsL_law ∧ Cond.selects RX0 yX0_readParameter yX0_readParameter ∈ wsL_law := ⟨⟨by decide, by decide, by decide +kernel, (rin_11 _ (List.mem_of_getElem? (i := 5) rfl)), (rin_2 _ (List.mem_of_getElem? (i := 4) rfl)), Or.inl (rin_11 _ (List.mem_of_getElem? (i := 2) rfl))⟩, (rin_11 _ (List.mem_of_getElem? (i := 3) rfl)), (rin_11 _ (List.mem_of_getElem? (i := 4) rfl))⟩
theorem mX0_161 : jCB RX0 161 yX0_readCall cX0_readCall 6 (some .int) 2 ∧ Cond.instanceMethod yX0_readCall ∈ wsL_law ∧ Cond.selects RX0 yX0_readCall yX0_readCall ∈ wsL_law := ⟨⟨by decide, by decide, by decide +kernel, (rin_10 _ (List.mem_of_getElem? (i := 3) rfl)), (rin_2 _ (List.mem_of_getElem? (i := 4) rfl)), Or.inl (rin_11 _ (List.mem_of_getElem? (i := 6) rfl))⟩, (rin_11 _ (List.mem_of_getElem? (i := 7) rfl)), (rin_11 _ (List.mem_of_getElem? (i := 8) rfl))⟩
theorem mX0_164 : jCB RX0 164 yX0_readGroup cX0_readGroup 3 (some .int) 1 ∧ Cond.instanceMethod yX0_readGroup ∈ wsL_law ∧ Cond.selects RX0 yX0_readGroup yX0_readGroup ∈ wsL_law := ⟨⟨by decide, by decide, by decide +kernel, (rin_10 _ (List.mem_of_getElem? (i := 15) rfl)), (rin_2 _ (List.mem_of_getElem? (i := 4) rfl)), Or.inl (rin_11 _ (List.mem_of_getElem? (i := 9) rfl))⟩, (rin_11 _ (List.mem_of_getElem? (i := 10) rfl)), (rin_11 _ (List.mem_of_getElem? (i := 11) rfl))⟩
theorem mX0_167 : jCB RX0 167 yX0_readPair cX0_readPair 2 (some .int) 1 ∧ Cond.instanceMethod yX0_readPair ∈ wsL_law ∧ Cond.selects RX0 yX0_readPair yX0_readPair ∈ wsL_law := ⟨⟨by decide, by decide, by decide +kernel, (rin_10 _ (List.mem_of_getElem? (i := 16) rfl)), (rin_2 _ (List.mem_of_getElem? (i := 4) rfl)), Or.inl (rin_11 _ (List.mem_of_getElem? (i := 12) rfl))⟩, (rin_11 _ (List.mem_of_getElem? (i := 13) rfl)), (rin_11 _ (List.mem_of_getElem? (i := 14) rfl))⟩
theorem mX0_170 : jCB RX0 170 yX0_readChoice cX0_readChoice 5 (some .int) 1 ∧ Cond.instanceMethod yX0_readChoice ∈ wsL_law ∧ Cond.selects RX0 yX0_readChoice yX0_readChoice ∈ wsL_law := ⟨⟨by decide, by decide, by decide +kernel, (rin_10 _ (List.mem_of_getElem? (i := 7) rfl)), (rin_2 _ (List.mem_of_getElem? (i := 4) rfl)), Or.inl (rin_11 _ (List.mem_of_getElem? (i := 15) rfl))⟩, (rin_11 _ (List.mem_of_getElem? (i := 16) rfl)), (rin_11 _ (List.mem_of_getElem? (i := 17) rfl))⟩
theorem mX0_173 : jCB RX0 173 yX3_landHere cX3_landHere 2 none 1 ∧ Cond.instanceMethod yX3_landHere ∈ wsL_law ∧ Cond.selects RX3 yX3_landHere yX3_landHere ∈ wsL_law := ⟨⟨by decide, by decide, by decide +kernel, (rin_10 _ (List.mem_of_getElem? (i := 10) rfl)), (rin_2 _ (List.mem_of_getElem? (i := 0) rfl)), Or.inr (List.mem_of_getElem? (i := 12) rfl)⟩, (rin_10 _ (List.mem_of_getElem? (i := 8) rfl)), (rin_10 _ (List.mem_of_getElem? (i := 9) rfl))⟩
theorem mX0_176 : jCB RX0 176 yX0_readArguments cX0_readArguments 8 none 2 ∧ Cond.instanceMethod yX0_readArguments ∈ wsL_law ∧ Cond.selects RX0 yX0_readArguments yX0_readArguments ∈ wsL_law := ⟨⟨by decide, by decide, by decide +kernel, (rin_10 _ (List.mem_of_getElem? (i := 2) rfl)), (rin_2 _ (List.mem_of_getElem? (i := 4) rfl)), Or.inl (rin_10 _ (List.mem_of_getElem? (i := 4) rfl))⟩, (rin_10 _ (List.mem_of_getElem? (i := 5) rfl)), (rin_10 _ (List.mem_of_getElem? (i := 6) rfl))⟩
theorem mX2_46 : jCB RX2 46 yX2_enter cX2_enter 6 none 3 ∧ Cond.instanceMethod yX2_enter ∈ wsL_law ∧ Cond.selects RX2 yX2_enter yX2_enter ∈ wsL_law := ⟨⟨by decide, by decide, by decide +kernel, (rin_23 _ (List.mem_of_getElem? (i := 3) rfl)), (rin_2 _ (List.mem_of_getElem? (i := 11) rfl)), Or.inl (rin_23 _ (List.mem_of_getElem? (i := 0) rfl))⟩, (rin_23 _ (List.mem_of_getElem? (i := 1) rfl)), (rin_23 _ (List.mem_of_getElem? (i := 2) rfl))⟩
theorem mX2_51 : jCB RX2 51 yX2_step cX2_step 3 none 0 ∧ Cond.instanceMethod yX2_step ∈ wsL_law ∧ Cond.selects RX2 yX2_step yX2_step ∈ wsL_law := ⟨⟨by decide, by decide, by decide +kernel, (rin_23 _ (List.mem_of_getElem? (i := 14) rfl)), (rin_2 _ (List.mem_of_getElem? (i := 11) rfl)), Or.inl (rin_23 _ (List.mem_of_getElem? (i := 11) rfl))⟩, (rin_23 _ (List.mem_of_getElem? (i := 12) rfl)), (rin_23 _ (List.mem_of_getElem? (i := 13) rfl))⟩
theorem mX2_63 : jCB RX2 63 yX4_typeAt cX4_typeAt 2 (some .int) 2 ∧ Cond.static yX4_typeAt ∈ wsL_law := ⟨⟨by decide, by decide, by decide +kernel, (rin_8 _ (List.mem_of_getElem? (i := 14) rfl)), (rin_1 _ (List.mem_of_getElem? (i := 2) rfl)), Or.inr (List.mem_of_getElem? (i := 13) rfl)⟩, (rin_8 _ (List.mem_of_getElem? (i := 13) rfl))⟩
theorem mX2_81 : jCB RX2 81 yX2_push cX2_push 2 none 1 ∧ Cond.instanceMethod yX2_push ∈ wsL_law ∧ Cond.selects RX2 yX2_push yX2_push ∈ wsL_law := ⟨⟨by decide, by decide, by decide +kernel, (rin_23 _ (List.mem_of_getElem? (i := 10) rfl)), (rin_2 _ (List.mem_of_getElem? (i := 11) rfl)), Or.inl (rin_23 _ (List.mem_of_getElem? (i := 7) rfl))⟩, (rin_23 _ (List.mem_of_getElem? (i := 8) rfl)), (rin_23 _ (List.mem_of_getElem? (i := 9) rfl))⟩
theorem mX2_95 : jCB RX2 95 yX2_pop cX2_pop 1 (some .int) 0 ∧ Cond.instanceMethod yX2_pop ∈ wsL_law ∧ Cond.selects RX2 yX2_pop yX2_pop ∈ wsL_law := ⟨⟨by decide, by decide, by decide +kernel, (rin_23 _ (List.mem_of_getElem? (i := 18) rfl)), (rin_2 _ (List.mem_of_getElem? (i := 11) rfl)), Or.inl (rin_23 _ (List.mem_of_getElem? (i := 15) rfl))⟩, (rin_23 _ (List.mem_of_getElem? (i := 16) rfl)), (rin_23 _ (List.mem_of_getElem? (i := 17) rfl))⟩
theorem mX2_104 : jCB RX2 104 yX2_enterNamed cX2_enterNamed 5 none 2 ∧ Cond.instanceMethod yX2_enterNamed ∈ wsL_law ∧ Cond.selects RX2 yX2_enterNamed yX2_enterNamed ∈ wsL_law := ⟨⟨by decide, by decide, by decide +kernel, (rin_23 _ (List.mem_of_getElem? (i := 22) rfl)), (rin_2 _ (List.mem_of_getElem? (i := 11) rfl)), Or.inl (rin_23 _ (List.mem_of_getElem? (i := 19) rfl))⟩, (rin_23 _ (List.mem_of_getElem? (i := 20) rfl)), (rin_23 _ (List.mem_of_getElem? (i := 21) rfl))⟩
theorem mX2_108 : jCB RX2 108 yX2_leave cX2_leave 3 none 0 ∧ Cond.instanceMethod yX2_leave ∈ wsL_law ∧ Cond.selects RX2 yX2_leave yX2_leave ∈ wsL_law := ⟨⟨by decide, by decide, by decide +kernel, (rin_24 _ (List.mem_of_getElem? (i := 2) rfl)), (rin_2 _ (List.mem_of_getElem? (i := 11) rfl)), Or.inl (rin_23 _ (List.mem_of_getElem? (i := 23) rfl))⟩, (rin_24 _ (List.mem_of_getElem? (i := 0) rfl)), (rin_24 _ (List.mem_of_getElem? (i := 1) rfl))⟩
theorem mX2_111 : jCB RX2 111 yX3_find cX3_find 4 (some (.object "ModuleLinker$Item")) 2 ∧ Cond.instanceMethod yX3_find ∈ wsL_law ∧ Cond.selects RX3 yX3_find yX3_find ∈ wsL_law := ⟨⟨by decide, by decide, by decide +kernel, (rin_8 _ (List.mem_of_getElem? (i := 0) rfl)), (rin_2 _ (List.mem_of_getElem? (i := 0) rfl)), Or.inr (List.mem_of_getElem? (i := 14) rfl)⟩, (rin_7 _ (List.mem_of_getElem? (i := 22) rfl)), (rin_7 _ (List.mem_of_getElem? (i := 23) rfl))⟩
theorem mX4_66 : jCB RX4 66 yX4_byteOf cX4_byteOf 2 (some .int) 2 ∧ Cond.static yX4_byteOf ∈ wsL_law := ⟨⟨by decide, by decide, by decide +kernel, (rin_5 _ (List.mem_of_getElem? (i := 9) rfl)), (rin_1 _ (List.mem_of_getElem? (i := 2) rfl)), Or.inl (rin_5 _ (List.mem_of_getElem? (i := 7) rfl))⟩, (rin_5 _ (List.mem_of_getElem? (i := 8) rfl))⟩
theorem mX4_69 : jCB RX4 69 yX0_compile cX0_compile 5 (some .int) 3 ∧ Cond.instanceMethod yX0_compile ∈ wsL_law ∧ Cond.selects RX0 yX0_compile yX0_compile ∈ wsL_law := ⟨⟨by decide, by decide, by decide +kernel, (rin_6 _ (List.mem_of_getElem? (i := 8) rfl)), (rin_2 _ (List.mem_of_getElem? (i := 4) rfl)), Or.inr (List.mem_of_getElem? (i := 3) rfl)⟩, (rin_6 _ (List.mem_of_getElem? (i := 6) rfl)), (rin_6 _ (List.mem_of_getElem? (i := 7) rfl))⟩
theorem mX4_83 : jCB RX4 83 yX4_isPresent cX4_isPresent 2 (some .boolean) 1 ∧ Cond.instanceMethod yX4_isPresent ∈ wsL_law ∧ Cond.selects RX4 yX4_isPresent yX4_isPresent ∈ wsL_law := ⟨⟨by decide, by decide, by decide +kernel, (rin_18 _ (List.mem_of_getElem? (i := 15) rfl)), (rin_1 _ (List.mem_of_getElem? (i := 2) rfl)), Or.inl (rin_18 _ (List.mem_of_getElem? (i := 12) rfl))⟩, (rin_18 _ (List.mem_of_getElem? (i := 13) rfl)), (rin_18 _ (List.mem_of_getElem? (i := 14) rfl))⟩
theorem mX4_90 : jCB RX4 90 yX4_countModules cX4_countModules 3 (some .int) 0 ∧ Cond.instanceMethod yX4_countModules ∈ wsL_law ∧ Cond.selects RX4 yX4_countModules yX4_countModules ∈ wsL_law := ⟨⟨by decide, by decide, by decide +kernel, (rin_19 _ (List.mem_of_getElem? (i := 16) rfl)), (rin_1 _ (List.mem_of_getElem? (i := 2) rfl)), Or.inl (rin_19 _ (List.mem_of_getElem? (i := 13) rfl))⟩, (rin_19 _ (List.mem_of_getElem? (i := 14) rfl)), (rin_19 _ (List.mem_of_getElem? (i := 15) rfl))⟩
theorem mX4_97 : jCB RX4 97 yX4_findUnfit cX4_findUnfit 3 none 0 ∧ Cond.instanceMethod yX4_findUnfit ∈ wsL_law ∧ Cond.selects RX4 yX4_findUnfit yX4_findUnfit ∈ wsL_law := ⟨⟨by decide, by decide, by decide +kernel, (rin_19 _ (List.mem_of_getElem? (i := 20) rfl)), (rin_1 _ (List.mem_of_getElem? (i := 2) rfl)), Or.inl (rin_19 _ (List.mem_of_getElem? (i := 17) rfl))⟩, (rin_19 _ (List.mem_of_getElem? (i := 18) rfl)), (rin_19 _ (List.mem_of_getElem? (i := 19) rfl))⟩
theorem mX4_103 : jCB RX4 103 yX4_countDefinitions cX4_countDefinitions 3 (some .int) 0 ∧ Cond.instanceMethod yX4_countDefinitions ∈ wsL_law ∧ Cond.selects RX4 yX4_countDefinitions yX4_countDefinitions ∈ wsL_law := ⟨⟨by decide, by decide, by decide +kernel, (rin_20 _ (List.mem_of_getElem? (i := 12) rfl)), (rin_1 _ (List.mem_of_getElem? (i := 2) rfl)), Or.inl (rin_20 _ (List.mem_of_getElem? (i := 9) rfl))⟩, (rin_20 _ (List.mem_of_getElem? (i := 10) rfl)), (rin_20 _ (List.mem_of_getElem? (i := 11) rfl))⟩
theorem mX4_106 : jCB RX4 106 yX4_definitionOf cX4_definitionOf 3 (some (.object "ModuleLinker$Item")) 2 ∧ Cond.instanceMethod yX4_definitionOf ∈ wsL_law ∧ Cond.selects RX4 yX4_definitionOf yX4_definitionOf ∈ wsL_law := ⟨⟨by decide, by decide, by decide +kernel, (rin_20 _ (List.mem_of_getElem? (i := 8) rfl)), (rin_1 _ (List.mem_of_getElem? (i := 2) rfl)), Or.inl (rin_20 _ (List.mem_of_getElem? (i := 5) rfl))⟩, (rin_20 _ (List.mem_of_getElem? (i := 6) rfl)), (rin_20 _ (List.mem_of_getElem? (i := 7) rfl))⟩
theorem mX4_124 : jCB RX4 124 yX4_typeAt cX4_typeAt 2 (some .int) 2 ∧ Cond.static yX4_typeAt ∈ wsL_law := ⟨⟨by decide, by decide, by decide +kernel, (rin_8 _ (List.mem_of_getElem? (i := 14) rfl)), (rin_1 _ (List.mem_of_getElem? (i := 2) rfl)), Or.inl (rin_8 _ (List.mem_of_getElem? (i := 12) rfl))⟩, (rin_8 _ (List.mem_of_getElem? (i := 13) rfl))⟩
theorem mX4_127 : jCB RX4 127 yX2_load cX2_load 5 none 4 ∧ Cond.instanceMethod yX2_load ∈ wsL_law ∧ Cond.selects RX2 yX2_load yX2_load ∈ wsL_law := ⟨⟨by decide, by decide, by decide +kernel, (rin_22 _ (List.mem_of_getElem? (i := 8) rfl)), (rin_2 _ (List.mem_of_getElem? (i := 11) rfl)), Or.inr (List.mem_of_getElem? (i := 4) rfl)⟩, (rin_22 _ (List.mem_of_getElem? (i := 6) rfl)), (rin_22 _ (List.mem_of_getElem? (i := 7) rfl))⟩
theorem mX4_131 : jCB RX4 131 yX2_run cX2_run 6 (some .int) 4 ∧ Cond.instanceMethod yX2_run ∈ wsL_law ∧ Cond.selects RX2 yX2_run yX2_run ∈ wsL_law := ⟨⟨by decide, by decide, by decide +kernel, (rin_22 _ (List.mem_of_getElem? (i := 11) rfl)), (rin_2 _ (List.mem_of_getElem? (i := 11) rfl)), Or.inr (List.mem_of_getElem? (i := 5) rfl)⟩, (rin_22 _ (List.mem_of_getElem? (i := 9) rfl)), (rin_22 _ (List.mem_of_getElem? (i := 10) rfl))⟩
theorem mX4_147 : jCB RX4 147 yX3_find cX3_find 4 (some (.object "ModuleLinker$Item")) 2 ∧ Cond.instanceMethod yX3_find ∈ wsL_law ∧ Cond.selects RX3 yX3_find yX3_find ∈ wsL_law := ⟨⟨by decide, by decide, by decide +kernel, (rin_8 _ (List.mem_of_getElem? (i := 0) rfl)), (rin_2 _ (List.mem_of_getElem? (i := 0) rfl)), Or.inr (List.mem_of_getElem? (i := 6) rfl)⟩, (rin_7 _ (List.mem_of_getElem? (i := 22) rfl)), (rin_7 _ (List.mem_of_getElem? (i := 23) rfl))⟩
theorem mX4_150 : jCB RX4 150 yX3_countDefinitions cX3_countDefinitions 3 (some .int) 0 ∧ Cond.instanceMethod yX3_countDefinitions ∈ wsL_law ∧ Cond.selects RX3 yX3_countDefinitions yX3_countDefinitions ∈ wsL_law := ⟨⟨by decide, by decide, by decide +kernel, (rin_20 _ (List.mem_of_getElem? (i := 15) rfl)), (rin_2 _ (List.mem_of_getElem? (i := 0) rfl)), Or.inr (List.mem_of_getElem? (i := 7) rfl)⟩, (rin_20 _ (List.mem_of_getElem? (i := 13) rfl)), (rin_20 _ (List.mem_of_getElem? (i := 14) rfl))⟩
theorem mX4_151 : jCB RX4 151 yX4_firstUnfit cX4_firstUnfit 4 (some .int) 1 ∧ Cond.instanceMethod yX4_firstUnfit ∈ wsL_law ∧ Cond.selects RX4 yX4_firstUnfit yX4_firstUnfit ∈ wsL_law := ⟨⟨by decide, by decide, by decide +kernel, (rin_20 _ (List.mem_of_getElem? (i := 0) rfl)), (rin_1 _ (List.mem_of_getElem? (i := 2) rfl)), Or.inl (rin_19 _ (List.mem_of_getElem? (i := 21) rfl))⟩, (rin_19 _ (List.mem_of_getElem? (i := 22) rfl)), (rin_19 _ (List.mem_of_getElem? (i := 23) rfl))⟩
theorem mX4_165 : jCB RX4 165 yX4_fits cX4_fits 3 (some .boolean) 1 ∧ Cond.instanceMethod yX4_fits ∈ wsL_law ∧ Cond.selects RX4 yX4_fits yX4_fits ∈ wsL_law := ⟨⟨by decide, by decide, by decide +kernel, (rin_20 _ (List.mem_of_getElem? (i := 4) rfl)), (rin_1 _ (List.mem_of_getElem? (i := 2) rfl)), Or.inl (rin_20 _ (List.mem_of_getElem? (i := 1) rfl))⟩, (rin_20 _ (List.mem_of_getElem? (i := 2) rfl)), (rin_20 _ (List.mem_of_getElem? (i := 3) rfl))⟩
theorem mX5_106 : jCB RX5 106 yX5_outside cX5_outside 3 (some .boolean) 3 ∧ Cond.static yX5_outside ∈ wsL_law := ⟨⟨by decide, by decide, by decide +kernel, (rin_5 _ (List.mem_of_getElem? (i := 18) rfl)), (rin_1 _ (List.mem_of_getElem? (i := 5) rfl)), Or.inl (rin_5 _ (List.mem_of_getElem? (i := 16) rfl))⟩, (rin_5 _ (List.mem_of_getElem? (i := 17) rfl))⟩
theorem mX5_123 : jCB RX5 123 yX5_look cX5_look 1 (some .char) 0 ∧ Cond.instanceMethod yX5_look ∈ wsL_law ∧ Cond.selects RX5 yX5_look yX5_look ∈ wsL_law := ⟨⟨by decide, by decide, by decide +kernel, (rin_12 _ (List.mem_of_getElem? (i := 10) rfl)), (rin_1 _ (List.mem_of_getElem? (i := 5) rfl)), Or.inl (rin_12 _ (List.mem_of_getElem? (i := 7) rfl))⟩, (rin_12 _ (List.mem_of_getElem? (i := 8) rfl)), (rin_12 _ (List.mem_of_getElem? (i := 9) rfl))⟩
theorem mX5_127 : jCB RX5 127 yX5_pass cX5_pass 3 (some .boolean) 1 ∧ Cond.instanceMethod yX5_pass ∈ wsL_law ∧ Cond.selects RX5 yX5_pass yX5_pass ∈ wsL_law := ⟨⟨by decide, by decide, by decide +kernel, (rin_13 _ (List.mem_of_getElem? (i := 0) rfl)), (rin_1 _ (List.mem_of_getElem? (i := 5) rfl)), Or.inl (rin_12 _ (List.mem_of_getElem? (i := 21) rfl))⟩, (rin_12 _ (List.mem_of_getElem? (i := 22) rfl)), (rin_12 _ (List.mem_of_getElem? (i := 23) rfl))⟩
theorem mX5_131 : jCB RX5 131 yX5_must cX5_must 2 none 1 ∧ Cond.instanceMethod yX5_must ∈ wsL_law ∧ Cond.selects RX5 yX5_must yX5_must ∈ wsL_law := ⟨⟨by decide, by decide, by decide +kernel, (rin_12 _ (List.mem_of_getElem? (i := 14) rfl)), (rin_1 _ (List.mem_of_getElem? (i := 5) rfl)), Or.inl (rin_12 _ (List.mem_of_getElem? (i := 11) rfl))⟩, (rin_12 _ (List.mem_of_getElem? (i := 12) rfl)), (rin_12 _ (List.mem_of_getElem? (i := 13) rfl))⟩
theorem mX5_147 : jCB RX5 147 yX5_before cX5_before 5 (some .int) 2 ∧ Cond.instanceMethod yX5_before ∈ wsL_law ∧ Cond.selects RX5 yX5_before yX5_before ∈ wsL_law := ⟨⟨by decide, by decide, by decide +kernel, (rin_15 _ (List.mem_of_getElem? (i := 13) rfl)), (rin_1 _ (List.mem_of_getElem? (i := 5) rfl)), Or.inl (rin_15 _ (List.mem_of_getElem? (i := 10) rfl))⟩, (rin_15 _ (List.mem_of_getElem? (i := 11) rfl)), (rin_15 _ (List.mem_of_getElem? (i := 12) rfl))⟩
theorem mX5_154 : jCB RX5 154 yX5_isDigit cX5_isDigit 1 (some .boolean) 0 ∧ Cond.instanceMethod yX5_isDigit ∈ wsL_law ∧ Cond.selects RX5 yX5_isDigit yX5_isDigit ∈ wsL_law := ⟨⟨by decide, by decide, by decide +kernel, (rin_14 _ (List.mem_of_getElem? (i := 17) rfl)), (rin_1 _ (List.mem_of_getElem? (i := 5) rfl)), Or.inl (rin_14 _ (List.mem_of_getElem? (i := 14) rfl))⟩, (rin_14 _ (List.mem_of_getElem? (i := 15) rfl)), (rin_14 _ (List.mem_of_getElem? (i := 16) rfl))⟩
theorem mX5_158 : jCB RX5 158 yX5_emit cX5_emit 3 none 2 ∧ Cond.instanceMethod yX5_emit ∈ wsL_law ∧ Cond.selects RX5 yX5_emit yX5_emit ∈ wsL_law := ⟨⟨by decide, by decide, by decide +kernel, (rin_15 _ (List.mem_of_getElem? (i := 1) rfl)), (rin_1 _ (List.mem_of_getElem? (i := 5) rfl)), Or.inl (rin_14 _ (List.mem_of_getElem? (i := 22) rfl))⟩, (rin_14 _ (List.mem_of_getElem? (i := 23) rfl)), (rin_15 _ (List.mem_of_getElem? (i := 0) rfl))⟩
theorem mX5_165 : jCB RX5 165 yX5_letter cX5_letter 3 (some .int) 2 ∧ Cond.instanceMethod yX5_letter ∈ wsL_law ∧ Cond.selects RX5 yX5_letter yX5_letter ∈ wsL_law := ⟨⟨by decide, by decide, by decide +kernel, (rin_12 _ (List.mem_of_getElem? (i := 6) rfl)), (rin_1 _ (List.mem_of_getElem? (i := 5) rfl)), Or.inl (rin_12 _ (List.mem_of_getElem? (i := 3) rfl))⟩, (rin_12 _ (List.mem_of_getElem? (i := 4) rfl)), (rin_12 _ (List.mem_of_getElem? (i := 5) rfl))⟩
theorem mX5_172 : jCB RX5 172 yX5_type cX5_type 2 none 1 ∧ Cond.instanceMethod yX5_type ∈ wsL_law ∧ Cond.selects RX5 yX5_type yX5_type ∈ wsL_law := ⟨⟨by decide, by decide, by decide +kernel, (rin_15 _ (List.mem_of_getElem? (i := 9) rfl)), (rin_1 _ (List.mem_of_getElem? (i := 5) rfl)), Or.inl (rin_15 _ (List.mem_of_getElem? (i := 6) rfl))⟩, (rin_15 _ (List.mem_of_getElem? (i := 7) rfl)), (rin_15 _ (List.mem_of_getElem? (i := 8) rfl))⟩
theorem mX5_175 : jCB RX5 175 yX5_expect cX5_expect 2 none 1 ∧ Cond.instanceMethod yX5_expect ∈ wsL_law ∧ Cond.selects RX5 yX5_expect yX5_expect ∈ wsL_law := ⟨⟨by decide, by decide, by decide +kernel, (rin_13 _ (List.mem_of_getElem? (i := 8) rfl)), (rin_1 _ (List.mem_of_getElem? (i := 5) rfl)), Or.inl (rin_13 _ (List.mem_of_getElem? (i := 5) rfl))⟩, (rin_13 _ (List.mem_of_getElem? (i := 6) rfl)), (rin_13 _ (List.mem_of_getElem? (i := 7) rfl))⟩
theorem mX5_179 : jCB RX5 179 yX5_opened cX5_opened 2 none 1 ∧ Cond.instanceMethod yX5_opened ∈ wsL_law ∧ Cond.selects RX5 yX5_opened yX5_opened ∈ wsL_law := ⟨⟨by decide, by decide, by decide +kernel, (rin_14 _ (List.mem_of_getElem? (i := 9) rfl)), (rin_1 _ (List.mem_of_getElem? (i := 5) rfl)), Or.inl (rin_14 _ (List.mem_of_getElem? (i := 6) rfl))⟩, (rin_14 _ (List.mem_of_getElem? (i := 7) rfl)), (rin_14 _ (List.mem_of_getElem? (i := 8) rfl))⟩
theorem mX5_183 : jCB RX5 183 yX5_find cX5_find 6 (some .int) 3 ∧ Cond.instanceMethod yX5_find ∈ wsL_law ∧ Cond.selects RX5 yX5_find yX5_find ∈ wsL_law := ⟨⟨by decide, by decide, by decide +kernel, (rin_13 _ (List.mem_of_getElem? (i := 12) rfl)), (rin_1 _ (List.mem_of_getElem? (i := 5) rfl)), Or.inl (rin_13 _ (List.mem_of_getElem? (i := 9) rfl))⟩, (rin_13 _ (List.mem_of_getElem? (i := 10) rfl)), (rin_13 _ (List.mem_of_getElem? (i := 11) rfl))⟩
theorem mX5_187 : jCB RX5 187 yX5_calleeItem cX5_calleeItem 1 (some .int) 0 ∧ Cond.instanceMethod yX5_calleeItem ∈ wsL_law ∧ Cond.selects RX5 yX5_calleeItem yX5_calleeItem ∈ wsL_law := ⟨⟨by decide, by decide, by decide +kernel, (rin_16 _ (List.mem_of_getElem? (i := 1) rfl)), (rin_1 _ (List.mem_of_getElem? (i := 5) rfl)), Or.inl (rin_15 _ (List.mem_of_getElem? (i := 22) rfl))⟩, (rin_15 _ (List.mem_of_getElem? (i := 23) rfl)), (rin_16 _ (List.mem_of_getElem? (i := 0) rfl))⟩
theorem mX5_191 : jCB RX5 191 yX5_readNumber cX5_readNumber 3 none 0 ∧ Cond.instanceMethod yX5_readNumber ∈ wsL_law ∧ Cond.selects RX5 yX5_readNumber yX5_readNumber ∈ wsL_law := ⟨⟨by decide, by decide, by decide +kernel, (rin_14 _ (List.mem_of_getElem? (i := 21) rfl)), (rin_1 _ (List.mem_of_getElem? (i := 5) rfl)), Or.inl (rin_14 _ (List.mem_of_getElem? (i := 18) rfl))⟩, (rin_14 _ (List.mem_of_getElem? (i := 19) rfl)), (rin_14 _ (List.mem_of_getElem? (i := 20) rfl))⟩
theorem mX5_194 : jCB RX5 194 yX5_readParameter cX5_readParameter 3 none 0 ∧ Cond.instanceMethod yX5_readParameter ∈ wsL_law ∧ Cond.selects RX5 yX5_readParameter yX5_readParameter ∈ wsL_law := ⟨⟨by decide, by decide, by decide +kernel, (rin_15 _ (List.mem_of_getElem? (i := 5) rfl)), (rin_1 _ (List.mem_of_getElem? (i := 5) rfl)), Or.inl (rin_15 _ (List.mem_of_getElem? (i := 2) rfl))⟩, (rin_15 _ (List.mem_of_getElem? (i := 3) rfl)), (rin_15 _ (List.mem_of_getElem? (i := 4) rfl))⟩
theorem mX5_197 : jCB RX5 197 yX5_readCall cX5_readCall 4 (some .boolean) 0 ∧ Cond.instanceMethod yX5_readCall ∈ wsL_law ∧ Cond.selects RX5 yX5_readCall yX5_readCall ∈ wsL_law := ⟨⟨by decide, by decide, by decide +kernel, (rin_15 _ (List.mem_of_getElem? (i := 17) rfl)), (rin_1 _ (List.mem_of_getElem? (i := 5) rfl)), Or.inl (rin_15 _ (List.mem_of_getElem? (i := 14) rfl))⟩, (rin_15 _ (List.mem_of_getElem? (i := 15) rfl)), (rin_15 _ (List.mem_of_getElem? (i := 16) rfl))⟩
theorem mX5_200 : jCB RX5 200 yX5_endCall cX5_endCall 2 none 0 ∧ Cond.instanceMethod yX5_endCall ∈ wsL_law ∧ Cond.selects RX5 yX5_endCall yX5_endCall ∈ wsL_law := ⟨⟨by decide, by decide, by decide +kernel, (rin_15 _ (List.mem_of_getElem? (i := 21) rfl)), (rin_1 _ (List.mem_of_getElem? (i := 5) rfl)), Or.inl (rin_15 _ (List.mem_of_getElem? (i := 18) rfl))⟩, (rin_15 _ (List.mem_of_getElem? (i := 19) rfl)), (rin_15 _ (List.mem_of_getElem? (i := 20) rfl))⟩
theorem mX5_203 : jCB RX5 203 yX5_project cX5_project 1 none 0 ∧ Cond.instanceMethod yX5_project ∈ wsL_law ∧ Cond.selects RX5 yX5_project yX5_project ∈ wsL_law := ⟨⟨by decide, by decide, by decide +kernel, (rin_16 _ (List.mem_of_getElem? (i := 9) rfl)), (rin_1 _ (List.mem_of_getElem? (i := 5) rfl)), Or.inl (rin_16 _ (List.mem_of_getElem? (i := 6) rfl))⟩, (rin_16 _ (List.mem_of_getElem? (i := 7) rfl)), (rin_16 _ (List.mem_of_getElem? (i := 8) rfl))⟩
theorem mX5_206 : jCB RX5 206 yX5_operate cX5_operate 2 none 1 ∧ Cond.instanceMethod yX5_operate ∈ wsL_law ∧ Cond.selects RX5 yX5_operate yX5_operate ∈ wsL_law := ⟨⟨by decide, by decide, by decide +kernel, (rin_16 _ (List.mem_of_getElem? (i := 13) rfl)), (rin_1 _ (List.mem_of_getElem? (i := 5) rfl)), Or.inl (rin_16 _ (List.mem_of_getElem? (i := 10) rfl))⟩, (rin_16 _ (List.mem_of_getElem? (i := 11) rfl)), (rin_16 _ (List.mem_of_getElem? (i := 12) rfl))⟩
theorem mX5_209 : jCB RX5 209 yX5_keep cX5_keep 1 none 0 ∧ Cond.instanceMethod yX5_keep ∈ wsL_law ∧ Cond.selects RX5 yX5_keep yX5_keep ∈ wsL_law := ⟨⟨by decide, by decide, by decide +kernel, (rin_16 _ (List.mem_of_getElem? (i := 17) rfl)), (rin_1 _ (List.mem_of_getElem? (i := 5) rfl)), Or.inl (rin_16 _ (List.mem_of_getElem? (i := 14) rfl))⟩, (rin_16 _ (List.mem_of_getElem? (i := 15) rfl)), (rin_16 _ (List.mem_of_getElem? (i := 16) rfl))⟩
theorem mX5_212 : jCB RX5 212 yX5_grow cX5_grow 2 none 1 ∧ Cond.instanceMethod yX5_grow ∈ wsL_law ∧ Cond.selects RX5 yX5_grow yX5_grow ∈ wsL_law := ⟨⟨by decide, by decide, by decide +kernel, (rin_16 _ (List.mem_of_getElem? (i := 21) rfl)), (rin_1 _ (List.mem_of_getElem? (i := 5) rfl)), Or.inl (rin_16 _ (List.mem_of_getElem? (i := 18) rfl))⟩, (rin_16 _ (List.mem_of_getElem? (i := 19) rfl)), (rin_16 _ (List.mem_of_getElem? (i := 20) rfl))⟩
theorem mX5_215 : jCB RX5 215 yX5_choose cX5_choose 3 (some .boolean) 2 ∧ Cond.instanceMethod yX5_choose ∈ wsL_law ∧ Cond.selects RX5 yX5_choose yX5_choose ∈ wsL_law := ⟨⟨by decide, by decide, by decide +kernel, (rin_17 _ (List.mem_of_getElem? (i := 5) rfl)), (rin_1 _ (List.mem_of_getElem? (i := 5) rfl)), Or.inl (rin_17 _ (List.mem_of_getElem? (i := 2) rfl))⟩, (rin_17 _ (List.mem_of_getElem? (i := 3) rfl)), (rin_17 _ (List.mem_of_getElem? (i := 4) rfl))⟩
theorem mX5_219 : jCB RX5 219 yX5_beginFactor cX5_beginFactor 3 (some .boolean) 0 ∧ Cond.instanceMethod yX5_beginFactor ∈ wsL_law ∧ Cond.selects RX5 yX5_beginFactor yX5_beginFactor ∈ wsL_law := ⟨⟨by decide, by decide, by decide +kernel, (rin_14 _ (List.mem_of_getElem? (i := 13) rfl)), (rin_1 _ (List.mem_of_getElem? (i := 5) rfl)), Or.inl (rin_14 _ (List.mem_of_getElem? (i := 10) rfl))⟩, (rin_14 _ (List.mem_of_getElem? (i := 11) rfl)), (rin_14 _ (List.mem_of_getElem? (i := 12) rfl))⟩
theorem mX5_222 : jCB RX5 222 yX5_endFactor cX5_endFactor 2 (some .boolean) 0 ∧ Cond.instanceMethod yX5_endFactor ∈ wsL_law ∧ Cond.selects RX5 yX5_endFactor yX5_endFactor ∈ wsL_law := ⟨⟨by decide, by decide, by decide +kernel, (rin_16 _ (List.mem_of_getElem? (i := 5) rfl)), (rin_1 _ (List.mem_of_getElem? (i := 5) rfl)), Or.inl (rin_16 _ (List.mem_of_getElem? (i := 2) rfl))⟩, (rin_16 _ (List.mem_of_getElem? (i := 3) rfl)), (rin_16 _ (List.mem_of_getElem? (i := 4) rfl))⟩
theorem mX5_225 : jCB RX5 225 yX5_endSum cX5_endSum 4 (some .boolean) 0 ∧ Cond.instanceMethod yX5_endSum ∈ wsL_law ∧ Cond.selects RX5 yX5_endSum yX5_endSum ∈ wsL_law := ⟨⟨by decide, by decide, by decide +kernel, (rin_17 _ (List.mem_of_getElem? (i := 1) rfl)), (rin_1 _ (List.mem_of_getElem? (i := 5) rfl)), Or.inl (rin_16 _ (List.mem_of_getElem? (i := 22) rfl))⟩, (rin_16 _ (List.mem_of_getElem? (i := 23) rfl)), (rin_17 _ (List.mem_of_getElem? (i := 0) rfl))⟩
theorem mX5_228 : jCB RX5 228 yX5_readType cX5_readType 2 (some .boolean) 0 ∧ Cond.instanceMethod yX5_readType ∈ wsL_law ∧ Cond.selects RX5 yX5_readType yX5_readType ∈ wsL_law := ⟨⟨by decide, by decide, by decide +kernel, (rin_13 _ (List.mem_of_getElem? (i := 20) rfl)), (rin_1 _ (List.mem_of_getElem? (i := 5) rfl)), Or.inl (rin_13 _ (List.mem_of_getElem? (i := 17) rfl))⟩, (rin_13 _ (List.mem_of_getElem? (i := 18) rfl)), (rin_13 _ (List.mem_of_getElem? (i := 19) rfl))⟩
theorem mX5_231 : jCB RX5 231 yX5_readSignature cX5_readSignature 2 none 1 ∧ Cond.instanceMethod yX5_readSignature ∈ wsL_law ∧ Cond.selects RX5 yX5_readSignature yX5_readSignature ∈ wsL_law := ⟨⟨by decide, by decide, by decide +kernel, (rin_13 _ (List.mem_of_getElem? (i := 16) rfl)), (rin_1 _ (List.mem_of_getElem? (i := 5) rfl)), Or.inl (rin_13 _ (List.mem_of_getElem? (i := 13) rfl))⟩, (rin_13 _ (List.mem_of_getElem? (i := 14) rfl)), (rin_13 _ (List.mem_of_getElem? (i := 15) rfl))⟩
theorem mX5_234 : jCB RX5 234 yX5_readExpression cX5_readExpression 4 none 1 ∧ Cond.instanceMethod yX5_readExpression ∈ wsL_law ∧ Cond.selects RX5 yX5_readExpression yX5_readExpression ∈ wsL_law := ⟨⟨by decide, by decide, by decide +kernel, (rin_14 _ (List.mem_of_getElem? (i := 0) rfl)), (rin_1 _ (List.mem_of_getElem? (i := 5) rfl)), Or.inl (rin_13 _ (List.mem_of_getElem? (i := 21) rfl))⟩, (rin_13 _ (List.mem_of_getElem? (i := 22) rfl)), (rin_13 _ (List.mem_of_getElem? (i := 23) rfl))⟩
theorem mX5_237 : jCB RX5 237 yX5_readItem cX5_readItem 7 none 1 ∧ Cond.instanceMethod yX5_readItem ∈ wsL_law ∧ Cond.selects RX5 yX5_readItem yX5_readItem ∈ wsL_law := ⟨⟨by decide, by decide, by decide +kernel, (rin_13 _ (List.mem_of_getElem? (i := 4) rfl)), (rin_1 _ (List.mem_of_getElem? (i := 5) rfl)), Or.inl (rin_13 _ (List.mem_of_getElem? (i := 1) rfl))⟩, (rin_13 _ (List.mem_of_getElem? (i := 2) rfl)), (rin_13 _ (List.mem_of_getElem? (i := 3) rfl))⟩
theorem mX5_240 : jCB RX5 240 yX5_readItems cX5_readItems 3 none 1 ∧ Cond.instanceMethod yX5_readItems ∈ wsL_law ∧ Cond.selects RX5 yX5_readItems yX5_readItems ∈ wsL_law := ⟨⟨by decide, by decide, by decide +kernel, (rin_12 _ (List.mem_of_getElem? (i := 18) rfl)), (rin_1 _ (List.mem_of_getElem? (i := 5) rfl)), Or.inl (rin_12 _ (List.mem_of_getElem? (i := 15) rfl))⟩, (rin_12 _ (List.mem_of_getElem? (i := 16) rfl)), (rin_12 _ (List.mem_of_getElem? (i := 17) rfl))⟩
theorem mX5_246 : jCB RX5 246 yX5_refuse cX5_refuse 2 (some .int) 1 ∧ Cond.instanceMethod yX5_refuse ∈ wsL_law ∧ Cond.selects RX5 yX5_refuse yX5_refuse ∈ wsL_law := ⟨⟨by decide, by decide, by decide +kernel, (rin_17 _ (List.mem_of_getElem? (i := 9) rfl)), (rin_1 _ (List.mem_of_getElem? (i := 5) rfl)), Or.inl (rin_17 _ (List.mem_of_getElem? (i := 6) rfl))⟩, (rin_17 _ (List.mem_of_getElem? (i := 7) rfl)), (rin_17 _ (List.mem_of_getElem? (i := 8) rfl))⟩
theorem mX5_250 : jCB RX5 250 yX5_accept cX5_accept 6 none 1 ∧ Cond.instanceMethod yX5_accept ∈ wsL_law ∧ Cond.selects RX5 yX5_accept yX5_accept ∈ wsL_law := ⟨⟨by decide, by decide, by decide +kernel, (rin_17 _ (List.mem_of_getElem? (i := 13) rfl)), (rin_1 _ (List.mem_of_getElem? (i := 5) rfl)), Or.inl (rin_17 _ (List.mem_of_getElem? (i := 10) rfl))⟩, (rin_17 _ (List.mem_of_getElem? (i := 11) rfl)), (rin_17 _ (List.mem_of_getElem? (i := 12) rfl))⟩
theorem mX5_256 : jCB RX5 256 yX5_isModule cX5_isModule 2 (some .boolean) 1 ∧ Cond.instanceMethod yX5_isModule ∈ wsL_law ∧ Cond.selects RX5 yX5_isModule yX5_isModule ∈ wsL_law := ⟨⟨by decide, by decide, by decide +kernel, (rin_18 _ (List.mem_of_getElem? (i := 23) rfl)), (rin_1 _ (List.mem_of_getElem? (i := 5) rfl)), Or.inl (rin_18 _ (List.mem_of_getElem? (i := 20) rfl))⟩, (rin_18 _ (List.mem_of_getElem? (i := 21) rfl)), (rin_18 _ (List.mem_of_getElem? (i := 22) rfl))⟩
theorem mX5_260 : jCB RX5 260 yX5_meant cX5_meant 5 (some .int) 1 ∧ Cond.instanceMethod yX5_meant ∈ wsL_law ∧ Cond.selects RX5 yX5_meant yX5_meant ∈ wsL_law := ⟨⟨by decide, by decide, by decide +kernel, (rin_20 _ (List.mem_of_getElem? (i := 23) rfl)), (rin_1 _ (List.mem_of_getElem? (i := 5) rfl)), Or.inl (rin_20 _ (List.mem_of_getElem? (i := 20) rfl))⟩, (rin_20 _ (List.mem_of_getElem? (i := 21) rfl)), (rin_20 _ (List.mem_of_getElem? (i := 22) rfl))⟩
theorem mX5_263 : jCB RX5 263 yX5_words cX5_words 2 (some .int) 1 ∧ Cond.instanceMethod yX5_words ∈ wsL_law ∧ Cond.selects RX5 yX5_words yX5_words ∈ wsL_law := ⟨⟨by decide, by decide, by decide +kernel, (rin_21 _ (List.mem_of_getElem? (i := 22) rfl)), (rin_1 _ (List.mem_of_getElem? (i := 5) rfl)), Or.inl (rin_21 _ (List.mem_of_getElem? (i := 19) rfl))⟩, (rin_21 _ (List.mem_of_getElem? (i := 20) rfl)), (rin_21 _ (List.mem_of_getElem? (i := 21) rfl))⟩
theorem mX5_281 : jCB RX5 281 yX5_pop cX5_pop 1 (some .int) 0 ∧ Cond.instanceMethod yX5_pop ∈ wsL_law ∧ Cond.selects RX5 yX5_pop yX5_pop ∈ wsL_law := ⟨⟨by decide, by decide, by decide +kernel, (rin_25 _ (List.mem_of_getElem? (i := 17) rfl)), (rin_1 _ (List.mem_of_getElem? (i := 5) rfl)), Or.inl (rin_25 _ (List.mem_of_getElem? (i := 14) rfl))⟩, (rin_25 _ (List.mem_of_getElem? (i := 15) rfl)), (rin_25 _ (List.mem_of_getElem? (i := 16) rfl))⟩
theorem mX5_284 : jCB RX5 284 yX5_push cX5_push 2 none 1 ∧ Cond.instanceMethod yX5_push ∈ wsL_law ∧ Cond.selects RX5 yX5_push yX5_push ∈ wsL_law := ⟨⟨by decide, by decide, by decide +kernel, (rin_24 _ (List.mem_of_getElem? (i := 21) rfl)), (rin_1 _ (List.mem_of_getElem? (i := 5) rfl)), Or.inl (rin_24 _ (List.mem_of_getElem? (i := 18) rfl))⟩, (rin_24 _ (List.mem_of_getElem? (i := 19) rfl)), (rin_24 _ (List.mem_of_getElem? (i := 20) rfl))⟩
theorem mX5_287 : jCB RX5 287 yX5_enter cX5_enter 4 (some .int) 2 ∧ Cond.instanceMethod yX5_enter ∈ wsL_law ∧ Cond.selects RX5 yX5_enter yX5_enter ∈ wsL_law := ⟨⟨by decide, by decide, by decide +kernel, (rin_25 _ (List.mem_of_getElem? (i := 1) rfl)), (rin_1 _ (List.mem_of_getElem? (i := 5) rfl)), Or.inl (rin_24 _ (List.mem_of_getElem? (i := 22) rfl))⟩, (rin_24 _ (List.mem_of_getElem? (i := 23) rfl)), (rin_25 _ (List.mem_of_getElem? (i := 0) rfl))⟩
theorem mX5_290 : jCB RX5 290 yX5_invoke cX5_invoke 5 (some .int) 3 ∧ Cond.instanceMethod yX5_invoke ∈ wsL_law ∧ Cond.selects RX5 yX5_invoke yX5_invoke ∈ wsL_law := ⟨⟨by decide, by decide, by decide +kernel, (rin_25 _ (List.mem_of_getElem? (i := 9) rfl)), (rin_1 _ (List.mem_of_getElem? (i := 5) rfl)), Or.inl (rin_25 _ (List.mem_of_getElem? (i := 6) rfl))⟩, (rin_25 _ (List.mem_of_getElem? (i := 7) rfl)), (rin_25 _ (List.mem_of_getElem? (i := 8) rfl))⟩
theorem mX5_293 : jCB RX5 293 yX5_leave cX5_leave 4 none 0 ∧ Cond.instanceMethod yX5_leave ∈ wsL_law ∧ Cond.selects RX5 yX5_leave yX5_leave ∈ wsL_law := ⟨⟨by decide, by decide, by decide +kernel, (rin_25 _ (List.mem_of_getElem? (i := 13) rfl)), (rin_1 _ (List.mem_of_getElem? (i := 5) rfl)), Or.inl (rin_25 _ (List.mem_of_getElem? (i := 10) rfl))⟩, (rin_25 _ (List.mem_of_getElem? (i := 11) rfl)), (rin_25 _ (List.mem_of_getElem? (i := 12) rfl))⟩
theorem mX5_296 : jCB RX5 296 yX5_work cX5_work 5 none 3 ∧ Cond.instanceMethod yX5_work ∈ wsL_law ∧ Cond.selects RX5 yX5_work yX5_work ∈ wsL_law := ⟨⟨by decide, by decide, by decide +kernel, (rin_25 _ (List.mem_of_getElem? (i := 21) rfl)), (rin_1 _ (List.mem_of_getElem? (i := 5) rfl)), Or.inl (rin_25 _ (List.mem_of_getElem? (i := 18) rfl))⟩, (rin_25 _ (List.mem_of_getElem? (i := 19) rfl)), (rin_25 _ (List.mem_of_getElem? (i := 20) rfl))⟩
theorem mX5_300 : jCB RX5 300 yX5_callable cX5_callable 4 (some .int) 2 ∧ Cond.instanceMethod yX5_callable ∈ wsL_law ∧ Cond.selects RX5 yX5_callable yX5_callable ∈ wsL_law := ⟨⟨by decide, by decide, by decide +kernel, (rin_24 _ (List.mem_of_getElem? (i := 17) rfl)), (rin_1 _ (List.mem_of_getElem? (i := 5) rfl)), Or.inl (rin_24 _ (List.mem_of_getElem? (i := 14) rfl))⟩, (rin_24 _ (List.mem_of_getElem? (i := 15) rfl)), (rin_24 _ (List.mem_of_getElem? (i := 16) rfl))⟩
theorem mX5_303 : jCB RX5 303 yX5_go cX5_go 6 (some .int) 0 ∧ Cond.instanceMethod yX5_go ∈ wsL_law ∧ Cond.selects RX5 yX5_go yX5_go ∈ wsL_law := ⟨⟨by decide, by decide, by decide +kernel, (rin_25 _ (List.mem_of_getElem? (i := 5) rfl)), (rin_1 _ (List.mem_of_getElem? (i := 5) rfl)), Or.inl (rin_25 _ (List.mem_of_getElem? (i := 2) rfl))⟩, (rin_25 _ (List.mem_of_getElem? (i := 3) rfl)), (rin_25 _ (List.mem_of_getElem? (i := 4) rfl))⟩
end
section
theorem jGood : wsL_law.all goodWord = true := by decide +kernel
theorem jGoodIn {c : Cond} {ws : List Cond} (hc : c ∈ wsL_law) (hw : ∀ v ∈ wsL_law, v ∈ ws) : GoodIn ws (c :: wsL_law) := by
  intro v hv
  have h1 : v ∈ wsL_law := by
    rcases List.mem_cons.mp hv with e | h
    · rw [e]; exact hc
    · exact h
  exact ⟨hw v h1, good_of_word (List.all_eq_true.mp jGood v h1)⟩
def jrm (d : Nat) : Room := { frames := d, cells := 0, slots := 0, locals := 40 * d }
def jPc (w : jW) (h : jH) (As : List Value) : Array Value → State → Prop := va_Pc As (fun U => va_P w.1 vwCl (jws w h) U.heap ∧ va_K w.1 vwCl (jtys w) U ∧ jNok U)
def jQc (w : jW) (Po : Option Value → jH → Prop) : Array Value → State → Outcome → State → Prop := fun _ st oc t => ∃ (r : Option Value) (h' : jH), oc = .returned r ∧ Po r h' ∧ va_P w.1 vwCl (jws w h') t.heap ∧ va_F (jA w) st t
/-- the contract of a method: from the world h, with these arguments, it returns r in a world h' with 'Po r h'' -/
def jM (l : Launch) (w : jW) (y : MethodName) (cc : ByteArray) (nL : Nat) (ret : Option FieldType) (d : Nat) (As : List Value) (h : jH) (Po : Option Value → jH → Prop) : Prop := Met l y (Cond.code y cc nL ret :: wsL_law) (jrm d) (jPc w h As) (jQc w Po) 0 0 (jA w)
def jEnd (X : jX) (w : jW) (Po : Option Value → jH → Prop) : Prop := jXQ X = MQ (jXb X) (jQc w Po) (jXa X) (jXs X) 0 0 (jA w)
theorem jM_of {l : Launch} {w : jW} {y : MethodName} {cc : ByteArray} {nL : Nat} {ret : Option FieldType} {d : Nat} {As : List Value} {h : jH} {Po : Option Value → jH → Prop} (hy : plainName y.cls = true) (hw : jok w) (hn : (lg_sl As).length ≤ nL)
    (body : ∀ X : jX, jC X w cc y.cls → jXl X = l → jXR X = jrm d → (jXc X).maxLocals = nL → (jXh X).sig.returnType = ret → jEnd X w Po → J X w h 0 (lv_args 0 As) []) : jM l w y cc nL ret d As h Po := by
  refine Met.ofW (cc := cc) (maxL := nL) (ret := ret) hy rfl ?_
  intro p e s m args below meth c s₁ B hml hv
  obtain ⟨rfl, hP, hK, hN⟩ := hv
  have hts := atoms_spec (ws := Cond.code y cc nL ret :: wsL_law) B.pre
  have hl := lv_entry As hn
  rw [lg_entry_eq]
  generalize (lg_sl As ++ List.replicate (nL - (lg_sl As).length) Slot.unset).toArray = ls at hl ⊢
  exact body (p, l, e, jrm d, s, m, As.toArray, below, meth, c, MQ below (jQc w Po) As.toArray s 0 0 (jA w)) ⟨B.exec, B.bytes, findClass_of_methodNamed B.named, fun v hv => hts v (List.mem_cons_of_mem _ hv), hK, hN, hw, B.notSynchronized⟩ rfl rfl hml B.returns rfl s.heap [] ls hP va_S.rf (by show lv_has ls c.maxLocals _; rw [hml]; exact hl)
section JC
variable {X : jX} {w : jW} {h : jH} {cc : ByteArray} {own : String} {pc : Nat} {lv : List (Nat × Value)} {r : List Value} {Po : Option Value → jH → Prop}
theorem j_iret (C : jC X w cc own) {v : Int32} (hr : (jXh X).sig.returnType = some .int) (hE : jEnd X w Po) (d : decode cc pc = .ok (.ireturn, 1)) (hp : Po (some (.int v)) h) : J X w h pc lv [.int v] := by
  intro H locs ls hP hS hl
  rw [hE]
  exact W.iret C.1 C.2.1 hr (fun t ht _ => ⟨_, h, rfl, hp, by rw [ht]; exact hP, hS.F ht⟩) hS.2.2 d C.2.2.2.2.2.2.2
theorem j_zret (C : jC X w cc own) {v : Int32} {ty : FieldType} (hr : (jXh X).sig.returnType = some ty) (hn : narrow ty (.int v) = .int v) (hE : jEnd X w Po) (d : decode cc pc = .ok (.ireturn, 1)) (hp : Po (some (.int v)) h) : J X w h pc lv [.int v] := by
  intro H locs ls hP hS hl
  rw [hE]
  exact W.zret C.1 C.2.1 hr hn (fun t ht _ => ⟨_, h, rfl, hp, by rw [ht]; exact hP, hS.F ht⟩) hS.2.2 d C.2.2.2.2.2.2.2
theorem j_vret (C : jC X w cc own) (hr : (jXh X).sig.returnType = none) (hE : jEnd X w Po) (d : decode cc pc = .ok (.return_, 1)) (hp : Po none h) : J X w h pc lv [] := by
  intro H locs ls hP hS hl
  rw [hE]
  exact W.vret C.1 C.2.1 hr (fun t ht _ => ⟨_, h, rfl, hp, by rw [ht]; exact hP, hS.F ht⟩) hS.2.2 d C.2.2.2.2.2.2.2
theorem j_aret (C : jC X w cc own) {v : Value} {n : String} (hr : (jXh X).sig.returnType = some (.object n)) (hv : v = .null ∨ ∃ a, v = .ref a) (hE : jEnd X w Po) (d : decode cc pc = .ok (.areturn, 1)) (hp : Po (some v) h) : J X w h pc lv [v] := by
  intro H locs ls hP hS hl
  rw [hE]
  exact W.aret C.1 C.2.1 hr (Or.inl ⟨n, rfl⟩) hv (fun t ht _ => ⟨_, h, rfl, hp, by rw [ht]; exact hP, hS.F ht⟩) hS.2.2 d C.2.2.2.2.2.2.2
/-- behind a call -/
theorem j_run {y : MethodName} {a : Array Value} {st0 : List Value} (kk : ∀ (v : Option Value) (h' : jH), Po v h' → J X w h' (pc + 3) lv (v.toList ++ r)) {H : Heap} {locs : List Loc} {ls : Array Slot} (hS : va_S (jA w) (jXs X).heap H locs) (hl : lv_has ls (jXc X).maxLocals lv)
    (hr : va_Run (jXp X) (jXl X) (jXe X) (jXR X) (jXs X) (jXm X) (jXa X) (jXb X) (jXh X) (jXc X) H locs 0 0 0 0 (F0 (jXm X) pc ls st0) r (jQc w Po a) (jA w)) : W (jXp X) (jXl X) (jXe X) (jXR X) (jXs X) (jXm X) (jXa X) (jXb X) (jXh X) (jXc X) H locs 0 0 (jXQ X) (F0 (jXm X) pc ls st0) := by
  intro T hT Z
  obtain ⟨v, st₀, t, T', L, h0, Z', hL, e1, e2, ⟨v', h', hv, hp, hP', hz, hk⟩, st⟩ := hr T hT Z
  cases hv
  rw [h0] at hz hk
  obtain ⟨t2, a1, b1⟩ := kk v h' hp T'.heap (locs ++ L) ls (by rw [e1]; exact hP') ⟨Nat.le_trans hS.1 (by rw [e1]; exact hz), fun q h1 h2 => by rw [e1, hk q (Nat.lt_of_lt_of_le h1 hS.1) h2]; exact hS.2.1 q h1 h2, fun q hq => by
      rcases List.mem_append.mp hq with h | h
      · exact hS.2.2 q h
      · exact hL q h⟩ hl T' rfl Z'
  exact ⟨t2, st t2 a1, b1⟩
theorem jblind {As : List Value} : FrameBlind (jPc w h As) := fun a U g mk q => by
  obtain ⟨q0, qP, qK, qN⟩ := q
  exact ⟨q0, qP, va_K.moved (u := U) (U := U.calling g mk a) (Vm.Alike.refl U.vm) qK, jNok.same (s := U) (U := U.calling g mk a) rfl qN⟩
theorem jpre (C : jC X w cc own) {As : List Value} {H : Heap} (hP : va_P w.1 vwCl (jws w h) H) : ∀ U : State, U.heap = H → (jXs X).WarmedH U.vm → jPc w h As As.toArray U := fun U hU hW => ⟨rfl, by rw [hU]; exact hP, va_K.moved hW.alike C.2.2.2.2.1, jNok.warm hW C.2.2.2.2.2.1⟩
/-- a call of a method of an object of the world -/
theorem j_callV (C : jC X w cc own) {index k ci n d0 : Nat} {y : MethodName} {bytes : ByteArray} {maxL : Nat} {ret : Option FieldType} {As st : List Value} (K : jCB own index y bytes maxL ret n ∧ Cond.instanceMethod y ∈ wsL_law ∧ Cond.selects (jR ci) y y ∈ wsL_law) (hM : jM (jXl X) w y bytes maxL ret d0 (.ref (jad w k) :: As) h Po) (hcl : vwCl[ci]? = some (jR ci, jT ci, jN ci)) (hk : k < 99) (hc : jk k = .inl ci) (hst : st = As.reverse ++ .ref (jad w k) :: r) (hn : As.length = n) (hr : (r.map fun v => v.category).sum ≤ 8) (hR : d0 + 1 ≤ (jXR X).frames ∧ 8 + (maxL + 11) + 40 * d0 ≤ (jXR X).locals) (d : decode cc pc = .ok (.invokevirtual index, 3))
    (kk : ∀ (v : Option Value) (h' : jH), Po v h' → J X w h' (pc + 3) lv (v.toList ++ r)) : J X w h pc lv st := by
  intro H locs ls hP hS hl
  obtain ⟨⟨hy1, hy2, hyn, hcode, hini, hlk⟩, hins, hsel⟩ := K
  have hG : GoodIn wsL_law (Cond.code y bytes maxL ret :: wsL_law) := jGoodIn hcode (fun _ h => h)
  have hF : CallFix (jXp X) (jXm X) (jXc X) cc (jXc X).maxLocals (jXs X) (jXa X) wsL_law own := ⟨C.1, C.2.1, rfl, C.2.2.1, C.2.2.2.1⟩
  have hrecv := va_recv C.2.2.2.2.1 hP hcl (show (jws w h)[k]? = some (jad w k, .inr (ci, jfs w h ci k)) by rw [jws_at w h hk, jcel_o hc])
  have hW : 2 * (F0 (jXm X) pc ls st).monitorRoom + (r.map fun v => v.category).sum ≤ 8 := by show 2 * 0 + _ ≤ 8; omega
  refine j_run (y := y) (a := (Value.ref (jad w k) :: As).toArray) (r := r) kk hS hl ?_
  rcases hlk with hlk | hlk
  · refine va_runV (C := jR ci) (b := jad w k) (As := As) (rest := r) hF hM ⟨callB_of n C.2.2.2.1 hG rfl rfl rfl (C.2.2.2.1 _ hini) (C.2.2.2.1 _ hlk) ⟨hy1, hy2, hyn⟩ hR, C.2.2.2.1 _ hins, C.2.2.2.1 _ hsel⟩ ⟨jblind, hrecv, jpre C hP⟩ rfl hn hl.1 hst hW d ⟨Nat.zero_le _, Nat.zero_le _⟩
  · refine va_runVN (C := jR ci) (b := jad w k) (As := As) (rest := r) hF hM ⟨va_cnB n C.2.2.2.1 hG rfl rfl rfl (C.2.2.2.2.2.1.2 _ hlk) (C.2.2.2.1 _ hini) ⟨hy1, hy2, hyn⟩ hR, C.2.2.2.1 _ hins, C.2.2.2.1 _ hsel⟩ ⟨jblind, hrecv, jpre C hP⟩ rfl hn hl.1 hst hW d ⟨Nat.zero_le _, Nat.zero_le _⟩
/-- a call of a static method -/
theorem j_callS (C : jC X w cc own) {index n d0 : Nat} {y : MethodName} {bytes : ByteArray} {maxL : Nat} {ret : Option FieldType} {As st : List Value} (K : jCB own index y bytes maxL ret n ∧ Cond.static y ∈ wsL_law) (hM : jM (jXl X) w y bytes maxL ret d0 As h Po) (hst : st = As.reverse ++ r) (hn : As.length = n) (hr : (r.map fun v => v.category).sum ≤ 8) (hR : d0 + 1 ≤ (jXR X).frames ∧ 8 + (maxL + 11) + 40 * d0 ≤ (jXR X).locals) (d : decode cc pc = .ok (.invokestatic index, 3))
    (kk : ∀ (v : Option Value) (h' : jH), Po v h' → J X w h' (pc + 3) lv (v.toList ++ r)) : J X w h pc lv st := by
  intro H locs ls hP hS hl
  obtain ⟨⟨hy1, hy2, hyn, hcode, hini, hlk⟩, hstc⟩ := K
  have hG : GoodIn wsL_law (Cond.code y bytes maxL ret :: wsL_law) := jGoodIn hcode (fun _ h => h)
  have hF : CallFix (jXp X) (jXm X) (jXc X) cc (jXc X).maxLocals (jXs X) (jXa X) wsL_law own := ⟨C.1, C.2.1, rfl, C.2.2.1, C.2.2.2.1⟩
  have hW : 2 * (F0 (jXm X) pc ls st).monitorRoom + (r.map fun v => v.category).sum ≤ 8 := by show 2 * 0 + _ ≤ 8; omega
  refine j_run (y := y) (a := As.toArray) (r := r) kk hS hl ?_
  rcases hlk with hlk | hlk
  · refine va_runS (As := As) (rest := r) hF hM ⟨callB_of n C.2.2.2.1 hG rfl rfl rfl (C.2.2.2.1 _ hini) (C.2.2.2.1 _ hlk) ⟨hy1, hy2, hyn⟩ hR, C.2.2.2.1 _ hstc⟩ ⟨jblind, jpre C hP⟩ rfl hn hl.1 hst hW d ⟨Nat.zero_le _, Nat.zero_le _⟩
  · refine va_runSN (As := As) (rest := r) hF hM ⟨va_cnB n C.2.2.2.1 hG rfl rfl rfl (C.2.2.2.2.2.1.2 _ hlk) (C.2.2.2.1 _ hini) ⟨hy1, hy2, hyn⟩ hR, C.2.2.2.1 _ hstc, trivial⟩ ⟨jblind, jpre C hP⟩ rfl hn hl.1 hst hW d ⟨Nat.zero_le _, Nat.zero_le _⟩
end JC
end
section
theorem dJ9_max_7cf53_0 : decode cJ9_max_7cf53 0 = .ok (.iload_n 0, 1) := by decide +kernel
theorem dJ9_max_7cf53_1 : decode cJ9_max_7cf53 1 = .ok (.iload_n 1, 1) := by decide +kernel
theorem dJ9_max_7cf53_2 : decode cJ9_max_7cf53 2 = .ok (.if_icmp .lt 7, 3) := by decide +kernel
theorem dJ9_max_7cf53_5 : decode cJ9_max_7cf53 5 = .ok (.iload_n 0, 1) := by decide +kernel
theorem dJ9_max_7cf53_6 : decode cJ9_max_7cf53 6 = .ok (.goto 4, 3) := by decide +kernel
theorem dJ9_max_7cf53_9 : decode cJ9_max_7cf53 9 = .ok (.iload_n 1, 1) := by decide +kernel
theorem dJ9_max_7cf53_10 : decode cJ9_max_7cf53 10 = .ok (.ireturn, 1) := by decide +kernel
theorem dJ9_min_7cf53_0 : decode cJ9_min_7cf53 0 = .ok (.iload_n 0, 1) := by decide +kernel
theorem dJ9_min_7cf53_1 : decode cJ9_min_7cf53 1 = .ok (.iload_n 1, 1) := by decide +kernel
theorem dJ9_min_7cf53_2 : decode cJ9_min_7cf53 2 = .ok (.if_icmp .gt 7, 3) := by decide +kernel
theorem dJ9_min_7cf53_5 : decode cJ9_min_7cf53 5 = .ok (.iload_n 0, 1) := by decide +kernel
theorem dJ9_min_7cf53_6 : decode cJ9_min_7cf53 6 = .ok (.goto 4, 3) := by decide +kernel
theorem dJ9_min_7cf53_9 : decode cJ9_min_7cf53 9 = .ok (.iload_n 1, 1) := by decide +kernel
theorem dJ9_min_7cf53_10 : decode cJ9_min_7cf53 10 = .ok (.ireturn, 1) := by decide +kernel
end
section
theorem dL_cell_0 : decode cL_cell 0 = .ok (.iload_n 1, 1) := by decide +kernel
theorem dL_cell_1 : decode cL_cell 1 = .ok (.aload_n 0, 1) := by decide +kernel
theorem dL_cell_2 : decode cL_cell 2 = .ok (.arraylength, 1) := by decide +kernel
theorem dL_cell_3 : decode cL_cell 3 = .ok (.if_icmp .ge 9, 3) := by decide +kernel
theorem dL_cell_6 : decode cL_cell 6 = .ok (.aload_n 0, 1) := by decide +kernel
theorem dL_cell_7 : decode cL_cell 7 = .ok (.iload_n 1, 1) := by decide +kernel
theorem dL_cell_8 : decode cL_cell 8 = .ok (.iaload, 1) := by decide +kernel
theorem dL_cell_9 : decode cL_cell 9 = .ok (.goto 4, 3) := by decide +kernel
theorem dL_cell_12 : decode cL_cell 12 = .ok (.iconst 0, 1) := by decide +kernel
theorem dL_cell_13 : decode cL_cell 13 = .ok (.ireturn, 1) := by decide +kernel
theorem dL_module_0 : decode cL_module 0 = .ok (.aload_n 1, 1) := by decide +kernel
theorem dL_module_1 : decode cL_module 1 = .ok (.iconst 0, 1) := by decide +kernel
theorem dL_module_2 : decode cL_module 2 = .ok (.aload_n 0, 1) := by decide +kernel
theorem dL_module_3 : decode cL_module 3 = .ok (.invokevirtual 7, 3) := by decide +kernel
theorem dL_module_6 : decode cL_module 6 = .ok (.i2l, 1) := by decide +kernel
theorem dL_module_7 : decode cL_module 7 = .ok (.lastore, 1) := by decide +kernel
theorem dL_module_8 : decode cL_module 8 = .ok (.goto 6, 3) := by decide +kernel
theorem dL_module_11 : decode cL_module 11 = .ok (.astore_n 2, 1) := by decide +kernel
theorem dL_module_12 : decode cL_module 12 = .ok (.iconst 1, 1) := by decide +kernel
theorem dL_module_13 : decode cL_module 13 = .ok (.ireturn, 1) := by decide +kernel
theorem dL_module_14 : decode cL_module 14 = .ok (.iconst 0, 1) := by decide +kernel
theorem dL_module_15 : decode cL_module 15 = .ok (.ireturn, 1) := by decide +kernel
theorem dL_drop_0 : decode cL_drop 0 = .ok (.aload_n 0, 1) := by decide +kernel
theorem dL_drop_1 : decode cL_drop 1 = .ok (.iload_n 1, 1) := by decide +kernel
theorem dL_drop_2 : decode cL_drop 2 = .ok (.invokevirtual 15, 3) := by decide +kernel
theorem dL_drop_5 : decode cL_drop 5 = .ok (.goto 6, 3) := by decide +kernel
theorem dL_drop_8 : decode cL_drop 8 = .ok (.astore_n 2, 1) := by decide +kernel
theorem dL_drop_9 : decode cL_drop 9 = .ok (.iconst 1, 1) := by decide +kernel
theorem dL_drop_10 : decode cL_drop 10 = .ok (.ireturn, 1) := by decide +kernel
theorem dL_drop_11 : decode cL_drop 11 = .ok (.iconst 0, 1) := by decide +kernel
theorem dL_drop_12 : decode cL_drop 12 = .ok (.ireturn, 1) := by decide +kernel
theorem dL_link_0 : decode cL_link 0 = .ok (.aload_n 1, 1) := by decide +kernel
theorem dL_link_1 : decode cL_link 1 = .ok (.iconst 0, 1) := by decide +kernel
theorem dL_link_2 : decode cL_link 2 = .ok (.aload_n 0, 1) := by decide +kernel
theorem dL_link_3 : decode cL_link 3 = .ok (.invokevirtual 21, 3) := by decide +kernel
theorem dL_link_6 : decode cL_link 6 = .ok (.i2l, 1) := by decide +kernel
theorem dL_link_7 : decode cL_link 7 = .ok (.lastore, 1) := by decide +kernel
theorem dL_link_8 : decode cL_link 8 = .ok (.goto 9, 3) := by decide +kernel
theorem dL_link_11 : decode cL_link 11 = .ok (.astore_n 2, 1) := by decide +kernel
theorem dL_link_12 : decode cL_link 12 = .ok (.iconst 1, 1) := by decide +kernel
theorem dL_link_13 : decode cL_link 13 = .ok (.ireturn, 1) := by decide +kernel
theorem dL_link_14 : decode cL_link 14 = .ok (.astore_n 2, 1) := by decide +kernel
theorem dL_link_15 : decode cL_link 15 = .ok (.iconst 2, 1) := by decide +kernel
theorem dL_link_16 : decode cL_link 16 = .ok (.ireturn, 1) := by decide +kernel
theorem dL_link_17 : decode cL_link 17 = .ok (.iconst 0, 1) := by decide +kernel
theorem dL_link_18 : decode cL_link 18 = .ok (.ireturn, 1) := by decide +kernel
theorem dL_about_0 : decode cL_about 0 = .ok (.aload 4, 2) := by decide +kernel
theorem dL_about_2 : decode cL_about 2 = .ok (.iconst 0, 1) := by decide +kernel
theorem dL_about_3 : decode cL_about 3 = .ok (.aload_n 0, 1) := by decide +kernel
theorem dL_about_4 : decode cL_about 4 = .ok (.iload_n 1, 1) := by decide +kernel
theorem dL_about_5 : decode cL_about 5 = .ok (.iload_n 2, 1) := by decide +kernel
theorem dL_about_6 : decode cL_about 6 = .ok (.iload_n 3, 1) := by decide +kernel
theorem dL_about_7 : decode cL_about 7 = .ok (.invokevirtual 28, 3) := by decide +kernel
theorem dL_about_10 : decode cL_about 10 = .ok (.i2l, 1) := by decide +kernel
theorem dL_about_11 : decode cL_about 11 = .ok (.lastore, 1) := by decide +kernel
theorem dL_about_12 : decode cL_about 12 = .ok (.goto 7, 3) := by decide +kernel
theorem dL_about_15 : decode cL_about 15 = .ok (.astore 5, 2) := by decide +kernel
theorem dL_about_17 : decode cL_about 17 = .ok (.iconst 1, 1) := by decide +kernel
theorem dL_about_18 : decode cL_about 18 = .ok (.ireturn, 1) := by decide +kernel
theorem dL_about_19 : decode cL_about 19 = .ok (.iconst 0, 1) := by decide +kernel
theorem dL_about_20 : decode cL_about 20 = .ok (.ireturn, 1) := by decide +kernel
theorem dL_call_0 : decode cL_call 0 = .ok (.aload 8, 2) := by decide +kernel
theorem dL_call_2 : decode cL_call 2 = .ok (.iconst 0, 1) := by decide +kernel
theorem dL_call_3 : decode cL_call 3 = .ok (.aload_n 0, 1) := by decide +kernel
theorem dL_call_4 : decode cL_call 4 = .ok (.iload_n 1, 1) := by decide +kernel
theorem dL_call_5 : decode cL_call 5 = .ok (.iload_n 2, 1) := by decide +kernel
theorem dL_call_6 : decode cL_call 6 = .ok (.iload_n 3, 1) := by decide +kernel
theorem dL_call_7 : decode cL_call 7 = .ok (.iload 4, 2) := by decide +kernel
theorem dL_call_9 : decode cL_call 9 = .ok (.iload 5, 2) := by decide +kernel
theorem dL_call_11 : decode cL_call 11 = .ok (.iload 6, 2) := by decide +kernel
theorem dL_call_13 : decode cL_call 13 = .ok (.iload 7, 2) := by decide +kernel
theorem dL_call_15 : decode cL_call 15 = .ok (.invokevirtual 32, 3) := by decide +kernel
theorem dL_call_18 : decode cL_call 18 = .ok (.i2l, 1) := by decide +kernel
theorem dL_call_19 : decode cL_call 19 = .ok (.lastore, 1) := by decide +kernel
theorem dL_call_20 : decode cL_call 20 = .ok (.goto 15, 3) := by decide +kernel
theorem dL_call_23 : decode cL_call 23 = .ok (.astore 9, 2) := by decide +kernel
theorem dL_call_25 : decode cL_call 25 = .ok (.iconst 1, 1) := by decide +kernel
theorem dL_call_26 : decode cL_call 26 = .ok (.ireturn, 1) := by decide +kernel
theorem dL_call_27 : decode cL_call 27 = .ok (.astore 9, 2) := by decide +kernel
theorem dL_call_29 : decode cL_call 29 = .ok (.iconst 2, 1) := by decide +kernel
theorem dL_call_30 : decode cL_call 30 = .ok (.ireturn, 1) := by decide +kernel
theorem dL_call_31 : decode cL_call 31 = .ok (.astore 9, 2) := by decide +kernel
theorem dL_call_33 : decode cL_call 33 = .ok (.iconst 3, 1) := by decide +kernel
theorem dL_call_34 : decode cL_call 34 = .ok (.ireturn, 1) := by decide +kernel
theorem dL_call_35 : decode cL_call 35 = .ok (.iconst 0, 1) := by decide +kernel
theorem dL_call_36 : decode cL_call 36 = .ok (.ireturn, 1) := by decide +kernel
theorem dL_law_0 : decode cL_law 0 = .ok (.new 8, 3) := by decide +kernel
theorem dL_law_3 : decode cL_law 3 = .ok (.dup, 1) := by decide +kernel
theorem dL_law_4 : decode cL_law 4 = .ok (.aload_n 0, 1) := by decide +kernel
theorem dL_law_5 : decode cL_law 5 = .ok (.iconst 0, 1) := by decide +kernel
theorem dL_law_6 : decode cL_law 6 = .ok (.invokestatic 36, 3) := by decide +kernel
theorem dL_law_9 : decode cL_law 9 = .ok (.invokespecial 42, 3) := by decide +kernel
theorem dL_law_12 : decode cL_law 12 = .ok (.astore_n 1, 1) := by decide +kernel
theorem dL_law_13 : decode cL_law 13 = .ok (.new 44, 3) := by decide +kernel
theorem dL_law_16 : decode cL_law 16 = .ok (.dup, 1) := by decide +kernel
theorem dL_law_17 : decode cL_law 17 = .ok (.aload_n 0, 1) := by decide +kernel
theorem dL_law_18 : decode cL_law 18 = .ok (.iconst 0, 1) := by decide +kernel
theorem dL_law_19 : decode cL_law 19 = .ok (.invokestatic 36, 3) := by decide +kernel
theorem dL_law_22 : decode cL_law 22 = .ok (.invokespecial 46, 3) := by decide +kernel
theorem dL_law_25 : decode cL_law 25 = .ok (.astore_n 2, 1) := by decide +kernel
theorem dL_law_26 : decode cL_law 26 = .ok (.iconst 1, 1) := by decide +kernel
theorem dL_law_27 : decode cL_law 27 = .ok (.newarray .long, 2) := by decide +kernel
theorem dL_law_29 : decode cL_law 29 = .ok (.astore_n 3, 1) := by decide +kernel
theorem dL_law_30 : decode cL_law 30 = .ok (.iconst 1, 1) := by decide +kernel
theorem dL_law_31 : decode cL_law 31 = .ok (.istore 4, 2) := by decide +kernel
theorem dL_law_33 : decode cL_law 33 = .ok (.iload 4, 2) := by decide +kernel
theorem dL_law_35 : decode cL_law 35 = .ok (.aload_n 0, 1) := by decide +kernel
theorem dL_law_36 : decode cL_law 36 = .ok (.arraylength, 1) := by decide +kernel
theorem dL_law_37 : decode cL_law 37 = .ok (.bipush 8, 2) := by decide +kernel
theorem dL_law_39 : decode cL_law 39 = .ok (.isub, 1) := by decide +kernel
theorem dL_law_40 : decode cL_law 40 = .ok (.if_icmp .gt 531, 3) := by decide +kernel
theorem dL_law_43 : decode cL_law 43 = .ok (.aload_n 0, 1) := by decide +kernel
theorem dL_law_44 : decode cL_law 44 = .ok (.iload 4, 2) := by decide +kernel
theorem dL_law_46 : decode cL_law 46 = .ok (.iaload, 1) := by decide +kernel
theorem dL_law_47 : decode cL_law 47 = .ok (.bipush 15, 2) := by decide +kernel
theorem dL_law_49 : decode cL_law 49 = .ok (.iand, 1) := by decide +kernel
theorem dL_law_50 : decode cL_law 50 = .ok (.tableswitch 515 0 9 #[54, 91, 135, 148, 184, 228, 253, 333, 465, 490], 54) := by decide +kernel
theorem dL_law_104 : decode cL_law 104 = .ok (.aload_n 1, 1) := by decide +kernel
theorem dL_law_105 : decode cL_law 105 = .ok (.aload_n 0, 1) := by decide +kernel
theorem dL_law_106 : decode cL_law 106 = .ok (.iload 4, 2) := by decide +kernel
theorem dL_law_108 : decode cL_law 108 = .ok (.iconst 1, 1) := by decide +kernel
theorem dL_law_109 : decode cL_law 109 = .ok (.iadd, 1) := by decide +kernel
theorem dL_law_110 : decode cL_law 110 = .ok (.iaload, 1) := by decide +kernel
theorem dL_law_111 : decode cL_law 111 = .ok (.aload_n 0, 1) := by decide +kernel
theorem dL_law_112 : decode cL_law 112 = .ok (.iload 4, 2) := by decide +kernel
theorem dL_law_114 : decode cL_law 114 = .ok (.iconst 2, 1) := by decide +kernel
theorem dL_law_115 : decode cL_law 115 = .ok (.iadd, 1) := by decide +kernel
theorem dL_law_116 : decode cL_law 116 = .ok (.iaload, 1) := by decide +kernel
theorem dL_law_117 : decode cL_law 117 = .ok (.invokevirtual 47, 3) := by decide +kernel
theorem dL_law_120 : decode cL_law 120 = .ok (.aload_n 2, 1) := by decide +kernel
theorem dL_law_121 : decode cL_law 121 = .ok (.aload_n 0, 1) := by decide +kernel
theorem dL_law_122 : decode cL_law 122 = .ok (.iload 4, 2) := by decide +kernel
theorem dL_law_124 : decode cL_law 124 = .ok (.iconst 1, 1) := by decide +kernel
theorem dL_law_125 : decode cL_law 125 = .ok (.iadd, 1) := by decide +kernel
theorem dL_law_126 : decode cL_law 126 = .ok (.iaload, 1) := by decide +kernel
theorem dL_law_127 : decode cL_law 127 = .ok (.aload_n 0, 1) := by decide +kernel
theorem dL_law_128 : decode cL_law 128 = .ok (.iload 4, 2) := by decide +kernel
theorem dL_law_130 : decode cL_law 130 = .ok (.iconst 2, 1) := by decide +kernel
theorem dL_law_131 : decode cL_law 131 = .ok (.iadd, 1) := by decide +kernel
theorem dL_law_132 : decode cL_law 132 = .ok (.iaload, 1) := by decide +kernel
theorem dL_law_133 : decode cL_law 133 = .ok (.invokevirtual 51, 3) := by decide +kernel
theorem dL_law_136 : decode cL_law 136 = .ok (.if_icmp .eq 429, 3) := by decide +kernel
theorem dL_law_139 : decode cL_law 139 = .ok (.iconst 0, 1) := by decide +kernel
theorem dL_law_140 : decode cL_law 140 = .ok (.ireturn, 1) := by decide +kernel
theorem dL_law_141 : decode cL_law 141 = .ok (.aload_n 1, 1) := by decide +kernel
theorem dL_law_142 : decode cL_law 142 = .ok (.aload_n 3, 1) := by decide +kernel
theorem dL_law_143 : decode cL_law 143 = .ok (.invokestatic 52, 3) := by decide +kernel
theorem dL_law_146 : decode cL_law 146 = .ok (.istore 5, 2) := by decide +kernel
theorem dL_law_148 : decode cL_law 148 = .ok (.aload_n 2, 1) := by decide +kernel
theorem dL_law_149 : decode cL_law 149 = .ok (.invokevirtual 55, 3) := by decide +kernel
theorem dL_law_152 : decode cL_law 152 = .ok (.istore 6, 2) := by decide +kernel
theorem dL_law_154 : decode cL_law 154 = .ok (.aload_n 2, 1) := by decide +kernel
theorem dL_law_155 : decode cL_law 155 = .ok (.invokevirtual 56, 3) := by decide +kernel
theorem dL_law_158 : decode cL_law 158 = .ok (.iload 5, 2) := by decide +kernel
theorem dL_law_160 : decode cL_law 160 = .ok (.if_icmp .eq 5, 3) := by decide +kernel
theorem dL_law_163 : decode cL_law 163 = .ok (.iconst 0, 1) := by decide +kernel
theorem dL_law_164 : decode cL_law 164 = .ok (.ireturn, 1) := by decide +kernel
theorem dL_law_165 : decode cL_law 165 = .ok (.iload 5, 2) := by decide +kernel
theorem dL_law_167 : decode cL_law 167 = .ok (.ifCond .ne 15, 3) := by decide +kernel
theorem dL_law_170 : decode cL_law 170 = .ok (.aload_n 3, 1) := by decide +kernel
theorem dL_law_171 : decode cL_law 171 = .ok (.iconst 0, 1) := by decide +kernel
theorem dL_law_172 : decode cL_law 172 = .ok (.laload, 1) := by decide +kernel
theorem dL_law_173 : decode cL_law 173 = .ok (.iload 6, 2) := by decide +kernel
theorem dL_law_175 : decode cL_law 175 = .ok (.i2l, 1) := by decide +kernel
theorem dL_law_176 : decode cL_law 176 = .ok (.lcmp, 1) := by decide +kernel
theorem dL_law_177 : decode cL_law 177 = .ok (.ifCond .eq 5, 3) := by decide +kernel
theorem dL_law_180 : decode cL_law 180 = .ok (.iconst 0, 1) := by decide +kernel
theorem dL_law_181 : decode cL_law 181 = .ok (.ireturn, 1) := by decide +kernel
theorem dL_law_182 : decode cL_law 182 = .ok (.goto 383, 3) := by decide +kernel
theorem dL_law_185 : decode cL_law 185 = .ok (.aload_n 1, 1) := by decide +kernel
theorem dL_law_186 : decode cL_law 186 = .ok (.invokevirtual 59, 3) := by decide +kernel
theorem dL_law_189 : decode cL_law 189 = .ok (.aload_n 2, 1) := by decide +kernel
theorem dL_law_190 : decode cL_law 190 = .ok (.invokevirtual 62, 3) := by decide +kernel
theorem dL_law_193 : decode cL_law 193 = .ok (.if_icmp .eq 372, 3) := by decide +kernel
theorem dL_law_196 : decode cL_law 196 = .ok (.iconst 0, 1) := by decide +kernel
theorem dL_law_197 : decode cL_law 197 = .ok (.ireturn, 1) := by decide +kernel
theorem dL_law_198 : decode cL_law 198 = .ok (.aload_n 1, 1) := by decide +kernel
theorem dL_law_199 : decode cL_law 199 = .ok (.aload_n 0, 1) := by decide +kernel
theorem dL_law_200 : decode cL_law 200 = .ok (.iload 4, 2) := by decide +kernel
theorem dL_law_202 : decode cL_law 202 = .ok (.iconst 1, 1) := by decide +kernel
theorem dL_law_203 : decode cL_law 203 = .ok (.iadd, 1) := by decide +kernel
theorem dL_law_204 : decode cL_law 204 = .ok (.iaload, 1) := by decide +kernel
theorem dL_law_205 : decode cL_law 205 = .ok (.invokestatic 63, 3) := by decide +kernel
theorem dL_law_208 : decode cL_law 208 = .ok (.istore 5, 2) := by decide +kernel
theorem dL_law_210 : decode cL_law 210 = .ok (.aload_n 2, 1) := by decide +kernel
theorem dL_law_211 : decode cL_law 211 = .ok (.aload_n 0, 1) := by decide +kernel
theorem dL_law_212 : decode cL_law 212 = .ok (.iload 4, 2) := by decide +kernel
theorem dL_law_214 : decode cL_law 214 = .ok (.iconst 1, 1) := by decide +kernel
theorem dL_law_215 : decode cL_law 215 = .ok (.iadd, 1) := by decide +kernel
theorem dL_law_216 : decode cL_law 216 = .ok (.iaload, 1) := by decide +kernel
theorem dL_law_217 : decode cL_law 217 = .ok (.invokevirtual 66, 3) := by decide +kernel
theorem dL_law_220 : decode cL_law 220 = .ok (.aload_n 2, 1) := by decide +kernel
theorem dL_law_221 : decode cL_law 221 = .ok (.invokevirtual 56, 3) := by decide +kernel
theorem dL_law_224 : decode cL_law 224 = .ok (.iload 5, 2) := by decide +kernel
theorem dL_law_226 : decode cL_law 226 = .ok (.if_icmp .eq 5, 3) := by decide +kernel
theorem dL_law_229 : decode cL_law 229 = .ok (.iconst 0, 1) := by decide +kernel
theorem dL_law_230 : decode cL_law 230 = .ok (.ireturn, 1) := by decide +kernel
theorem dL_law_231 : decode cL_law 231 = .ok (.goto 334, 3) := by decide +kernel
theorem dL_law_234 : decode cL_law 234 = .ok (.aload_n 1, 1) := by decide +kernel
theorem dL_law_235 : decode cL_law 235 = .ok (.aload_n 3, 1) := by decide +kernel
theorem dL_law_236 : decode cL_law 236 = .ok (.invokestatic 67, 3) := by decide +kernel
theorem dL_law_239 : decode cL_law 239 = .ok (.istore 5, 2) := by decide +kernel
theorem dL_law_241 : decode cL_law 241 = .ok (.aload_n 2, 1) := by decide +kernel
theorem dL_law_242 : decode cL_law 242 = .ok (.invokevirtual 69, 3) := by decide +kernel
theorem dL_law_245 : decode cL_law 245 = .ok (.istore 6, 2) := by decide +kernel
theorem dL_law_247 : decode cL_law 247 = .ok (.aload_n 2, 1) := by decide +kernel
theorem dL_law_248 : decode cL_law 248 = .ok (.invokevirtual 56, 3) := by decide +kernel
theorem dL_law_251 : decode cL_law 251 = .ok (.iload 5, 2) := by decide +kernel
theorem dL_law_253 : decode cL_law 253 = .ok (.if_icmp .eq 5, 3) := by decide +kernel
theorem dL_law_256 : decode cL_law 256 = .ok (.iconst 0, 1) := by decide +kernel
theorem dL_law_257 : decode cL_law 257 = .ok (.ireturn, 1) := by decide +kernel
theorem dL_law_258 : decode cL_law 258 = .ok (.iload 5, 2) := by decide +kernel
theorem dL_law_260 : decode cL_law 260 = .ok (.ifCond .ne 15, 3) := by decide +kernel
theorem dL_law_263 : decode cL_law 263 = .ok (.aload_n 3, 1) := by decide +kernel
theorem dL_law_264 : decode cL_law 264 = .ok (.iconst 0, 1) := by decide +kernel
theorem dL_law_265 : decode cL_law 265 = .ok (.laload, 1) := by decide +kernel
theorem dL_law_266 : decode cL_law 266 = .ok (.iload 6, 2) := by decide +kernel
theorem dL_law_268 : decode cL_law 268 = .ok (.i2l, 1) := by decide +kernel
theorem dL_law_269 : decode cL_law 269 = .ok (.lcmp, 1) := by decide +kernel
theorem dL_law_270 : decode cL_law 270 = .ok (.ifCond .eq 5, 3) := by decide +kernel
theorem dL_law_273 : decode cL_law 273 = .ok (.iconst 0, 1) := by decide +kernel
theorem dL_law_274 : decode cL_law 274 = .ok (.ireturn, 1) := by decide +kernel
theorem dL_law_275 : decode cL_law 275 = .ok (.goto 290, 3) := by decide +kernel
theorem dL_law_278 : decode cL_law 278 = .ok (.aload_n 1, 1) := by decide +kernel
theorem dL_law_279 : decode cL_law 279 = .ok (.aload_n 0, 1) := by decide +kernel
theorem dL_law_280 : decode cL_law 280 = .ok (.iload 4, 2) := by decide +kernel
theorem dL_law_282 : decode cL_law 282 = .ok (.iconst 1, 1) := by decide +kernel
theorem dL_law_283 : decode cL_law 283 = .ok (.iadd, 1) := by decide +kernel
theorem dL_law_284 : decode cL_law 284 = .ok (.iaload, 1) := by decide +kernel
theorem dL_law_285 : decode cL_law 285 = .ok (.invokevirtual 70, 3) := by decide +kernel
theorem dL_law_288 : decode cL_law 288 = .ok (.aload_n 2, 1) := by decide +kernel
theorem dL_law_289 : decode cL_law 289 = .ok (.aload_n 0, 1) := by decide +kernel
theorem dL_law_290 : decode cL_law 290 = .ok (.iload 4, 2) := by decide +kernel
theorem dL_law_292 : decode cL_law 292 = .ok (.iconst 1, 1) := by decide +kernel
theorem dL_law_293 : decode cL_law 293 = .ok (.iadd, 1) := by decide +kernel
theorem dL_law_294 : decode cL_law 294 = .ok (.iaload, 1) := by decide +kernel
theorem dL_law_295 : decode cL_law 295 = .ok (.invokevirtual 74, 3) := by decide +kernel
theorem dL_law_298 : decode cL_law 298 = .ok (.if_icmp .eq 267, 3) := by decide +kernel
theorem dL_law_301 : decode cL_law 301 = .ok (.iconst 0, 1) := by decide +kernel
theorem dL_law_302 : decode cL_law 302 = .ok (.ireturn, 1) := by decide +kernel
theorem dL_law_303 : decode cL_law 303 = .ok (.aload_n 1, 1) := by decide +kernel
theorem dL_law_304 : decode cL_law 304 = .ok (.aload_n 0, 1) := by decide +kernel
theorem dL_law_305 : decode cL_law 305 = .ok (.iload 4, 2) := by decide +kernel
theorem dL_law_307 : decode cL_law 307 = .ok (.iconst 1, 1) := by decide +kernel
theorem dL_law_308 : decode cL_law 308 = .ok (.iadd, 1) := by decide +kernel
theorem dL_law_309 : decode cL_law 309 = .ok (.iaload, 1) := by decide +kernel
theorem dL_law_310 : decode cL_law 310 = .ok (.aload_n 0, 1) := by decide +kernel
theorem dL_law_311 : decode cL_law 311 = .ok (.iload 4, 2) := by decide +kernel
theorem dL_law_313 : decode cL_law 313 = .ok (.iconst 2, 1) := by decide +kernel
theorem dL_law_314 : decode cL_law 314 = .ok (.iadd, 1) := by decide +kernel
theorem dL_law_315 : decode cL_law 315 = .ok (.iaload, 1) := by decide +kernel
theorem dL_law_316 : decode cL_law 316 = .ok (.aload_n 0, 1) := by decide +kernel
theorem dL_law_317 : decode cL_law 317 = .ok (.iload 4, 2) := by decide +kernel
theorem dL_law_319 : decode cL_law 319 = .ok (.iconst 3, 1) := by decide +kernel
theorem dL_law_320 : decode cL_law 320 = .ok (.iadd, 1) := by decide +kernel
theorem dL_law_321 : decode cL_law 321 = .ok (.iaload, 1) := by decide +kernel
theorem dL_law_322 : decode cL_law 322 = .ok (.aload_n 3, 1) := by decide +kernel
theorem dL_law_323 : decode cL_law 323 = .ok (.invokestatic 75, 3) := by decide +kernel
theorem dL_law_326 : decode cL_law 326 = .ok (.istore 5, 2) := by decide +kernel
theorem dL_law_328 : decode cL_law 328 = .ok (.aload_n 2, 1) := by decide +kernel
theorem dL_law_329 : decode cL_law 329 = .ok (.aload_n 0, 1) := by decide +kernel
theorem dL_law_330 : decode cL_law 330 = .ok (.iload 4, 2) := by decide +kernel
theorem dL_law_332 : decode cL_law 332 = .ok (.iconst 1, 1) := by decide +kernel
theorem dL_law_333 : decode cL_law 333 = .ok (.iadd, 1) := by decide +kernel
theorem dL_law_334 : decode cL_law 334 = .ok (.iaload, 1) := by decide +kernel
theorem dL_law_335 : decode cL_law 335 = .ok (.aload_n 0, 1) := by decide +kernel
theorem dL_law_336 : decode cL_law 336 = .ok (.iload 4, 2) := by decide +kernel
theorem dL_law_338 : decode cL_law 338 = .ok (.iconst 2, 1) := by decide +kernel
theorem dL_law_339 : decode cL_law 339 = .ok (.iadd, 1) := by decide +kernel
theorem dL_law_340 : decode cL_law 340 = .ok (.iaload, 1) := by decide +kernel
theorem dL_law_341 : decode cL_law 341 = .ok (.aload_n 0, 1) := by decide +kernel
theorem dL_law_342 : decode cL_law 342 = .ok (.iload 4, 2) := by decide +kernel
theorem dL_law_344 : decode cL_law 344 = .ok (.iconst 3, 1) := by decide +kernel
theorem dL_law_345 : decode cL_law 345 = .ok (.iadd, 1) := by decide +kernel
theorem dL_law_346 : decode cL_law 346 = .ok (.iaload, 1) := by decide +kernel
theorem dL_law_347 : decode cL_law 347 = .ok (.invokevirtual 78, 3) := by decide +kernel
theorem dL_law_350 : decode cL_law 350 = .ok (.istore 6, 2) := by decide +kernel
theorem dL_law_352 : decode cL_law 352 = .ok (.aload_n 2, 1) := by decide +kernel
theorem dL_law_353 : decode cL_law 353 = .ok (.invokevirtual 56, 3) := by decide +kernel
theorem dL_law_356 : decode cL_law 356 = .ok (.iload 5, 2) := by decide +kernel
theorem dL_law_358 : decode cL_law 358 = .ok (.if_icmp .eq 5, 3) := by decide +kernel
theorem dL_law_361 : decode cL_law 361 = .ok (.iconst 0, 1) := by decide +kernel
theorem dL_law_362 : decode cL_law 362 = .ok (.ireturn, 1) := by decide +kernel
theorem dL_law_363 : decode cL_law 363 = .ok (.iload 5, 2) := by decide +kernel
theorem dL_law_365 : decode cL_law 365 = .ok (.ifCond .ne 15, 3) := by decide +kernel
theorem dL_law_368 : decode cL_law 368 = .ok (.aload_n 3, 1) := by decide +kernel
theorem dL_law_369 : decode cL_law 369 = .ok (.iconst 0, 1) := by decide +kernel
theorem dL_law_370 : decode cL_law 370 = .ok (.laload, 1) := by decide +kernel
theorem dL_law_371 : decode cL_law 371 = .ok (.iload 6, 2) := by decide +kernel
theorem dL_law_373 : decode cL_law 373 = .ok (.i2l, 1) := by decide +kernel
theorem dL_law_374 : decode cL_law 374 = .ok (.lcmp, 1) := by decide +kernel
theorem dL_law_375 : decode cL_law 375 = .ok (.ifCond .eq 5, 3) := by decide +kernel
theorem dL_law_378 : decode cL_law 378 = .ok (.iconst 0, 1) := by decide +kernel
theorem dL_law_379 : decode cL_law 379 = .ok (.ireturn, 1) := by decide +kernel
theorem dL_law_380 : decode cL_law 380 = .ok (.goto 185, 3) := by decide +kernel
theorem dL_law_383 : decode cL_law 383 = .ok (.aload_n 1, 1) := by decide +kernel
theorem dL_law_384 : decode cL_law 384 = .ok (.aload_n 0, 1) := by decide +kernel
theorem dL_law_385 : decode cL_law 385 = .ok (.iload 4, 2) := by decide +kernel
theorem dL_law_387 : decode cL_law 387 = .ok (.iconst 1, 1) := by decide +kernel
theorem dL_law_388 : decode cL_law 388 = .ok (.iadd, 1) := by decide +kernel
theorem dL_law_389 : decode cL_law 389 = .ok (.iaload, 1) := by decide +kernel
theorem dL_law_390 : decode cL_law 390 = .ok (.aload_n 0, 1) := by decide +kernel
theorem dL_law_391 : decode cL_law 391 = .ok (.iload 4, 2) := by decide +kernel
theorem dL_law_393 : decode cL_law 393 = .ok (.iconst 2, 1) := by decide +kernel
theorem dL_law_394 : decode cL_law 394 = .ok (.iadd, 1) := by decide +kernel
theorem dL_law_395 : decode cL_law 395 = .ok (.iaload, 1) := by decide +kernel
theorem dL_law_396 : decode cL_law 396 = .ok (.aload_n 0, 1) := by decide +kernel
theorem dL_law_397 : decode cL_law 397 = .ok (.iload 4, 2) := by decide +kernel
theorem dL_law_399 : decode cL_law 399 = .ok (.iconst 3, 1) := by decide +kernel
theorem dL_law_400 : decode cL_law 400 = .ok (.iadd, 1) := by decide +kernel
theorem dL_law_401 : decode cL_law 401 = .ok (.iaload, 1) := by decide +kernel
theorem dL_law_402 : decode cL_law 402 = .ok (.aload_n 0, 1) := by decide +kernel
theorem dL_law_403 : decode cL_law 403 = .ok (.iload 4, 2) := by decide +kernel
theorem dL_law_405 : decode cL_law 405 = .ok (.iconst 4, 1) := by decide +kernel
theorem dL_law_406 : decode cL_law 406 = .ok (.iadd, 1) := by decide +kernel
theorem dL_law_407 : decode cL_law 407 = .ok (.iaload, 1) := by decide +kernel
theorem dL_law_408 : decode cL_law 408 = .ok (.aload_n 0, 1) := by decide +kernel
theorem dL_law_409 : decode cL_law 409 = .ok (.iload 4, 2) := by decide +kernel
theorem dL_law_411 : decode cL_law 411 = .ok (.iconst 5, 1) := by decide +kernel
theorem dL_law_412 : decode cL_law 412 = .ok (.iadd, 1) := by decide +kernel
theorem dL_law_413 : decode cL_law 413 = .ok (.iaload, 1) := by decide +kernel
theorem dL_law_414 : decode cL_law 414 = .ok (.aload_n 0, 1) := by decide +kernel
theorem dL_law_415 : decode cL_law 415 = .ok (.iload 4, 2) := by decide +kernel
theorem dL_law_417 : decode cL_law 417 = .ok (.bipush 6, 2) := by decide +kernel
theorem dL_law_419 : decode cL_law 419 = .ok (.iadd, 1) := by decide +kernel
theorem dL_law_420 : decode cL_law 420 = .ok (.iaload, 1) := by decide +kernel
theorem dL_law_421 : decode cL_law 421 = .ok (.aload_n 0, 1) := by decide +kernel
theorem dL_law_422 : decode cL_law 422 = .ok (.iload 4, 2) := by decide +kernel
theorem dL_law_424 : decode cL_law 424 = .ok (.bipush 7, 2) := by decide +kernel
theorem dL_law_426 : decode cL_law 426 = .ok (.iadd, 1) := by decide +kernel
theorem dL_law_427 : decode cL_law 427 = .ok (.iaload, 1) := by decide +kernel
theorem dL_law_428 : decode cL_law 428 = .ok (.aload_n 3, 1) := by decide +kernel
theorem dL_law_429 : decode cL_law 429 = .ok (.invokestatic 79, 3) := by decide +kernel
theorem dL_law_432 : decode cL_law 432 = .ok (.istore 5, 2) := by decide +kernel
theorem dL_law_434 : decode cL_law 434 = .ok (.aload_n 2, 1) := by decide +kernel
theorem dL_law_435 : decode cL_law 435 = .ok (.aload_n 0, 1) := by decide +kernel
theorem dL_law_436 : decode cL_law 436 = .ok (.iload 4, 2) := by decide +kernel
theorem dL_law_438 : decode cL_law 438 = .ok (.iconst 1, 1) := by decide +kernel
theorem dL_law_439 : decode cL_law 439 = .ok (.iadd, 1) := by decide +kernel
theorem dL_law_440 : decode cL_law 440 = .ok (.iaload, 1) := by decide +kernel
theorem dL_law_441 : decode cL_law 441 = .ok (.aload_n 0, 1) := by decide +kernel
theorem dL_law_442 : decode cL_law 442 = .ok (.iload 4, 2) := by decide +kernel
theorem dL_law_444 : decode cL_law 444 = .ok (.iconst 2, 1) := by decide +kernel
theorem dL_law_445 : decode cL_law 445 = .ok (.iadd, 1) := by decide +kernel
theorem dL_law_446 : decode cL_law 446 = .ok (.iaload, 1) := by decide +kernel
theorem dL_law_447 : decode cL_law 447 = .ok (.aload_n 0, 1) := by decide +kernel
theorem dL_law_448 : decode cL_law 448 = .ok (.iload 4, 2) := by decide +kernel
theorem dL_law_450 : decode cL_law 450 = .ok (.iconst 3, 1) := by decide +kernel
theorem dL_law_451 : decode cL_law 451 = .ok (.iadd, 1) := by decide +kernel
theorem dL_law_452 : decode cL_law 452 = .ok (.iaload, 1) := by decide +kernel
theorem dL_law_453 : decode cL_law 453 = .ok (.aload_n 0, 1) := by decide +kernel
theorem dL_law_454 : decode cL_law 454 = .ok (.iload 4, 2) := by decide +kernel
theorem dL_law_456 : decode cL_law 456 = .ok (.iconst 4, 1) := by decide +kernel
theorem dL_law_457 : decode cL_law 457 = .ok (.iadd, 1) := by decide +kernel
theorem dL_law_458 : decode cL_law 458 = .ok (.iaload, 1) := by decide +kernel
theorem dL_law_459 : decode cL_law 459 = .ok (.aload_n 0, 1) := by decide +kernel
theorem dL_law_460 : decode cL_law 460 = .ok (.iload 4, 2) := by decide +kernel
theorem dL_law_462 : decode cL_law 462 = .ok (.iconst 5, 1) := by decide +kernel
theorem dL_law_463 : decode cL_law 463 = .ok (.iadd, 1) := by decide +kernel
theorem dL_law_464 : decode cL_law 464 = .ok (.iaload, 1) := by decide +kernel
theorem dL_law_465 : decode cL_law 465 = .ok (.aload_n 0, 1) := by decide +kernel
theorem dL_law_466 : decode cL_law 466 = .ok (.iload 4, 2) := by decide +kernel
theorem dL_law_468 : decode cL_law 468 = .ok (.bipush 6, 2) := by decide +kernel
theorem dL_law_470 : decode cL_law 470 = .ok (.iadd, 1) := by decide +kernel
theorem dL_law_471 : decode cL_law 471 = .ok (.iaload, 1) := by decide +kernel
theorem dL_law_472 : decode cL_law 472 = .ok (.aload_n 0, 1) := by decide +kernel
theorem dL_law_473 : decode cL_law 473 = .ok (.iload 4, 2) := by decide +kernel
theorem dL_law_475 : decode cL_law 475 = .ok (.bipush 7, 2) := by decide +kernel
theorem dL_law_477 : decode cL_law 477 = .ok (.iadd, 1) := by decide +kernel
theorem dL_law_478 : decode cL_law 478 = .ok (.iaload, 1) := by decide +kernel
theorem dL_law_479 : decode cL_law 479 = .ok (.invokevirtual 82, 3) := by decide +kernel
theorem dL_law_482 : decode cL_law 482 = .ok (.istore 6, 2) := by decide +kernel
theorem dL_law_484 : decode cL_law 484 = .ok (.aload_n 2, 1) := by decide +kernel
theorem dL_law_485 : decode cL_law 485 = .ok (.invokevirtual 56, 3) := by decide +kernel
theorem dL_law_488 : decode cL_law 488 = .ok (.iload 5, 2) := by decide +kernel
theorem dL_law_490 : decode cL_law 490 = .ok (.if_icmp .eq 5, 3) := by decide +kernel
theorem dL_law_493 : decode cL_law 493 = .ok (.iconst 0, 1) := by decide +kernel
theorem dL_law_494 : decode cL_law 494 = .ok (.ireturn, 1) := by decide +kernel
theorem dL_law_495 : decode cL_law 495 = .ok (.iload 5, 2) := by decide +kernel
theorem dL_law_497 : decode cL_law 497 = .ok (.ifCond .ne 15, 3) := by decide +kernel
theorem dL_law_500 : decode cL_law 500 = .ok (.aload_n 3, 1) := by decide +kernel
theorem dL_law_501 : decode cL_law 501 = .ok (.iconst 0, 1) := by decide +kernel
theorem dL_law_502 : decode cL_law 502 = .ok (.laload, 1) := by decide +kernel
theorem dL_law_503 : decode cL_law 503 = .ok (.iload 6, 2) := by decide +kernel
theorem dL_law_505 : decode cL_law 505 = .ok (.i2l, 1) := by decide +kernel
theorem dL_law_506 : decode cL_law 506 = .ok (.lcmp, 1) := by decide +kernel
theorem dL_law_507 : decode cL_law 507 = .ok (.ifCond .eq 5, 3) := by decide +kernel
theorem dL_law_510 : decode cL_law 510 = .ok (.iconst 0, 1) := by decide +kernel
theorem dL_law_511 : decode cL_law 511 = .ok (.ireturn, 1) := by decide +kernel
theorem dL_law_512 : decode cL_law 512 = .ok (.goto 53, 3) := by decide +kernel
theorem dL_law_515 : decode cL_law 515 = .ok (.aload_n 1, 1) := by decide +kernel
theorem dL_law_516 : decode cL_law 516 = .ok (.aload_n 0, 1) := by decide +kernel
theorem dL_law_517 : decode cL_law 517 = .ok (.iload 4, 2) := by decide +kernel
theorem dL_law_519 : decode cL_law 519 = .ok (.iconst 1, 1) := by decide +kernel
theorem dL_law_520 : decode cL_law 520 = .ok (.iadd, 1) := by decide +kernel
theorem dL_law_521 : decode cL_law 521 = .ok (.iaload, 1) := by decide +kernel
theorem dL_law_522 : decode cL_law 522 = .ok (.invokevirtual 83, 3) := by decide +kernel
theorem dL_law_525 : decode cL_law 525 = .ok (.aload_n 2, 1) := by decide +kernel
theorem dL_law_526 : decode cL_law 526 = .ok (.aload_n 0, 1) := by decide +kernel
theorem dL_law_527 : decode cL_law 527 = .ok (.iload 4, 2) := by decide +kernel
theorem dL_law_529 : decode cL_law 529 = .ok (.iconst 1, 1) := by decide +kernel
theorem dL_law_530 : decode cL_law 530 = .ok (.iadd, 1) := by decide +kernel
theorem dL_law_531 : decode cL_law 531 = .ok (.iaload, 1) := by decide +kernel
theorem dL_law_532 : decode cL_law 532 = .ok (.invokevirtual 86, 3) := by decide +kernel
theorem dL_law_535 : decode cL_law 535 = .ok (.if_icmp .eq 30, 3) := by decide +kernel
theorem dL_law_538 : decode cL_law 538 = .ok (.iconst 0, 1) := by decide +kernel
theorem dL_law_539 : decode cL_law 539 = .ok (.ireturn, 1) := by decide +kernel
theorem dL_law_540 : decode cL_law 540 = .ok (.aload_n 1, 1) := by decide +kernel
theorem dL_law_541 : decode cL_law 541 = .ok (.aload_n 0, 1) := by decide +kernel
theorem dL_law_542 : decode cL_law 542 = .ok (.iload 4, 2) := by decide +kernel
theorem dL_law_544 : decode cL_law 544 = .ok (.iconst 1, 1) := by decide +kernel
theorem dL_law_545 : decode cL_law 545 = .ok (.iadd, 1) := by decide +kernel
theorem dL_law_546 : decode cL_law 546 = .ok (.iaload, 1) := by decide +kernel
theorem dL_law_547 : decode cL_law 547 = .ok (.invokevirtual 87, 3) := by decide +kernel
theorem dL_law_550 : decode cL_law 550 = .ok (.aload_n 2, 1) := by decide +kernel
theorem dL_law_551 : decode cL_law 551 = .ok (.aload_n 0, 1) := by decide +kernel
theorem dL_law_552 : decode cL_law 552 = .ok (.iload 4, 2) := by decide +kernel
theorem dL_law_554 : decode cL_law 554 = .ok (.iconst 1, 1) := by decide +kernel
theorem dL_law_555 : decode cL_law 555 = .ok (.iadd, 1) := by decide +kernel
theorem dL_law_556 : decode cL_law 556 = .ok (.iaload, 1) := by decide +kernel
theorem dL_law_557 : decode cL_law 557 = .ok (.invokevirtual 90, 3) := by decide +kernel
theorem dL_law_560 : decode cL_law 560 = .ok (.if_icmp .eq 5, 3) := by decide +kernel
theorem dL_law_563 : decode cL_law 563 = .ok (.iconst 0, 1) := by decide +kernel
theorem dL_law_564 : decode cL_law 564 = .ok (.ireturn, 1) := by decide +kernel
theorem dL_law_565 : decode cL_law 565 = .ok (.iinc 4 8, 3) := by decide +kernel
theorem dL_law_568 : decode cL_law 568 = .ok (.goto (-535), 3) := by decide +kernel
theorem dL_law_571 : decode cL_law 571 = .ok (.iconst 1, 1) := by decide +kernel
theorem dL_law_572 : decode cL_law 572 = .ok (.ireturn, 1) := by decide +kernel
end
section
theorem dX0_init_0 : decode cX0_init 0 = .ok (.aload_n 0, 1) := by decide +kernel
theorem dX0_init_1 : decode cX0_init 1 = .ok (.invokespecial 3, 3) := by decide +kernel
theorem dX0_init_4 : decode cX0_init 4 = .ok (.return_, 1) := by decide +kernel
theorem dX0_compile_0 : decode cX0_compile 0 = .ok (.aload_n 0, 1) := by decide +kernel
theorem dX0_compile_1 : decode cX0_compile 1 = .ok (.aload_n 1, 1) := by decide +kernel
theorem dX0_compile_2 : decode cX0_compile 2 = .ok (.putfield 9, 3) := by decide +kernel
theorem dX0_compile_5 : decode cX0_compile 5 = .ok (.aload_n 0, 1) := by decide +kernel
theorem dX0_compile_6 : decode cX0_compile 6 = .ok (.iload_n 2, 1) := by decide +kernel
theorem dX0_compile_7 : decode cX0_compile 7 = .ok (.putfield 15, 3) := by decide +kernel
theorem dX0_compile_10 : decode cX0_compile 10 = .ok (.aload_n 0, 1) := by decide +kernel
theorem dX0_compile_11 : decode cX0_compile 11 = .ok (.iconst 0, 1) := by decide +kernel
theorem dX0_compile_12 : decode cX0_compile 12 = .ok (.putfield 19, 3) := by decide +kernel
theorem dX0_compile_15 : decode cX0_compile 15 = .ok (.aload_n 0, 1) := by decide +kernel
theorem dX0_compile_16 : decode cX0_compile 16 = .ok (.aload_n 3, 1) := by decide +kernel
theorem dX0_compile_17 : decode cX0_compile 17 = .ok (.putfield 22, 3) := by decide +kernel
theorem dX0_compile_20 : decode cX0_compile 20 = .ok (.aload_n 0, 1) := by decide +kernel
theorem dX0_compile_21 : decode cX0_compile 21 = .ok (.getfield 22, 3) := by decide +kernel
theorem dX0_compile_24 : decode cX0_compile 24 = .ok (.iconst 0, 1) := by decide +kernel
theorem dX0_compile_25 : decode cX0_compile 25 = .ok (.putfield 26, 3) := by decide +kernel
theorem dX0_compile_28 : decode cX0_compile 28 = .ok (.aload_n 0, 1) := by decide +kernel
theorem dX0_compile_29 : decode cX0_compile 29 = .ok (.getfield 22, 3) := by decide +kernel
theorem dX0_compile_32 : decode cX0_compile 32 = .ok (.iconst 0, 1) := by decide +kernel
theorem dX0_compile_33 : decode cX0_compile 33 = .ok (.putfield 31, 3) := by decide +kernel
theorem dX0_compile_36 : decode cX0_compile 36 = .ok (.aload_n 0, 1) := by decide +kernel
theorem dX0_compile_37 : decode cX0_compile 37 = .ok (.iconst 0, 1) := by decide +kernel
theorem dX0_compile_38 : decode cX0_compile 38 = .ok (.putfield 34, 3) := by decide +kernel
theorem dX0_compile_41 : decode cX0_compile 41 = .ok (.aload_n 0, 1) := by decide +kernel
theorem dX0_compile_42 : decode cX0_compile 42 = .ok (.iconst 0, 1) := by decide +kernel
theorem dX0_compile_43 : decode cX0_compile 43 = .ok (.putfield 38, 3) := by decide +kernel
theorem dX0_compile_46 : decode cX0_compile 46 = .ok (.aload_n 0, 1) := by decide +kernel
theorem dX0_compile_47 : decode cX0_compile 47 = .ok (.invokevirtual 41, 3) := by decide +kernel
theorem dX0_compile_50 : decode cX0_compile 50 = .ok (.iconst 0, 1) := by decide +kernel
theorem dX0_compile_51 : decode cX0_compile 51 = .ok (.istore 4, 2) := by decide +kernel
theorem dX0_compile_53 : decode cX0_compile 53 = .ok (.iload 4, 2) := by decide +kernel
theorem dX0_compile_55 : decode cX0_compile 55 = .ok (.aload_n 0, 1) := by decide +kernel
theorem dX0_compile_56 : decode cX0_compile 56 = .ok (.getfield 22, 3) := by decide +kernel
theorem dX0_compile_59 : decode cX0_compile 59 = .ok (.getfield 26, 3) := by decide +kernel
theorem dX0_compile_62 : decode cX0_compile 62 = .ok (.if_icmp .ge 47, 3) := by decide +kernel
theorem dX0_compile_65 : decode cX0_compile 65 = .ok (.aload_n 0, 1) := by decide +kernel
theorem dX0_compile_66 : decode cX0_compile 66 = .ok (.getfield 34, 3) := by decide +kernel
theorem dX0_compile_69 : decode cX0_compile 69 = .ok (.ifCond .ne 40, 3) := by decide +kernel
theorem dX0_compile_72 : decode cX0_compile 72 = .ok (.aload_n 0, 1) := by decide +kernel
theorem dX0_compile_73 : decode cX0_compile 73 = .ok (.getfield 22, 3) := by decide +kernel
theorem dX0_compile_76 : decode cX0_compile 76 = .ok (.getfield 44, 3) := by decide +kernel
theorem dX0_compile_79 : decode cX0_compile 79 = .ok (.iload 4, 2) := by decide +kernel
theorem dX0_compile_81 : decode cX0_compile 81 = .ok (.aaload, 1) := by decide +kernel
theorem dX0_compile_82 : decode cX0_compile 82 = .ok (.getfield 48, 3) := by decide +kernel
theorem dX0_compile_85 : decode cX0_compile 85 = .ok (.iconst (-1), 1) := by decide +kernel
theorem dX0_compile_86 : decode cX0_compile 86 = .ok (.if_icmp .ne 17, 3) := by decide +kernel
theorem dX0_compile_89 : decode cX0_compile 89 = .ok (.aload_n 0, 1) := by decide +kernel
theorem dX0_compile_90 : decode cX0_compile 90 = .ok (.aload_n 0, 1) := by decide +kernel
theorem dX0_compile_91 : decode cX0_compile 91 = .ok (.getfield 22, 3) := by decide +kernel
theorem dX0_compile_94 : decode cX0_compile 94 = .ok (.getfield 44, 3) := by decide +kernel
theorem dX0_compile_97 : decode cX0_compile 97 = .ok (.iload 4, 2) := by decide +kernel
theorem dX0_compile_99 : decode cX0_compile 99 = .ok (.aaload, 1) := by decide +kernel
theorem dX0_compile_100 : decode cX0_compile 100 = .ok (.invokevirtual 53, 3) := by decide +kernel
theorem dX0_compile_103 : decode cX0_compile 103 = .ok (.iinc 4 1, 3) := by decide +kernel
theorem dX0_compile_106 : decode cX0_compile 106 = .ok (.goto (-53), 3) := by decide +kernel
theorem dX0_compile_109 : decode cX0_compile 109 = .ok (.aload_n 0, 1) := by decide +kernel
theorem dX0_compile_110 : decode cX0_compile 110 = .ok (.getfield 34, 3) := by decide +kernel
theorem dX0_compile_113 : decode cX0_compile 113 = .ok (.ifCond .eq 5, 3) := by decide +kernel
theorem dX0_compile_116 : decode cX0_compile 116 = .ok (.iconst 1, 1) := by decide +kernel
theorem dX0_compile_117 : decode cX0_compile 117 = .ok (.ireturn, 1) := by decide +kernel
theorem dX0_compile_118 : decode cX0_compile 118 = .ok (.aload_n 0, 1) := by decide +kernel
theorem dX0_compile_119 : decode cX0_compile 119 = .ok (.getfield 38, 3) := by decide +kernel
theorem dX0_compile_122 : decode cX0_compile 122 = .ok (.ifCond .eq 7, 3) := by decide +kernel
theorem dX0_compile_125 : decode cX0_compile 125 = .ok (.iconst 2, 1) := by decide +kernel
theorem dX0_compile_126 : decode cX0_compile 126 = .ok (.goto 4, 3) := by decide +kernel
theorem dX0_compile_129 : decode cX0_compile 129 = .ok (.iconst 0, 1) := by decide +kernel
theorem dX0_compile_130 : decode cX0_compile 130 = .ok (.ireturn, 1) := by decide +kernel
theorem dX0_readHeads_0 : decode cX0_readHeads 0 = .ok (.aload_n 0, 1) := by decide +kernel
theorem dX0_readHeads_1 : decode cX0_readHeads 1 = .ok (.getfield 22, 3) := by decide +kernel
theorem dX0_readHeads_4 : decode cX0_readHeads 4 = .ok (.aload_n 0, 1) := by decide +kernel
theorem dX0_readHeads_5 : decode cX0_readHeads 5 = .ok (.bipush 65, 2) := by decide +kernel
theorem dX0_readHeads_7 : decode cX0_readHeads 7 = .ok (.bipush 70, 2) := by decide +kernel
theorem dX0_readHeads_9 : decode cX0_readHeads 9 = .ok (.invokevirtual 57, 3) := by decide +kernel
theorem dX0_readHeads_12 : decode cX0_readHeads 12 = .ok (.putfield 61, 3) := by decide +kernel
theorem dX0_readHeads_15 : decode cX0_readHeads 15 = .ok (.iconst 0, 1) := by decide +kernel
theorem dX0_readHeads_16 : decode cX0_readHeads 16 = .ok (.istore_n 1, 1) := by decide +kernel
theorem dX0_readHeads_17 : decode cX0_readHeads 17 = .ok (.iload_n 1, 1) := by decide +kernel
theorem dX0_readHeads_18 : decode cX0_readHeads 18 = .ok (.bipush 6, 2) := by decide +kernel
theorem dX0_readHeads_20 : decode cX0_readHeads 20 = .ok (.if_icmp .ge 51, 3) := by decide +kernel
theorem dX0_readHeads_23 : decode cX0_readHeads 23 = .ok (.iload_n 1, 1) := by decide +kernel
theorem dX0_readHeads_24 : decode cX0_readHeads 24 = .ok (.ifCond .eq 12, 3) := by decide +kernel
theorem dX0_readHeads_27 : decode cX0_readHeads 27 = .ok (.aload_n 0, 1) := by decide +kernel
theorem dX0_readHeads_28 : decode cX0_readHeads 28 = .ok (.invokevirtual 64, 3) := by decide +kernel
theorem dX0_readHeads_31 : decode cX0_readHeads 31 = .ok (.bipush 59, 2) := by decide +kernel
theorem dX0_readHeads_33 : decode cX0_readHeads 33 = .ok (.if_icmp .ne 38, 3) := by decide +kernel
theorem dX0_readHeads_36 : decode cX0_readHeads 36 = .ok (.aload_n 0, 1) := by decide +kernel
theorem dX0_readHeads_37 : decode cX0_readHeads 37 = .ok (.bipush 59, 2) := by decide +kernel
theorem dX0_readHeads_39 : decode cX0_readHeads 39 = .ok (.invokevirtual 68, 3) := by decide +kernel
theorem dX0_readHeads_42 : decode cX0_readHeads 42 = .ok (.aload_n 0, 1) := by decide +kernel
theorem dX0_readHeads_43 : decode cX0_readHeads 43 = .ok (.aload_n 0, 1) := by decide +kernel
theorem dX0_readHeads_44 : decode cX0_readHeads 44 = .ok (.getfield 22, 3) := by decide +kernel
theorem dX0_readHeads_47 : decode cX0_readHeads 47 = .ok (.getfield 44, 3) := by decide +kernel
theorem dX0_readHeads_50 : decode cX0_readHeads 50 = .ok (.iload_n 1, 1) := by decide +kernel
theorem dX0_readHeads_51 : decode cX0_readHeads 51 = .ok (.aaload, 1) := by decide +kernel
theorem dX0_readHeads_52 : decode cX0_readHeads 52 = .ok (.invokevirtual 72, 3) := by decide +kernel
theorem dX0_readHeads_55 : decode cX0_readHeads 55 = .ok (.aload_n 0, 1) := by decide +kernel
theorem dX0_readHeads_56 : decode cX0_readHeads 56 = .ok (.getfield 22, 3) := by decide +kernel
theorem dX0_readHeads_59 : decode cX0_readHeads 59 = .ok (.iload_n 1, 1) := by decide +kernel
theorem dX0_readHeads_60 : decode cX0_readHeads 60 = .ok (.iconst 1, 1) := by decide +kernel
theorem dX0_readHeads_61 : decode cX0_readHeads 61 = .ok (.iadd, 1) := by decide +kernel
theorem dX0_readHeads_62 : decode cX0_readHeads 62 = .ok (.putfield 26, 3) := by decide +kernel
theorem dX0_readHeads_65 : decode cX0_readHeads 65 = .ok (.iinc 1 1, 3) := by decide +kernel
theorem dX0_readHeads_68 : decode cX0_readHeads 68 = .ok (.goto (-51), 3) := by decide +kernel
theorem dX0_readHeads_71 : decode cX0_readHeads 71 = .ok (.aload_n 0, 1) := by decide +kernel
theorem dX0_readHeads_72 : decode cX0_readHeads 72 = .ok (.invokevirtual 64, 3) := by decide +kernel
theorem dX0_readHeads_75 : decode cX0_readHeads 75 = .ok (.ifCond .eq 8, 3) := by decide +kernel
theorem dX0_readHeads_78 : decode cX0_readHeads 78 = .ok (.aload_n 0, 1) := by decide +kernel
theorem dX0_readHeads_79 : decode cX0_readHeads 79 = .ok (.invokevirtual 75, 3) := by decide +kernel
theorem dX0_readHeads_82 : decode cX0_readHeads 82 = .ok (.pop, 1) := by decide +kernel
theorem dX0_readHeads_83 : decode cX0_readHeads 83 = .ok (.return_, 1) := by decide +kernel
theorem dX0_readHead_0 : decode cX0_readHead 0 = .ok (.aload_n 1, 1) := by decide +kernel
theorem dX0_readHead_1 : decode cX0_readHead 1 = .ok (.iconst (-1), 1) := by decide +kernel
theorem dX0_readHead_2 : decode cX0_readHead 2 = .ok (.putfield 48, 3) := by decide +kernel
theorem dX0_readHead_5 : decode cX0_readHead 5 = .ok (.aload_n 1, 1) := by decide +kernel
theorem dX0_readHead_6 : decode cX0_readHead 6 = .ok (.iconst 0, 1) := by decide +kernel
theorem dX0_readHead_7 : decode cX0_readHead 7 = .ok (.putfield 79, 3) := by decide +kernel
theorem dX0_readHead_10 : decode cX0_readHead 10 = .ok (.aload_n 0, 1) := by decide +kernel
theorem dX0_readHead_11 : decode cX0_readHead 11 = .ok (.bipush 63, 2) := by decide +kernel
theorem dX0_readHead_13 : decode cX0_readHead 13 = .ok (.invokevirtual 82, 3) := by decide +kernel
theorem dX0_readHead_16 : decode cX0_readHead 16 = .ok (.ifCond .eq 24, 3) := by decide +kernel
theorem dX0_readHead_19 : decode cX0_readHead 19 = .ok (.aload_n 1, 1) := by decide +kernel
theorem dX0_readHead_20 : decode cX0_readHead 20 = .ok (.aload_n 0, 1) := by decide +kernel
theorem dX0_readHead_21 : decode cX0_readHead 21 = .ok (.bipush 65, 2) := by decide +kernel
theorem dX0_readHead_23 : decode cX0_readHead 23 = .ok (.bipush 70, 2) := by decide +kernel
theorem dX0_readHead_25 : decode cX0_readHead 25 = .ok (.invokevirtual 57, 3) := by decide +kernel
theorem dX0_readHead_28 : decode cX0_readHead 28 = .ok (.putfield 48, 3) := by decide +kernel
theorem dX0_readHead_31 : decode cX0_readHead 31 = .ok (.aload_n 0, 1) := by decide +kernel
theorem dX0_readHead_32 : decode cX0_readHead 32 = .ok (.bipush 46, 2) := by decide +kernel
theorem dX0_readHead_34 : decode cX0_readHead 34 = .ok (.invokevirtual 68, 3) := by decide +kernel
theorem dX0_readHead_37 : decode cX0_readHead 37 = .ok (.goto 13, 3) := by decide +kernel
theorem dX0_readHead_40 : decode cX0_readHead 40 = .ok (.aload_n 1, 1) := by decide +kernel
theorem dX0_readHead_41 : decode cX0_readHead 41 = .ok (.aload_n 0, 1) := by decide +kernel
theorem dX0_readHead_42 : decode cX0_readHead 42 = .ok (.bipush 43, 2) := by decide +kernel
theorem dX0_readHead_44 : decode cX0_readHead 44 = .ok (.invokevirtual 82, 3) := by decide +kernel
theorem dX0_readHead_47 : decode cX0_readHead 47 = .ok (.putfield 79, 3) := by decide +kernel
theorem dX0_readHead_50 : decode cX0_readHead 50 = .ok (.aload_n 1, 1) := by decide +kernel
theorem dX0_readHead_51 : decode cX0_readHead 51 = .ok (.aload_n 0, 1) := by decide +kernel
theorem dX0_readHead_52 : decode cX0_readHead 52 = .ok (.bipush 97, 2) := by decide +kernel
theorem dX0_readHead_54 : decode cX0_readHead 54 = .ok (.bipush 122, 2) := by decide +kernel
theorem dX0_readHead_56 : decode cX0_readHead 56 = .ok (.invokevirtual 57, 3) := by decide +kernel
theorem dX0_readHead_59 : decode cX0_readHead 59 = .ok (.putfield 86, 3) := by decide +kernel
theorem dX0_readHead_62 : decode cX0_readHead 62 = .ok (.aload_n 0, 1) := by decide +kernel
theorem dX0_readHead_63 : decode cX0_readHead 63 = .ok (.getfield 22, 3) := by decide +kernel
theorem dX0_readHead_66 : decode cX0_readHead 66 = .ok (.aload_n 1, 1) := by decide +kernel
theorem dX0_readHead_67 : decode cX0_readHead 67 = .ok (.getfield 48, 3) := by decide +kernel
theorem dX0_readHead_70 : decode cX0_readHead 70 = .ok (.aload_n 1, 1) := by decide +kernel
theorem dX0_readHead_71 : decode cX0_readHead 71 = .ok (.getfield 86, 3) := by decide +kernel
theorem dX0_readHead_74 : decode cX0_readHead 74 = .ok (.invokevirtual 87, 3) := by decide +kernel
theorem dX0_readHead_77 : decode cX0_readHead 77 = .ok (.ifnull 8, 3) := by decide +kernel
theorem dX0_readHead_80 : decode cX0_readHead 80 = .ok (.aload_n 0, 1) := by decide +kernel
theorem dX0_readHead_81 : decode cX0_readHead 81 = .ok (.invokevirtual 75, 3) := by decide +kernel
theorem dX0_readHead_84 : decode cX0_readHead 84 = .ok (.pop, 1) := by decide +kernel
theorem dX0_readHead_85 : decode cX0_readHead 85 = .ok (.aload_n 1, 1) := by decide +kernel
theorem dX0_readHead_86 : decode cX0_readHead 86 = .ok (.aload_n 0, 1) := by decide +kernel
theorem dX0_readHead_87 : decode cX0_readHead 87 = .ok (.invokevirtual 91, 3) := by decide +kernel
theorem dX0_readHead_90 : decode cX0_readHead 90 = .ok (.putfield 94, 3) := by decide +kernel
theorem dX0_readHead_93 : decode cX0_readHead 93 = .ok (.aload_n 1, 1) := by decide +kernel
theorem dX0_readHead_94 : decode cX0_readHead 94 = .ok (.aload_n 1, 1) := by decide +kernel
theorem dX0_readHead_95 : decode cX0_readHead 95 = .ok (.getfield 94, 3) := by decide +kernel
theorem dX0_readHead_98 : decode cX0_readHead 98 = .ok (.iconst 4, 1) := by decide +kernel
theorem dX0_readHead_99 : decode cX0_readHead 99 = .ok (.invokestatic 97, 3) := by decide +kernel
theorem dX0_readHead_102 : decode cX0_readHead 102 = .ok (.putfield 101, 3) := by decide +kernel
theorem dX0_readHead_105 : decode cX0_readHead 105 = .ok (.aload_n 1, 1) := by decide +kernel
theorem dX0_readHead_106 : decode cX0_readHead 106 = .ok (.getfield 48, 3) := by decide +kernel
theorem dX0_readHead_109 : decode cX0_readHead 109 = .ok (.iconst (-1), 1) := by decide +kernel
theorem dX0_readHead_110 : decode cX0_readHead 110 = .ok (.if_icmp .ne 21, 3) := by decide +kernel
theorem dX0_readHead_113 : decode cX0_readHead 113 = .ok (.aload_n 0, 1) := by decide +kernel
theorem dX0_readHead_114 : decode cX0_readHead 114 = .ok (.bipush 61, 2) := by decide +kernel
theorem dX0_readHead_116 : decode cX0_readHead 116 = .ok (.invokevirtual 68, 3) := by decide +kernel
theorem dX0_readHead_119 : decode cX0_readHead 119 = .ok (.aload_n 1, 1) := by decide +kernel
theorem dX0_readHead_120 : decode cX0_readHead 120 = .ok (.aload_n 0, 1) := by decide +kernel
theorem dX0_readHead_121 : decode cX0_readHead 121 = .ok (.getfield 19, 3) := by decide +kernel
theorem dX0_readHead_124 : decode cX0_readHead 124 = .ok (.putfield 104, 3) := by decide +kernel
theorem dX0_readHead_127 : decode cX0_readHead 127 = .ok (.aload_n 0, 1) := by decide +kernel
theorem dX0_readHead_128 : decode cX0_readHead 128 = .ok (.invokevirtual 107, 3) := by decide +kernel
theorem dX0_readHead_131 : decode cX0_readHead 131 = .ok (.return_, 1) := by decide +kernel
theorem dX0_skipBody_0 : decode cX0_skipBody 0 = .ok (.aload_n 0, 1) := by decide +kernel
theorem dX0_skipBody_1 : decode cX0_skipBody 1 = .ok (.getfield 19, 3) := by decide +kernel
theorem dX0_skipBody_4 : decode cX0_skipBody 4 = .ok (.istore_n 1, 1) := by decide +kernel
theorem dX0_skipBody_5 : decode cX0_skipBody 5 = .ok (.iload_n 1, 1) := by decide +kernel
theorem dX0_skipBody_6 : decode cX0_skipBody 6 = .ok (.aload_n 0, 1) := by decide +kernel
theorem dX0_skipBody_7 : decode cX0_skipBody 7 = .ok (.getfield 15, 3) := by decide +kernel
theorem dX0_skipBody_10 : decode cX0_skipBody 10 = .ok (.if_icmp .ge 27, 3) := by decide +kernel
theorem dX0_skipBody_13 : decode cX0_skipBody 13 = .ok (.aload_n 0, 1) := by decide +kernel
theorem dX0_skipBody_14 : decode cX0_skipBody 14 = .ok (.getfield 9, 3) := by decide +kernel
theorem dX0_skipBody_17 : decode cX0_skipBody 17 = .ok (.iload_n 1, 1) := by decide +kernel
theorem dX0_skipBody_18 : decode cX0_skipBody 18 = .ok (.caload, 1) := by decide +kernel
theorem dX0_skipBody_19 : decode cX0_skipBody 19 = .ok (.bipush 59, 2) := by decide +kernel
theorem dX0_skipBody_21 : decode cX0_skipBody 21 = .ok (.if_icmp .eq 16, 3) := by decide +kernel
theorem dX0_skipBody_24 : decode cX0_skipBody 24 = .ok (.aload_n 0, 1) := by decide +kernel
theorem dX0_skipBody_25 : decode cX0_skipBody 25 = .ok (.iload_n 1, 1) := by decide +kernel
theorem dX0_skipBody_26 : decode cX0_skipBody 26 = .ok (.iconst 1, 1) := by decide +kernel
theorem dX0_skipBody_27 : decode cX0_skipBody 27 = .ok (.iadd, 1) := by decide +kernel
theorem dX0_skipBody_28 : decode cX0_skipBody 28 = .ok (.putfield 19, 3) := by decide +kernel
theorem dX0_skipBody_31 : decode cX0_skipBody 31 = .ok (.iinc 1 1, 3) := by decide +kernel
theorem dX0_skipBody_34 : decode cX0_skipBody 34 = .ok (.goto (-29), 3) := by decide +kernel
theorem dX0_skipBody_37 : decode cX0_skipBody 37 = .ok (.return_, 1) := by decide +kernel
theorem dX0_readSignature_0 : decode cX0_readSignature 0 = .ok (.iconst 0, 1) := by decide +kernel
theorem dX0_readSignature_1 : decode cX0_readSignature 1 = .ok (.istore_n 1, 1) := by decide +kernel
theorem dX0_readSignature_2 : decode cX0_readSignature 2 = .ok (.aload_n 0, 1) := by decide +kernel
theorem dX0_readSignature_3 : decode cX0_readSignature 3 = .ok (.bipush 40, 2) := by decide +kernel
theorem dX0_readSignature_5 : decode cX0_readSignature 5 = .ok (.invokevirtual 68, 3) := by decide +kernel
theorem dX0_readSignature_8 : decode cX0_readSignature 8 = .ok (.iconst 1, 1) := by decide +kernel
theorem dX0_readSignature_9 : decode cX0_readSignature 9 = .ok (.istore_n 2, 1) := by decide +kernel
theorem dX0_readSignature_10 : decode cX0_readSignature 10 = .ok (.iload_n 2, 1) := by decide +kernel
theorem dX0_readSignature_11 : decode cX0_readSignature 11 = .ok (.iconst 3, 1) := by decide +kernel
theorem dX0_readSignature_12 : decode cX0_readSignature 12 = .ok (.if_icmp .gt 29, 3) := by decide +kernel
theorem dX0_readSignature_15 : decode cX0_readSignature 15 = .ok (.aload_n 0, 1) := by decide +kernel
theorem dX0_readSignature_16 : decode cX0_readSignature 16 = .ok (.invokevirtual 64, 3) := by decide +kernel
theorem dX0_readSignature_19 : decode cX0_readSignature 19 = .ok (.bipush 41, 2) := by decide +kernel
theorem dX0_readSignature_21 : decode cX0_readSignature 21 = .ok (.if_icmp .eq 20, 3) := by decide +kernel
theorem dX0_readSignature_24 : decode cX0_readSignature 24 = .ok (.iload_n 1, 1) := by decide +kernel
theorem dX0_readSignature_25 : decode cX0_readSignature 25 = .ok (.aload_n 0, 1) := by decide +kernel
theorem dX0_readSignature_26 : decode cX0_readSignature 26 = .ok (.invokevirtual 110, 3) := by decide +kernel
theorem dX0_readSignature_29 : decode cX0_readSignature 29 = .ok (.iconst 2, 1) := by decide +kernel
theorem dX0_readSignature_30 : decode cX0_readSignature 30 = .ok (.iload_n 2, 1) := by decide +kernel
theorem dX0_readSignature_31 : decode cX0_readSignature 31 = .ok (.imul, 1) := by decide +kernel
theorem dX0_readSignature_32 : decode cX0_readSignature 32 = .ok (.ishl, 1) := by decide +kernel
theorem dX0_readSignature_33 : decode cX0_readSignature 33 = .ok (.ior, 1) := by decide +kernel
theorem dX0_readSignature_34 : decode cX0_readSignature 34 = .ok (.istore_n 1, 1) := by decide +kernel
theorem dX0_readSignature_35 : decode cX0_readSignature 35 = .ok (.iinc 2 1, 3) := by decide +kernel
theorem dX0_readSignature_38 : decode cX0_readSignature 38 = .ok (.goto (-28), 3) := by decide +kernel
theorem dX0_readSignature_41 : decode cX0_readSignature 41 = .ok (.aload_n 0, 1) := by decide +kernel
theorem dX0_readSignature_42 : decode cX0_readSignature 42 = .ok (.bipush 41, 2) := by decide +kernel
theorem dX0_readSignature_44 : decode cX0_readSignature 44 = .ok (.invokevirtual 68, 3) := by decide +kernel
theorem dX0_readSignature_47 : decode cX0_readSignature 47 = .ok (.iload_n 1, 1) := by decide +kernel
theorem dX0_readSignature_48 : decode cX0_readSignature 48 = .ok (.aload_n 0, 1) := by decide +kernel
theorem dX0_readSignature_49 : decode cX0_readSignature 49 = .ok (.invokevirtual 110, 3) := by decide +kernel
theorem dX0_readSignature_52 : decode cX0_readSignature 52 = .ok (.ior, 1) := by decide +kernel
theorem dX0_readSignature_53 : decode cX0_readSignature 53 = .ok (.ireturn, 1) := by decide +kernel
theorem dX0_readType_0 : decode cX0_readType 0 = .ok (.aload_n 0, 1) := by decide +kernel
theorem dX0_readType_1 : decode cX0_readType 1 = .ok (.bipush 80, 2) := by decide +kernel
theorem dX0_readType_3 : decode cX0_readType 3 = .ok (.invokevirtual 82, 3) := by decide +kernel
theorem dX0_readType_6 : decode cX0_readType 6 = .ok (.ifCond .eq 5, 3) := by decide +kernel
theorem dX0_readType_9 : decode cX0_readType 9 = .ok (.iconst 2, 1) := by decide +kernel
theorem dX0_readType_10 : decode cX0_readType 10 = .ok (.ireturn, 1) := by decide +kernel
theorem dX0_readType_11 : decode cX0_readType 11 = .ok (.aload_n 0, 1) := by decide +kernel
theorem dX0_readType_12 : decode cX0_readType 12 = .ok (.bipush 73, 2) := by decide +kernel
theorem dX0_readType_14 : decode cX0_readType 14 = .ok (.invokevirtual 68, 3) := by decide +kernel
theorem dX0_readType_17 : decode cX0_readType 17 = .ok (.iconst 1, 1) := by decide +kernel
theorem dX0_readType_18 : decode cX0_readType 18 = .ok (.ireturn, 1) := by decide +kernel
theorem dX0_readBody_0 : decode cX0_readBody 0 = .ok (.aload_n 0, 1) := by decide +kernel
theorem dX0_readBody_1 : decode cX0_readBody 1 = .ok (.aload_n 1, 1) := by decide +kernel
theorem dX0_readBody_2 : decode cX0_readBody 2 = .ok (.getfield 104, 3) := by decide +kernel
theorem dX0_readBody_5 : decode cX0_readBody 5 = .ok (.putfield 19, 3) := by decide +kernel
theorem dX0_readBody_8 : decode cX0_readBody 8 = .ok (.aload_n 1, 1) := by decide +kernel
theorem dX0_readBody_9 : decode cX0_readBody 9 = .ok (.aload_n 0, 1) := by decide +kernel
theorem dX0_readBody_10 : decode cX0_readBody 10 = .ok (.getfield 22, 3) := by decide +kernel
theorem dX0_readBody_13 : decode cX0_readBody 13 = .ok (.getfield 31, 3) := by decide +kernel
theorem dX0_readBody_16 : decode cX0_readBody 16 = .ok (.putfield 104, 3) := by decide +kernel
theorem dX0_readBody_19 : decode cX0_readBody 19 = .ok (.aload_n 0, 1) := by decide +kernel
theorem dX0_readBody_20 : decode cX0_readBody 20 = .ok (.aload_n 1, 1) := by decide +kernel
theorem dX0_readBody_21 : decode cX0_readBody 21 = .ok (.getfield 94, 3) := by decide +kernel
theorem dX0_readBody_24 : decode cX0_readBody 24 = .ok (.putfield 113, 3) := by decide +kernel
theorem dX0_readBody_27 : decode cX0_readBody 27 = .ok (.aload_n 0, 1) := by decide +kernel
theorem dX0_readBody_28 : decode cX0_readBody 28 = .ok (.iconst 0, 1) := by decide +kernel
theorem dX0_readBody_29 : decode cX0_readBody 29 = .ok (.putfield 114, 3) := by decide +kernel
theorem dX0_readBody_32 : decode cX0_readBody 32 = .ok (.aload_n 0, 1) := by decide +kernel
theorem dX0_readBody_33 : decode cX0_readBody 33 = .ok (.iconst 0, 1) := by decide +kernel
theorem dX0_readBody_34 : decode cX0_readBody 34 = .ok (.putfield 117, 3) := by decide +kernel
theorem dX0_readBody_37 : decode cX0_readBody 37 = .ok (.aload_n 0, 1) := by decide +kernel
theorem dX0_readBody_38 : decode cX0_readBody 38 = .ok (.aload_n 0, 1) := by decide +kernel
theorem dX0_readBody_39 : decode cX0_readBody 39 = .ok (.getfield 113, 3) := by decide +kernel
theorem dX0_readBody_42 : decode cX0_readBody 42 = .ok (.iconst 0, 1) := by decide +kernel
theorem dX0_readBody_43 : decode cX0_readBody 43 = .ok (.invokestatic 120, 3) := by decide +kernel
theorem dX0_readBody_46 : decode cX0_readBody 46 = .ok (.aload_n 0, 1) := by decide +kernel
theorem dX0_readBody_47 : decode cX0_readBody 47 = .ok (.iconst 0, 1) := by decide +kernel
theorem dX0_readBody_48 : decode cX0_readBody 48 = .ok (.invokevirtual 123, 3) := by decide +kernel
theorem dX0_readBody_51 : decode cX0_readBody 51 = .ok (.invokevirtual 127, 3) := by decide +kernel
theorem dX0_readBody_54 : decode cX0_readBody 54 = .ok (.aload_n 0, 1) := by decide +kernel
theorem dX0_readBody_55 : decode cX0_readBody 55 = .ok (.invokevirtual 64, 3) := by decide +kernel
theorem dX0_readBody_58 : decode cX0_readBody 58 = .ok (.ifCond .eq 17, 3) := by decide +kernel
theorem dX0_readBody_61 : decode cX0_readBody 61 = .ok (.aload_n 0, 1) := by decide +kernel
theorem dX0_readBody_62 : decode cX0_readBody 62 = .ok (.invokevirtual 64, 3) := by decide +kernel
theorem dX0_readBody_65 : decode cX0_readBody 65 = .ok (.bipush 59, 2) := by decide +kernel
theorem dX0_readBody_67 : decode cX0_readBody 67 = .ok (.if_icmp .eq 8, 3) := by decide +kernel
theorem dX0_readBody_70 : decode cX0_readBody 70 = .ok (.aload_n 0, 1) := by decide +kernel
theorem dX0_readBody_71 : decode cX0_readBody 71 = .ok (.invokevirtual 75, 3) := by decide +kernel
theorem dX0_readBody_74 : decode cX0_readBody 74 = .ok (.pop, 1) := by decide +kernel
theorem dX0_readBody_75 : decode cX0_readBody 75 = .ok (.aload_n 0, 1) := by decide +kernel
theorem dX0_readBody_76 : decode cX0_readBody 76 = .ok (.getfield 22, 3) := by decide +kernel
theorem dX0_readBody_79 : decode cX0_readBody 79 = .ok (.bipush 13, 2) := by decide +kernel
theorem dX0_readBody_81 : decode cX0_readBody 81 = .ok (.iconst 0, 1) := by decide +kernel
theorem dX0_readBody_82 : decode cX0_readBody 82 = .ok (.invokevirtual 131, 3) := by decide +kernel
theorem dX0_readBody_85 : decode cX0_readBody 85 = .ok (.pop, 1) := by decide +kernel
theorem dX0_readBody_86 : decode cX0_readBody 86 = .ok (.aload_n 1, 1) := by decide +kernel
theorem dX0_readBody_87 : decode cX0_readBody 87 = .ok (.aload_n 0, 1) := by decide +kernel
theorem dX0_readBody_88 : decode cX0_readBody 88 = .ok (.getfield 117, 3) := by decide +kernel
theorem dX0_readBody_91 : decode cX0_readBody 91 = .ok (.putfield 134, 3) := by decide +kernel
theorem dX0_readBody_94 : decode cX0_readBody 94 = .ok (.return_, 1) := by decide +kernel
theorem dX0_readExpression_0 : decode cX0_readExpression 0 = .ok (.aload_n 0, 1) := by decide +kernel
theorem dX0_readExpression_1 : decode cX0_readExpression 1 = .ok (.iload_n 1, 1) := by decide +kernel
theorem dX0_readExpression_2 : decode cX0_readExpression 2 = .ok (.invokevirtual 135, 3) := by decide +kernel
theorem dX0_readExpression_5 : decode cX0_readExpression 5 = .ok (.istore_n 2, 1) := by decide +kernel
theorem dX0_readExpression_6 : decode cX0_readExpression 6 = .ok (.iconst 0, 1) := by decide +kernel
theorem dX0_readExpression_7 : decode cX0_readExpression 7 = .ok (.istore_n 3, 1) := by decide +kernel
theorem dX0_readExpression_8 : decode cX0_readExpression 8 = .ok (.iload_n 3, 1) := by decide +kernel
theorem dX0_readExpression_9 : decode cX0_readExpression 9 = .ok (.bipush 120, 2) := by decide +kernel
theorem dX0_readExpression_11 : decode cX0_readExpression 11 = .ok (.if_icmp .ge 93, 3) := by decide +kernel
theorem dX0_readExpression_14 : decode cX0_readExpression 14 = .ok (.aload_n 0, 1) := by decide +kernel
theorem dX0_readExpression_15 : decode cX0_readExpression 15 = .ok (.invokevirtual 64, 3) := by decide +kernel
theorem dX0_readExpression_18 : decode cX0_readExpression 18 = .ok (.bipush 43, 2) := by decide +kernel
theorem dX0_readExpression_20 : decode cX0_readExpression 20 = .ok (.if_icmp .eq 12, 3) := by decide +kernel
theorem dX0_readExpression_23 : decode cX0_readExpression 23 = .ok (.aload_n 0, 1) := by decide +kernel
theorem dX0_readExpression_24 : decode cX0_readExpression 24 = .ok (.invokevirtual 64, 3) := by decide +kernel
theorem dX0_readExpression_27 : decode cX0_readExpression 27 = .ok (.bipush 45, 2) := by decide +kernel
theorem dX0_readExpression_29 : decode cX0_readExpression 29 = .ok (.if_icmp .ne 75, 3) := by decide +kernel
theorem dX0_readExpression_32 : decode cX0_readExpression 32 = .ok (.aload_n 0, 1) := by decide +kernel
theorem dX0_readExpression_33 : decode cX0_readExpression 33 = .ok (.invokevirtual 64, 3) := by decide +kernel
theorem dX0_readExpression_36 : decode cX0_readExpression 36 = .ok (.bipush 43, 2) := by decide +kernel
theorem dX0_readExpression_38 : decode cX0_readExpression 38 = .ok (.if_icmp .ne 7, 3) := by decide +kernel
theorem dX0_readExpression_41 : decode cX0_readExpression 41 = .ok (.iconst 5, 1) := by decide +kernel
theorem dX0_readExpression_42 : decode cX0_readExpression 42 = .ok (.goto 5, 3) := by decide +kernel
theorem dX0_readExpression_45 : decode cX0_readExpression 45 = .ok (.bipush 6, 2) := by decide +kernel
theorem dX0_readExpression_47 : decode cX0_readExpression 47 = .ok (.istore 4, 2) := by decide +kernel
theorem dX0_readExpression_49 : decode cX0_readExpression 49 = .ok (.aload_n 0, 1) := by decide +kernel
theorem dX0_readExpression_50 : decode cX0_readExpression 50 = .ok (.dup, 1) := by decide +kernel
theorem dX0_readExpression_51 : decode cX0_readExpression 51 = .ok (.getfield 19, 3) := by decide +kernel
theorem dX0_readExpression_54 : decode cX0_readExpression 54 = .ok (.iconst 1, 1) := by decide +kernel
theorem dX0_readExpression_55 : decode cX0_readExpression 55 = .ok (.iadd, 1) := by decide +kernel
theorem dX0_readExpression_56 : decode cX0_readExpression 56 = .ok (.putfield 19, 3) := by decide +kernel
theorem dX0_readExpression_59 : decode cX0_readExpression 59 = .ok (.aload_n 0, 1) := by decide +kernel
theorem dX0_readExpression_60 : decode cX0_readExpression 60 = .ok (.iconst 1, 1) := by decide +kernel
theorem dX0_readExpression_61 : decode cX0_readExpression 61 = .ok (.iload_n 2, 1) := by decide +kernel
theorem dX0_readExpression_62 : decode cX0_readExpression 62 = .ok (.invokevirtual 127, 3) := by decide +kernel
theorem dX0_readExpression_65 : decode cX0_readExpression 65 = .ok (.aload_n 0, 1) := by decide +kernel
theorem dX0_readExpression_66 : decode cX0_readExpression 66 = .ok (.iconst 1, 1) := by decide +kernel
theorem dX0_readExpression_67 : decode cX0_readExpression 67 = .ok (.invokevirtual 138, 3) := by decide +kernel
theorem dX0_readExpression_70 : decode cX0_readExpression 70 = .ok (.aload_n 0, 1) := by decide +kernel
theorem dX0_readExpression_71 : decode cX0_readExpression 71 = .ok (.iload_n 1, 1) := by decide +kernel
theorem dX0_readExpression_72 : decode cX0_readExpression 72 = .ok (.invokevirtual 135, 3) := by decide +kernel
theorem dX0_readExpression_75 : decode cX0_readExpression 75 = .ok (.istore_n 2, 1) := by decide +kernel
theorem dX0_readExpression_76 : decode cX0_readExpression 76 = .ok (.aload_n 0, 1) := by decide +kernel
theorem dX0_readExpression_77 : decode cX0_readExpression 77 = .ok (.iconst 1, 1) := by decide +kernel
theorem dX0_readExpression_78 : decode cX0_readExpression 78 = .ok (.iload_n 2, 1) := by decide +kernel
theorem dX0_readExpression_79 : decode cX0_readExpression 79 = .ok (.invokevirtual 127, 3) := by decide +kernel
theorem dX0_readExpression_82 : decode cX0_readExpression 82 = .ok (.aload_n 0, 1) := by decide +kernel
theorem dX0_readExpression_83 : decode cX0_readExpression 83 = .ok (.iconst 1, 1) := by decide +kernel
theorem dX0_readExpression_84 : decode cX0_readExpression 84 = .ok (.invokevirtual 142, 3) := by decide +kernel
theorem dX0_readExpression_87 : decode cX0_readExpression 87 = .ok (.aload_n 0, 1) := by decide +kernel
theorem dX0_readExpression_88 : decode cX0_readExpression 88 = .ok (.getfield 22, 3) := by decide +kernel
theorem dX0_readExpression_91 : decode cX0_readExpression 91 = .ok (.iload 4, 2) := by decide +kernel
theorem dX0_readExpression_93 : decode cX0_readExpression 93 = .ok (.iconst 0, 1) := by decide +kernel
theorem dX0_readExpression_94 : decode cX0_readExpression 94 = .ok (.invokevirtual 131, 3) := by decide +kernel
theorem dX0_readExpression_97 : decode cX0_readExpression 97 = .ok (.pop, 1) := by decide +kernel
theorem dX0_readExpression_98 : decode cX0_readExpression 98 = .ok (.iinc 3 1, 3) := by decide +kernel
theorem dX0_readExpression_101 : decode cX0_readExpression 101 = .ok (.goto (-93), 3) := by decide +kernel
theorem dX0_readExpression_104 : decode cX0_readExpression 104 = .ok (.iload_n 2, 1) := by decide +kernel
theorem dX0_readExpression_105 : decode cX0_readExpression 105 = .ok (.ireturn, 1) := by decide +kernel
theorem dX0_readProduct_0 : decode cX0_readProduct 0 = .ok (.aload_n 0, 1) := by decide +kernel
theorem dX0_readProduct_1 : decode cX0_readProduct 1 = .ok (.iload_n 1, 1) := by decide +kernel
theorem dX0_readProduct_2 : decode cX0_readProduct 2 = .ok (.invokevirtual 145, 3) := by decide +kernel
theorem dX0_readProduct_5 : decode cX0_readProduct 5 = .ok (.istore_n 2, 1) := by decide +kernel
theorem dX0_readProduct_6 : decode cX0_readProduct 6 = .ok (.iconst 0, 1) := by decide +kernel
theorem dX0_readProduct_7 : decode cX0_readProduct 7 = .ok (.istore_n 3, 1) := by decide +kernel
theorem dX0_readProduct_8 : decode cX0_readProduct 8 = .ok (.iload_n 3, 1) := by decide +kernel
theorem dX0_readProduct_9 : decode cX0_readProduct 9 = .ok (.bipush 120, 2) := by decide +kernel
theorem dX0_readProduct_11 : decode cX0_readProduct 11 = .ok (.if_icmp .ge 57, 3) := by decide +kernel
theorem dX0_readProduct_14 : decode cX0_readProduct 14 = .ok (.aload_n 0, 1) := by decide +kernel
theorem dX0_readProduct_15 : decode cX0_readProduct 15 = .ok (.bipush 42, 2) := by decide +kernel
theorem dX0_readProduct_17 : decode cX0_readProduct 17 = .ok (.invokevirtual 82, 3) := by decide +kernel
theorem dX0_readProduct_20 : decode cX0_readProduct 20 = .ok (.ifCond .eq 48, 3) := by decide +kernel
theorem dX0_readProduct_23 : decode cX0_readProduct 23 = .ok (.aload_n 0, 1) := by decide +kernel
theorem dX0_readProduct_24 : decode cX0_readProduct 24 = .ok (.iconst 1, 1) := by decide +kernel
theorem dX0_readProduct_25 : decode cX0_readProduct 25 = .ok (.iload_n 2, 1) := by decide +kernel
theorem dX0_readProduct_26 : decode cX0_readProduct 26 = .ok (.invokevirtual 127, 3) := by decide +kernel
theorem dX0_readProduct_29 : decode cX0_readProduct 29 = .ok (.aload_n 0, 1) := by decide +kernel
theorem dX0_readProduct_30 : decode cX0_readProduct 30 = .ok (.iconst 1, 1) := by decide +kernel
theorem dX0_readProduct_31 : decode cX0_readProduct 31 = .ok (.invokevirtual 138, 3) := by decide +kernel
theorem dX0_readProduct_34 : decode cX0_readProduct 34 = .ok (.aload_n 0, 1) := by decide +kernel
theorem dX0_readProduct_35 : decode cX0_readProduct 35 = .ok (.iload_n 1, 1) := by decide +kernel
theorem dX0_readProduct_36 : decode cX0_readProduct 36 = .ok (.invokevirtual 145, 3) := by decide +kernel
theorem dX0_readProduct_39 : decode cX0_readProduct 39 = .ok (.istore_n 2, 1) := by decide +kernel
theorem dX0_readProduct_40 : decode cX0_readProduct 40 = .ok (.aload_n 0, 1) := by decide +kernel
theorem dX0_readProduct_41 : decode cX0_readProduct 41 = .ok (.iconst 1, 1) := by decide +kernel
theorem dX0_readProduct_42 : decode cX0_readProduct 42 = .ok (.iload_n 2, 1) := by decide +kernel
theorem dX0_readProduct_43 : decode cX0_readProduct 43 = .ok (.invokevirtual 127, 3) := by decide +kernel
theorem dX0_readProduct_46 : decode cX0_readProduct 46 = .ok (.aload_n 0, 1) := by decide +kernel
theorem dX0_readProduct_47 : decode cX0_readProduct 47 = .ok (.iconst 1, 1) := by decide +kernel
theorem dX0_readProduct_48 : decode cX0_readProduct 48 = .ok (.invokevirtual 142, 3) := by decide +kernel
theorem dX0_readProduct_51 : decode cX0_readProduct 51 = .ok (.aload_n 0, 1) := by decide +kernel
theorem dX0_readProduct_52 : decode cX0_readProduct 52 = .ok (.getfield 22, 3) := by decide +kernel
theorem dX0_readProduct_55 : decode cX0_readProduct 55 = .ok (.bipush 7, 2) := by decide +kernel
theorem dX0_readProduct_57 : decode cX0_readProduct 57 = .ok (.iconst 0, 1) := by decide +kernel
theorem dX0_readProduct_58 : decode cX0_readProduct 58 = .ok (.invokevirtual 131, 3) := by decide +kernel
theorem dX0_readProduct_61 : decode cX0_readProduct 61 = .ok (.pop, 1) := by decide +kernel
theorem dX0_readProduct_62 : decode cX0_readProduct 62 = .ok (.iinc 3 1, 3) := by decide +kernel
theorem dX0_readProduct_65 : decode cX0_readProduct 65 = .ok (.goto (-57), 3) := by decide +kernel
theorem dX0_readProduct_68 : decode cX0_readProduct 68 = .ok (.iload_n 2, 1) := by decide +kernel
theorem dX0_readProduct_69 : decode cX0_readProduct 69 = .ok (.ireturn, 1) := by decide +kernel
theorem dX0_readFactor_0 : decode cX0_readFactor 0 = .ok (.aload_n 0, 1) := by decide +kernel
theorem dX0_readFactor_1 : decode cX0_readFactor 1 = .ok (.iload_n 1, 1) := by decide +kernel
theorem dX0_readFactor_2 : decode cX0_readFactor 2 = .ok (.invokevirtual 148, 3) := by decide +kernel
theorem dX0_readFactor_5 : decode cX0_readFactor 5 = .ok (.istore_n 2, 1) := by decide +kernel
theorem dX0_readFactor_6 : decode cX0_readFactor 6 = .ok (.aload_n 0, 1) := by decide +kernel
theorem dX0_readFactor_7 : decode cX0_readFactor 7 = .ok (.bipush 46, 2) := by decide +kernel
theorem dX0_readFactor_9 : decode cX0_readFactor 9 = .ok (.invokevirtual 82, 3) := by decide +kernel
theorem dX0_readFactor_12 : decode cX0_readFactor 12 = .ok (.ifCond .ne 5, 3) := by decide +kernel
theorem dX0_readFactor_15 : decode cX0_readFactor 15 = .ok (.iload_n 2, 1) := by decide +kernel
theorem dX0_readFactor_16 : decode cX0_readFactor 16 = .ok (.ireturn, 1) := by decide +kernel
theorem dX0_readFactor_17 : decode cX0_readFactor 17 = .ok (.aload_n 0, 1) := by decide +kernel
theorem dX0_readFactor_18 : decode cX0_readFactor 18 = .ok (.iconst 2, 1) := by decide +kernel
theorem dX0_readFactor_19 : decode cX0_readFactor 19 = .ok (.iload_n 2, 1) := by decide +kernel
theorem dX0_readFactor_20 : decode cX0_readFactor 20 = .ok (.invokevirtual 127, 3) := by decide +kernel
theorem dX0_readFactor_23 : decode cX0_readFactor 23 = .ok (.aload_n 0, 1) := by decide +kernel
theorem dX0_readFactor_24 : decode cX0_readFactor 24 = .ok (.bipush 48, 2) := by decide +kernel
theorem dX0_readFactor_26 : decode cX0_readFactor 26 = .ok (.invokevirtual 82, 3) := by decide +kernel
theorem dX0_readFactor_29 : decode cX0_readFactor 29 = .ok (.ifCond .ne 20, 3) := by decide +kernel
theorem dX0_readFactor_32 : decode cX0_readFactor 32 = .ok (.aload_n 0, 1) := by decide +kernel
theorem dX0_readFactor_33 : decode cX0_readFactor 33 = .ok (.bipush 49, 2) := by decide +kernel
theorem dX0_readFactor_35 : decode cX0_readFactor 35 = .ok (.invokevirtual 68, 3) := by decide +kernel
theorem dX0_readFactor_38 : decode cX0_readFactor 38 = .ok (.aload_n 0, 1) := by decide +kernel
theorem dX0_readFactor_39 : decode cX0_readFactor 39 = .ok (.getfield 22, 3) := by decide +kernel
theorem dX0_readFactor_42 : decode cX0_readFactor 42 = .ok (.bipush 9, 2) := by decide +kernel
theorem dX0_readFactor_44 : decode cX0_readFactor 44 = .ok (.iconst 0, 1) := by decide +kernel
theorem dX0_readFactor_45 : decode cX0_readFactor 45 = .ok (.invokevirtual 131, 3) := by decide +kernel
theorem dX0_readFactor_48 : decode cX0_readFactor 48 = .ok (.pop, 1) := by decide +kernel
theorem dX0_readFactor_49 : decode cX0_readFactor 49 = .ok (.iconst 1, 1) := by decide +kernel
theorem dX0_readFactor_50 : decode cX0_readFactor 50 = .ok (.ireturn, 1) := by decide +kernel
theorem dX0_readWhole_0 : decode cX0_readWhole 0 = .ok (.aload_n 0, 1) := by decide +kernel
theorem dX0_readWhole_1 : decode cX0_readWhole 1 = .ok (.invokevirtual 64, 3) := by decide +kernel
theorem dX0_readWhole_4 : decode cX0_readWhole 4 = .ok (.istore_n 2, 1) := by decide +kernel
theorem dX0_readWhole_5 : decode cX0_readWhole 5 = .ok (.iload_n 2, 1) := by decide +kernel
theorem dX0_readWhole_6 : decode cX0_readWhole 6 = .ok (.bipush 48, 2) := by decide +kernel
theorem dX0_readWhole_8 : decode cX0_readWhole 8 = .ok (.bipush 57, 2) := by decide +kernel
theorem dX0_readWhole_10 : decode cX0_readWhole 10 = .ok (.invokestatic 151, 3) := by decide +kernel
theorem dX0_readWhole_13 : decode cX0_readWhole 13 = .ok (.ifCond .eq 8, 3) := by decide +kernel
theorem dX0_readWhole_16 : decode cX0_readWhole 16 = .ok (.aload_n 0, 1) := by decide +kernel
theorem dX0_readWhole_17 : decode cX0_readWhole 17 = .ok (.invokevirtual 155, 3) := by decide +kernel
theorem dX0_readWhole_20 : decode cX0_readWhole 20 = .ok (.ireturn, 1) := by decide +kernel
theorem dX0_readWhole_21 : decode cX0_readWhole 21 = .ok (.iload_n 2, 1) := by decide +kernel
theorem dX0_readWhole_22 : decode cX0_readWhole 22 = .ok (.bipush 36, 2) := by decide +kernel
theorem dX0_readWhole_24 : decode cX0_readWhole 24 = .ok (.if_icmp .ne 8, 3) := by decide +kernel
theorem dX0_readWhole_27 : decode cX0_readWhole 27 = .ok (.aload_n 0, 1) := by decide +kernel
theorem dX0_readWhole_28 : decode cX0_readWhole 28 = .ok (.invokevirtual 158, 3) := by decide +kernel
theorem dX0_readWhole_31 : decode cX0_readWhole 31 = .ok (.ireturn, 1) := by decide +kernel
theorem dX0_readWhole_32 : decode cX0_readWhole 32 = .ok (.iload_n 1, 1) := by decide +kernel
theorem dX0_readWhole_33 : decode cX0_readWhole 33 = .ok (.bipush 8, 2) := by decide +kernel
theorem dX0_readWhole_35 : decode cX0_readWhole 35 = .ok (.if_icmp .lt 8, 3) := by decide +kernel
theorem dX0_readWhole_38 : decode cX0_readWhole 38 = .ok (.aload_n 0, 1) := by decide +kernel
theorem dX0_readWhole_39 : decode cX0_readWhole 39 = .ok (.invokevirtual 75, 3) := by decide +kernel
theorem dX0_readWhole_42 : decode cX0_readWhole 42 = .ok (.ireturn, 1) := by decide +kernel
theorem dX0_readWhole_43 : decode cX0_readWhole 43 = .ok (.iload_n 2, 1) := by decide +kernel
theorem dX0_readWhole_44 : decode cX0_readWhole 44 = .ok (.bipush 97, 2) := by decide +kernel
theorem dX0_readWhole_46 : decode cX0_readWhole 46 = .ok (.bipush 122, 2) := by decide +kernel
theorem dX0_readWhole_48 : decode cX0_readWhole 48 = .ok (.invokestatic 151, 3) := by decide +kernel
theorem dX0_readWhole_51 : decode cX0_readWhole 51 = .ok (.ifCond .eq 12, 3) := by decide +kernel
theorem dX0_readWhole_54 : decode cX0_readWhole 54 = .ok (.aload_n 0, 1) := by decide +kernel
theorem dX0_readWhole_55 : decode cX0_readWhole 55 = .ok (.iconst (-1), 1) := by decide +kernel
theorem dX0_readWhole_56 : decode cX0_readWhole 56 = .ok (.iload_n 1, 1) := by decide +kernel
theorem dX0_readWhole_57 : decode cX0_readWhole 57 = .ok (.iconst 1, 1) := by decide +kernel
theorem dX0_readWhole_58 : decode cX0_readWhole 58 = .ok (.iadd, 1) := by decide +kernel
theorem dX0_readWhole_59 : decode cX0_readWhole 59 = .ok (.invokevirtual 161, 3) := by decide +kernel
theorem dX0_readWhole_62 : decode cX0_readWhole 62 = .ok (.ireturn, 1) := by decide +kernel
theorem dX0_readWhole_63 : decode cX0_readWhole 63 = .ok (.iload_n 2, 1) := by decide +kernel
theorem dX0_readWhole_64 : decode cX0_readWhole 64 = .ok (.bipush 65, 2) := by decide +kernel
theorem dX0_readWhole_66 : decode cX0_readWhole 66 = .ok (.bipush 70, 2) := by decide +kernel
theorem dX0_readWhole_68 : decode cX0_readWhole 68 = .ok (.invokestatic 151, 3) := by decide +kernel
theorem dX0_readWhole_71 : decode cX0_readWhole 71 = .ok (.ifCond .eq 27, 3) := by decide +kernel
theorem dX0_readWhole_74 : decode cX0_readWhole 74 = .ok (.aload_n 0, 1) := by decide +kernel
theorem dX0_readWhole_75 : decode cX0_readWhole 75 = .ok (.bipush 65, 2) := by decide +kernel
theorem dX0_readWhole_77 : decode cX0_readWhole 77 = .ok (.bipush 70, 2) := by decide +kernel
theorem dX0_readWhole_79 : decode cX0_readWhole 79 = .ok (.invokevirtual 57, 3) := by decide +kernel
theorem dX0_readWhole_82 : decode cX0_readWhole 82 = .ok (.istore_n 3, 1) := by decide +kernel
theorem dX0_readWhole_83 : decode cX0_readWhole 83 = .ok (.aload_n 0, 1) := by decide +kernel
theorem dX0_readWhole_84 : decode cX0_readWhole 84 = .ok (.bipush 46, 2) := by decide +kernel
theorem dX0_readWhole_86 : decode cX0_readWhole 86 = .ok (.invokevirtual 68, 3) := by decide +kernel
theorem dX0_readWhole_89 : decode cX0_readWhole 89 = .ok (.aload_n 0, 1) := by decide +kernel
theorem dX0_readWhole_90 : decode cX0_readWhole 90 = .ok (.iload_n 3, 1) := by decide +kernel
theorem dX0_readWhole_91 : decode cX0_readWhole 91 = .ok (.iload_n 1, 1) := by decide +kernel
theorem dX0_readWhole_92 : decode cX0_readWhole 92 = .ok (.iconst 1, 1) := by decide +kernel
theorem dX0_readWhole_93 : decode cX0_readWhole 93 = .ok (.iadd, 1) := by decide +kernel
theorem dX0_readWhole_94 : decode cX0_readWhole 94 = .ok (.invokevirtual 161, 3) := by decide +kernel
theorem dX0_readWhole_97 : decode cX0_readWhole 97 = .ok (.ireturn, 1) := by decide +kernel
theorem dX0_readWhole_98 : decode cX0_readWhole 98 = .ok (.iload_n 2, 1) := by decide +kernel
theorem dX0_readWhole_99 : decode cX0_readWhole 99 = .ok (.lookupswitch 57 #[(40, 33), (91, 49), (123, 41)], 33) := by decide +kernel
theorem dX0_readWhole_132 : decode cX0_readWhole 132 = .ok (.aload_n 0, 1) := by decide +kernel
theorem dX0_readWhole_133 : decode cX0_readWhole 133 = .ok (.iload_n 1, 1) := by decide +kernel
theorem dX0_readWhole_134 : decode cX0_readWhole 134 = .ok (.iconst 1, 1) := by decide +kernel
theorem dX0_readWhole_135 : decode cX0_readWhole 135 = .ok (.iadd, 1) := by decide +kernel
theorem dX0_readWhole_136 : decode cX0_readWhole 136 = .ok (.invokevirtual 164, 3) := by decide +kernel
theorem dX0_readWhole_139 : decode cX0_readWhole 139 = .ok (.ireturn, 1) := by decide +kernel
theorem dX0_readWhole_140 : decode cX0_readWhole 140 = .ok (.aload_n 0, 1) := by decide +kernel
theorem dX0_readWhole_141 : decode cX0_readWhole 141 = .ok (.iload_n 1, 1) := by decide +kernel
theorem dX0_readWhole_142 : decode cX0_readWhole 142 = .ok (.iconst 1, 1) := by decide +kernel
theorem dX0_readWhole_143 : decode cX0_readWhole 143 = .ok (.iadd, 1) := by decide +kernel
theorem dX0_readWhole_144 : decode cX0_readWhole 144 = .ok (.invokevirtual 167, 3) := by decide +kernel
theorem dX0_readWhole_147 : decode cX0_readWhole 147 = .ok (.ireturn, 1) := by decide +kernel
theorem dX0_readWhole_148 : decode cX0_readWhole 148 = .ok (.aload_n 0, 1) := by decide +kernel
theorem dX0_readWhole_149 : decode cX0_readWhole 149 = .ok (.iload_n 1, 1) := by decide +kernel
theorem dX0_readWhole_150 : decode cX0_readWhole 150 = .ok (.iconst 1, 1) := by decide +kernel
theorem dX0_readWhole_151 : decode cX0_readWhole 151 = .ok (.iadd, 1) := by decide +kernel
theorem dX0_readWhole_152 : decode cX0_readWhole 152 = .ok (.invokevirtual 170, 3) := by decide +kernel
theorem dX0_readWhole_155 : decode cX0_readWhole 155 = .ok (.ireturn, 1) := by decide +kernel
theorem dX0_readWhole_156 : decode cX0_readWhole 156 = .ok (.aload_n 0, 1) := by decide +kernel
theorem dX0_readWhole_157 : decode cX0_readWhole 157 = .ok (.invokevirtual 75, 3) := by decide +kernel
theorem dX0_readWhole_160 : decode cX0_readWhole 160 = .ok (.ireturn, 1) := by decide +kernel
theorem dX0_readNumber_0 : decode cX0_readNumber 0 = .ok (.iconst 0, 1) := by decide +kernel
theorem dX0_readNumber_1 : decode cX0_readNumber 1 = .ok (.istore_n 1, 1) := by decide +kernel
theorem dX0_readNumber_2 : decode cX0_readNumber 2 = .ok (.iconst 0, 1) := by decide +kernel
theorem dX0_readNumber_3 : decode cX0_readNumber 3 = .ok (.istore_n 2, 1) := by decide +kernel
theorem dX0_readNumber_4 : decode cX0_readNumber 4 = .ok (.iload_n 2, 1) := by decide +kernel
theorem dX0_readNumber_5 : decode cX0_readNumber 5 = .ok (.iconst 4, 1) := by decide +kernel
theorem dX0_readNumber_6 : decode cX0_readNumber 6 = .ok (.if_icmp .ge 37, 3) := by decide +kernel
theorem dX0_readNumber_9 : decode cX0_readNumber 9 = .ok (.aload_n 0, 1) := by decide +kernel
theorem dX0_readNumber_10 : decode cX0_readNumber 10 = .ok (.invokevirtual 64, 3) := by decide +kernel
theorem dX0_readNumber_13 : decode cX0_readNumber 13 = .ok (.bipush 48, 2) := by decide +kernel
theorem dX0_readNumber_15 : decode cX0_readNumber 15 = .ok (.bipush 57, 2) := by decide +kernel
theorem dX0_readNumber_17 : decode cX0_readNumber 17 = .ok (.invokestatic 151, 3) := by decide +kernel
theorem dX0_readNumber_20 : decode cX0_readNumber 20 = .ok (.ifCond .eq 23, 3) := by decide +kernel
theorem dX0_readNumber_23 : decode cX0_readNumber 23 = .ok (.bipush 10, 2) := by decide +kernel
theorem dX0_readNumber_25 : decode cX0_readNumber 25 = .ok (.iload_n 1, 1) := by decide +kernel
theorem dX0_readNumber_26 : decode cX0_readNumber 26 = .ok (.imul, 1) := by decide +kernel
theorem dX0_readNumber_27 : decode cX0_readNumber 27 = .ok (.aload_n 0, 1) := by decide +kernel
theorem dX0_readNumber_28 : decode cX0_readNumber 28 = .ok (.bipush 48, 2) := by decide +kernel
theorem dX0_readNumber_30 : decode cX0_readNumber 30 = .ok (.bipush 57, 2) := by decide +kernel
theorem dX0_readNumber_32 : decode cX0_readNumber 32 = .ok (.invokevirtual 57, 3) := by decide +kernel
theorem dX0_readNumber_35 : decode cX0_readNumber 35 = .ok (.iadd, 1) := by decide +kernel
theorem dX0_readNumber_36 : decode cX0_readNumber 36 = .ok (.istore_n 1, 1) := by decide +kernel
theorem dX0_readNumber_37 : decode cX0_readNumber 37 = .ok (.iinc 2 1, 3) := by decide +kernel
theorem dX0_readNumber_40 : decode cX0_readNumber 40 = .ok (.goto (-36), 3) := by decide +kernel
theorem dX0_readNumber_43 : decode cX0_readNumber 43 = .ok (.aload_n 0, 1) := by decide +kernel
theorem dX0_readNumber_44 : decode cX0_readNumber 44 = .ok (.getfield 22, 3) := by decide +kernel
theorem dX0_readNumber_47 : decode cX0_readNumber 47 = .ok (.iconst 0, 1) := by decide +kernel
theorem dX0_readNumber_48 : decode cX0_readNumber 48 = .ok (.iload_n 1, 1) := by decide +kernel
theorem dX0_readNumber_49 : decode cX0_readNumber 49 = .ok (.invokevirtual 131, 3) := by decide +kernel
theorem dX0_readNumber_52 : decode cX0_readNumber 52 = .ok (.pop, 1) := by decide +kernel
theorem dX0_readNumber_53 : decode cX0_readNumber 53 = .ok (.iconst 1, 1) := by decide +kernel
theorem dX0_readNumber_54 : decode cX0_readNumber 54 = .ok (.ireturn, 1) := by decide +kernel
theorem dX0_readParameter_0 : decode cX0_readParameter 0 = .ok (.aload_n 0, 1) := by decide +kernel
theorem dX0_readParameter_1 : decode cX0_readParameter 1 = .ok (.bipush 36, 2) := by decide +kernel
theorem dX0_readParameter_3 : decode cX0_readParameter 3 = .ok (.invokevirtual 68, 3) := by decide +kernel
theorem dX0_readParameter_6 : decode cX0_readParameter 6 = .ok (.iconst 1, 1) := by decide +kernel
theorem dX0_readParameter_7 : decode cX0_readParameter 7 = .ok (.aload_n 0, 1) := by decide +kernel
theorem dX0_readParameter_8 : decode cX0_readParameter 8 = .ok (.bipush 49, 2) := by decide +kernel
theorem dX0_readParameter_10 : decode cX0_readParameter 10 = .ok (.bipush 51, 2) := by decide +kernel
theorem dX0_readParameter_12 : decode cX0_readParameter 12 = .ok (.invokevirtual 57, 3) := by decide +kernel
theorem dX0_readParameter_15 : decode cX0_readParameter 15 = .ok (.iadd, 1) := by decide +kernel
theorem dX0_readParameter_16 : decode cX0_readParameter 16 = .ok (.istore_n 1, 1) := by decide +kernel
theorem dX0_readParameter_17 : decode cX0_readParameter 17 = .ok (.aload_n 0, 1) := by decide +kernel
theorem dX0_readParameter_18 : decode cX0_readParameter 18 = .ok (.getfield 113, 3) := by decide +kernel
theorem dX0_readParameter_21 : decode cX0_readParameter 21 = .ok (.iload_n 1, 1) := by decide +kernel
theorem dX0_readParameter_22 : decode cX0_readParameter 22 = .ok (.invokestatic 120, 3) := by decide +kernel
theorem dX0_readParameter_25 : decode cX0_readParameter 25 = .ok (.istore_n 2, 1) := by decide +kernel
theorem dX0_readParameter_26 : decode cX0_readParameter 26 = .ok (.iload_n 2, 1) := by decide +kernel
theorem dX0_readParameter_27 : decode cX0_readParameter 27 = .ok (.ifCond .ne 10, 3) := by decide +kernel
theorem dX0_readParameter_30 : decode cX0_readParameter 30 = .ok (.aload_n 0, 1) := by decide +kernel
theorem dX0_readParameter_31 : decode cX0_readParameter 31 = .ok (.iconst 1, 1) := by decide +kernel
theorem dX0_readParameter_32 : decode cX0_readParameter 32 = .ok (.putfield 38, 3) := by decide +kernel
theorem dX0_readParameter_35 : decode cX0_readParameter 35 = .ok (.iconst 1, 1) := by decide +kernel
theorem dX0_readParameter_36 : decode cX0_readParameter 36 = .ok (.ireturn, 1) := by decide +kernel
theorem dX0_readParameter_37 : decode cX0_readParameter 37 = .ok (.aload_n 0, 1) := by decide +kernel
theorem dX0_readParameter_38 : decode cX0_readParameter 38 = .ok (.getfield 22, 3) := by decide +kernel
theorem dX0_readParameter_41 : decode cX0_readParameter 41 = .ok (.iload_n 2, 1) := by decide +kernel
theorem dX0_readParameter_42 : decode cX0_readParameter 42 = .ok (.iconst 2, 1) := by decide +kernel
theorem dX0_readParameter_43 : decode cX0_readParameter 43 = .ok (.if_icmp .ne 7, 3) := by decide +kernel
theorem dX0_readParameter_46 : decode cX0_readParameter 46 = .ok (.iconst 2, 1) := by decide +kernel
theorem dX0_readParameter_47 : decode cX0_readParameter 47 = .ok (.goto 4, 3) := by decide +kernel
theorem dX0_readParameter_50 : decode cX0_readParameter 50 = .ok (.iconst 1, 1) := by decide +kernel
theorem dX0_readParameter_51 : decode cX0_readParameter 51 = .ok (.aload_n 0, 1) := by decide +kernel
theorem dX0_readParameter_52 : decode cX0_readParameter 52 = .ok (.getfield 113, 3) := by decide +kernel
theorem dX0_readParameter_55 : decode cX0_readParameter 55 = .ok (.iload_n 1, 1) := by decide +kernel
theorem dX0_readParameter_56 : decode cX0_readParameter 56 = .ok (.invokestatic 97, 3) := by decide +kernel
theorem dX0_readParameter_59 : decode cX0_readParameter 59 = .ok (.invokevirtual 131, 3) := by decide +kernel
theorem dX0_readParameter_62 : decode cX0_readParameter 62 = .ok (.pop, 1) := by decide +kernel
theorem dX0_readParameter_63 : decode cX0_readParameter 63 = .ok (.iload_n 2, 1) := by decide +kernel
theorem dX0_readParameter_64 : decode cX0_readParameter 64 = .ok (.ireturn, 1) := by decide +kernel
theorem dX0_readGroup_0 : decode cX0_readGroup 0 = .ok (.aload_n 0, 1) := by decide +kernel
theorem dX0_readGroup_1 : decode cX0_readGroup 1 = .ok (.bipush 40, 2) := by decide +kernel
theorem dX0_readGroup_3 : decode cX0_readGroup 3 = .ok (.invokevirtual 68, 3) := by decide +kernel
theorem dX0_readGroup_6 : decode cX0_readGroup 6 = .ok (.aload_n 0, 1) := by decide +kernel
theorem dX0_readGroup_7 : decode cX0_readGroup 7 = .ok (.iload_n 1, 1) := by decide +kernel
theorem dX0_readGroup_8 : decode cX0_readGroup 8 = .ok (.invokevirtual 123, 3) := by decide +kernel
theorem dX0_readGroup_11 : decode cX0_readGroup 11 = .ok (.istore_n 2, 1) := by decide +kernel
theorem dX0_readGroup_12 : decode cX0_readGroup 12 = .ok (.aload_n 0, 1) := by decide +kernel
theorem dX0_readGroup_13 : decode cX0_readGroup 13 = .ok (.bipush 41, 2) := by decide +kernel
theorem dX0_readGroup_15 : decode cX0_readGroup 15 = .ok (.invokevirtual 68, 3) := by decide +kernel
theorem dX0_readGroup_18 : decode cX0_readGroup 18 = .ok (.iload_n 2, 1) := by decide +kernel
theorem dX0_readGroup_19 : decode cX0_readGroup 19 = .ok (.ireturn, 1) := by decide +kernel
theorem dX0_readPair_0 : decode cX0_readPair 0 = .ok (.aload_n 0, 1) := by decide +kernel
theorem dX0_readPair_1 : decode cX0_readPair 1 = .ok (.bipush 123, 2) := by decide +kernel
theorem dX0_readPair_3 : decode cX0_readPair 3 = .ok (.invokevirtual 68, 3) := by decide +kernel
theorem dX0_readPair_6 : decode cX0_readPair 6 = .ok (.aload_n 0, 1) := by decide +kernel
theorem dX0_readPair_7 : decode cX0_readPair 7 = .ok (.iconst 1, 1) := by decide +kernel
theorem dX0_readPair_8 : decode cX0_readPair 8 = .ok (.aload_n 0, 1) := by decide +kernel
theorem dX0_readPair_9 : decode cX0_readPair 9 = .ok (.iload_n 1, 1) := by decide +kernel
theorem dX0_readPair_10 : decode cX0_readPair 10 = .ok (.invokevirtual 123, 3) := by decide +kernel
theorem dX0_readPair_13 : decode cX0_readPair 13 = .ok (.invokevirtual 127, 3) := by decide +kernel
theorem dX0_readPair_16 : decode cX0_readPair 16 = .ok (.aload_n 0, 1) := by decide +kernel
theorem dX0_readPair_17 : decode cX0_readPair 17 = .ok (.iconst 1, 1) := by decide +kernel
theorem dX0_readPair_18 : decode cX0_readPair 18 = .ok (.invokevirtual 138, 3) := by decide +kernel
theorem dX0_readPair_21 : decode cX0_readPair 21 = .ok (.aload_n 0, 1) := by decide +kernel
theorem dX0_readPair_22 : decode cX0_readPair 22 = .ok (.bipush 44, 2) := by decide +kernel
theorem dX0_readPair_24 : decode cX0_readPair 24 = .ok (.invokevirtual 68, 3) := by decide +kernel
theorem dX0_readPair_27 : decode cX0_readPair 27 = .ok (.aload_n 0, 1) := by decide +kernel
theorem dX0_readPair_28 : decode cX0_readPair 28 = .ok (.iconst 1, 1) := by decide +kernel
theorem dX0_readPair_29 : decode cX0_readPair 29 = .ok (.aload_n 0, 1) := by decide +kernel
theorem dX0_readPair_30 : decode cX0_readPair 30 = .ok (.iload_n 1, 1) := by decide +kernel
theorem dX0_readPair_31 : decode cX0_readPair 31 = .ok (.invokevirtual 123, 3) := by decide +kernel
theorem dX0_readPair_34 : decode cX0_readPair 34 = .ok (.invokevirtual 127, 3) := by decide +kernel
theorem dX0_readPair_37 : decode cX0_readPair 37 = .ok (.aload_n 0, 1) := by decide +kernel
theorem dX0_readPair_38 : decode cX0_readPair 38 = .ok (.iconst 1, 1) := by decide +kernel
theorem dX0_readPair_39 : decode cX0_readPair 39 = .ok (.invokevirtual 142, 3) := by decide +kernel
theorem dX0_readPair_42 : decode cX0_readPair 42 = .ok (.aload_n 0, 1) := by decide +kernel
theorem dX0_readPair_43 : decode cX0_readPair 43 = .ok (.bipush 125, 2) := by decide +kernel
theorem dX0_readPair_45 : decode cX0_readPair 45 = .ok (.invokevirtual 68, 3) := by decide +kernel
theorem dX0_readPair_48 : decode cX0_readPair 48 = .ok (.aload_n 0, 1) := by decide +kernel
theorem dX0_readPair_49 : decode cX0_readPair 49 = .ok (.getfield 22, 3) := by decide +kernel
theorem dX0_readPair_52 : decode cX0_readPair 52 = .ok (.bipush 8, 2) := by decide +kernel
theorem dX0_readPair_54 : decode cX0_readPair 54 = .ok (.iconst 0, 1) := by decide +kernel
theorem dX0_readPair_55 : decode cX0_readPair 55 = .ok (.invokevirtual 131, 3) := by decide +kernel
theorem dX0_readPair_58 : decode cX0_readPair 58 = .ok (.pop, 1) := by decide +kernel
theorem dX0_readPair_59 : decode cX0_readPair 59 = .ok (.iconst 2, 1) := by decide +kernel
theorem dX0_readPair_60 : decode cX0_readPair 60 = .ok (.ireturn, 1) := by decide +kernel
theorem dX0_readChoice_0 : decode cX0_readChoice 0 = .ok (.aload_n 0, 1) := by decide +kernel
theorem dX0_readChoice_1 : decode cX0_readChoice 1 = .ok (.bipush 91, 2) := by decide +kernel
theorem dX0_readChoice_3 : decode cX0_readChoice 3 = .ok (.invokevirtual 68, 3) := by decide +kernel
theorem dX0_readChoice_6 : decode cX0_readChoice 6 = .ok (.aload_n 0, 1) := by decide +kernel
theorem dX0_readChoice_7 : decode cX0_readChoice 7 = .ok (.iconst 1, 1) := by decide +kernel
theorem dX0_readChoice_8 : decode cX0_readChoice 8 = .ok (.aload_n 0, 1) := by decide +kernel
theorem dX0_readChoice_9 : decode cX0_readChoice 9 = .ok (.iload_n 1, 1) := by decide +kernel
theorem dX0_readChoice_10 : decode cX0_readChoice 10 = .ok (.invokevirtual 123, 3) := by decide +kernel
theorem dX0_readChoice_13 : decode cX0_readChoice 13 = .ok (.invokevirtual 127, 3) := by decide +kernel
theorem dX0_readChoice_16 : decode cX0_readChoice 16 = .ok (.aload_n 0, 1) := by decide +kernel
theorem dX0_readChoice_17 : decode cX0_readChoice 17 = .ok (.getfield 22, 3) := by decide +kernel
theorem dX0_readChoice_20 : decode cX0_readChoice 20 = .ok (.bipush 10, 2) := by decide +kernel
theorem dX0_readChoice_22 : decode cX0_readChoice 22 = .ok (.iconst 0, 1) := by decide +kernel
theorem dX0_readChoice_23 : decode cX0_readChoice 23 = .ok (.invokevirtual 131, 3) := by decide +kernel
theorem dX0_readChoice_26 : decode cX0_readChoice 26 = .ok (.istore_n 2, 1) := by decide +kernel
theorem dX0_readChoice_27 : decode cX0_readChoice 27 = .ok (.aload_n 0, 1) := by decide +kernel
theorem dX0_readChoice_28 : decode cX0_readChoice 28 = .ok (.bipush 63, 2) := by decide +kernel
theorem dX0_readChoice_30 : decode cX0_readChoice 30 = .ok (.invokevirtual 68, 3) := by decide +kernel
theorem dX0_readChoice_33 : decode cX0_readChoice 33 = .ok (.aload_n 0, 1) := by decide +kernel
theorem dX0_readChoice_34 : decode cX0_readChoice 34 = .ok (.iload_n 1, 1) := by decide +kernel
theorem dX0_readChoice_35 : decode cX0_readChoice 35 = .ok (.invokevirtual 123, 3) := by decide +kernel
theorem dX0_readChoice_38 : decode cX0_readChoice 38 = .ok (.istore_n 3, 1) := by decide +kernel
theorem dX0_readChoice_39 : decode cX0_readChoice 39 = .ok (.aload_n 0, 1) := by decide +kernel
theorem dX0_readChoice_40 : decode cX0_readChoice 40 = .ok (.getfield 22, 3) := by decide +kernel
theorem dX0_readChoice_43 : decode cX0_readChoice 43 = .ok (.bipush 11, 2) := by decide +kernel
theorem dX0_readChoice_45 : decode cX0_readChoice 45 = .ok (.iconst 0, 1) := by decide +kernel
theorem dX0_readChoice_46 : decode cX0_readChoice 46 = .ok (.invokevirtual 131, 3) := by decide +kernel
theorem dX0_readChoice_49 : decode cX0_readChoice 49 = .ok (.istore 4, 2) := by decide +kernel
theorem dX0_readChoice_51 : decode cX0_readChoice 51 = .ok (.aload_n 0, 1) := by decide +kernel
theorem dX0_readChoice_52 : decode cX0_readChoice 52 = .ok (.bipush 58, 2) := by decide +kernel
theorem dX0_readChoice_54 : decode cX0_readChoice 54 = .ok (.invokevirtual 68, 3) := by decide +kernel
theorem dX0_readChoice_57 : decode cX0_readChoice 57 = .ok (.aload_n 0, 1) := by decide +kernel
theorem dX0_readChoice_58 : decode cX0_readChoice 58 = .ok (.getfield 22, 3) := by decide +kernel
theorem dX0_readChoice_61 : decode cX0_readChoice 61 = .ok (.iload_n 2, 1) := by decide +kernel
theorem dX0_readChoice_62 : decode cX0_readChoice 62 = .ok (.invokevirtual 173, 3) := by decide +kernel
theorem dX0_readChoice_65 : decode cX0_readChoice 65 = .ok (.aload_n 0, 1) := by decide +kernel
theorem dX0_readChoice_66 : decode cX0_readChoice 66 = .ok (.iload_n 3, 1) := by decide +kernel
theorem dX0_readChoice_67 : decode cX0_readChoice 67 = .ok (.aload_n 0, 1) := by decide +kernel
theorem dX0_readChoice_68 : decode cX0_readChoice 68 = .ok (.iload_n 1, 1) := by decide +kernel
theorem dX0_readChoice_69 : decode cX0_readChoice 69 = .ok (.invokevirtual 123, 3) := by decide +kernel
theorem dX0_readChoice_72 : decode cX0_readChoice 72 = .ok (.invokevirtual 127, 3) := by decide +kernel
theorem dX0_readChoice_75 : decode cX0_readChoice 75 = .ok (.aload_n 0, 1) := by decide +kernel
theorem dX0_readChoice_76 : decode cX0_readChoice 76 = .ok (.getfield 22, 3) := by decide +kernel
theorem dX0_readChoice_79 : decode cX0_readChoice 79 = .ok (.iload 4, 2) := by decide +kernel
theorem dX0_readChoice_81 : decode cX0_readChoice 81 = .ok (.invokevirtual 173, 3) := by decide +kernel
theorem dX0_readChoice_84 : decode cX0_readChoice 84 = .ok (.aload_n 0, 1) := by decide +kernel
theorem dX0_readChoice_85 : decode cX0_readChoice 85 = .ok (.bipush 93, 2) := by decide +kernel
theorem dX0_readChoice_87 : decode cX0_readChoice 87 = .ok (.invokevirtual 68, 3) := by decide +kernel
theorem dX0_readChoice_90 : decode cX0_readChoice 90 = .ok (.iload_n 3, 1) := by decide +kernel
theorem dX0_readChoice_91 : decode cX0_readChoice 91 = .ok (.ireturn, 1) := by decide +kernel
theorem dX0_readCall_0 : decode cX0_readCall 0 = .ok (.aload_n 0, 1) := by decide +kernel
theorem dX0_readCall_1 : decode cX0_readCall 1 = .ok (.bipush 97, 2) := by decide +kernel
theorem dX0_readCall_3 : decode cX0_readCall 3 = .ok (.bipush 122, 2) := by decide +kernel
theorem dX0_readCall_5 : decode cX0_readCall 5 = .ok (.invokevirtual 57, 3) := by decide +kernel
theorem dX0_readCall_8 : decode cX0_readCall 8 = .ok (.istore_n 3, 1) := by decide +kernel
theorem dX0_readCall_9 : decode cX0_readCall 9 = .ok (.aload_n 0, 1) := by decide +kernel
theorem dX0_readCall_10 : decode cX0_readCall 10 = .ok (.getfield 22, 3) := by decide +kernel
theorem dX0_readCall_13 : decode cX0_readCall 13 = .ok (.iload_n 1, 1) := by decide +kernel
theorem dX0_readCall_14 : decode cX0_readCall 14 = .ok (.iload_n 3, 1) := by decide +kernel
theorem dX0_readCall_15 : decode cX0_readCall 15 = .ok (.invokevirtual 87, 3) := by decide +kernel
theorem dX0_readCall_18 : decode cX0_readCall 18 = .ok (.astore 4, 2) := by decide +kernel
theorem dX0_readCall_20 : decode cX0_readCall 20 = .ok (.aload 4, 2) := by decide +kernel
theorem dX0_readCall_22 : decode cX0_readCall 22 = .ok (.ifnonnull 7, 3) := by decide +kernel
theorem dX0_readCall_25 : decode cX0_readCall 25 = .ok (.iconst 0, 1) := by decide +kernel
theorem dX0_readCall_26 : decode cX0_readCall 26 = .ok (.goto 8, 3) := by decide +kernel
theorem dX0_readCall_29 : decode cX0_readCall 29 = .ok (.aload 4, 2) := by decide +kernel
theorem dX0_readCall_31 : decode cX0_readCall 31 = .ok (.getfield 94, 3) := by decide +kernel
theorem dX0_readCall_34 : decode cX0_readCall 34 = .ok (.istore 5, 2) := by decide +kernel
theorem dX0_readCall_36 : decode cX0_readCall 36 = .ok (.aload_n 0, 1) := by decide +kernel
theorem dX0_readCall_37 : decode cX0_readCall 37 = .ok (.bipush 40, 2) := by decide +kernel
theorem dX0_readCall_39 : decode cX0_readCall 39 = .ok (.invokevirtual 68, 3) := by decide +kernel
theorem dX0_readCall_42 : decode cX0_readCall 42 = .ok (.aload_n 0, 1) := by decide +kernel
theorem dX0_readCall_43 : decode cX0_readCall 43 = .ok (.iload 5, 2) := by decide +kernel
theorem dX0_readCall_45 : decode cX0_readCall 45 = .ok (.iload_n 2, 1) := by decide +kernel
theorem dX0_readCall_46 : decode cX0_readCall 46 = .ok (.invokevirtual 176, 3) := by decide +kernel
theorem dX0_readCall_49 : decode cX0_readCall 49 = .ok (.aload_n 0, 1) := by decide +kernel
theorem dX0_readCall_50 : decode cX0_readCall 50 = .ok (.bipush 41, 2) := by decide +kernel
theorem dX0_readCall_52 : decode cX0_readCall 52 = .ok (.invokevirtual 68, 3) := by decide +kernel
theorem dX0_readCall_55 : decode cX0_readCall 55 = .ok (.aload_n 0, 1) := by decide +kernel
theorem dX0_readCall_56 : decode cX0_readCall 56 = .ok (.getfield 22, 3) := by decide +kernel
theorem dX0_readCall_59 : decode cX0_readCall 59 = .ok (.bipush 12, 2) := by decide +kernel
theorem dX0_readCall_61 : decode cX0_readCall 61 = .ok (.iload_n 1, 1) := by decide +kernel
theorem dX0_readCall_62 : decode cX0_readCall 62 = .ok (.iconst (-1), 1) := by decide +kernel
end
section
theorem dX0_readCall_63 : decode cX0_readCall 63 = .ok (.if_icmp .ne 13, 3) := by decide +kernel
theorem dX0_readCall_66 : decode cX0_readCall 66 = .ok (.aload_n 0, 1) := by decide +kernel
theorem dX0_readCall_67 : decode cX0_readCall 67 = .ok (.getfield 22, 3) := by decide +kernel
theorem dX0_readCall_70 : decode cX0_readCall 70 = .ok (.getfield 61, 3) := by decide +kernel
theorem dX0_readCall_73 : decode cX0_readCall 73 = .ok (.goto 4, 3) := by decide +kernel
theorem dX0_readCall_76 : decode cX0_readCall 76 = .ok (.iload_n 1, 1) := by decide +kernel
theorem dX0_readCall_77 : decode cX0_readCall 77 = .ok (.bipush 26, 2) := by decide +kernel
theorem dX0_readCall_79 : decode cX0_readCall 79 = .ok (.imul, 1) := by decide +kernel
theorem dX0_readCall_80 : decode cX0_readCall 80 = .ok (.iload_n 3, 1) := by decide +kernel
theorem dX0_readCall_81 : decode cX0_readCall 81 = .ok (.iadd, 1) := by decide +kernel
theorem dX0_readCall_82 : decode cX0_readCall 82 = .ok (.invokevirtual 131, 3) := by decide +kernel
theorem dX0_readCall_85 : decode cX0_readCall 85 = .ok (.pop, 1) := by decide +kernel
theorem dX0_readCall_86 : decode cX0_readCall 86 = .ok (.aload 4, 2) := by decide +kernel
theorem dX0_readCall_88 : decode cX0_readCall 88 = .ok (.ifnonnull 10, 3) := by decide +kernel
theorem dX0_readCall_91 : decode cX0_readCall 91 = .ok (.aload_n 0, 1) := by decide +kernel
theorem dX0_readCall_92 : decode cX0_readCall 92 = .ok (.iconst 1, 1) := by decide +kernel
theorem dX0_readCall_93 : decode cX0_readCall 93 = .ok (.putfield 38, 3) := by decide +kernel
theorem dX0_readCall_96 : decode cX0_readCall 96 = .ok (.iconst 1, 1) := by decide +kernel
theorem dX0_readCall_97 : decode cX0_readCall 97 = .ok (.ireturn, 1) := by decide +kernel
theorem dX0_readCall_98 : decode cX0_readCall 98 = .ok (.iload 5, 2) := by decide +kernel
theorem dX0_readCall_100 : decode cX0_readCall 100 = .ok (.iconst 0, 1) := by decide +kernel
theorem dX0_readCall_101 : decode cX0_readCall 101 = .ok (.invokestatic 120, 3) := by decide +kernel
theorem dX0_readCall_104 : decode cX0_readCall 104 = .ok (.ireturn, 1) := by decide +kernel
theorem dX0_readArguments_0 : decode cX0_readArguments 0 = .ok (.iconst 0, 1) := by decide +kernel
theorem dX0_readArguments_1 : decode cX0_readArguments 1 = .ok (.istore_n 3, 1) := by decide +kernel
theorem dX0_readArguments_2 : decode cX0_readArguments 2 = .ok (.iconst 0, 1) := by decide +kernel
theorem dX0_readArguments_3 : decode cX0_readArguments 3 = .ok (.istore 4, 2) := by decide +kernel
theorem dX0_readArguments_5 : decode cX0_readArguments 5 = .ok (.aload_n 0, 1) := by decide +kernel
theorem dX0_readArguments_6 : decode cX0_readArguments 6 = .ok (.invokevirtual 64, 3) := by decide +kernel
theorem dX0_readArguments_9 : decode cX0_readArguments 9 = .ok (.bipush 41, 2) := by decide +kernel
theorem dX0_readArguments_11 : decode cX0_readArguments 11 = .ok (.if_icmp .eq 7, 3) := by decide +kernel
theorem dX0_readArguments_14 : decode cX0_readArguments 14 = .ok (.iconst 1, 1) := by decide +kernel
theorem dX0_readArguments_15 : decode cX0_readArguments 15 = .ok (.goto 4, 3) := by decide +kernel
theorem dX0_readArguments_18 : decode cX0_readArguments 18 = .ok (.iconst 0, 1) := by decide +kernel
theorem dX0_readArguments_19 : decode cX0_readArguments 19 = .ok (.istore 5, 2) := by decide +kernel
theorem dX0_readArguments_21 : decode cX0_readArguments 21 = .ok (.iconst 0, 1) := by decide +kernel
theorem dX0_readArguments_22 : decode cX0_readArguments 22 = .ok (.istore 6, 2) := by decide +kernel
theorem dX0_readArguments_24 : decode cX0_readArguments 24 = .ok (.iload 6, 2) := by decide +kernel
theorem dX0_readArguments_26 : decode cX0_readArguments 26 = .ok (.bipush 120, 2) := by decide +kernel
theorem dX0_readArguments_28 : decode cX0_readArguments 28 = .ok (.if_icmp .ge 56, 3) := by decide +kernel
theorem dX0_readArguments_31 : decode cX0_readArguments 31 = .ok (.iload 5, 2) := by decide +kernel
theorem dX0_readArguments_33 : decode cX0_readArguments 33 = .ok (.ifCond .eq 51, 3) := by decide +kernel
theorem dX0_readArguments_36 : decode cX0_readArguments 36 = .ok (.aload_n 0, 1) := by decide +kernel
theorem dX0_readArguments_37 : decode cX0_readArguments 37 = .ok (.iload_n 2, 1) := by decide +kernel
theorem dX0_readArguments_38 : decode cX0_readArguments 38 = .ok (.invokevirtual 123, 3) := by decide +kernel
theorem dX0_readArguments_41 : decode cX0_readArguments 41 = .ok (.istore 7, 2) := by decide +kernel
theorem dX0_readArguments_43 : decode cX0_readArguments 43 = .ok (.iinc 3 1, 3) := by decide +kernel
theorem dX0_readArguments_46 : decode cX0_readArguments 46 = .ok (.aload_n 0, 1) := by decide +kernel
theorem dX0_readArguments_47 : decode cX0_readArguments 47 = .ok (.iload_n 1, 1) := by decide +kernel
theorem dX0_readArguments_48 : decode cX0_readArguments 48 = .ok (.iload_n 3, 1) := by decide +kernel
theorem dX0_readArguments_49 : decode cX0_readArguments 49 = .ok (.invokestatic 120, 3) := by decide +kernel
theorem dX0_readArguments_52 : decode cX0_readArguments 52 = .ok (.iload 7, 2) := by decide +kernel
theorem dX0_readArguments_54 : decode cX0_readArguments 54 = .ok (.invokevirtual 127, 3) := by decide +kernel
theorem dX0_readArguments_57 : decode cX0_readArguments 57 = .ok (.aload_n 0, 1) := by decide +kernel
theorem dX0_readArguments_58 : decode cX0_readArguments 58 = .ok (.iload 7, 2) := by decide +kernel
theorem dX0_readArguments_60 : decode cX0_readArguments 60 = .ok (.invokevirtual 138, 3) := by decide +kernel
theorem dX0_readArguments_63 : decode cX0_readArguments 63 = .ok (.iload 4, 2) := by decide +kernel
theorem dX0_readArguments_65 : decode cX0_readArguments 65 = .ok (.iload 7, 2) := by decide +kernel
theorem dX0_readArguments_67 : decode cX0_readArguments 67 = .ok (.iadd, 1) := by decide +kernel
theorem dX0_readArguments_68 : decode cX0_readArguments 68 = .ok (.istore 4, 2) := by decide +kernel
theorem dX0_readArguments_70 : decode cX0_readArguments 70 = .ok (.aload_n 0, 1) := by decide +kernel
theorem dX0_readArguments_71 : decode cX0_readArguments 71 = .ok (.bipush 44, 2) := by decide +kernel
theorem dX0_readArguments_73 : decode cX0_readArguments 73 = .ok (.invokevirtual 82, 3) := by decide +kernel
theorem dX0_readArguments_76 : decode cX0_readArguments 76 = .ok (.istore 5, 2) := by decide +kernel
theorem dX0_readArguments_78 : decode cX0_readArguments 78 = .ok (.iinc 6 1, 3) := by decide +kernel
theorem dX0_readArguments_81 : decode cX0_readArguments 81 = .ok (.goto (-57), 3) := by decide +kernel
theorem dX0_readArguments_84 : decode cX0_readArguments 84 = .ok (.aload_n 0, 1) := by decide +kernel
theorem dX0_readArguments_85 : decode cX0_readArguments 85 = .ok (.iconst 0, 1) := by decide +kernel
theorem dX0_readArguments_86 : decode cX0_readArguments 86 = .ok (.iload_n 1, 1) := by decide +kernel
theorem dX0_readArguments_87 : decode cX0_readArguments 87 = .ok (.iload_n 3, 1) := by decide +kernel
theorem dX0_readArguments_88 : decode cX0_readArguments 88 = .ok (.iconst 1, 1) := by decide +kernel
theorem dX0_readArguments_89 : decode cX0_readArguments 89 = .ok (.iadd, 1) := by decide +kernel
theorem dX0_readArguments_90 : decode cX0_readArguments 90 = .ok (.invokestatic 120, 3) := by decide +kernel
theorem dX0_readArguments_93 : decode cX0_readArguments 93 = .ok (.invokevirtual 127, 3) := by decide +kernel
theorem dX0_readArguments_96 : decode cX0_readArguments 96 = .ok (.aload_n 0, 1) := by decide +kernel
theorem dX0_readArguments_97 : decode cX0_readArguments 97 = .ok (.iload 4, 2) := by decide +kernel
theorem dX0_readArguments_99 : decode cX0_readArguments 99 = .ok (.invokevirtual 142, 3) := by decide +kernel
theorem dX0_readArguments_102 : decode cX0_readArguments 102 = .ok (.return_, 1) := by decide +kernel
theorem dX0_hold_0 : decode cX0_hold 0 = .ok (.aload_n 0, 1) := by decide +kernel
theorem dX0_hold_1 : decode cX0_hold 1 = .ok (.dup, 1) := by decide +kernel
theorem dX0_hold_2 : decode cX0_hold 2 = .ok (.getfield 114, 3) := by decide +kernel
theorem dX0_hold_5 : decode cX0_hold 5 = .ok (.iload_n 1, 1) := by decide +kernel
theorem dX0_hold_6 : decode cX0_hold 6 = .ok (.iadd, 1) := by decide +kernel
theorem dX0_hold_7 : decode cX0_hold 7 = .ok (.putfield 114, 3) := by decide +kernel
theorem dX0_hold_10 : decode cX0_hold 10 = .ok (.aload_n 0, 1) := by decide +kernel
theorem dX0_hold_11 : decode cX0_hold 11 = .ok (.aload_n 0, 1) := by decide +kernel
theorem dX0_hold_12 : decode cX0_hold 12 = .ok (.getfield 117, 3) := by decide +kernel
theorem dX0_hold_15 : decode cX0_hold 15 = .ok (.aload_n 0, 1) := by decide +kernel
theorem dX0_hold_16 : decode cX0_hold 16 = .ok (.getfield 114, 3) := by decide +kernel
theorem dX0_hold_19 : decode cX0_hold 19 = .ok (.invokestatic 179, 3) := by decide +kernel
theorem dX0_hold_22 : decode cX0_hold 22 = .ok (.putfield 117, 3) := by decide +kernel
theorem dX0_hold_25 : decode cX0_hold 25 = .ok (.aload_n 0, 1) := by decide +kernel
theorem dX0_hold_26 : decode cX0_hold 26 = .ok (.getfield 22, 3) := by decide +kernel
theorem dX0_hold_29 : decode cX0_hold 29 = .ok (.iload_n 1, 1) := by decide +kernel
theorem dX0_hold_30 : decode cX0_hold 30 = .ok (.iconst 2, 1) := by decide +kernel
theorem dX0_hold_31 : decode cX0_hold 31 = .ok (.if_icmp .ne 7, 3) := by decide +kernel
theorem dX0_hold_34 : decode cX0_hold 34 = .ok (.iconst 4, 1) := by decide +kernel
theorem dX0_hold_35 : decode cX0_hold 35 = .ok (.goto 4, 3) := by decide +kernel
theorem dX0_hold_38 : decode cX0_hold 38 = .ok (.iconst 3, 1) := by decide +kernel
theorem dX0_hold_39 : decode cX0_hold 39 = .ok (.iconst 0, 1) := by decide +kernel
theorem dX0_hold_40 : decode cX0_hold 40 = .ok (.invokevirtual 131, 3) := by decide +kernel
theorem dX0_hold_43 : decode cX0_hold 43 = .ok (.pop, 1) := by decide +kernel
theorem dX0_hold_44 : decode cX0_hold 44 = .ok (.return_, 1) := by decide +kernel
theorem dX0_release_0 : decode cX0_release 0 = .ok (.aload_n 0, 1) := by decide +kernel
theorem dX0_release_1 : decode cX0_release 1 = .ok (.dup, 1) := by decide +kernel
theorem dX0_release_2 : decode cX0_release 2 = .ok (.getfield 114, 3) := by decide +kernel
theorem dX0_release_5 : decode cX0_release 5 = .ok (.iload_n 1, 1) := by decide +kernel
theorem dX0_release_6 : decode cX0_release 6 = .ok (.isub, 1) := by decide +kernel
theorem dX0_release_7 : decode cX0_release 7 = .ok (.putfield 114, 3) := by decide +kernel
theorem dX0_release_10 : decode cX0_release 10 = .ok (.return_, 1) := by decide +kernel
theorem dX0_need_0 : decode cX0_need 0 = .ok (.iload_n 1, 1) := by decide +kernel
theorem dX0_need_1 : decode cX0_need 1 = .ok (.iload_n 2, 1) := by decide +kernel
theorem dX0_need_2 : decode cX0_need 2 = .ok (.if_icmp .eq 8, 3) := by decide +kernel
theorem dX0_need_5 : decode cX0_need 5 = .ok (.aload_n 0, 1) := by decide +kernel
theorem dX0_need_6 : decode cX0_need 6 = .ok (.iconst 1, 1) := by decide +kernel
theorem dX0_need_7 : decode cX0_need 7 = .ok (.putfield 38, 3) := by decide +kernel
theorem dX0_need_10 : decode cX0_need 10 = .ok (.return_, 1) := by decide +kernel
theorem dX0_peek_0 : decode cX0_peek 0 = .ok (.aload_n 0, 1) := by decide +kernel
theorem dX0_peek_1 : decode cX0_peek 1 = .ok (.getfield 19, 3) := by decide +kernel
theorem dX0_peek_4 : decode cX0_peek 4 = .ok (.aload_n 0, 1) := by decide +kernel
theorem dX0_peek_5 : decode cX0_peek 5 = .ok (.getfield 15, 3) := by decide +kernel
theorem dX0_peek_8 : decode cX0_peek 8 = .ok (.if_icmp .ge 15, 3) := by decide +kernel
theorem dX0_peek_11 : decode cX0_peek 11 = .ok (.aload_n 0, 1) := by decide +kernel
theorem dX0_peek_12 : decode cX0_peek 12 = .ok (.getfield 9, 3) := by decide +kernel
theorem dX0_peek_15 : decode cX0_peek 15 = .ok (.aload_n 0, 1) := by decide +kernel
theorem dX0_peek_16 : decode cX0_peek 16 = .ok (.getfield 19, 3) := by decide +kernel
theorem dX0_peek_19 : decode cX0_peek 19 = .ok (.caload, 1) := by decide +kernel
theorem dX0_peek_20 : decode cX0_peek 20 = .ok (.goto 4, 3) := by decide +kernel
theorem dX0_peek_23 : decode cX0_peek 23 = .ok (.iconst 0, 1) := by decide +kernel
theorem dX0_peek_24 : decode cX0_peek 24 = .ok (.ireturn, 1) := by decide +kernel
theorem dX0_takeIf_0 : decode cX0_takeIf 0 = .ok (.aload_n 0, 1) := by decide +kernel
theorem dX0_takeIf_1 : decode cX0_takeIf 1 = .ok (.invokevirtual 64, 3) := by decide +kernel
theorem dX0_takeIf_4 : decode cX0_takeIf 4 = .ok (.iload_n 1, 1) := by decide +kernel
theorem dX0_takeIf_5 : decode cX0_takeIf 5 = .ok (.if_icmp .eq 5, 3) := by decide +kernel
theorem dX0_takeIf_8 : decode cX0_takeIf 8 = .ok (.iconst 0, 1) := by decide +kernel
theorem dX0_takeIf_9 : decode cX0_takeIf 9 = .ok (.ireturn, 1) := by decide +kernel
theorem dX0_takeIf_10 : decode cX0_takeIf 10 = .ok (.aload_n 0, 1) := by decide +kernel
theorem dX0_takeIf_11 : decode cX0_takeIf 11 = .ok (.dup, 1) := by decide +kernel
theorem dX0_takeIf_12 : decode cX0_takeIf 12 = .ok (.getfield 19, 3) := by decide +kernel
theorem dX0_takeIf_15 : decode cX0_takeIf 15 = .ok (.iconst 1, 1) := by decide +kernel
theorem dX0_takeIf_16 : decode cX0_takeIf 16 = .ok (.iadd, 1) := by decide +kernel
theorem dX0_takeIf_17 : decode cX0_takeIf 17 = .ok (.putfield 19, 3) := by decide +kernel
theorem dX0_takeIf_20 : decode cX0_takeIf 20 = .ok (.iconst 1, 1) := by decide +kernel
theorem dX0_takeIf_21 : decode cX0_takeIf 21 = .ok (.ireturn, 1) := by decide +kernel
theorem dX0_take_0 : decode cX0_take 0 = .ok (.aload_n 0, 1) := by decide +kernel
theorem dX0_take_1 : decode cX0_take 1 = .ok (.iload_n 1, 1) := by decide +kernel
theorem dX0_take_2 : decode cX0_take 2 = .ok (.invokevirtual 82, 3) := by decide +kernel
theorem dX0_take_5 : decode cX0_take 5 = .ok (.ifCond .ne 8, 3) := by decide +kernel
theorem dX0_take_8 : decode cX0_take 8 = .ok (.aload_n 0, 1) := by decide +kernel
theorem dX0_take_9 : decode cX0_take 9 = .ok (.invokevirtual 75, 3) := by decide +kernel
theorem dX0_take_12 : decode cX0_take 12 = .ok (.pop, 1) := by decide +kernel
theorem dX0_take_13 : decode cX0_take 13 = .ok (.return_, 1) := by decide +kernel
theorem dX0_readAmong_0 : decode cX0_readAmong 0 = .ok (.aload_n 0, 1) := by decide +kernel
theorem dX0_readAmong_1 : decode cX0_readAmong 1 = .ok (.invokevirtual 64, 3) := by decide +kernel
theorem dX0_readAmong_4 : decode cX0_readAmong 4 = .ok (.istore_n 3, 1) := by decide +kernel
theorem dX0_readAmong_5 : decode cX0_readAmong 5 = .ok (.iload_n 3, 1) := by decide +kernel
theorem dX0_readAmong_6 : decode cX0_readAmong 6 = .ok (.iload_n 1, 1) := by decide +kernel
theorem dX0_readAmong_7 : decode cX0_readAmong 7 = .ok (.iload_n 2, 1) := by decide +kernel
theorem dX0_readAmong_8 : decode cX0_readAmong 8 = .ok (.invokestatic 151, 3) := by decide +kernel
theorem dX0_readAmong_11 : decode cX0_readAmong 11 = .ok (.ifCond .ne 10, 3) := by decide +kernel
theorem dX0_readAmong_14 : decode cX0_readAmong 14 = .ok (.aload_n 0, 1) := by decide +kernel
theorem dX0_readAmong_15 : decode cX0_readAmong 15 = .ok (.invokevirtual 75, 3) := by decide +kernel
theorem dX0_readAmong_18 : decode cX0_readAmong 18 = .ok (.pop, 1) := by decide +kernel
theorem dX0_readAmong_19 : decode cX0_readAmong 19 = .ok (.iconst 0, 1) := by decide +kernel
theorem dX0_readAmong_20 : decode cX0_readAmong 20 = .ok (.ireturn, 1) := by decide +kernel
theorem dX0_readAmong_21 : decode cX0_readAmong 21 = .ok (.aload_n 0, 1) := by decide +kernel
theorem dX0_readAmong_22 : decode cX0_readAmong 22 = .ok (.dup, 1) := by decide +kernel
theorem dX0_readAmong_23 : decode cX0_readAmong 23 = .ok (.getfield 19, 3) := by decide +kernel
theorem dX0_readAmong_26 : decode cX0_readAmong 26 = .ok (.iconst 1, 1) := by decide +kernel
theorem dX0_readAmong_27 : decode cX0_readAmong 27 = .ok (.iadd, 1) := by decide +kernel
theorem dX0_readAmong_28 : decode cX0_readAmong 28 = .ok (.putfield 19, 3) := by decide +kernel
theorem dX0_readAmong_31 : decode cX0_readAmong 31 = .ok (.iload_n 3, 1) := by decide +kernel
theorem dX0_readAmong_32 : decode cX0_readAmong 32 = .ok (.iload_n 1, 1) := by decide +kernel
theorem dX0_readAmong_33 : decode cX0_readAmong 33 = .ok (.isub, 1) := by decide +kernel
theorem dX0_readAmong_34 : decode cX0_readAmong 34 = .ok (.ireturn, 1) := by decide +kernel
theorem dX0_refuse_0 : decode cX0_refuse 0 = .ok (.aload_n 0, 1) := by decide +kernel
theorem dX0_refuse_1 : decode cX0_refuse 1 = .ok (.iconst 1, 1) := by decide +kernel
theorem dX0_refuse_2 : decode cX0_refuse 2 = .ok (.putfield 34, 3) := by decide +kernel
theorem dX0_refuse_5 : decode cX0_refuse 5 = .ok (.aload_n 0, 1) := by decide +kernel
theorem dX0_refuse_6 : decode cX0_refuse 6 = .ok (.aload_n 0, 1) := by decide +kernel
theorem dX0_refuse_7 : decode cX0_refuse 7 = .ok (.getfield 15, 3) := by decide +kernel
theorem dX0_refuse_10 : decode cX0_refuse 10 = .ok (.putfield 19, 3) := by decide +kernel
theorem dX0_refuse_13 : decode cX0_refuse 13 = .ok (.iconst 1, 1) := by decide +kernel
theorem dX0_refuse_14 : decode cX0_refuse 14 = .ok (.ireturn, 1) := by decide +kernel
theorem dX0_isIn_0 : decode cX0_isIn 0 = .ok (.iload_n 0, 1) := by decide +kernel
theorem dX0_isIn_1 : decode cX0_isIn 1 = .ok (.iload_n 1, 1) := by decide +kernel
theorem dX0_isIn_2 : decode cX0_isIn 2 = .ok (.if_icmp .lt 12, 3) := by decide +kernel
theorem dX0_isIn_5 : decode cX0_isIn 5 = .ok (.iload_n 0, 1) := by decide +kernel
theorem dX0_isIn_6 : decode cX0_isIn 6 = .ok (.iload_n 2, 1) := by decide +kernel
theorem dX0_isIn_7 : decode cX0_isIn 7 = .ok (.if_icmp .gt 7, 3) := by decide +kernel
theorem dX0_isIn_10 : decode cX0_isIn 10 = .ok (.iconst 1, 1) := by decide +kernel
theorem dX0_isIn_11 : decode cX0_isIn 11 = .ok (.goto 4, 3) := by decide +kernel
theorem dX0_isIn_14 : decode cX0_isIn 14 = .ok (.iconst 0, 1) := by decide +kernel
theorem dX0_isIn_15 : decode cX0_isIn 15 = .ok (.ireturn, 1) := by decide +kernel
end
section
theorem dX1_init_0 : decode cX1_init 0 = .ok (.aload_n 0, 1) := by decide +kernel
theorem dX1_init_1 : decode cX1_init 1 = .ok (.invokespecial 1, 3) := by decide +kernel
theorem dX1_init_4 : decode cX1_init 4 = .ok (.return_, 1) := by decide +kernel
end
section
theorem dX2_init_0 : decode cX2_init 0 = .ok (.aload_n 0, 1) := by decide +kernel
theorem dX2_init_1 : decode cX2_init 1 = .ok (.invokespecial 3, 3) := by decide +kernel
theorem dX2_init_4 : decode cX2_init 4 = .ok (.aload_n 0, 1) := by decide +kernel
theorem dX2_init_5 : decode cX2_init 5 = .ok (.sipush 500, 3) := by decide +kernel
theorem dX2_init_8 : decode cX2_init 8 = .ok (.newarray .int, 2) := by decide +kernel
theorem dX2_init_10 : decode cX2_init 10 = .ok (.putfield 9, 3) := by decide +kernel
theorem dX2_init_13 : decode cX2_init 13 = .ok (.aload_n 0, 1) := by decide +kernel
theorem dX2_init_14 : decode cX2_init 14 = .ok (.iload_n 1, 1) := by decide +kernel
theorem dX2_init_15 : decode cX2_init 15 = .ok (.putfield 15, 3) := by decide +kernel
theorem dX2_init_18 : decode cX2_init 18 = .ok (.return_, 1) := by decide +kernel
theorem dX2_load_0 : decode cX2_load 0 = .ok (.aload_n 0, 1) := by decide +kernel
theorem dX2_load_1 : decode cX2_load 1 = .ok (.getfield 9, 3) := by decide +kernel
theorem dX2_load_4 : decode cX2_load 4 = .ok (.iconst 0, 1) := by decide +kernel
theorem dX2_load_5 : decode cX2_load 5 = .ok (.iload_n 1, 1) := by decide +kernel
theorem dX2_load_6 : decode cX2_load 6 = .ok (.iastore, 1) := by decide +kernel
theorem dX2_load_7 : decode cX2_load 7 = .ok (.aload_n 0, 1) := by decide +kernel
theorem dX2_load_8 : decode cX2_load 8 = .ok (.getfield 9, 3) := by decide +kernel
theorem dX2_load_11 : decode cX2_load 11 = .ok (.iconst 1, 1) := by decide +kernel
theorem dX2_load_12 : decode cX2_load 12 = .ok (.iload_n 2, 1) := by decide +kernel
theorem dX2_load_13 : decode cX2_load 13 = .ok (.iastore, 1) := by decide +kernel
theorem dX2_load_14 : decode cX2_load 14 = .ok (.aload_n 0, 1) := by decide +kernel
theorem dX2_load_15 : decode cX2_load 15 = .ok (.getfield 9, 3) := by decide +kernel
theorem dX2_load_18 : decode cX2_load 18 = .ok (.iconst 2, 1) := by decide +kernel
theorem dX2_load_19 : decode cX2_load 19 = .ok (.iload_n 3, 1) := by decide +kernel
theorem dX2_load_20 : decode cX2_load 20 = .ok (.iastore, 1) := by decide +kernel
theorem dX2_load_21 : decode cX2_load 21 = .ok (.aload_n 0, 1) := by decide +kernel
theorem dX2_load_22 : decode cX2_load 22 = .ok (.getfield 9, 3) := by decide +kernel
theorem dX2_load_25 : decode cX2_load 25 = .ok (.iconst 3, 1) := by decide +kernel
theorem dX2_load_26 : decode cX2_load 26 = .ok (.iload 4, 2) := by decide +kernel
theorem dX2_load_28 : decode cX2_load 28 = .ok (.iastore, 1) := by decide +kernel
theorem dX2_load_29 : decode cX2_load 29 = .ok (.return_, 1) := by decide +kernel
theorem dX2_run_0 : decode cX2_run 0 = .ok (.aload_n 0, 1) := by decide +kernel
theorem dX2_run_1 : decode cX2_run 1 = .ok (.aload_n 1, 1) := by decide +kernel
theorem dX2_run_2 : decode cX2_run 2 = .ok (.putfield 19, 3) := by decide +kernel
theorem dX2_run_5 : decode cX2_run 5 = .ok (.aload_n 0, 1) := by decide +kernel
theorem dX2_run_6 : decode cX2_run 6 = .ok (.aload_n 3, 1) := by decide +kernel
theorem dX2_run_7 : decode cX2_run 7 = .ok (.getfield 23, 3) := by decide +kernel
theorem dX2_run_10 : decode cX2_run 10 = .ok (.putfield 28, 3) := by decide +kernel
theorem dX2_run_13 : decode cX2_run 13 = .ok (.aload_n 0, 1) := by decide +kernel
theorem dX2_run_14 : decode cX2_run 14 = .ok (.iconst 0, 1) := by decide +kernel
theorem dX2_run_15 : decode cX2_run 15 = .ok (.putfield 31, 3) := by decide +kernel
theorem dX2_run_18 : decode cX2_run 18 = .ok (.aload_n 0, 1) := by decide +kernel
theorem dX2_run_19 : decode cX2_run 19 = .ok (.iload 4, 2) := by decide +kernel
theorem dX2_run_21 : decode cX2_run 21 = .ok (.putfield 34, 3) := by decide +kernel
theorem dX2_run_24 : decode cX2_run 24 = .ok (.aload_n 0, 1) := by decide +kernel
theorem dX2_run_25 : decode cX2_run 25 = .ok (.iconst 0, 1) := by decide +kernel
theorem dX2_run_26 : decode cX2_run 26 = .ok (.putfield 37, 3) := by decide +kernel
theorem dX2_run_29 : decode cX2_run 29 = .ok (.aload_n 0, 1) := by decide +kernel
theorem dX2_run_30 : decode cX2_run 30 = .ok (.iconst 0, 1) := by decide +kernel
theorem dX2_run_31 : decode cX2_run 31 = .ok (.putfield 40, 3) := by decide +kernel
theorem dX2_run_34 : decode cX2_run 34 = .ok (.aload_n 0, 1) := by decide +kernel
theorem dX2_run_35 : decode cX2_run 35 = .ok (.iconst 3, 1) := by decide +kernel
theorem dX2_run_36 : decode cX2_run 36 = .ok (.putfield 43, 3) := by decide +kernel
theorem dX2_run_39 : decode cX2_run 39 = .ok (.aload_n 0, 1) := by decide +kernel
theorem dX2_run_40 : decode cX2_run 40 = .ok (.aload_n 1, 1) := by decide +kernel
theorem dX2_run_41 : decode cX2_run 41 = .ok (.iload_n 2, 1) := by decide +kernel
theorem dX2_run_42 : decode cX2_run 42 = .ok (.aaload, 1) := by decide +kernel
theorem dX2_run_43 : decode cX2_run 43 = .ok (.aload_n 3, 1) := by decide +kernel
theorem dX2_run_44 : decode cX2_run 44 = .ok (.iconst (-1), 1) := by decide +kernel
theorem dX2_run_45 : decode cX2_run 45 = .ok (.invokevirtual 46, 3) := by decide +kernel
theorem dX2_run_48 : decode cX2_run 48 = .ok (.iconst 0, 1) := by decide +kernel
theorem dX2_run_49 : decode cX2_run 49 = .ok (.istore 5, 2) := by decide +kernel
theorem dX2_run_51 : decode cX2_run 51 = .ok (.iload 5, 2) := by decide +kernel
theorem dX2_run_53 : decode cX2_run 53 = .ok (.ldc 50, 2) := by decide +kernel
theorem dX2_run_55 : decode cX2_run 55 = .ok (.if_icmp .ge 21, 3) := by decide +kernel
theorem dX2_run_58 : decode cX2_run 58 = .ok (.aload_n 0, 1) := by decide +kernel
theorem dX2_run_59 : decode cX2_run 59 = .ok (.getfield 43, 3) := by decide +kernel
theorem dX2_run_62 : decode cX2_run 62 = .ok (.iconst 3, 1) := by decide +kernel
theorem dX2_run_63 : decode cX2_run 63 = .ok (.if_icmp .ne 13, 3) := by decide +kernel
theorem dX2_run_66 : decode cX2_run 66 = .ok (.aload_n 0, 1) := by decide +kernel
theorem dX2_run_67 : decode cX2_run 67 = .ok (.invokevirtual 51, 3) := by decide +kernel
theorem dX2_run_70 : decode cX2_run 70 = .ok (.iinc 5 1, 3) := by decide +kernel
theorem dX2_run_73 : decode cX2_run 73 = .ok (.goto (-22), 3) := by decide +kernel
theorem dX2_run_76 : decode cX2_run 76 = .ok (.aload_n 0, 1) := by decide +kernel
theorem dX2_run_77 : decode cX2_run 77 = .ok (.getfield 43, 3) := by decide +kernel
theorem dX2_run_80 : decode cX2_run 80 = .ok (.ifCond .ne 7, 3) := by decide +kernel
theorem dX2_run_83 : decode cX2_run 83 = .ok (.iconst 1, 1) := by decide +kernel
theorem dX2_run_84 : decode cX2_run 84 = .ok (.goto 4, 3) := by decide +kernel
theorem dX2_run_87 : decode cX2_run 87 = .ok (.iconst 0, 1) := by decide +kernel
theorem dX2_run_88 : decode cX2_run 88 = .ok (.istore 5, 2) := by decide +kernel
theorem dX2_run_90 : decode cX2_run 90 = .ok (.aload_n 0, 1) := by decide +kernel
theorem dX2_run_91 : decode cX2_run 91 = .ok (.iload 5, 2) := by decide +kernel
theorem dX2_run_93 : decode cX2_run 93 = .ok (.ifCond .eq 10, 3) := by decide +kernel
theorem dX2_run_96 : decode cX2_run 96 = .ok (.aload_n 0, 1) := by decide +kernel
theorem dX2_run_97 : decode cX2_run 97 = .ok (.getfield 54, 3) := by decide +kernel
theorem dX2_run_100 : decode cX2_run 100 = .ok (.goto 4, 3) := by decide +kernel
theorem dX2_run_103 : decode cX2_run 103 = .ok (.iconst 0, 1) := by decide +kernel
theorem dX2_run_104 : decode cX2_run 104 = .ok (.putfield 57, 3) := by decide +kernel
theorem dX2_run_107 : decode cX2_run 107 = .ok (.aload_n 0, 1) := by decide +kernel
theorem dX2_run_108 : decode cX2_run 108 = .ok (.iload 5, 2) := by decide +kernel
theorem dX2_run_110 : decode cX2_run 110 = .ok (.ifCond .eq 22, 3) := by decide +kernel
theorem dX2_run_113 : decode cX2_run 113 = .ok (.aload_n 3, 1) := by decide +kernel
theorem dX2_run_114 : decode cX2_run 114 = .ok (.getfield 60, 3) := by decide +kernel
theorem dX2_run_117 : decode cX2_run 117 = .ok (.iconst 0, 1) := by decide +kernel
theorem dX2_run_118 : decode cX2_run 118 = .ok (.invokestatic 63, 3) := by decide +kernel
theorem dX2_run_121 : decode cX2_run 121 = .ok (.iconst 2, 1) := by decide +kernel
theorem dX2_run_122 : decode cX2_run 122 = .ok (.if_icmp .ne 10, 3) := by decide +kernel
theorem dX2_run_125 : decode cX2_run 125 = .ok (.aload_n 0, 1) := by decide +kernel
theorem dX2_run_126 : decode cX2_run 126 = .ok (.getfield 67, 3) := by decide +kernel
theorem dX2_run_129 : decode cX2_run 129 = .ok (.goto 4, 3) := by decide +kernel
theorem dX2_run_132 : decode cX2_run 132 = .ok (.iconst 0, 1) := by decide +kernel
theorem dX2_run_133 : decode cX2_run 133 = .ok (.putfield 70, 3) := by decide +kernel
theorem dX2_run_136 : decode cX2_run 136 = .ok (.aload_n 0, 1) := by decide +kernel
theorem dX2_run_137 : decode cX2_run 137 = .ok (.getfield 43, 3) := by decide +kernel
theorem dX2_run_140 : decode cX2_run 140 = .ok (.ireturn, 1) := by decide +kernel
theorem dX2_enter_0 : decode cX2_enter 0 = .ok (.aload_n 0, 1) := by decide +kernel
theorem dX2_enter_1 : decode cX2_enter 1 = .ok (.getfield 40, 3) := by decide +kernel
theorem dX2_enter_4 : decode cX2_enter 4 = .ok (.aload_n 0, 1) := by decide +kernel
theorem dX2_enter_5 : decode cX2_enter 5 = .ok (.getfield 34, 3) := by decide +kernel
theorem dX2_enter_8 : decode cX2_enter 8 = .ok (.if_icmp .ne 9, 3) := by decide +kernel
theorem dX2_enter_11 : decode cX2_enter 11 = .ok (.aload_n 0, 1) := by decide +kernel
theorem dX2_enter_12 : decode cX2_enter 12 = .ok (.iconst 2, 1) := by decide +kernel
theorem dX2_enter_13 : decode cX2_enter 13 = .ok (.putfield 43, 3) := by decide +kernel
theorem dX2_enter_16 : decode cX2_enter 16 = .ok (.return_, 1) := by decide +kernel
theorem dX2_enter_17 : decode cX2_enter 17 = .ok (.aload_n 0, 1) := by decide +kernel
theorem dX2_enter_18 : decode cX2_enter 18 = .ok (.dup, 1) := by decide +kernel
theorem dX2_enter_19 : decode cX2_enter 19 = .ok (.getfield 40, 3) := by decide +kernel
theorem dX2_enter_22 : decode cX2_enter 22 = .ok (.iconst 1, 1) := by decide +kernel
theorem dX2_enter_23 : decode cX2_enter 23 = .ok (.iadd, 1) := by decide +kernel
theorem dX2_enter_24 : decode cX2_enter 24 = .ok (.putfield 40, 3) := by decide +kernel
theorem dX2_enter_27 : decode cX2_enter 27 = .ok (.aload_n 0, 1) := by decide +kernel
theorem dX2_enter_28 : decode cX2_enter 28 = .ok (.getfield 28, 3) := by decide +kernel
theorem dX2_enter_31 : decode cX2_enter 31 = .ok (.iconst 2, 1) := by decide +kernel
theorem dX2_enter_32 : decode cX2_enter 32 = .ok (.iadd, 1) := by decide +kernel
theorem dX2_enter_33 : decode cX2_enter 33 = .ok (.aload_n 2, 1) := by decide +kernel
theorem dX2_enter_34 : decode cX2_enter 34 = .ok (.getfield 73, 3) := by decide +kernel
theorem dX2_enter_37 : decode cX2_enter 37 = .ok (.iadd, 1) := by decide +kernel
theorem dX2_enter_38 : decode cX2_enter 38 = .ok (.istore 4, 2) := by decide +kernel
theorem dX2_enter_40 : decode cX2_enter 40 = .ok (.iload 4, 2) := by decide +kernel
theorem dX2_enter_42 : decode cX2_enter 42 = .ok (.aload_n 0, 1) := by decide +kernel
theorem dX2_enter_43 : decode cX2_enter 43 = .ok (.getfield 15, 3) := by decide +kernel
theorem dX2_enter_46 : decode cX2_enter 46 = .ok (.if_icmp .le 9, 3) := by decide +kernel
theorem dX2_enter_49 : decode cX2_enter 49 = .ok (.aload_n 0, 1) := by decide +kernel
theorem dX2_enter_50 : decode cX2_enter 50 = .ok (.iconst 1, 1) := by decide +kernel
theorem dX2_enter_51 : decode cX2_enter 51 = .ok (.putfield 43, 3) := by decide +kernel
theorem dX2_enter_54 : decode cX2_enter 54 = .ok (.return_, 1) := by decide +kernel
theorem dX2_enter_55 : decode cX2_enter 55 = .ok (.aload_n 0, 1) := by decide +kernel
theorem dX2_enter_56 : decode cX2_enter 56 = .ok (.aload_n 0, 1) := by decide +kernel
theorem dX2_enter_57 : decode cX2_enter 57 = .ok (.getfield 37, 3) := by decide +kernel
theorem dX2_enter_60 : decode cX2_enter 60 = .ok (.iload 4, 2) := by decide +kernel
theorem dX2_enter_62 : decode cX2_enter 62 = .ok (.invokestatic 76, 3) := by decide +kernel
theorem dX2_enter_65 : decode cX2_enter 65 = .ok (.putfield 37, 3) := by decide +kernel
theorem dX2_enter_68 : decode cX2_enter 68 = .ok (.aload_n 0, 1) := by decide +kernel
theorem dX2_enter_69 : decode cX2_enter 69 = .ok (.getfield 28, 3) := by decide +kernel
theorem dX2_enter_72 : decode cX2_enter 72 = .ok (.aload_n 2, 1) := by decide +kernel
theorem dX2_enter_73 : decode cX2_enter 73 = .ok (.getfield 23, 3) := by decide +kernel
theorem dX2_enter_76 : decode cX2_enter 76 = .ok (.isub, 1) := by decide +kernel
theorem dX2_enter_77 : decode cX2_enter 77 = .ok (.istore 5, 2) := by decide +kernel
theorem dX2_enter_79 : decode cX2_enter 79 = .ok (.aload_n 0, 1) := by decide +kernel
theorem dX2_enter_80 : decode cX2_enter 80 = .ok (.iload_n 3, 1) := by decide +kernel
theorem dX2_enter_81 : decode cX2_enter 81 = .ok (.invokevirtual 81, 3) := by decide +kernel
theorem dX2_enter_84 : decode cX2_enter 84 = .ok (.aload_n 0, 1) := by decide +kernel
theorem dX2_enter_85 : decode cX2_enter 85 = .ok (.aload_n 0, 1) := by decide +kernel
theorem dX2_enter_86 : decode cX2_enter 86 = .ok (.getfield 31, 3) := by decide +kernel
theorem dX2_enter_89 : decode cX2_enter 89 = .ok (.invokevirtual 81, 3) := by decide +kernel
theorem dX2_enter_92 : decode cX2_enter 92 = .ok (.aload_n 0, 1) := by decide +kernel
theorem dX2_enter_93 : decode cX2_enter 93 = .ok (.iload 5, 2) := by decide +kernel
theorem dX2_enter_95 : decode cX2_enter 95 = .ok (.putfield 31, 3) := by decide +kernel
theorem dX2_enter_98 : decode cX2_enter 98 = .ok (.aload_n 0, 1) := by decide +kernel
theorem dX2_enter_99 : decode cX2_enter 99 = .ok (.aload_n 1, 1) := by decide +kernel
theorem dX2_enter_100 : decode cX2_enter 100 = .ok (.putfield 85, 3) := by decide +kernel
theorem dX2_enter_103 : decode cX2_enter 103 = .ok (.aload_n 0, 1) := by decide +kernel
theorem dX2_enter_104 : decode cX2_enter 104 = .ok (.aload_n 2, 1) := by decide +kernel
theorem dX2_enter_105 : decode cX2_enter 105 = .ok (.getfield 89, 3) := by decide +kernel
theorem dX2_enter_108 : decode cX2_enter 108 = .ok (.putfield 92, 3) := by decide +kernel
theorem dX2_enter_111 : decode cX2_enter 111 = .ok (.return_, 1) := by decide +kernel
theorem dX2_leave_0 : decode cX2_leave 0 = .ok (.aload_n 0, 1) := by decide +kernel
theorem dX2_leave_1 : decode cX2_leave 1 = .ok (.invokevirtual 95, 3) := by decide +kernel
theorem dX2_leave_4 : decode cX2_leave 4 = .ok (.istore_n 1, 1) := by decide +kernel
theorem dX2_leave_5 : decode cX2_leave 5 = .ok (.aload_n 0, 1) := by decide +kernel
theorem dX2_leave_6 : decode cX2_leave 6 = .ok (.invokevirtual 95, 3) := by decide +kernel
theorem dX2_leave_9 : decode cX2_leave 9 = .ok (.istore_n 2, 1) := by decide +kernel
theorem dX2_leave_10 : decode cX2_leave 10 = .ok (.aload_n 0, 1) := by decide +kernel
theorem dX2_leave_11 : decode cX2_leave 11 = .ok (.aload_n 0, 1) := by decide +kernel
theorem dX2_leave_12 : decode cX2_leave 12 = .ok (.getfield 31, 3) := by decide +kernel
theorem dX2_leave_15 : decode cX2_leave 15 = .ok (.putfield 28, 3) := by decide +kernel
theorem dX2_leave_18 : decode cX2_leave 18 = .ok (.aload_n 0, 1) := by decide +kernel
theorem dX2_leave_19 : decode cX2_leave 19 = .ok (.iload_n 1, 1) := by decide +kernel
theorem dX2_leave_20 : decode cX2_leave 20 = .ok (.putfield 31, 3) := by decide +kernel
theorem dX2_leave_23 : decode cX2_leave 23 = .ok (.iload_n 2, 1) := by decide +kernel
theorem dX2_leave_24 : decode cX2_leave 24 = .ok (.iconst (-1), 1) := by decide +kernel
theorem dX2_leave_25 : decode cX2_leave 25 = .ok (.if_icmp .ne 9, 3) := by decide +kernel
theorem dX2_leave_28 : decode cX2_leave 28 = .ok (.aload_n 0, 1) := by decide +kernel
theorem dX2_leave_29 : decode cX2_leave 29 = .ok (.iconst 0, 1) := by decide +kernel
theorem dX2_leave_30 : decode cX2_leave 30 = .ok (.putfield 43, 3) := by decide +kernel
theorem dX2_leave_33 : decode cX2_leave 33 = .ok (.return_, 1) := by decide +kernel
theorem dX2_leave_34 : decode cX2_leave 34 = .ok (.aload_n 0, 1) := by decide +kernel
theorem dX2_leave_35 : decode cX2_leave 35 = .ok (.aload_n 0, 1) := by decide +kernel
theorem dX2_leave_36 : decode cX2_leave 36 = .ok (.getfield 19, 3) := by decide +kernel
theorem dX2_leave_39 : decode cX2_leave 39 = .ok (.iload_n 2, 1) := by decide +kernel
theorem dX2_leave_40 : decode cX2_leave 40 = .ok (.sipush 240, 3) := by decide +kernel
theorem dX2_leave_43 : decode cX2_leave 43 = .ok (.idiv, 1) := by decide +kernel
theorem dX2_leave_44 : decode cX2_leave 44 = .ok (.aaload, 1) := by decide +kernel
theorem dX2_leave_45 : decode cX2_leave 45 = .ok (.putfield 85, 3) := by decide +kernel
theorem dX2_leave_48 : decode cX2_leave 48 = .ok (.aload_n 0, 1) := by decide +kernel
theorem dX2_leave_49 : decode cX2_leave 49 = .ok (.iload_n 2, 1) := by decide +kernel
theorem dX2_leave_50 : decode cX2_leave 50 = .ok (.sipush 240, 3) := by decide +kernel
theorem dX2_leave_53 : decode cX2_leave 53 = .ok (.irem, 1) := by decide +kernel
theorem dX2_leave_54 : decode cX2_leave 54 = .ok (.putfield 92, 3) := by decide +kernel
theorem dX2_leave_57 : decode cX2_leave 57 = .ok (.return_, 1) := by decide +kernel
theorem dX2_step_0 : decode cX2_step 0 = .ok (.aload_n 0, 1) := by decide +kernel
theorem dX2_step_1 : decode cX2_step 1 = .ok (.getfield 92, 3) := by decide +kernel
theorem dX2_step_4 : decode cX2_step 4 = .ok (.sipush 240, 3) := by decide +kernel
theorem dX2_step_7 : decode cX2_step 7 = .ok (.if_icmp .ge 18, 3) := by decide +kernel
theorem dX2_step_10 : decode cX2_step 10 = .ok (.aload_n 0, 1) := by decide +kernel
theorem dX2_step_11 : decode cX2_step 11 = .ok (.getfield 85, 3) := by decide +kernel
theorem dX2_step_14 : decode cX2_step 14 = .ok (.getfield 99, 3) := by decide +kernel
theorem dX2_step_17 : decode cX2_step 17 = .ok (.aload_n 0, 1) := by decide +kernel
theorem dX2_step_18 : decode cX2_step 18 = .ok (.getfield 92, 3) := by decide +kernel
theorem dX2_step_21 : decode cX2_step 21 = .ok (.iaload, 1) := by decide +kernel
theorem dX2_step_22 : decode cX2_step 22 = .ok (.goto 5, 3) := by decide +kernel
theorem dX2_step_25 : decode cX2_step 25 = .ok (.bipush 13, 2) := by decide +kernel
theorem dX2_step_27 : decode cX2_step 27 = .ok (.istore_n 1, 1) := by decide +kernel
theorem dX2_step_28 : decode cX2_step 28 = .ok (.iload_n 1, 1) := by decide +kernel
theorem dX2_step_29 : decode cX2_step 29 = .ok (.iconst 4, 1) := by decide +kernel
theorem dX2_step_30 : decode cX2_step 30 = .ok (.ishr, 1) := by decide +kernel
theorem dX2_step_31 : decode cX2_step 31 = .ok (.istore_n 2, 1) := by decide +kernel
theorem dX2_step_32 : decode cX2_step 32 = .ok (.aload_n 0, 1) := by decide +kernel
theorem dX2_step_33 : decode cX2_step 33 = .ok (.dup, 1) := by decide +kernel
theorem dX2_step_34 : decode cX2_step 34 = .ok (.getfield 92, 3) := by decide +kernel
theorem dX2_step_37 : decode cX2_step 37 = .ok (.iconst 1, 1) := by decide +kernel
theorem dX2_step_38 : decode cX2_step 38 = .ok (.iadd, 1) := by decide +kernel
theorem dX2_step_39 : decode cX2_step 39 = .ok (.putfield 92, 3) := by decide +kernel
theorem dX2_step_42 : decode cX2_step 42 = .ok (.iload_n 1, 1) := by decide +kernel
theorem dX2_step_43 : decode cX2_step 43 = .ok (.bipush 15, 2) := by decide +kernel
theorem dX2_step_45 : decode cX2_step 45 = .ok (.iand, 1) := by decide +kernel
theorem dX2_step_46 : decode cX2_step 46 = .ok (.tableswitch 280 0 12 #[66, 74, 92, 127, 138, 157, 173, 189, 205, 224, 235, 257, 265], 66) := by decide +kernel
theorem dX2_step_112 : decode cX2_step 112 = .ok (.aload_n 0, 1) := by decide +kernel
theorem dX2_step_113 : decode cX2_step 113 = .ok (.iload_n 2, 1) := by decide +kernel
theorem dX2_step_114 : decode cX2_step 114 = .ok (.putfield 54, 3) := by decide +kernel
theorem dX2_step_117 : decode cX2_step 117 = .ok (.goto 213, 3) := by decide +kernel
theorem dX2_step_120 : decode cX2_step 120 = .ok (.aload_n 0, 1) := by decide +kernel
theorem dX2_step_121 : decode cX2_step 121 = .ok (.aload_n 0, 1) := by decide +kernel
theorem dX2_step_122 : decode cX2_step 122 = .ok (.getfield 9, 3) := by decide +kernel
theorem dX2_step_125 : decode cX2_step 125 = .ok (.aload_n 0, 1) := by decide +kernel
theorem dX2_step_126 : decode cX2_step 126 = .ok (.getfield 31, 3) := by decide +kernel
theorem dX2_step_129 : decode cX2_step 129 = .ok (.iload_n 2, 1) := by decide +kernel
theorem dX2_step_130 : decode cX2_step 130 = .ok (.iadd, 1) := by decide +kernel
theorem dX2_step_131 : decode cX2_step 131 = .ok (.iaload, 1) := by decide +kernel
theorem dX2_step_132 : decode cX2_step 132 = .ok (.putfield 54, 3) := by decide +kernel
theorem dX2_step_135 : decode cX2_step 135 = .ok (.goto 195, 3) := by decide +kernel
theorem dX2_step_138 : decode cX2_step 138 = .ok (.aload_n 0, 1) := by decide +kernel
theorem dX2_step_139 : decode cX2_step 139 = .ok (.aload_n 0, 1) := by decide +kernel
theorem dX2_step_140 : decode cX2_step 140 = .ok (.getfield 9, 3) := by decide +kernel
theorem dX2_step_143 : decode cX2_step 143 = .ok (.aload_n 0, 1) := by decide +kernel
theorem dX2_step_144 : decode cX2_step 144 = .ok (.getfield 31, 3) := by decide +kernel
theorem dX2_step_147 : decode cX2_step 147 = .ok (.iload_n 2, 1) := by decide +kernel
theorem dX2_step_148 : decode cX2_step 148 = .ok (.iadd, 1) := by decide +kernel
theorem dX2_step_149 : decode cX2_step 149 = .ok (.iaload, 1) := by decide +kernel
theorem dX2_step_150 : decode cX2_step 150 = .ok (.putfield 54, 3) := by decide +kernel
theorem dX2_step_153 : decode cX2_step 153 = .ok (.aload_n 0, 1) := by decide +kernel
theorem dX2_step_154 : decode cX2_step 154 = .ok (.aload_n 0, 1) := by decide +kernel
theorem dX2_step_155 : decode cX2_step 155 = .ok (.getfield 9, 3) := by decide +kernel
theorem dX2_step_158 : decode cX2_step 158 = .ok (.aload_n 0, 1) := by decide +kernel
theorem dX2_step_159 : decode cX2_step 159 = .ok (.getfield 31, 3) := by decide +kernel
theorem dX2_step_162 : decode cX2_step 162 = .ok (.iload_n 2, 1) := by decide +kernel
theorem dX2_step_163 : decode cX2_step 163 = .ok (.iadd, 1) := by decide +kernel
theorem dX2_step_164 : decode cX2_step 164 = .ok (.iconst 1, 1) := by decide +kernel
theorem dX2_step_165 : decode cX2_step 165 = .ok (.iadd, 1) := by decide +kernel
theorem dX2_step_166 : decode cX2_step 166 = .ok (.iaload, 1) := by decide +kernel
theorem dX2_step_167 : decode cX2_step 167 = .ok (.putfield 67, 3) := by decide +kernel
theorem dX2_step_170 : decode cX2_step 170 = .ok (.goto 160, 3) := by decide +kernel
theorem dX2_step_173 : decode cX2_step 173 = .ok (.aload_n 0, 1) := by decide +kernel
theorem dX2_step_174 : decode cX2_step 174 = .ok (.aload_n 0, 1) := by decide +kernel
theorem dX2_step_175 : decode cX2_step 175 = .ok (.getfield 54, 3) := by decide +kernel
theorem dX2_step_178 : decode cX2_step 178 = .ok (.invokevirtual 81, 3) := by decide +kernel
theorem dX2_step_181 : decode cX2_step 181 = .ok (.goto 149, 3) := by decide +kernel
theorem dX2_step_184 : decode cX2_step 184 = .ok (.aload_n 0, 1) := by decide +kernel
theorem dX2_step_185 : decode cX2_step 185 = .ok (.aload_n 0, 1) := by decide +kernel
theorem dX2_step_186 : decode cX2_step 186 = .ok (.getfield 54, 3) := by decide +kernel
theorem dX2_step_189 : decode cX2_step 189 = .ok (.invokevirtual 81, 3) := by decide +kernel
theorem dX2_step_192 : decode cX2_step 192 = .ok (.aload_n 0, 1) := by decide +kernel
theorem dX2_step_193 : decode cX2_step 193 = .ok (.aload_n 0, 1) := by decide +kernel
theorem dX2_step_194 : decode cX2_step 194 = .ok (.getfield 67, 3) := by decide +kernel
theorem dX2_step_197 : decode cX2_step 197 = .ok (.invokevirtual 81, 3) := by decide +kernel
theorem dX2_step_200 : decode cX2_step 200 = .ok (.goto 130, 3) := by decide +kernel
theorem dX2_step_203 : decode cX2_step 203 = .ok (.aload_n 0, 1) := by decide +kernel
theorem dX2_step_204 : decode cX2_step 204 = .ok (.aload_n 0, 1) := by decide +kernel
theorem dX2_step_205 : decode cX2_step 205 = .ok (.invokevirtual 95, 3) := by decide +kernel
theorem dX2_step_208 : decode cX2_step 208 = .ok (.aload_n 0, 1) := by decide +kernel
theorem dX2_step_209 : decode cX2_step 209 = .ok (.getfield 54, 3) := by decide +kernel
theorem dX2_step_212 : decode cX2_step 212 = .ok (.iadd, 1) := by decide +kernel
theorem dX2_step_213 : decode cX2_step 213 = .ok (.putfield 54, 3) := by decide +kernel
theorem dX2_step_216 : decode cX2_step 216 = .ok (.goto 114, 3) := by decide +kernel
theorem dX2_step_219 : decode cX2_step 219 = .ok (.aload_n 0, 1) := by decide +kernel
theorem dX2_step_220 : decode cX2_step 220 = .ok (.aload_n 0, 1) := by decide +kernel
theorem dX2_step_221 : decode cX2_step 221 = .ok (.invokevirtual 95, 3) := by decide +kernel
theorem dX2_step_224 : decode cX2_step 224 = .ok (.aload_n 0, 1) := by decide +kernel
theorem dX2_step_225 : decode cX2_step 225 = .ok (.getfield 54, 3) := by decide +kernel
theorem dX2_step_228 : decode cX2_step 228 = .ok (.isub, 1) := by decide +kernel
theorem dX2_step_229 : decode cX2_step 229 = .ok (.putfield 54, 3) := by decide +kernel
theorem dX2_step_232 : decode cX2_step 232 = .ok (.goto 98, 3) := by decide +kernel
theorem dX2_step_235 : decode cX2_step 235 = .ok (.aload_n 0, 1) := by decide +kernel
theorem dX2_step_236 : decode cX2_step 236 = .ok (.aload_n 0, 1) := by decide +kernel
theorem dX2_step_237 : decode cX2_step 237 = .ok (.invokevirtual 95, 3) := by decide +kernel
theorem dX2_step_240 : decode cX2_step 240 = .ok (.aload_n 0, 1) := by decide +kernel
theorem dX2_step_241 : decode cX2_step 241 = .ok (.getfield 54, 3) := by decide +kernel
theorem dX2_step_244 : decode cX2_step 244 = .ok (.imul, 1) := by decide +kernel
theorem dX2_step_245 : decode cX2_step 245 = .ok (.putfield 54, 3) := by decide +kernel
theorem dX2_step_248 : decode cX2_step 248 = .ok (.goto 82, 3) := by decide +kernel
theorem dX2_step_251 : decode cX2_step 251 = .ok (.aload_n 0, 1) := by decide +kernel
theorem dX2_step_252 : decode cX2_step 252 = .ok (.aload_n 0, 1) := by decide +kernel
theorem dX2_step_253 : decode cX2_step 253 = .ok (.getfield 54, 3) := by decide +kernel
theorem dX2_step_256 : decode cX2_step 256 = .ok (.putfield 67, 3) := by decide +kernel
theorem dX2_step_259 : decode cX2_step 259 = .ok (.aload_n 0, 1) := by decide +kernel
theorem dX2_step_260 : decode cX2_step 260 = .ok (.aload_n 0, 1) := by decide +kernel
theorem dX2_step_261 : decode cX2_step 261 = .ok (.invokevirtual 95, 3) := by decide +kernel
theorem dX2_step_264 : decode cX2_step 264 = .ok (.putfield 54, 3) := by decide +kernel
theorem dX2_step_267 : decode cX2_step 267 = .ok (.goto 63, 3) := by decide +kernel
theorem dX2_step_270 : decode cX2_step 270 = .ok (.aload_n 0, 1) := by decide +kernel
theorem dX2_step_271 : decode cX2_step 271 = .ok (.aload_n 0, 1) := by decide +kernel
theorem dX2_step_272 : decode cX2_step 272 = .ok (.getfield 67, 3) := by decide +kernel
theorem dX2_step_275 : decode cX2_step 275 = .ok (.putfield 54, 3) := by decide +kernel
theorem dX2_step_278 : decode cX2_step 278 = .ok (.goto 52, 3) := by decide +kernel
theorem dX2_step_281 : decode cX2_step 281 = .ok (.aload_n 0, 1) := by decide +kernel
theorem dX2_step_282 : decode cX2_step 282 = .ok (.aload_n 0, 1) := by decide +kernel
theorem dX2_step_283 : decode cX2_step 283 = .ok (.getfield 54, 3) := by decide +kernel
theorem dX2_step_286 : decode cX2_step 286 = .ok (.ifCond .ne 7, 3) := by decide +kernel
theorem dX2_step_289 : decode cX2_step 289 = .ok (.iload_n 2, 1) := by decide +kernel
theorem dX2_step_290 : decode cX2_step 290 = .ok (.goto 7, 3) := by decide +kernel
theorem dX2_step_293 : decode cX2_step 293 = .ok (.aload_n 0, 1) := by decide +kernel
theorem dX2_step_294 : decode cX2_step 294 = .ok (.getfield 92, 3) := by decide +kernel
theorem dX2_step_297 : decode cX2_step 297 = .ok (.putfield 92, 3) := by decide +kernel
theorem dX2_step_300 : decode cX2_step 300 = .ok (.goto 30, 3) := by decide +kernel
theorem dX2_step_303 : decode cX2_step 303 = .ok (.aload_n 0, 1) := by decide +kernel
theorem dX2_step_304 : decode cX2_step 304 = .ok (.iload_n 2, 1) := by decide +kernel
theorem dX2_step_305 : decode cX2_step 305 = .ok (.putfield 92, 3) := by decide +kernel
theorem dX2_step_308 : decode cX2_step 308 = .ok (.goto 22, 3) := by decide +kernel
theorem dX2_step_311 : decode cX2_step 311 = .ok (.aload_n 0, 1) := by decide +kernel
theorem dX2_step_312 : decode cX2_step 312 = .ok (.iload_n 2, 1) := by decide +kernel
theorem dX2_step_313 : decode cX2_step 313 = .ok (.bipush 26, 2) := by decide +kernel
theorem dX2_step_315 : decode cX2_step 315 = .ok (.idiv, 1) := by decide +kernel
theorem dX2_step_316 : decode cX2_step 316 = .ok (.iload_n 2, 1) := by decide +kernel
theorem dX2_step_317 : decode cX2_step 317 = .ok (.bipush 26, 2) := by decide +kernel
theorem dX2_step_319 : decode cX2_step 319 = .ok (.irem, 1) := by decide +kernel
theorem dX2_step_320 : decode cX2_step 320 = .ok (.invokevirtual 104, 3) := by decide +kernel
theorem dX2_step_323 : decode cX2_step 323 = .ok (.goto 7, 3) := by decide +kernel
theorem dX2_step_326 : decode cX2_step 326 = .ok (.aload_n 0, 1) := by decide +kernel
theorem dX2_step_327 : decode cX2_step 327 = .ok (.invokevirtual 108, 3) := by decide +kernel
theorem dX2_step_330 : decode cX2_step 330 = .ok (.return_, 1) := by decide +kernel
theorem dX2_enterNamed_0 : decode cX2_enterNamed 0 = .ok (.aload_n 0, 1) := by decide +kernel
theorem dX2_enterNamed_1 : decode cX2_enterNamed 1 = .ok (.getfield 19, 3) := by decide +kernel
theorem dX2_enterNamed_4 : decode cX2_enterNamed 4 = .ok (.iload_n 1, 1) := by decide +kernel
theorem dX2_enterNamed_5 : decode cX2_enterNamed 5 = .ok (.aaload, 1) := by decide +kernel
theorem dX2_enterNamed_6 : decode cX2_enterNamed 6 = .ok (.astore_n 3, 1) := by decide +kernel
theorem dX2_enterNamed_7 : decode cX2_enterNamed 7 = .ok (.aload_n 3, 1) := by decide +kernel
theorem dX2_enterNamed_8 : decode cX2_enterNamed 8 = .ok (.iconst (-1), 1) := by decide +kernel
theorem dX2_enterNamed_9 : decode cX2_enterNamed 9 = .ok (.iload_n 2, 1) := by decide +kernel
theorem dX2_enterNamed_10 : decode cX2_enterNamed 10 = .ok (.invokevirtual 111, 3) := by decide +kernel
theorem dX2_enterNamed_13 : decode cX2_enterNamed 13 = .ok (.astore 4, 2) := by decide +kernel
theorem dX2_enterNamed_15 : decode cX2_enterNamed 15 = .ok (.aload 4, 2) := by decide +kernel
theorem dX2_enterNamed_17 : decode cX2_enterNamed 17 = .ok (.ifnonnull 9, 3) := by decide +kernel
theorem dX2_enterNamed_20 : decode cX2_enterNamed 20 = .ok (.aload_n 0, 1) := by decide +kernel
theorem dX2_enterNamed_21 : decode cX2_enterNamed 21 = .ok (.iconst 1, 1) := by decide +kernel
theorem dX2_enterNamed_22 : decode cX2_enterNamed 22 = .ok (.putfield 43, 3) := by decide +kernel
theorem dX2_enterNamed_25 : decode cX2_enterNamed 25 = .ok (.return_, 1) := by decide +kernel
theorem dX2_enterNamed_26 : decode cX2_enterNamed 26 = .ok (.aload_n 0, 1) := by decide +kernel
theorem dX2_enterNamed_27 : decode cX2_enterNamed 27 = .ok (.aload_n 3, 1) := by decide +kernel
theorem dX2_enterNamed_28 : decode cX2_enterNamed 28 = .ok (.aload 4, 2) := by decide +kernel
theorem dX2_enterNamed_30 : decode cX2_enterNamed 30 = .ok (.aload_n 0, 1) := by decide +kernel
theorem dX2_enterNamed_31 : decode cX2_enterNamed 31 = .ok (.getfield 85, 3) := by decide +kernel
theorem dX2_enterNamed_34 : decode cX2_enterNamed 34 = .ok (.getfield 115, 3) := by decide +kernel
theorem dX2_enterNamed_37 : decode cX2_enterNamed 37 = .ok (.sipush 240, 3) := by decide +kernel
theorem dX2_enterNamed_40 : decode cX2_enterNamed 40 = .ok (.imul, 1) := by decide +kernel
theorem dX2_enterNamed_41 : decode cX2_enterNamed 41 = .ok (.aload_n 0, 1) := by decide +kernel
theorem dX2_enterNamed_42 : decode cX2_enterNamed 42 = .ok (.getfield 92, 3) := by decide +kernel
theorem dX2_enterNamed_45 : decode cX2_enterNamed 45 = .ok (.iadd, 1) := by decide +kernel
theorem dX2_enterNamed_46 : decode cX2_enterNamed 46 = .ok (.invokevirtual 46, 3) := by decide +kernel
theorem dX2_enterNamed_49 : decode cX2_enterNamed 49 = .ok (.return_, 1) := by decide +kernel
theorem dX2_push_0 : decode cX2_push 0 = .ok (.aload_n 0, 1) := by decide +kernel
theorem dX2_push_1 : decode cX2_push 1 = .ok (.getfield 28, 3) := by decide +kernel
theorem dX2_push_4 : decode cX2_push 4 = .ok (.sipush 500, 3) := by decide +kernel
theorem dX2_push_7 : decode cX2_push 7 = .ok (.if_icmp .ge 23, 3) := by decide +kernel
theorem dX2_push_10 : decode cX2_push 10 = .ok (.aload_n 0, 1) := by decide +kernel
theorem dX2_push_11 : decode cX2_push 11 = .ok (.getfield 9, 3) := by decide +kernel
theorem dX2_push_14 : decode cX2_push 14 = .ok (.aload_n 0, 1) := by decide +kernel
theorem dX2_push_15 : decode cX2_push 15 = .ok (.getfield 28, 3) := by decide +kernel
theorem dX2_push_18 : decode cX2_push 18 = .ok (.iload_n 1, 1) := by decide +kernel
theorem dX2_push_19 : decode cX2_push 19 = .ok (.iastore, 1) := by decide +kernel
theorem dX2_push_20 : decode cX2_push 20 = .ok (.aload_n 0, 1) := by decide +kernel
theorem dX2_push_21 : decode cX2_push 21 = .ok (.dup, 1) := by decide +kernel
theorem dX2_push_22 : decode cX2_push 22 = .ok (.getfield 28, 3) := by decide +kernel
theorem dX2_push_25 : decode cX2_push 25 = .ok (.iconst 1, 1) := by decide +kernel
theorem dX2_push_26 : decode cX2_push 26 = .ok (.iadd, 1) := by decide +kernel
theorem dX2_push_27 : decode cX2_push 27 = .ok (.putfield 28, 3) := by decide +kernel
theorem dX2_push_30 : decode cX2_push 30 = .ok (.return_, 1) := by decide +kernel
theorem dX2_pop_0 : decode cX2_pop 0 = .ok (.aload_n 0, 1) := by decide +kernel
theorem dX2_pop_1 : decode cX2_pop 1 = .ok (.getfield 28, 3) := by decide +kernel
theorem dX2_pop_4 : decode cX2_pop 4 = .ok (.ifCond .ne 5, 3) := by decide +kernel
theorem dX2_pop_7 : decode cX2_pop 7 = .ok (.iconst 0, 1) := by decide +kernel
theorem dX2_pop_8 : decode cX2_pop 8 = .ok (.ireturn, 1) := by decide +kernel
theorem dX2_pop_9 : decode cX2_pop 9 = .ok (.aload_n 0, 1) := by decide +kernel
theorem dX2_pop_10 : decode cX2_pop 10 = .ok (.dup, 1) := by decide +kernel
theorem dX2_pop_11 : decode cX2_pop 11 = .ok (.getfield 28, 3) := by decide +kernel
theorem dX2_pop_14 : decode cX2_pop 14 = .ok (.iconst 1, 1) := by decide +kernel
theorem dX2_pop_15 : decode cX2_pop 15 = .ok (.isub, 1) := by decide +kernel
theorem dX2_pop_16 : decode cX2_pop 16 = .ok (.putfield 28, 3) := by decide +kernel
theorem dX2_pop_19 : decode cX2_pop 19 = .ok (.aload_n 0, 1) := by decide +kernel
theorem dX2_pop_20 : decode cX2_pop 20 = .ok (.getfield 9, 3) := by decide +kernel
theorem dX2_pop_23 : decode cX2_pop 23 = .ok (.aload_n 0, 1) := by decide +kernel
theorem dX2_pop_24 : decode cX2_pop 24 = .ok (.getfield 28, 3) := by decide +kernel
theorem dX2_pop_27 : decode cX2_pop 27 = .ok (.iaload, 1) := by decide +kernel
theorem dX2_pop_28 : decode cX2_pop 28 = .ok (.ireturn, 1) := by decide +kernel
end
section
theorem dX3_init_0 : decode cX3_init 0 = .ok (.aload_n 0, 1) := by decide +kernel
theorem dX3_init_1 : decode cX3_init 1 = .ok (.invokespecial 3, 3) := by decide +kernel
theorem dX3_init_4 : decode cX3_init 4 = .ok (.aload_n 0, 1) := by decide +kernel
theorem dX3_init_5 : decode cX3_init 5 = .ok (.bipush 6, 2) := by decide +kernel
theorem dX3_init_7 : decode cX3_init 7 = .ok (.anewarray 9, 3) := by decide +kernel
theorem dX3_init_10 : decode cX3_init 10 = .ok (.putfield 11, 3) := by decide +kernel
theorem dX3_init_13 : decode cX3_init 13 = .ok (.aload_n 0, 1) := by decide +kernel
theorem dX3_init_14 : decode cX3_init 14 = .ok (.sipush 240, 3) := by decide +kernel
theorem dX3_init_17 : decode cX3_init 17 = .ok (.newarray .int, 2) := by decide +kernel
theorem dX3_init_19 : decode cX3_init 19 = .ok (.putfield 17, 3) := by decide +kernel
theorem dX3_init_22 : decode cX3_init 22 = .ok (.iconst 0, 1) := by decide +kernel
theorem dX3_init_23 : decode cX3_init 23 = .ok (.istore_n 1, 1) := by decide +kernel
theorem dX3_init_24 : decode cX3_init 24 = .ok (.iload_n 1, 1) := by decide +kernel
theorem dX3_init_25 : decode cX3_init 25 = .ok (.bipush 6, 2) := by decide +kernel
theorem dX3_init_27 : decode cX3_init 27 = .ok (.if_icmp .ge 22, 3) := by decide +kernel
theorem dX3_init_30 : decode cX3_init 30 = .ok (.aload_n 0, 1) := by decide +kernel
theorem dX3_init_31 : decode cX3_init 31 = .ok (.getfield 11, 3) := by decide +kernel
theorem dX3_init_34 : decode cX3_init 34 = .ok (.iload_n 1, 1) := by decide +kernel
theorem dX3_init_35 : decode cX3_init 35 = .ok (.new 9, 3) := by decide +kernel
theorem dX3_init_38 : decode cX3_init 38 = .ok (.dup, 1) := by decide +kernel
theorem dX3_init_39 : decode cX3_init 39 = .ok (.invokespecial 21, 3) := by decide +kernel
theorem dX3_init_42 : decode cX3_init 42 = .ok (.aastore, 1) := by decide +kernel
theorem dX3_init_43 : decode cX3_init 43 = .ok (.iinc 1 1, 3) := by decide +kernel
theorem dX3_init_46 : decode cX3_init 46 = .ok (.goto (-22), 3) := by decide +kernel
theorem dX3_init_49 : decode cX3_init 49 = .ok (.return_, 1) := by decide +kernel
theorem dX3_find_0 : decode cX3_find 0 = .ok (.iconst 0, 1) := by decide +kernel
theorem dX3_find_1 : decode cX3_find 1 = .ok (.istore_n 3, 1) := by decide +kernel
theorem dX3_find_2 : decode cX3_find 2 = .ok (.iload_n 3, 1) := by decide +kernel
theorem dX3_find_3 : decode cX3_find 3 = .ok (.aload_n 0, 1) := by decide +kernel
theorem dX3_find_4 : decode cX3_find 4 = .ok (.getfield 22, 3) := by decide +kernel
theorem dX3_find_7 : decode cX3_find 7 = .ok (.if_icmp .ge 42, 3) := by decide +kernel
theorem dX3_find_10 : decode cX3_find 10 = .ok (.aload_n 0, 1) := by decide +kernel
theorem dX3_find_11 : decode cX3_find 11 = .ok (.getfield 11, 3) := by decide +kernel
theorem dX3_find_14 : decode cX3_find 14 = .ok (.iload_n 3, 1) := by decide +kernel
theorem dX3_find_15 : decode cX3_find 15 = .ok (.aaload, 1) := by decide +kernel
theorem dX3_find_16 : decode cX3_find 16 = .ok (.getfield 26, 3) := by decide +kernel
theorem dX3_find_19 : decode cX3_find 19 = .ok (.iload_n 1, 1) := by decide +kernel
theorem dX3_find_20 : decode cX3_find 20 = .ok (.if_icmp .ne 23, 3) := by decide +kernel
theorem dX3_find_23 : decode cX3_find 23 = .ok (.aload_n 0, 1) := by decide +kernel
theorem dX3_find_24 : decode cX3_find 24 = .ok (.getfield 11, 3) := by decide +kernel
theorem dX3_find_27 : decode cX3_find 27 = .ok (.iload_n 3, 1) := by decide +kernel
theorem dX3_find_28 : decode cX3_find 28 = .ok (.aaload, 1) := by decide +kernel
theorem dX3_find_29 : decode cX3_find 29 = .ok (.getfield 29, 3) := by decide +kernel
theorem dX3_find_32 : decode cX3_find 32 = .ok (.iload_n 2, 1) := by decide +kernel
theorem dX3_find_33 : decode cX3_find 33 = .ok (.if_icmp .ne 10, 3) := by decide +kernel
theorem dX3_find_36 : decode cX3_find 36 = .ok (.aload_n 0, 1) := by decide +kernel
theorem dX3_find_37 : decode cX3_find 37 = .ok (.getfield 11, 3) := by decide +kernel
theorem dX3_find_40 : decode cX3_find 40 = .ok (.iload_n 3, 1) := by decide +kernel
theorem dX3_find_41 : decode cX3_find 41 = .ok (.aaload, 1) := by decide +kernel
theorem dX3_find_42 : decode cX3_find 42 = .ok (.areturn, 1) := by decide +kernel
theorem dX3_find_43 : decode cX3_find 43 = .ok (.iinc 3 1, 3) := by decide +kernel
theorem dX3_find_46 : decode cX3_find 46 = .ok (.goto (-44), 3) := by decide +kernel
theorem dX3_find_49 : decode cX3_find 49 = .ok (.aconst_null, 1) := by decide +kernel
theorem dX3_find_50 : decode cX3_find 50 = .ok (.areturn, 1) := by decide +kernel
theorem dX3_countDefinitions_0 : decode cX3_countDefinitions 0 = .ok (.iconst 0, 1) := by decide +kernel
theorem dX3_countDefinitions_1 : decode cX3_countDefinitions 1 = .ok (.istore_n 1, 1) := by decide +kernel
theorem dX3_countDefinitions_2 : decode cX3_countDefinitions 2 = .ok (.iconst 0, 1) := by decide +kernel
theorem dX3_countDefinitions_3 : decode cX3_countDefinitions 3 = .ok (.istore_n 2, 1) := by decide +kernel
theorem dX3_countDefinitions_4 : decode cX3_countDefinitions 4 = .ok (.iload_n 2, 1) := by decide +kernel
theorem dX3_countDefinitions_5 : decode cX3_countDefinitions 5 = .ok (.aload_n 0, 1) := by decide +kernel
theorem dX3_countDefinitions_6 : decode cX3_countDefinitions 6 = .ok (.getfield 22, 3) := by decide +kernel
theorem dX3_countDefinitions_9 : decode cX3_countDefinitions 9 = .ok (.if_icmp .ge 25, 3) := by decide +kernel
theorem dX3_countDefinitions_12 : decode cX3_countDefinitions 12 = .ok (.aload_n 0, 1) := by decide +kernel
theorem dX3_countDefinitions_13 : decode cX3_countDefinitions 13 = .ok (.getfield 11, 3) := by decide +kernel
theorem dX3_countDefinitions_16 : decode cX3_countDefinitions 16 = .ok (.iload_n 2, 1) := by decide +kernel
theorem dX3_countDefinitions_17 : decode cX3_countDefinitions 17 = .ok (.aaload, 1) := by decide +kernel
theorem dX3_countDefinitions_18 : decode cX3_countDefinitions 18 = .ok (.getfield 26, 3) := by decide +kernel
theorem dX3_countDefinitions_21 : decode cX3_countDefinitions 21 = .ok (.iconst (-1), 1) := by decide +kernel
theorem dX3_countDefinitions_22 : decode cX3_countDefinitions 22 = .ok (.if_icmp .ne 6, 3) := by decide +kernel
theorem dX3_countDefinitions_25 : decode cX3_countDefinitions 25 = .ok (.iinc 1 1, 3) := by decide +kernel
theorem dX3_countDefinitions_28 : decode cX3_countDefinitions 28 = .ok (.iinc 2 1, 3) := by decide +kernel
theorem dX3_countDefinitions_31 : decode cX3_countDefinitions 31 = .ok (.goto (-27), 3) := by decide +kernel
theorem dX3_countDefinitions_34 : decode cX3_countDefinitions 34 = .ok (.iload_n 1, 1) := by decide +kernel
theorem dX3_countDefinitions_35 : decode cX3_countDefinitions 35 = .ok (.ireturn, 1) := by decide +kernel
theorem dX3_emit_0 : decode cX3_emit 0 = .ok (.aload_n 0, 1) := by decide +kernel
theorem dX3_emit_1 : decode cX3_emit 1 = .ok (.getfield 32, 3) := by decide +kernel
theorem dX3_emit_4 : decode cX3_emit 4 = .ok (.istore_n 3, 1) := by decide +kernel
theorem dX3_emit_5 : decode cX3_emit 5 = .ok (.iload_n 3, 1) := by decide +kernel
theorem dX3_emit_6 : decode cX3_emit 6 = .ok (.sipush 240, 3) := by decide +kernel
theorem dX3_emit_9 : decode cX3_emit 9 = .ok (.if_icmp .ge 24, 3) := by decide +kernel
theorem dX3_emit_12 : decode cX3_emit 12 = .ok (.aload_n 0, 1) := by decide +kernel
theorem dX3_emit_13 : decode cX3_emit 13 = .ok (.getfield 17, 3) := by decide +kernel
theorem dX3_emit_16 : decode cX3_emit 16 = .ok (.iload_n 3, 1) := by decide +kernel
theorem dX3_emit_17 : decode cX3_emit 17 = .ok (.iload_n 1, 1) := by decide +kernel
theorem dX3_emit_18 : decode cX3_emit 18 = .ok (.iload_n 2, 1) := by decide +kernel
theorem dX3_emit_19 : decode cX3_emit 19 = .ok (.iconst 4, 1) := by decide +kernel
theorem dX3_emit_20 : decode cX3_emit 20 = .ok (.ishl, 1) := by decide +kernel
theorem dX3_emit_21 : decode cX3_emit 21 = .ok (.ior, 1) := by decide +kernel
theorem dX3_emit_22 : decode cX3_emit 22 = .ok (.iastore, 1) := by decide +kernel
theorem dX3_emit_23 : decode cX3_emit 23 = .ok (.aload_n 0, 1) := by decide +kernel
theorem dX3_emit_24 : decode cX3_emit 24 = .ok (.dup, 1) := by decide +kernel
theorem dX3_emit_25 : decode cX3_emit 25 = .ok (.getfield 32, 3) := by decide +kernel
theorem dX3_emit_28 : decode cX3_emit 28 = .ok (.iconst 1, 1) := by decide +kernel
theorem dX3_emit_29 : decode cX3_emit 29 = .ok (.iadd, 1) := by decide +kernel
theorem dX3_emit_30 : decode cX3_emit 30 = .ok (.putfield 32, 3) := by decide +kernel
theorem dX3_emit_33 : decode cX3_emit 33 = .ok (.iload_n 3, 1) := by decide +kernel
theorem dX3_emit_34 : decode cX3_emit 34 = .ok (.ireturn, 1) := by decide +kernel
theorem dX3_landHere_0 : decode cX3_landHere 0 = .ok (.iload_n 1, 1) := by decide +kernel
theorem dX3_landHere_1 : decode cX3_landHere 1 = .ok (.sipush 240, 3) := by decide +kernel
theorem dX3_landHere_4 : decode cX3_landHere 4 = .ok (.if_icmp .ge 18, 3) := by decide +kernel
theorem dX3_landHere_7 : decode cX3_landHere 7 = .ok (.aload_n 0, 1) := by decide +kernel
theorem dX3_landHere_8 : decode cX3_landHere 8 = .ok (.getfield 17, 3) := by decide +kernel
theorem dX3_landHere_11 : decode cX3_landHere 11 = .ok (.iload_n 1, 1) := by decide +kernel
theorem dX3_landHere_12 : decode cX3_landHere 12 = .ok (.dup2, 1) := by decide +kernel
theorem dX3_landHere_13 : decode cX3_landHere 13 = .ok (.iaload, 1) := by decide +kernel
theorem dX3_landHere_14 : decode cX3_landHere 14 = .ok (.aload_n 0, 1) := by decide +kernel
theorem dX3_landHere_15 : decode cX3_landHere 15 = .ok (.getfield 32, 3) := by decide +kernel
theorem dX3_landHere_18 : decode cX3_landHere 18 = .ok (.iconst 4, 1) := by decide +kernel
theorem dX3_landHere_19 : decode cX3_landHere 19 = .ok (.ishl, 1) := by decide +kernel
theorem dX3_landHere_20 : decode cX3_landHere 20 = .ok (.ior, 1) := by decide +kernel
theorem dX3_landHere_21 : decode cX3_landHere 21 = .ok (.iastore, 1) := by decide +kernel
theorem dX3_landHere_22 : decode cX3_landHere 22 = .ok (.return_, 1) := by decide +kernel
end
section
theorem dX4_init_0 : decode cX4_init 0 = .ok (.aload_n 0, 1) := by decide +kernel
theorem dX4_init_1 : decode cX4_init 1 = .ok (.invokespecial 3, 3) := by decide +kernel
theorem dX4_init_4 : decode cX4_init 4 = .ok (.aload_n 0, 1) := by decide +kernel
theorem dX4_init_5 : decode cX4_init 5 = .ok (.bipush 120, 2) := by decide +kernel
theorem dX4_init_7 : decode cX4_init 7 = .ok (.newarray .char, 2) := by decide +kernel
theorem dX4_init_9 : decode cX4_init 9 = .ok (.putfield 9, 3) := by decide +kernel
theorem dX4_init_12 : decode cX4_init 12 = .ok (.aload_n 0, 1) := by decide +kernel
theorem dX4_init_13 : decode cX4_init 13 = .ok (.bipush 6, 2) := by decide +kernel
theorem dX4_init_15 : decode cX4_init 15 = .ok (.anewarray 13, 3) := by decide +kernel
theorem dX4_init_18 : decode cX4_init 18 = .ok (.putfield 15, 3) := by decide +kernel
theorem dX4_init_21 : decode cX4_init 21 = .ok (.aload_n 0, 1) := by decide +kernel
theorem dX4_init_22 : decode cX4_init 22 = .ok (.bipush 6, 2) := by decide +kernel
theorem dX4_init_24 : decode cX4_init 24 = .ok (.newarray .boolean, 2) := by decide +kernel
theorem dX4_init_26 : decode cX4_init 26 = .ok (.putfield 19, 3) := by decide +kernel
theorem dX4_init_29 : decode cX4_init 29 = .ok (.aload_n 0, 1) := by decide +kernel
theorem dX4_init_30 : decode cX4_init 30 = .ok (.new 13, 3) := by decide +kernel
theorem dX4_init_33 : decode cX4_init 33 = .ok (.dup, 1) := by decide +kernel
theorem dX4_init_34 : decode cX4_init 34 = .ok (.invokespecial 23, 3) := by decide +kernel
theorem dX4_init_37 : decode cX4_init 37 = .ok (.putfield 24, 3) := by decide +kernel
theorem dX4_init_40 : decode cX4_init 40 = .ok (.aload_n 0, 1) := by decide +kernel
theorem dX4_init_41 : decode cX4_init 41 = .ok (.new 28, 3) := by decide +kernel
theorem dX4_init_44 : decode cX4_init 44 = .ok (.dup, 1) := by decide +kernel
theorem dX4_init_45 : decode cX4_init 45 = .ok (.invokespecial 30, 3) := by decide +kernel
theorem dX4_init_48 : decode cX4_init 48 = .ok (.putfield 31, 3) := by decide +kernel
theorem dX4_init_51 : decode cX4_init 51 = .ok (.aload_n 0, 1) := by decide +kernel
theorem dX4_init_52 : decode cX4_init 52 = .ok (.iconst 0, 1) := by decide +kernel
theorem dX4_init_53 : decode cX4_init 53 = .ok (.putfield 35, 3) := by decide +kernel
theorem dX4_init_56 : decode cX4_init 56 = .ok (.aload_n 0, 1) := by decide +kernel
theorem dX4_init_57 : decode cX4_init 57 = .ok (.iconst (-1), 1) := by decide +kernel
theorem dX4_init_58 : decode cX4_init 58 = .ok (.putfield 39, 3) := by decide +kernel
theorem dX4_init_61 : decode cX4_init 61 = .ok (.aload_n 0, 1) := by decide +kernel
theorem dX4_init_62 : decode cX4_init 62 = .ok (.iconst (-1), 1) := by decide +kernel
theorem dX4_init_63 : decode cX4_init 63 = .ok (.putfield 42, 3) := by decide +kernel
theorem dX4_init_66 : decode cX4_init 66 = .ok (.iconst 0, 1) := by decide +kernel
theorem dX4_init_67 : decode cX4_init 67 = .ok (.istore_n 2, 1) := by decide +kernel
theorem dX4_init_68 : decode cX4_init 68 = .ok (.iload_n 2, 1) := by decide +kernel
theorem dX4_init_69 : decode cX4_init 69 = .ok (.bipush 6, 2) := by decide +kernel
theorem dX4_init_71 : decode cX4_init 71 = .ok (.if_icmp .ge 22, 3) := by decide +kernel
theorem dX4_init_74 : decode cX4_init 74 = .ok (.aload_n 0, 1) := by decide +kernel
theorem dX4_init_75 : decode cX4_init 75 = .ok (.getfield 15, 3) := by decide +kernel
theorem dX4_init_78 : decode cX4_init 78 = .ok (.iload_n 2, 1) := by decide +kernel
theorem dX4_init_79 : decode cX4_init 79 = .ok (.new 13, 3) := by decide +kernel
theorem dX4_init_82 : decode cX4_init 82 = .ok (.dup, 1) := by decide +kernel
theorem dX4_init_83 : decode cX4_init 83 = .ok (.invokespecial 23, 3) := by decide +kernel
theorem dX4_init_86 : decode cX4_init 86 = .ok (.aastore, 1) := by decide +kernel
theorem dX4_init_87 : decode cX4_init 87 = .ok (.iinc 2 1, 3) := by decide +kernel
theorem dX4_init_90 : decode cX4_init 90 = .ok (.goto (-22), 3) := by decide +kernel
theorem dX4_init_93 : decode cX4_init 93 = .ok (.aload_n 0, 1) := by decide +kernel
theorem dX4_init_94 : decode cX4_init 94 = .ok (.new 45, 3) := by decide +kernel
theorem dX4_init_97 : decode cX4_init 97 = .ok (.dup, 1) := by decide +kernel
theorem dX4_init_98 : decode cX4_init 98 = .ok (.bipush 8, 2) := by decide +kernel
theorem dX4_init_100 : decode cX4_init 100 = .ok (.sipush 500, 3) := by decide +kernel
theorem dX4_init_103 : decode cX4_init 103 = .ok (.iload_n 1, 1) := by decide +kernel
theorem dX4_init_104 : decode cX4_init 104 = .ok (.invokestatic 47, 3) := by decide +kernel
theorem dX4_init_107 : decode cX4_init 107 = .ok (.invokestatic 53, 3) := by decide +kernel
theorem dX4_init_110 : decode cX4_init 110 = .ok (.invokespecial 56, 3) := by decide +kernel
theorem dX4_init_113 : decode cX4_init 113 = .ok (.putfield 59, 3) := by decide +kernel
theorem dX4_init_116 : decode cX4_init 116 = .ok (.return_, 1) := by decide +kernel
theorem dX4_put_0 : decode cX4_put 0 = .ok (.iload_n 2, 1) := by decide +kernel
theorem dX4_put_1 : decode cX4_put 1 = .ok (.iconst 1, 1) := by decide +kernel
theorem dX4_put_2 : decode cX4_put 2 = .ok (.if_icmp .lt 19, 3) := by decide +kernel
theorem dX4_put_5 : decode cX4_put 5 = .ok (.iload_n 2, 1) := by decide +kernel
theorem dX4_put_6 : decode cX4_put 6 = .ok (.iconst 4, 1) := by decide +kernel
theorem dX4_put_7 : decode cX4_put 7 = .ok (.if_icmp .gt 14, 3) := by decide +kernel
theorem dX4_put_10 : decode cX4_put 10 = .ok (.aload_n 0, 1) := by decide +kernel
theorem dX4_put_11 : decode cX4_put 11 = .ok (.getfield 63, 3) := by decide +kernel
theorem dX4_put_14 : decode cX4_put 14 = .ok (.iload_n 2, 1) := by decide +kernel
theorem dX4_put_15 : decode cX4_put 15 = .ok (.iadd, 1) := by decide +kernel
theorem dX4_put_16 : decode cX4_put 16 = .ok (.bipush 120, 2) := by decide +kernel
theorem dX4_put_18 : decode cX4_put 18 = .ok (.if_icmp .le 5, 3) := by decide +kernel
theorem dX4_put_21 : decode cX4_put 21 = .ok (.iconst 0, 1) := by decide +kernel
theorem dX4_put_22 : decode cX4_put 22 = .ok (.ireturn, 1) := by decide +kernel
theorem dX4_put_23 : decode cX4_put 23 = .ok (.iconst 0, 1) := by decide +kernel
theorem dX4_put_24 : decode cX4_put 24 = .ok (.istore_n 3, 1) := by decide +kernel
theorem dX4_put_25 : decode cX4_put 25 = .ok (.iload_n 3, 1) := by decide +kernel
theorem dX4_put_26 : decode cX4_put 26 = .ok (.iload_n 2, 1) := by decide +kernel
theorem dX4_put_27 : decode cX4_put 27 = .ok (.if_icmp .ge 32, 3) := by decide +kernel
theorem dX4_put_30 : decode cX4_put 30 = .ok (.iload_n 1, 1) := by decide +kernel
theorem dX4_put_31 : decode cX4_put 31 = .ok (.iload_n 3, 1) := by decide +kernel
theorem dX4_put_32 : decode cX4_put 32 = .ok (.invokestatic 66, 3) := by decide +kernel
theorem dX4_put_35 : decode cX4_put 35 = .ok (.istore 4, 2) := by decide +kernel
theorem dX4_put_37 : decode cX4_put 37 = .ok (.iload 4, 2) := by decide +kernel
theorem dX4_put_39 : decode cX4_put 39 = .ok (.bipush 32, 2) := by decide +kernel
theorem dX4_put_41 : decode cX4_put 41 = .ok (.if_icmp .lt 10, 3) := by decide +kernel
theorem dX4_put_44 : decode cX4_put 44 = .ok (.iload 4, 2) := by decide +kernel
theorem dX4_put_46 : decode cX4_put 46 = .ok (.bipush 126, 2) := by decide +kernel
theorem dX4_put_48 : decode cX4_put 48 = .ok (.if_icmp .le 5, 3) := by decide +kernel
theorem dX4_put_51 : decode cX4_put 51 = .ok (.iconst 0, 1) := by decide +kernel
theorem dX4_put_52 : decode cX4_put 52 = .ok (.ireturn, 1) := by decide +kernel
theorem dX4_put_53 : decode cX4_put 53 = .ok (.iinc 3 1, 3) := by decide +kernel
theorem dX4_put_56 : decode cX4_put 56 = .ok (.goto (-31), 3) := by decide +kernel
theorem dX4_put_59 : decode cX4_put 59 = .ok (.iload_n 2, 1) := by decide +kernel
theorem dX4_put_60 : decode cX4_put 60 = .ok (.iconst 1, 1) := by decide +kernel
theorem dX4_put_61 : decode cX4_put 61 = .ok (.isub, 1) := by decide +kernel
theorem dX4_put_62 : decode cX4_put 62 = .ok (.istore_n 3, 1) := by decide +kernel
theorem dX4_put_63 : decode cX4_put 63 = .ok (.iload_n 3, 1) := by decide +kernel
theorem dX4_put_64 : decode cX4_put 64 = .ok (.ifCond .lt 34, 3) := by decide +kernel
theorem dX4_put_67 : decode cX4_put 67 = .ok (.aload_n 0, 1) := by decide +kernel
theorem dX4_put_68 : decode cX4_put 68 = .ok (.getfield 9, 3) := by decide +kernel
theorem dX4_put_71 : decode cX4_put 71 = .ok (.aload_n 0, 1) := by decide +kernel
theorem dX4_put_72 : decode cX4_put 72 = .ok (.getfield 63, 3) := by decide +kernel
theorem dX4_put_75 : decode cX4_put 75 = .ok (.iload_n 1, 1) := by decide +kernel
theorem dX4_put_76 : decode cX4_put 76 = .ok (.iload_n 3, 1) := by decide +kernel
theorem dX4_put_77 : decode cX4_put 77 = .ok (.invokestatic 66, 3) := by decide +kernel
theorem dX4_put_80 : decode cX4_put 80 = .ok (.i2c, 1) := by decide +kernel
theorem dX4_put_81 : decode cX4_put 81 = .ok (.castore, 1) := by decide +kernel
theorem dX4_put_82 : decode cX4_put 82 = .ok (.aload_n 0, 1) := by decide +kernel
theorem dX4_put_83 : decode cX4_put 83 = .ok (.dup, 1) := by decide +kernel
theorem dX4_put_84 : decode cX4_put 84 = .ok (.getfield 63, 3) := by decide +kernel
theorem dX4_put_87 : decode cX4_put 87 = .ok (.iconst 1, 1) := by decide +kernel
theorem dX4_put_88 : decode cX4_put 88 = .ok (.iadd, 1) := by decide +kernel
theorem dX4_put_89 : decode cX4_put 89 = .ok (.putfield 63, 3) := by decide +kernel
theorem dX4_put_92 : decode cX4_put 92 = .ok (.iinc 3 (-1), 3) := by decide +kernel
theorem dX4_put_95 : decode cX4_put 95 = .ok (.goto (-32), 3) := by decide +kernel
theorem dX4_put_98 : decode cX4_put 98 = .ok (.iconst 1, 1) := by decide +kernel
theorem dX4_put_99 : decode cX4_put 99 = .ok (.ireturn, 1) := by decide +kernel
theorem dX4_module_0 : decode cX4_module 0 = .ok (.aload_n 0, 1) := by decide +kernel
theorem dX4_module_1 : decode cX4_module 1 = .ok (.aload_n 0, 1) := by decide +kernel
theorem dX4_module_2 : decode cX4_module 2 = .ok (.getfield 31, 3) := by decide +kernel
theorem dX4_module_5 : decode cX4_module 5 = .ok (.aload_n 0, 1) := by decide +kernel
theorem dX4_module_6 : decode cX4_module 6 = .ok (.getfield 9, 3) := by decide +kernel
theorem dX4_module_9 : decode cX4_module 9 = .ok (.aload_n 0, 1) := by decide +kernel
theorem dX4_module_10 : decode cX4_module 10 = .ok (.getfield 63, 3) := by decide +kernel
theorem dX4_module_13 : decode cX4_module 13 = .ok (.aload_n 0, 1) := by decide +kernel
theorem dX4_module_14 : decode cX4_module 14 = .ok (.getfield 24, 3) := by decide +kernel
theorem dX4_module_17 : decode cX4_module 17 = .ok (.invokevirtual 69, 3) := by decide +kernel
theorem dX4_module_20 : decode cX4_module 20 = .ok (.putfield 35, 3) := by decide +kernel
theorem dX4_module_23 : decode cX4_module 23 = .ok (.aload_n 0, 1) := by decide +kernel
theorem dX4_module_24 : decode cX4_module 24 = .ok (.iconst 0, 1) := by decide +kernel
theorem dX4_module_25 : decode cX4_module 25 = .ok (.putfield 63, 3) := by decide +kernel
theorem dX4_module_28 : decode cX4_module 28 = .ok (.aload_n 0, 1) := by decide +kernel
theorem dX4_module_29 : decode cX4_module 29 = .ok (.getfield 35, 3) := by decide +kernel
theorem dX4_module_32 : decode cX4_module 32 = .ok (.ifCond .eq 11, 3) := by decide +kernel
theorem dX4_module_35 : decode cX4_module 35 = .ok (.new 73, 3) := by decide +kernel
theorem dX4_module_38 : decode cX4_module 38 = .ok (.dup, 1) := by decide +kernel
theorem dX4_module_39 : decode cX4_module 39 = .ok (.invokespecial 75, 3) := by decide +kernel
theorem dX4_module_42 : decode cX4_module 42 = .ok (.athrow, 1) := by decide +kernel
theorem dX4_module_43 : decode cX4_module 43 = .ok (.aload_n 0, 1) := by decide +kernel
theorem dX4_module_44 : decode cX4_module 44 = .ok (.getfield 24, 3) := by decide +kernel
theorem dX4_module_47 : decode cX4_module 47 = .ok (.getfield 76, 3) := by decide +kernel
theorem dX4_module_50 : decode cX4_module 50 = .ok (.istore_n 1, 1) := by decide +kernel
theorem dX4_module_51 : decode cX4_module 51 = .ok (.aload_n 0, 1) := by decide +kernel
theorem dX4_module_52 : decode cX4_module 52 = .ok (.getfield 15, 3) := by decide +kernel
theorem dX4_module_55 : decode cX4_module 55 = .ok (.iload_n 1, 1) := by decide +kernel
theorem dX4_module_56 : decode cX4_module 56 = .ok (.aaload, 1) := by decide +kernel
theorem dX4_module_57 : decode cX4_module 57 = .ok (.astore_n 2, 1) := by decide +kernel
theorem dX4_module_58 : decode cX4_module 58 = .ok (.aload_n 0, 1) := by decide +kernel
theorem dX4_module_59 : decode cX4_module 59 = .ok (.getfield 15, 3) := by decide +kernel
theorem dX4_module_62 : decode cX4_module 62 = .ok (.iload_n 1, 1) := by decide +kernel
theorem dX4_module_63 : decode cX4_module 63 = .ok (.aload_n 0, 1) := by decide +kernel
theorem dX4_module_64 : decode cX4_module 64 = .ok (.getfield 24, 3) := by decide +kernel
theorem dX4_module_67 : decode cX4_module 67 = .ok (.aastore, 1) := by decide +kernel
theorem dX4_module_68 : decode cX4_module 68 = .ok (.aload_n 0, 1) := by decide +kernel
theorem dX4_module_69 : decode cX4_module 69 = .ok (.aload_n 2, 1) := by decide +kernel
theorem dX4_module_70 : decode cX4_module 70 = .ok (.putfield 24, 3) := by decide +kernel
theorem dX4_module_73 : decode cX4_module 73 = .ok (.aload_n 0, 1) := by decide +kernel
theorem dX4_module_74 : decode cX4_module 74 = .ok (.getfield 19, 3) := by decide +kernel
theorem dX4_module_77 : decode cX4_module 77 = .ok (.iload_n 1, 1) := by decide +kernel
theorem dX4_module_78 : decode cX4_module 78 = .ok (.iconst 1, 1) := by decide +kernel
theorem dX4_module_79 : decode cX4_module 79 = .ok (.bastore, 1) := by decide +kernel
theorem dX4_module_80 : decode cX4_module 80 = .ok (.aload_n 0, 1) := by decide +kernel
theorem dX4_module_81 : decode cX4_module 81 = .ok (.iconst 0, 1) := by decide +kernel
theorem dX4_module_82 : decode cX4_module 82 = .ok (.putfield 79, 3) := by decide +kernel
theorem dX4_module_85 : decode cX4_module 85 = .ok (.iload_n 1, 1) := by decide +kernel
theorem dX4_module_86 : decode cX4_module 86 = .ok (.ireturn, 1) := by decide +kernel
theorem dX4_fault_0 : decode cX4_fault 0 = .ok (.aload_n 0, 1) := by decide +kernel
theorem dX4_fault_1 : decode cX4_fault 1 = .ok (.getfield 35, 3) := by decide +kernel
theorem dX4_fault_4 : decode cX4_fault 4 = .ok (.ireturn, 1) := by decide +kernel
theorem dX4_drop_0 : decode cX4_drop 0 = .ok (.aload_n 0, 1) := by decide +kernel
theorem dX4_drop_1 : decode cX4_drop 1 = .ok (.iload_n 1, 1) := by decide +kernel
theorem dX4_drop_2 : decode cX4_drop 2 = .ok (.invokevirtual 83, 3) := by decide +kernel
theorem dX4_drop_5 : decode cX4_drop 5 = .ok (.ifCond .ne 11, 3) := by decide +kernel
theorem dX4_drop_8 : decode cX4_drop 8 = .ok (.new 87, 3) := by decide +kernel
theorem dX4_drop_11 : decode cX4_drop 11 = .ok (.dup, 1) := by decide +kernel
theorem dX4_drop_12 : decode cX4_drop 12 = .ok (.invokespecial 89, 3) := by decide +kernel
theorem dX4_drop_15 : decode cX4_drop 15 = .ok (.athrow, 1) := by decide +kernel
theorem dX4_drop_16 : decode cX4_drop 16 = .ok (.aload_n 0, 1) := by decide +kernel
theorem dX4_drop_17 : decode cX4_drop 17 = .ok (.getfield 19, 3) := by decide +kernel
theorem dX4_drop_20 : decode cX4_drop 20 = .ok (.iload_n 1, 1) := by decide +kernel
theorem dX4_drop_21 : decode cX4_drop 21 = .ok (.iconst 0, 1) := by decide +kernel
theorem dX4_drop_22 : decode cX4_drop 22 = .ok (.bastore, 1) := by decide +kernel
theorem dX4_drop_23 : decode cX4_drop 23 = .ok (.aload_n 0, 1) := by decide +kernel
theorem dX4_drop_24 : decode cX4_drop 24 = .ok (.iconst 0, 1) := by decide +kernel
theorem dX4_drop_25 : decode cX4_drop 25 = .ok (.putfield 79, 3) := by decide +kernel
theorem dX4_drop_28 : decode cX4_drop 28 = .ok (.return_, 1) := by decide +kernel
theorem dX4_link_0 : decode cX4_link 0 = .ok (.aload_n 0, 1) := by decide +kernel
theorem dX4_link_1 : decode cX4_link 1 = .ok (.invokevirtual 90, 3) := by decide +kernel
theorem dX4_link_4 : decode cX4_link 4 = .ok (.ifCond .ne 11, 3) := by decide +kernel
theorem dX4_link_7 : decode cX4_link 7 = .ok (.new 94, 3) := by decide +kernel
theorem dX4_link_10 : decode cX4_link 10 = .ok (.dup, 1) := by decide +kernel
theorem dX4_link_11 : decode cX4_link 11 = .ok (.invokespecial 96, 3) := by decide +kernel
theorem dX4_link_14 : decode cX4_link 14 = .ok (.athrow, 1) := by decide +kernel
theorem dX4_link_15 : decode cX4_link 15 = .ok (.aload_n 0, 1) := by decide +kernel
theorem dX4_link_16 : decode cX4_link 16 = .ok (.invokevirtual 97, 3) := by decide +kernel
theorem dX4_link_19 : decode cX4_link 19 = .ok (.aload_n 0, 1) := by decide +kernel
theorem dX4_link_20 : decode cX4_link 20 = .ok (.aload_n 0, 1) := by decide +kernel
theorem dX4_link_21 : decode cX4_link 21 = .ok (.getfield 39, 3) := by decide +kernel
theorem dX4_link_24 : decode cX4_link 24 = .ok (.iconst (-1), 1) := by decide +kernel
theorem dX4_link_25 : decode cX4_link 25 = .ok (.if_icmp .ne 7, 3) := by decide +kernel
theorem dX4_link_28 : decode cX4_link 28 = .ok (.iconst 1, 1) := by decide +kernel
theorem dX4_link_29 : decode cX4_link 29 = .ok (.goto 4, 3) := by decide +kernel
theorem dX4_link_32 : decode cX4_link 32 = .ok (.iconst 0, 1) := by decide +kernel
theorem dX4_link_33 : decode cX4_link 33 = .ok (.putfield 79, 3) := by decide +kernel
theorem dX4_link_36 : decode cX4_link 36 = .ok (.aload_n 0, 1) := by decide +kernel
theorem dX4_link_37 : decode cX4_link 37 = .ok (.getfield 79, 3) := by decide +kernel
theorem dX4_link_40 : decode cX4_link 40 = .ok (.ifCond .ne 11, 3) := by decide +kernel
theorem dX4_link_43 : decode cX4_link 43 = .ok (.new 100, 3) := by decide +kernel
theorem dX4_link_46 : decode cX4_link 46 = .ok (.dup, 1) := by decide +kernel
theorem dX4_link_47 : decode cX4_link 47 = .ok (.invokespecial 102, 3) := by decide +kernel
theorem dX4_link_50 : decode cX4_link 50 = .ok (.athrow, 1) := by decide +kernel
theorem dX4_link_51 : decode cX4_link 51 = .ok (.aload_n 0, 1) := by decide +kernel
theorem dX4_link_52 : decode cX4_link 52 = .ok (.invokevirtual 103, 3) := by decide +kernel
theorem dX4_link_55 : decode cX4_link 55 = .ok (.ireturn, 1) := by decide +kernel
theorem dX4_unfit_0 : decode cX4_unfit 0 = .ok (.iload_n 1, 1) := by decide +kernel
theorem dX4_unfit_1 : decode cX4_unfit 1 = .ok (.lookupswitch 37 #[(0, 27), (1, 32)], 27) := by decide +kernel
theorem dX4_unfit_28 : decode cX4_unfit 28 = .ok (.aload_n 0, 1) := by decide +kernel
theorem dX4_unfit_29 : decode cX4_unfit 29 = .ok (.getfield 39, 3) := by decide +kernel
theorem dX4_unfit_32 : decode cX4_unfit 32 = .ok (.ireturn, 1) := by decide +kernel
theorem dX4_unfit_33 : decode cX4_unfit 33 = .ok (.aload_n 0, 1) := by decide +kernel
theorem dX4_unfit_34 : decode cX4_unfit 34 = .ok (.getfield 42, 3) := by decide +kernel
theorem dX4_unfit_37 : decode cX4_unfit 37 = .ok (.ireturn, 1) := by decide +kernel
theorem dX4_unfit_38 : decode cX4_unfit 38 = .ok (.iconst (-1), 1) := by decide +kernel
theorem dX4_unfit_39 : decode cX4_unfit 39 = .ok (.ireturn, 1) := by decide +kernel
theorem dX4_about_0 : decode cX4_about 0 = .ok (.aload_n 0, 1) := by decide +kernel
theorem dX4_about_1 : decode cX4_about 1 = .ok (.iload_n 1, 1) := by decide +kernel
theorem dX4_about_2 : decode cX4_about 2 = .ok (.iload_n 2, 1) := by decide +kernel
theorem dX4_about_3 : decode cX4_about 3 = .ok (.invokevirtual 106, 3) := by decide +kernel
theorem dX4_about_6 : decode cX4_about 6 = .ok (.astore 4, 2) := by decide +kernel
theorem dX4_about_8 : decode cX4_about 8 = .ok (.aload 4, 2) := by decide +kernel
theorem dX4_about_10 : decode cX4_about 10 = .ok (.ifnull 12, 3) := by decide +kernel
theorem dX4_about_13 : decode cX4_about 13 = .ok (.iload_n 3, 1) := by decide +kernel
theorem dX4_about_14 : decode cX4_about 14 = .ok (.ifCond .lt 8, 3) := by decide +kernel
theorem dX4_about_17 : decode cX4_about 17 = .ok (.iload_n 3, 1) := by decide +kernel
theorem dX4_about_18 : decode cX4_about 18 = .ok (.iconst 3, 1) := by decide +kernel
theorem dX4_about_19 : decode cX4_about 19 = .ok (.if_icmp .le 11, 3) := by decide +kernel
theorem dX4_about_22 : decode cX4_about 22 = .ok (.new 87, 3) := by decide +kernel
theorem dX4_about_25 : decode cX4_about 25 = .ok (.dup, 1) := by decide +kernel
theorem dX4_about_26 : decode cX4_about 26 = .ok (.invokespecial 89, 3) := by decide +kernel
theorem dX4_about_29 : decode cX4_about 29 = .ok (.athrow, 1) := by decide +kernel
theorem dX4_about_30 : decode cX4_about 30 = .ok (.iload_n 3, 1) := by decide +kernel
theorem dX4_about_31 : decode cX4_about 31 = .ok (.tableswitch 51 0 2 #[25, 31, 45], 25) := by decide +kernel
theorem dX4_about_56 : decode cX4_about 56 = .ok (.aload 4, 2) := by decide +kernel
theorem dX4_about_58 : decode cX4_about 58 = .ok (.getfield 110, 3) := by decide +kernel
theorem dX4_about_61 : decode cX4_about 61 = .ok (.ireturn, 1) := by decide +kernel
theorem dX4_about_62 : decode cX4_about 62 = .ok (.aload 4, 2) := by decide +kernel
theorem dX4_about_64 : decode cX4_about 64 = .ok (.getfield 115, 3) := by decide +kernel
theorem dX4_about_67 : decode cX4_about 67 = .ok (.ifCond .eq 7, 3) := by decide +kernel
theorem dX4_about_70 : decode cX4_about 70 = .ok (.iconst 1, 1) := by decide +kernel
theorem dX4_about_71 : decode cX4_about 71 = .ok (.goto 4, 3) := by decide +kernel
theorem dX4_about_74 : decode cX4_about 74 = .ok (.iconst 0, 1) := by decide +kernel
theorem dX4_about_75 : decode cX4_about 75 = .ok (.ireturn, 1) := by decide +kernel
theorem dX4_about_76 : decode cX4_about 76 = .ok (.aload 4, 2) := by decide +kernel
theorem dX4_about_78 : decode cX4_about 78 = .ok (.getfield 118, 3) := by decide +kernel
theorem dX4_about_81 : decode cX4_about 81 = .ok (.ireturn, 1) := by decide +kernel
theorem dX4_about_82 : decode cX4_about 82 = .ok (.aload 4, 2) := by decide +kernel
theorem dX4_about_84 : decode cX4_about 84 = .ok (.getfield 121, 3) := by decide +kernel
theorem dX4_about_87 : decode cX4_about 87 = .ok (.iconst 0, 1) := by decide +kernel
theorem dX4_about_88 : decode cX4_about 88 = .ok (.invokestatic 124, 3) := by decide +kernel
theorem dX4_about_91 : decode cX4_about 91 = .ok (.ireturn, 1) := by decide +kernel
theorem dX4_call_0 : decode cX4_call 0 = .ok (.aload_n 0, 1) := by decide +kernel
theorem dX4_call_1 : decode cX4_call 1 = .ok (.getfield 79, 3) := by decide +kernel
theorem dX4_call_4 : decode cX4_call 4 = .ok (.ifCond .ne 11, 3) := by decide +kernel
theorem dX4_call_7 : decode cX4_call 7 = .ok (.new 94, 3) := by decide +kernel
theorem dX4_call_10 : decode cX4_call 10 = .ok (.dup, 1) := by decide +kernel
theorem dX4_call_11 : decode cX4_call 11 = .ok (.invokespecial 96, 3) := by decide +kernel
theorem dX4_call_14 : decode cX4_call 14 = .ok (.athrow, 1) := by decide +kernel
theorem dX4_call_15 : decode cX4_call 15 = .ok (.aload_n 0, 1) := by decide +kernel
theorem dX4_call_16 : decode cX4_call 16 = .ok (.iload_n 1, 1) := by decide +kernel
theorem dX4_call_17 : decode cX4_call 17 = .ok (.iload_n 2, 1) := by decide +kernel
theorem dX4_call_18 : decode cX4_call 18 = .ok (.invokevirtual 106, 3) := by decide +kernel
theorem dX4_call_21 : decode cX4_call 21 = .ok (.astore 8, 2) := by decide +kernel
theorem dX4_call_23 : decode cX4_call 23 = .ok (.aload 8, 2) := by decide +kernel
theorem dX4_call_25 : decode cX4_call 25 = .ok (.ifnull 11, 3) := by decide +kernel
theorem dX4_call_28 : decode cX4_call 28 = .ok (.aload 8, 2) := by decide +kernel
theorem dX4_call_30 : decode cX4_call 30 = .ok (.getfield 115, 3) := by decide +kernel
theorem dX4_call_33 : decode cX4_call 33 = .ok (.ifCond .ne 11, 3) := by decide +kernel
theorem dX4_call_36 : decode cX4_call 36 = .ok (.new 87, 3) := by decide +kernel
theorem dX4_call_39 : decode cX4_call 39 = .ok (.dup, 1) := by decide +kernel
theorem dX4_call_40 : decode cX4_call 40 = .ok (.invokespecial 89, 3) := by decide +kernel
theorem dX4_call_43 : decode cX4_call 43 = .ok (.athrow, 1) := by decide +kernel
theorem dX4_call_44 : decode cX4_call 44 = .ok (.aload 8, 2) := by decide +kernel
theorem dX4_call_46 : decode cX4_call 46 = .ok (.getfield 118, 3) := by decide +kernel
theorem dX4_call_49 : decode cX4_call 49 = .ok (.iconst 4, 1) := by decide +kernel
theorem dX4_call_50 : decode cX4_call 50 = .ok (.if_icmp .le 11, 3) := by decide +kernel
theorem dX4_call_53 : decode cX4_call 53 = .ok (.new 73, 3) := by decide +kernel
theorem dX4_call_56 : decode cX4_call 56 = .ok (.dup, 1) := by decide +kernel
theorem dX4_call_57 : decode cX4_call 57 = .ok (.invokespecial 75, 3) := by decide +kernel
theorem dX4_call_60 : decode cX4_call 60 = .ok (.athrow, 1) := by decide +kernel
theorem dX4_call_61 : decode cX4_call 61 = .ok (.aload_n 0, 1) := by decide +kernel
theorem dX4_call_62 : decode cX4_call 62 = .ok (.getfield 59, 3) := by decide +kernel
theorem dX4_call_65 : decode cX4_call 65 = .ok (.iload_n 3, 1) := by decide +kernel
theorem dX4_call_66 : decode cX4_call 66 = .ok (.iload 4, 2) := by decide +kernel
theorem dX4_call_68 : decode cX4_call 68 = .ok (.iload 5, 2) := by decide +kernel
theorem dX4_call_70 : decode cX4_call 70 = .ok (.iload 6, 2) := by decide +kernel
theorem dX4_call_72 : decode cX4_call 72 = .ok (.invokevirtual 127, 3) := by decide +kernel
theorem dX4_call_75 : decode cX4_call 75 = .ok (.aload_n 0, 1) := by decide +kernel
theorem dX4_call_76 : decode cX4_call 76 = .ok (.getfield 59, 3) := by decide +kernel
theorem dX4_call_79 : decode cX4_call 79 = .ok (.aload_n 0, 1) := by decide +kernel
theorem dX4_call_80 : decode cX4_call 80 = .ok (.getfield 15, 3) := by decide +kernel
theorem dX4_call_83 : decode cX4_call 83 = .ok (.iload_n 1, 1) := by decide +kernel
theorem dX4_call_84 : decode cX4_call 84 = .ok (.aload 8, 2) := by decide +kernel
theorem dX4_call_86 : decode cX4_call 86 = .ok (.iconst 0, 1) := by decide +kernel
theorem dX4_call_87 : decode cX4_call 87 = .ok (.sipush 3000, 3) := by decide +kernel
theorem dX4_call_90 : decode cX4_call 90 = .ok (.iload 7, 2) := by decide +kernel
theorem dX4_call_92 : decode cX4_call 92 = .ok (.invokestatic 47, 3) := by decide +kernel
theorem dX4_call_95 : decode cX4_call 95 = .ok (.invokestatic 53, 3) := by decide +kernel
theorem dX4_call_98 : decode cX4_call 98 = .ok (.invokevirtual 131, 3) := by decide +kernel
theorem dX4_call_101 : decode cX4_call 101 = .ok (.ireturn, 1) := by decide +kernel
theorem dX4_result_0 : decode cX4_result 0 = .ok (.iload_n 1, 1) := by decide +kernel
theorem dX4_result_1 : decode cX4_result 1 = .ok (.lookupswitch 43 #[(0, 27), (1, 35)], 27) := by decide +kernel
theorem dX4_result_28 : decode cX4_result 28 = .ok (.aload_n 0, 1) := by decide +kernel
theorem dX4_result_29 : decode cX4_result 29 = .ok (.getfield 59, 3) := by decide +kernel
theorem dX4_result_32 : decode cX4_result 32 = .ok (.getfield 135, 3) := by decide +kernel
theorem dX4_result_35 : decode cX4_result 35 = .ok (.ireturn, 1) := by decide +kernel
theorem dX4_result_36 : decode cX4_result 36 = .ok (.aload_n 0, 1) := by decide +kernel
theorem dX4_result_37 : decode cX4_result 37 = .ok (.getfield 59, 3) := by decide +kernel
theorem dX4_result_40 : decode cX4_result 40 = .ok (.getfield 138, 3) := by decide +kernel
theorem dX4_result_43 : decode cX4_result 43 = .ok (.ireturn, 1) := by decide +kernel
theorem dX4_result_44 : decode cX4_result 44 = .ok (.iconst 0, 1) := by decide +kernel
theorem dX4_result_45 : decode cX4_result 45 = .ok (.ireturn, 1) := by decide +kernel
theorem dX4_took_0 : decode cX4_took 0 = .ok (.iload_n 1, 1) := by decide +kernel
theorem dX4_took_1 : decode cX4_took 1 = .ok (.lookupswitch 43 #[(0, 27), (1, 35)], 27) := by decide +kernel
theorem dX4_took_28 : decode cX4_took 28 = .ok (.aload_n 0, 1) := by decide +kernel
theorem dX4_took_29 : decode cX4_took 29 = .ok (.getfield 59, 3) := by decide +kernel
theorem dX4_took_32 : decode cX4_took 32 = .ok (.getfield 141, 3) := by decide +kernel
theorem dX4_took_35 : decode cX4_took 35 = .ok (.ireturn, 1) := by decide +kernel
theorem dX4_took_36 : decode cX4_took 36 = .ok (.aload_n 0, 1) := by decide +kernel
theorem dX4_took_37 : decode cX4_took 37 = .ok (.getfield 59, 3) := by decide +kernel
theorem dX4_took_40 : decode cX4_took 40 = .ok (.getfield 144, 3) := by decide +kernel
theorem dX4_took_43 : decode cX4_took 43 = .ok (.ireturn, 1) := by decide +kernel
theorem dX4_took_44 : decode cX4_took 44 = .ok (.iconst (-1), 1) := by decide +kernel
theorem dX4_took_45 : decode cX4_took 45 = .ok (.ireturn, 1) := by decide +kernel
theorem dX4_isPresent_0 : decode cX4_isPresent 0 = .ok (.iload_n 1, 1) := by decide +kernel
theorem dX4_isPresent_1 : decode cX4_isPresent 1 = .ok (.ifCond .lt 22, 3) := by decide +kernel
theorem dX4_isPresent_4 : decode cX4_isPresent 4 = .ok (.iload_n 1, 1) := by decide +kernel
theorem dX4_isPresent_5 : decode cX4_isPresent 5 = .ok (.bipush 6, 2) := by decide +kernel
theorem dX4_isPresent_7 : decode cX4_isPresent 7 = .ok (.if_icmp .ge 16, 3) := by decide +kernel
theorem dX4_isPresent_10 : decode cX4_isPresent 10 = .ok (.aload_n 0, 1) := by decide +kernel
theorem dX4_isPresent_11 : decode cX4_isPresent 11 = .ok (.getfield 19, 3) := by decide +kernel
theorem dX4_isPresent_14 : decode cX4_isPresent 14 = .ok (.iload_n 1, 1) := by decide +kernel
theorem dX4_isPresent_15 : decode cX4_isPresent 15 = .ok (.baload, 1) := by decide +kernel
theorem dX4_isPresent_16 : decode cX4_isPresent 16 = .ok (.ifCond .eq 7, 3) := by decide +kernel
theorem dX4_isPresent_19 : decode cX4_isPresent 19 = .ok (.iconst 1, 1) := by decide +kernel
theorem dX4_isPresent_20 : decode cX4_isPresent 20 = .ok (.goto 4, 3) := by decide +kernel
theorem dX4_isPresent_23 : decode cX4_isPresent 23 = .ok (.iconst 0, 1) := by decide +kernel
theorem dX4_isPresent_24 : decode cX4_isPresent 24 = .ok (.ireturn, 1) := by decide +kernel
theorem dX4_definitionOf_0 : decode cX4_definitionOf 0 = .ok (.aload_n 0, 1) := by decide +kernel
theorem dX4_definitionOf_1 : decode cX4_definitionOf 1 = .ok (.iload_n 1, 1) := by decide +kernel
theorem dX4_definitionOf_2 : decode cX4_definitionOf 2 = .ok (.invokevirtual 83, 3) := by decide +kernel
theorem dX4_definitionOf_5 : decode cX4_definitionOf 5 = .ok (.ifCond .eq 17, 3) := by decide +kernel
theorem dX4_definitionOf_8 : decode cX4_definitionOf 8 = .ok (.aload_n 0, 1) := by decide +kernel
theorem dX4_definitionOf_9 : decode cX4_definitionOf 9 = .ok (.getfield 15, 3) := by decide +kernel
theorem dX4_definitionOf_12 : decode cX4_definitionOf 12 = .ok (.iload_n 1, 1) := by decide +kernel
theorem dX4_definitionOf_13 : decode cX4_definitionOf 13 = .ok (.aaload, 1) := by decide +kernel
theorem dX4_definitionOf_14 : decode cX4_definitionOf 14 = .ok (.iconst (-1), 1) := by decide +kernel
theorem dX4_definitionOf_15 : decode cX4_definitionOf 15 = .ok (.iload_n 2, 1) := by decide +kernel
theorem dX4_definitionOf_16 : decode cX4_definitionOf 16 = .ok (.invokevirtual 147, 3) := by decide +kernel
theorem dX4_definitionOf_19 : decode cX4_definitionOf 19 = .ok (.goto 4, 3) := by decide +kernel
theorem dX4_definitionOf_22 : decode cX4_definitionOf 22 = .ok (.aconst_null, 1) := by decide +kernel
theorem dX4_definitionOf_23 : decode cX4_definitionOf 23 = .ok (.areturn, 1) := by decide +kernel
theorem dX4_countModules_0 : decode cX4_countModules 0 = .ok (.iconst 0, 1) := by decide +kernel
theorem dX4_countModules_1 : decode cX4_countModules 1 = .ok (.istore_n 1, 1) := by decide +kernel
theorem dX4_countModules_2 : decode cX4_countModules 2 = .ok (.iconst 0, 1) := by decide +kernel
theorem dX4_countModules_3 : decode cX4_countModules 3 = .ok (.istore_n 2, 1) := by decide +kernel
theorem dX4_countModules_4 : decode cX4_countModules 4 = .ok (.iload_n 2, 1) := by decide +kernel
theorem dX4_countModules_5 : decode cX4_countModules 5 = .ok (.bipush 6, 2) := by decide +kernel
theorem dX4_countModules_7 : decode cX4_countModules 7 = .ok (.if_icmp .ge 21, 3) := by decide +kernel
theorem dX4_countModules_10 : decode cX4_countModules 10 = .ok (.aload_n 0, 1) := by decide +kernel
theorem dX4_countModules_11 : decode cX4_countModules 11 = .ok (.getfield 19, 3) := by decide +kernel
theorem dX4_countModules_14 : decode cX4_countModules 14 = .ok (.iload_n 2, 1) := by decide +kernel
theorem dX4_countModules_15 : decode cX4_countModules 15 = .ok (.baload, 1) := by decide +kernel
theorem dX4_countModules_16 : decode cX4_countModules 16 = .ok (.ifCond .eq 6, 3) := by decide +kernel
theorem dX4_countModules_19 : decode cX4_countModules 19 = .ok (.iinc 1 1, 3) := by decide +kernel
theorem dX4_countModules_22 : decode cX4_countModules 22 = .ok (.iinc 2 1, 3) := by decide +kernel
theorem dX4_countModules_25 : decode cX4_countModules 25 = .ok (.goto (-21), 3) := by decide +kernel
theorem dX4_countModules_28 : decode cX4_countModules 28 = .ok (.iload_n 1, 1) := by decide +kernel
theorem dX4_countModules_29 : decode cX4_countModules 29 = .ok (.ireturn, 1) := by decide +kernel
theorem dX4_countDefinitions_0 : decode cX4_countDefinitions 0 = .ok (.iconst 0, 1) := by decide +kernel
theorem dX4_countDefinitions_1 : decode cX4_countDefinitions 1 = .ok (.istore_n 1, 1) := by decide +kernel
theorem dX4_countDefinitions_2 : decode cX4_countDefinitions 2 = .ok (.iconst 0, 1) := by decide +kernel
theorem dX4_countDefinitions_3 : decode cX4_countDefinitions 3 = .ok (.istore_n 2, 1) := by decide +kernel
theorem dX4_countDefinitions_4 : decode cX4_countDefinitions 4 = .ok (.iload_n 2, 1) := by decide +kernel
theorem dX4_countDefinitions_5 : decode cX4_countDefinitions 5 = .ok (.bipush 6, 2) := by decide +kernel
theorem dX4_countDefinitions_7 : decode cX4_countDefinitions 7 = .ok (.if_icmp .ge 30, 3) := by decide +kernel
theorem dX4_countDefinitions_10 : decode cX4_countDefinitions 10 = .ok (.aload_n 0, 1) := by decide +kernel
theorem dX4_countDefinitions_11 : decode cX4_countDefinitions 11 = .ok (.getfield 19, 3) := by decide +kernel
theorem dX4_countDefinitions_14 : decode cX4_countDefinitions 14 = .ok (.iload_n 2, 1) := by decide +kernel
theorem dX4_countDefinitions_15 : decode cX4_countDefinitions 15 = .ok (.baload, 1) := by decide +kernel
theorem dX4_countDefinitions_16 : decode cX4_countDefinitions 16 = .ok (.ifCond .eq 15, 3) := by decide +kernel
theorem dX4_countDefinitions_19 : decode cX4_countDefinitions 19 = .ok (.iload_n 1, 1) := by decide +kernel
theorem dX4_countDefinitions_20 : decode cX4_countDefinitions 20 = .ok (.aload_n 0, 1) := by decide +kernel
theorem dX4_countDefinitions_21 : decode cX4_countDefinitions 21 = .ok (.getfield 15, 3) := by decide +kernel
theorem dX4_countDefinitions_24 : decode cX4_countDefinitions 24 = .ok (.iload_n 2, 1) := by decide +kernel
theorem dX4_countDefinitions_25 : decode cX4_countDefinitions 25 = .ok (.aaload, 1) := by decide +kernel
theorem dX4_countDefinitions_26 : decode cX4_countDefinitions 26 = .ok (.invokevirtual 150, 3) := by decide +kernel
theorem dX4_countDefinitions_29 : decode cX4_countDefinitions 29 = .ok (.iadd, 1) := by decide +kernel
theorem dX4_countDefinitions_30 : decode cX4_countDefinitions 30 = .ok (.istore_n 1, 1) := by decide +kernel
theorem dX4_countDefinitions_31 : decode cX4_countDefinitions 31 = .ok (.iinc 2 1, 3) := by decide +kernel
theorem dX4_countDefinitions_34 : decode cX4_countDefinitions 34 = .ok (.goto (-30), 3) := by decide +kernel
theorem dX4_countDefinitions_37 : decode cX4_countDefinitions 37 = .ok (.iload_n 1, 1) := by decide +kernel
theorem dX4_countDefinitions_38 : decode cX4_countDefinitions 38 = .ok (.ireturn, 1) := by decide +kernel
theorem dX4_findUnfit_0 : decode cX4_findUnfit 0 = .ok (.aload_n 0, 1) := by decide +kernel
theorem dX4_findUnfit_1 : decode cX4_findUnfit 1 = .ok (.iconst (-1), 1) := by decide +kernel
theorem dX4_findUnfit_2 : decode cX4_findUnfit 2 = .ok (.putfield 39, 3) := by decide +kernel
theorem dX4_findUnfit_5 : decode cX4_findUnfit 5 = .ok (.aload_n 0, 1) := by decide +kernel
theorem dX4_findUnfit_6 : decode cX4_findUnfit 6 = .ok (.iconst (-1), 1) := by decide +kernel
theorem dX4_findUnfit_7 : decode cX4_findUnfit 7 = .ok (.putfield 42, 3) := by decide +kernel
theorem dX4_findUnfit_10 : decode cX4_findUnfit 10 = .ok (.iconst 0, 1) := by decide +kernel
theorem dX4_findUnfit_11 : decode cX4_findUnfit 11 = .ok (.istore_n 1, 1) := by decide +kernel
theorem dX4_findUnfit_12 : decode cX4_findUnfit 12 = .ok (.iload_n 1, 1) := by decide +kernel
theorem dX4_findUnfit_13 : decode cX4_findUnfit 13 = .ok (.bipush 6, 2) := by decide +kernel
theorem dX4_findUnfit_15 : decode cX4_findUnfit 15 = .ok (.if_icmp .ge 56, 3) := by decide +kernel
theorem dX4_findUnfit_18 : decode cX4_findUnfit 18 = .ok (.aload_n 0, 1) := by decide +kernel
theorem dX4_findUnfit_19 : decode cX4_findUnfit 19 = .ok (.getfield 39, 3) := by decide +kernel
theorem dX4_findUnfit_22 : decode cX4_findUnfit 22 = .ok (.iconst (-1), 1) := by decide +kernel
theorem dX4_findUnfit_23 : decode cX4_findUnfit 23 = .ok (.if_icmp .ne 48, 3) := by decide +kernel
theorem dX4_findUnfit_26 : decode cX4_findUnfit 26 = .ok (.aload_n 0, 1) := by decide +kernel
theorem dX4_findUnfit_27 : decode cX4_findUnfit 27 = .ok (.getfield 19, 3) := by decide +kernel
theorem dX4_findUnfit_30 : decode cX4_findUnfit 30 = .ok (.iload_n 1, 1) := by decide +kernel
theorem dX4_findUnfit_31 : decode cX4_findUnfit 31 = .ok (.baload, 1) := by decide +kernel
theorem dX4_findUnfit_32 : decode cX4_findUnfit 32 = .ok (.ifCond .eq 16, 3) := by decide +kernel
theorem dX4_findUnfit_35 : decode cX4_findUnfit 35 = .ok (.aload_n 0, 1) := by decide +kernel
theorem dX4_findUnfit_36 : decode cX4_findUnfit 36 = .ok (.aload_n 0, 1) := by decide +kernel
theorem dX4_findUnfit_37 : decode cX4_findUnfit 37 = .ok (.getfield 15, 3) := by decide +kernel
theorem dX4_findUnfit_40 : decode cX4_findUnfit 40 = .ok (.iload_n 1, 1) := by decide +kernel
theorem dX4_findUnfit_41 : decode cX4_findUnfit 41 = .ok (.aaload, 1) := by decide +kernel
theorem dX4_findUnfit_42 : decode cX4_findUnfit 42 = .ok (.invokevirtual 151, 3) := by decide +kernel
theorem dX4_findUnfit_45 : decode cX4_findUnfit 45 = .ok (.goto 4, 3) := by decide +kernel
theorem dX4_findUnfit_48 : decode cX4_findUnfit 48 = .ok (.iconst (-1), 1) := by decide +kernel
theorem dX4_findUnfit_49 : decode cX4_findUnfit 49 = .ok (.istore_n 2, 1) := by decide +kernel
theorem dX4_findUnfit_50 : decode cX4_findUnfit 50 = .ok (.iload_n 2, 1) := by decide +kernel
theorem dX4_findUnfit_51 : decode cX4_findUnfit 51 = .ok (.iconst (-1), 1) := by decide +kernel
theorem dX4_findUnfit_52 : decode cX4_findUnfit 52 = .ok (.if_icmp .eq 13, 3) := by decide +kernel
theorem dX4_findUnfit_55 : decode cX4_findUnfit 55 = .ok (.aload_n 0, 1) := by decide +kernel
theorem dX4_findUnfit_56 : decode cX4_findUnfit 56 = .ok (.iload_n 1, 1) := by decide +kernel
theorem dX4_findUnfit_57 : decode cX4_findUnfit 57 = .ok (.putfield 39, 3) := by decide +kernel
theorem dX4_findUnfit_60 : decode cX4_findUnfit 60 = .ok (.aload_n 0, 1) := by decide +kernel
theorem dX4_findUnfit_61 : decode cX4_findUnfit 61 = .ok (.iload_n 2, 1) := by decide +kernel
theorem dX4_findUnfit_62 : decode cX4_findUnfit 62 = .ok (.putfield 42, 3) := by decide +kernel
theorem dX4_findUnfit_65 : decode cX4_findUnfit 65 = .ok (.iinc 1 1, 3) := by decide +kernel
theorem dX4_findUnfit_68 : decode cX4_findUnfit 68 = .ok (.goto (-56), 3) := by decide +kernel
theorem dX4_findUnfit_71 : decode cX4_findUnfit 71 = .ok (.return_, 1) := by decide +kernel
theorem dX4_firstUnfit_0 : decode cX4_firstUnfit 0 = .ok (.iconst 0, 1) := by decide +kernel
theorem dX4_firstUnfit_1 : decode cX4_firstUnfit 1 = .ok (.istore_n 2, 1) := by decide +kernel
theorem dX4_firstUnfit_2 : decode cX4_firstUnfit 2 = .ok (.iload_n 2, 1) := by decide +kernel
theorem dX4_firstUnfit_3 : decode cX4_firstUnfit 3 = .ok (.aload_n 1, 1) := by decide +kernel
theorem dX4_firstUnfit_4 : decode cX4_firstUnfit 4 = .ok (.getfield 155, 3) := by decide +kernel
theorem dX4_firstUnfit_7 : decode cX4_firstUnfit 7 = .ok (.if_icmp .ge 34, 3) := by decide +kernel
theorem dX4_firstUnfit_10 : decode cX4_firstUnfit 10 = .ok (.aload_n 1, 1) := by decide +kernel
theorem dX4_firstUnfit_11 : decode cX4_firstUnfit 11 = .ok (.getfield 158, 3) := by decide +kernel
theorem dX4_firstUnfit_14 : decode cX4_firstUnfit 14 = .ok (.iload_n 2, 1) := by decide +kernel
theorem dX4_firstUnfit_15 : decode cX4_firstUnfit 15 = .ok (.aaload, 1) := by decide +kernel
theorem dX4_firstUnfit_16 : decode cX4_firstUnfit 16 = .ok (.astore_n 3, 1) := by decide +kernel
theorem dX4_firstUnfit_17 : decode cX4_firstUnfit 17 = .ok (.aload_n 3, 1) := by decide +kernel
theorem dX4_firstUnfit_18 : decode cX4_firstUnfit 18 = .ok (.getfield 162, 3) := by decide +kernel
theorem dX4_firstUnfit_21 : decode cX4_firstUnfit 21 = .ok (.iconst (-1), 1) := by decide +kernel
theorem dX4_firstUnfit_22 : decode cX4_firstUnfit 22 = .ok (.if_icmp .eq 13, 3) := by decide +kernel
theorem dX4_firstUnfit_25 : decode cX4_firstUnfit 25 = .ok (.aload_n 0, 1) := by decide +kernel
theorem dX4_firstUnfit_26 : decode cX4_firstUnfit 26 = .ok (.aload_n 3, 1) := by decide +kernel
theorem dX4_firstUnfit_27 : decode cX4_firstUnfit 27 = .ok (.invokevirtual 165, 3) := by decide +kernel
theorem dX4_firstUnfit_30 : decode cX4_firstUnfit 30 = .ok (.ifCond .ne 5, 3) := by decide +kernel
theorem dX4_firstUnfit_33 : decode cX4_firstUnfit 33 = .ok (.iload_n 2, 1) := by decide +kernel
theorem dX4_firstUnfit_34 : decode cX4_firstUnfit 34 = .ok (.ireturn, 1) := by decide +kernel
theorem dX4_firstUnfit_35 : decode cX4_firstUnfit 35 = .ok (.iinc 2 1, 3) := by decide +kernel
theorem dX4_firstUnfit_38 : decode cX4_firstUnfit 38 = .ok (.goto (-36), 3) := by decide +kernel
theorem dX4_firstUnfit_41 : decode cX4_firstUnfit 41 = .ok (.iconst (-1), 1) := by decide +kernel
theorem dX4_firstUnfit_42 : decode cX4_firstUnfit 42 = .ok (.ireturn, 1) := by decide +kernel
theorem dX4_fits_0 : decode cX4_fits 0 = .ok (.aload_n 0, 1) := by decide +kernel
theorem dX4_fits_1 : decode cX4_fits 1 = .ok (.aload_n 1, 1) := by decide +kernel
theorem dX4_fits_2 : decode cX4_fits 2 = .ok (.getfield 162, 3) := by decide +kernel
theorem dX4_fits_5 : decode cX4_fits 5 = .ok (.aload_n 1, 1) := by decide +kernel
theorem dX4_fits_6 : decode cX4_fits 6 = .ok (.getfield 169, 3) := by decide +kernel
theorem dX4_fits_9 : decode cX4_fits 9 = .ok (.invokevirtual 106, 3) := by decide +kernel
theorem dX4_fits_12 : decode cX4_fits 12 = .ok (.astore_n 2, 1) := by decide +kernel
theorem dX4_fits_13 : decode cX4_fits 13 = .ok (.aload_n 2, 1) := by decide +kernel
theorem dX4_fits_14 : decode cX4_fits 14 = .ok (.ifnull 25, 3) := by decide +kernel
theorem dX4_fits_17 : decode cX4_fits 17 = .ok (.aload_n 2, 1) := by decide +kernel
theorem dX4_fits_18 : decode cX4_fits 18 = .ok (.getfield 115, 3) := by decide +kernel
theorem dX4_fits_21 : decode cX4_fits 21 = .ok (.ifCond .eq 18, 3) := by decide +kernel
theorem dX4_fits_24 : decode cX4_fits 24 = .ok (.aload_n 2, 1) := by decide +kernel
theorem dX4_fits_25 : decode cX4_fits 25 = .ok (.getfield 121, 3) := by decide +kernel
theorem dX4_fits_28 : decode cX4_fits 28 = .ok (.aload_n 1, 1) := by decide +kernel
theorem dX4_fits_29 : decode cX4_fits 29 = .ok (.getfield 121, 3) := by decide +kernel
theorem dX4_fits_32 : decode cX4_fits 32 = .ok (.if_icmp .ne 7, 3) := by decide +kernel
theorem dX4_fits_35 : decode cX4_fits 35 = .ok (.iconst 1, 1) := by decide +kernel
theorem dX4_fits_36 : decode cX4_fits 36 = .ok (.goto 4, 3) := by decide +kernel
theorem dX4_fits_39 : decode cX4_fits 39 = .ok (.iconst 0, 1) := by decide +kernel
theorem dX4_fits_40 : decode cX4_fits 40 = .ok (.ireturn, 1) := by decide +kernel
theorem dX4_byteOf_0 : decode cX4_byteOf 0 = .ok (.iload_n 0, 1) := by decide +kernel
theorem dX4_byteOf_1 : decode cX4_byteOf 1 = .ok (.bipush 8, 2) := by decide +kernel
theorem dX4_byteOf_3 : decode cX4_byteOf 3 = .ok (.iload_n 1, 1) := by decide +kernel
theorem dX4_byteOf_4 : decode cX4_byteOf 4 = .ok (.imul, 1) := by decide +kernel
theorem dX4_byteOf_5 : decode cX4_byteOf 5 = .ok (.iushr, 1) := by decide +kernel
theorem dX4_byteOf_6 : decode cX4_byteOf 6 = .ok (.sipush 255, 3) := by decide +kernel
theorem dX4_byteOf_9 : decode cX4_byteOf 9 = .ok (.iand, 1) := by decide +kernel
theorem dX4_byteOf_10 : decode cX4_byteOf 10 = .ok (.ireturn, 1) := by decide +kernel
theorem dX4_typeAt_0 : decode cX4_typeAt 0 = .ok (.iload_n 1, 1) := by decide +kernel
theorem dX4_typeAt_1 : decode cX4_typeAt 1 = .ok (.iconst 3, 1) := by decide +kernel
theorem dX4_typeAt_2 : decode cX4_typeAt 2 = .ok (.if_icmp .le 7, 3) := by decide +kernel
theorem dX4_typeAt_5 : decode cX4_typeAt 5 = .ok (.iconst 0, 1) := by decide +kernel
theorem dX4_typeAt_6 : decode cX4_typeAt 6 = .ok (.goto 10, 3) := by decide +kernel
theorem dX4_typeAt_9 : decode cX4_typeAt 9 = .ok (.iload_n 0, 1) := by decide +kernel
theorem dX4_typeAt_10 : decode cX4_typeAt 10 = .ok (.iconst 2, 1) := by decide +kernel
theorem dX4_typeAt_11 : decode cX4_typeAt 11 = .ok (.iload_n 1, 1) := by decide +kernel
theorem dX4_typeAt_12 : decode cX4_typeAt 12 = .ok (.imul, 1) := by decide +kernel
theorem dX4_typeAt_13 : decode cX4_typeAt 13 = .ok (.ishr, 1) := by decide +kernel
theorem dX4_typeAt_14 : decode cX4_typeAt 14 = .ok (.iconst 3, 1) := by decide +kernel
theorem dX4_typeAt_15 : decode cX4_typeAt 15 = .ok (.iand, 1) := by decide +kernel
theorem dX4_typeAt_16 : decode cX4_typeAt 16 = .ok (.ireturn, 1) := by decide +kernel
theorem dX4_wordsBefore_0 : decode cX4_wordsBefore 0 = .ok (.iconst 0, 1) := by decide +kernel
theorem dX4_wordsBefore_1 : decode cX4_wordsBefore 1 = .ok (.istore_n 2, 1) := by decide +kernel
theorem dX4_wordsBefore_2 : decode cX4_wordsBefore 2 = .ok (.iconst 1, 1) := by decide +kernel
theorem dX4_wordsBefore_3 : decode cX4_wordsBefore 3 = .ok (.istore_n 3, 1) := by decide +kernel
theorem dX4_wordsBefore_4 : decode cX4_wordsBefore 4 = .ok (.iload_n 3, 1) := by decide +kernel
theorem dX4_wordsBefore_5 : decode cX4_wordsBefore 5 = .ok (.iload_n 1, 1) := by decide +kernel
theorem dX4_wordsBefore_6 : decode cX4_wordsBefore 6 = .ok (.if_icmp .ge 17, 3) := by decide +kernel
theorem dX4_wordsBefore_9 : decode cX4_wordsBefore 9 = .ok (.iload_n 2, 1) := by decide +kernel
theorem dX4_wordsBefore_10 : decode cX4_wordsBefore 10 = .ok (.iload_n 0, 1) := by decide +kernel
theorem dX4_wordsBefore_11 : decode cX4_wordsBefore 11 = .ok (.iload_n 3, 1) := by decide +kernel
theorem dX4_wordsBefore_12 : decode cX4_wordsBefore 12 = .ok (.invokestatic 124, 3) := by decide +kernel
theorem dX4_wordsBefore_15 : decode cX4_wordsBefore 15 = .ok (.iadd, 1) := by decide +kernel
theorem dX4_wordsBefore_16 : decode cX4_wordsBefore 16 = .ok (.istore_n 2, 1) := by decide +kernel
theorem dX4_wordsBefore_17 : decode cX4_wordsBefore 17 = .ok (.iinc 3 1, 3) := by decide +kernel
theorem dX4_wordsBefore_20 : decode cX4_wordsBefore 20 = .ok (.goto (-16), 3) := by decide +kernel
theorem dX4_wordsBefore_23 : decode cX4_wordsBefore 23 = .ok (.iload_n 2, 1) := by decide +kernel
theorem dX4_wordsBefore_24 : decode cX4_wordsBefore 24 = .ok (.ireturn, 1) := by decide +kernel
end
section
theorem dX5_init_0 : decode cX5_init 0 = .ok (.aload_n 0, 1) := by decide +kernel
theorem dX5_init_1 : decode cX5_init 1 = .ok (.invokespecial 1, 3) := by decide +kernel
theorem dX5_init_4 : decode cX5_init 4 = .ok (.aload_n 0, 1) := by decide +kernel
theorem dX5_init_5 : decode cX5_init 5 = .ok (.bipush 120, 2) := by decide +kernel
theorem dX5_init_7 : decode cX5_init 7 = .ok (.newarray .char, 2) := by decide +kernel
theorem dX5_init_9 : decode cX5_init 9 = .ok (.putfield 7, 3) := by decide +kernel
theorem dX5_init_12 : decode cX5_init 12 = .ok (.aload_n 0, 1) := by decide +kernel
theorem dX5_init_13 : decode cX5_init 13 = .ok (.bipush 7, 2) := by decide +kernel
theorem dX5_init_15 : decode cX5_init 15 = .ok (.newarray .boolean, 2) := by decide +kernel
theorem dX5_init_17 : decode cX5_init 17 = .ok (.putfield 13, 3) := by decide +kernel
theorem dX5_init_20 : decode cX5_init 20 = .ok (.aload_n 0, 1) := by decide +kernel
theorem dX5_init_21 : decode cX5_init 21 = .ok (.bipush 7, 2) := by decide +kernel
theorem dX5_init_23 : decode cX5_init 23 = .ok (.newarray .int, 2) := by decide +kernel
theorem dX5_init_25 : decode cX5_init 25 = .ok (.putfield 17, 3) := by decide +kernel
theorem dX5_init_28 : decode cX5_init 28 = .ok (.aload_n 0, 1) := by decide +kernel
theorem dX5_init_29 : decode cX5_init 29 = .ok (.bipush 42, 2) := by decide +kernel
theorem dX5_init_31 : decode cX5_init 31 = .ok (.newarray .int, 2) := by decide +kernel
theorem dX5_init_33 : decode cX5_init 33 = .ok (.putfield 21, 3) := by decide +kernel
theorem dX5_init_36 : decode cX5_init 36 = .ok (.aload_n 0, 1) := by decide +kernel
theorem dX5_init_37 : decode cX5_init 37 = .ok (.bipush 42, 2) := by decide +kernel
theorem dX5_init_39 : decode cX5_init 39 = .ok (.newarray .int, 2) := by decide +kernel
theorem dX5_init_41 : decode cX5_init 41 = .ok (.putfield 24, 3) := by decide +kernel
theorem dX5_init_44 : decode cX5_init 44 = .ok (.aload_n 0, 1) := by decide +kernel
theorem dX5_init_45 : decode cX5_init 45 = .ok (.bipush 42, 2) := by decide +kernel
theorem dX5_init_47 : decode cX5_init 47 = .ok (.newarray .boolean, 2) := by decide +kernel
theorem dX5_init_49 : decode cX5_init 49 = .ok (.putfield 27, 3) := by decide +kernel
theorem dX5_init_52 : decode cX5_init 52 = .ok (.aload_n 0, 1) := by decide +kernel
theorem dX5_init_53 : decode cX5_init 53 = .ok (.bipush 42, 2) := by decide +kernel
theorem dX5_init_55 : decode cX5_init 55 = .ok (.newarray .int, 2) := by decide +kernel
theorem dX5_init_57 : decode cX5_init 57 = .ok (.putfield 30, 3) := by decide +kernel
theorem dX5_init_60 : decode cX5_init 60 = .ok (.aload_n 0, 1) := by decide +kernel
theorem dX5_init_61 : decode cX5_init 61 = .ok (.bipush 126, 2) := by decide +kernel
theorem dX5_init_63 : decode cX5_init 63 = .ok (.newarray .boolean, 2) := by decide +kernel
theorem dX5_init_65 : decode cX5_init 65 = .ok (.putfield 33, 3) := by decide +kernel
theorem dX5_init_68 : decode cX5_init 68 = .ok (.aload_n 0, 1) := by decide +kernel
theorem dX5_init_69 : decode cX5_init 69 = .ok (.bipush 42, 2) := by decide +kernel
theorem dX5_init_71 : decode cX5_init 71 = .ok (.newarray .boolean, 2) := by decide +kernel
theorem dX5_init_73 : decode cX5_init 73 = .ok (.putfield 36, 3) := by decide +kernel
theorem dX5_init_76 : decode cX5_init 76 = .ok (.aload_n 0, 1) := by decide +kernel
theorem dX5_init_77 : decode cX5_init 77 = .ok (.bipush 42, 2) := by decide +kernel
theorem dX5_init_79 : decode cX5_init 79 = .ok (.newarray .int, 2) := by decide +kernel
theorem dX5_init_81 : decode cX5_init 81 = .ok (.putfield 39, 3) := by decide +kernel
theorem dX5_init_84 : decode cX5_init 84 = .ok (.aload_n 0, 1) := by decide +kernel
theorem dX5_init_85 : decode cX5_init 85 = .ok (.bipush 42, 2) := by decide +kernel
theorem dX5_init_87 : decode cX5_init 87 = .ok (.newarray .int, 2) := by decide +kernel
theorem dX5_init_89 : decode cX5_init 89 = .ok (.putfield 42, 3) := by decide +kernel
theorem dX5_init_92 : decode cX5_init 92 = .ok (.aload_n 0, 1) := by decide +kernel
theorem dX5_init_93 : decode cX5_init 93 = .ok (.sipush 910, 3) := by decide +kernel
theorem dX5_init_96 : decode cX5_init 96 = .ok (.newarray .int, 2) := by decide +kernel
theorem dX5_init_98 : decode cX5_init 98 = .ok (.putfield 45, 3) := by decide +kernel
theorem dX5_init_101 : decode cX5_init 101 = .ok (.aload_n 0, 1) := by decide +kernel
theorem dX5_init_102 : decode cX5_init 102 = .ok (.sipush 910, 3) := by decide +kernel
theorem dX5_init_105 : decode cX5_init 105 = .ok (.newarray .int, 2) := by decide +kernel
theorem dX5_init_107 : decode cX5_init 107 = .ok (.putfield 48, 3) := by decide +kernel
theorem dX5_init_110 : decode cX5_init 110 = .ok (.aload_n 0, 1) := by decide +kernel
theorem dX5_init_111 : decode cX5_init 111 = .ok (.sipush 910, 3) := by decide +kernel
theorem dX5_init_114 : decode cX5_init 114 = .ok (.newarray .int, 2) := by decide +kernel
theorem dX5_init_116 : decode cX5_init 116 = .ok (.putfield 51, 3) := by decide +kernel
theorem dX5_init_119 : decode cX5_init 119 = .ok (.aload_n 0, 1) := by decide +kernel
theorem dX5_init_120 : decode cX5_init 120 = .ok (.bipush 10, 2) := by decide +kernel
theorem dX5_init_122 : decode cX5_init 122 = .ok (.newarray .int, 2) := by decide +kernel
theorem dX5_init_124 : decode cX5_init 124 = .ok (.putfield 54, 3) := by decide +kernel
theorem dX5_init_127 : decode cX5_init 127 = .ok (.aload_n 0, 1) := by decide +kernel
theorem dX5_init_128 : decode cX5_init 128 = .ok (.bipush 10, 2) := by decide +kernel
theorem dX5_init_130 : decode cX5_init 130 = .ok (.newarray .int, 2) := by decide +kernel
theorem dX5_init_132 : decode cX5_init 132 = .ok (.putfield 57, 3) := by decide +kernel
theorem dX5_init_135 : decode cX5_init 135 = .ok (.aload_n 0, 1) := by decide +kernel
theorem dX5_init_136 : decode cX5_init 136 = .ok (.bipush 10, 2) := by decide +kernel
theorem dX5_init_138 : decode cX5_init 138 = .ok (.newarray .int, 2) := by decide +kernel
theorem dX5_init_140 : decode cX5_init 140 = .ok (.putfield 60, 3) := by decide +kernel
theorem dX5_init_143 : decode cX5_init 143 = .ok (.aload_n 0, 1) := by decide +kernel
theorem dX5_init_144 : decode cX5_init 144 = .ok (.bipush 10, 2) := by decide +kernel
theorem dX5_init_146 : decode cX5_init 146 = .ok (.newarray .boolean, 2) := by decide +kernel
theorem dX5_init_148 : decode cX5_init 148 = .ok (.putfield 63, 3) := by decide +kernel
theorem dX5_init_151 : decode cX5_init 151 = .ok (.aload_n 0, 1) := by decide +kernel
theorem dX5_init_152 : decode cX5_init 152 = .ok (.bipush 10, 2) := by decide +kernel
theorem dX5_init_154 : decode cX5_init 154 = .ok (.newarray .boolean, 2) := by decide +kernel
theorem dX5_init_156 : decode cX5_init 156 = .ok (.putfield 66, 3) := by decide +kernel
theorem dX5_init_159 : decode cX5_init 159 = .ok (.aload_n 0, 1) := by decide +kernel
theorem dX5_init_160 : decode cX5_init 160 = .ok (.bipush 10, 2) := by decide +kernel
theorem dX5_init_162 : decode cX5_init 162 = .ok (.newarray .int, 2) := by decide +kernel
theorem dX5_init_164 : decode cX5_init 164 = .ok (.putfield 69, 3) := by decide +kernel
theorem dX5_init_167 : decode cX5_init 167 = .ok (.aload_n 0, 1) := by decide +kernel
theorem dX5_init_168 : decode cX5_init 168 = .ok (.bipush 10, 2) := by decide +kernel
theorem dX5_init_170 : decode cX5_init 170 = .ok (.newarray .int, 2) := by decide +kernel
theorem dX5_init_172 : decode cX5_init 172 = .ok (.putfield 72, 3) := by decide +kernel
theorem dX5_init_175 : decode cX5_init 175 = .ok (.aload_n 0, 1) := by decide +kernel
theorem dX5_init_176 : decode cX5_init 176 = .ok (.iconst (-1), 1) := by decide +kernel
theorem dX5_init_177 : decode cX5_init 177 = .ok (.putfield 75, 3) := by decide +kernel
theorem dX5_init_180 : decode cX5_init 180 = .ok (.aload_n 0, 1) := by decide +kernel
theorem dX5_init_181 : decode cX5_init 181 = .ok (.iconst (-1), 1) := by decide +kernel
theorem dX5_init_182 : decode cX5_init 182 = .ok (.putfield 79, 3) := by decide +kernel
theorem dX5_init_185 : decode cX5_init 185 = .ok (.aload_n 0, 1) := by decide +kernel
theorem dX5_init_186 : decode cX5_init 186 = .ok (.sipush 1600, 3) := by decide +kernel
theorem dX5_init_189 : decode cX5_init 189 = .ok (.newarray .int, 2) := by decide +kernel
theorem dX5_init_191 : decode cX5_init 191 = .ok (.putfield 82, 3) := by decide +kernel
theorem dX5_init_194 : decode cX5_init 194 = .ok (.aload_n 0, 1) := by decide +kernel
theorem dX5_init_195 : decode cX5_init 195 = .ok (.sipush 260, 3) := by decide +kernel
theorem dX5_init_198 : decode cX5_init 198 = .ok (.newarray .int, 2) := by decide +kernel
theorem dX5_init_200 : decode cX5_init 200 = .ok (.putfield 85, 3) := by decide +kernel
theorem dX5_init_203 : decode cX5_init 203 = .ok (.aload_n 0, 1) := by decide +kernel
theorem dX5_init_204 : decode cX5_init 204 = .ok (.sipush 260, 3) := by decide +kernel
theorem dX5_init_207 : decode cX5_init 207 = .ok (.newarray .int, 2) := by decide +kernel
theorem dX5_init_209 : decode cX5_init 209 = .ok (.putfield 88, 3) := by decide +kernel
theorem dX5_init_212 : decode cX5_init 212 = .ok (.aload_n 0, 1) := by decide +kernel
theorem dX5_init_213 : decode cX5_init 213 = .ok (.sipush 260, 3) := by decide +kernel
theorem dX5_init_216 : decode cX5_init 216 = .ok (.newarray .int, 2) := by decide +kernel
theorem dX5_init_218 : decode cX5_init 218 = .ok (.putfield 91, 3) := by decide +kernel
theorem dX5_init_221 : decode cX5_init 221 = .ok (.aload_n 0, 1) := by decide +kernel
theorem dX5_init_222 : decode cX5_init 222 = .ok (.sipush 260, 3) := by decide +kernel
theorem dX5_init_225 : decode cX5_init 225 = .ok (.newarray .int, 2) := by decide +kernel
theorem dX5_init_227 : decode cX5_init 227 = .ok (.putfield 94, 3) := by decide +kernel
theorem dX5_init_230 : decode cX5_init 230 = .ok (.aload_n 0, 1) := by decide +kernel
theorem dX5_init_231 : decode cX5_init 231 = .ok (.sipush 260, 3) := by decide +kernel
theorem dX5_init_234 : decode cX5_init 234 = .ok (.newarray .int, 2) := by decide +kernel
theorem dX5_init_236 : decode cX5_init 236 = .ok (.putfield 97, 3) := by decide +kernel
theorem dX5_init_239 : decode cX5_init 239 = .ok (.aload_n 0, 1) := by decide +kernel
theorem dX5_init_240 : decode cX5_init 240 = .ok (.iload_n 1, 1) := by decide +kernel
theorem dX5_init_241 : decode cX5_init 241 = .ok (.bipush 8, 2) := by decide +kernel
theorem dX5_init_243 : decode cX5_init 243 = .ok (.if_icmp .ge 8, 3) := by decide +kernel
theorem dX5_init_246 : decode cX5_init 246 = .ok (.bipush 8, 2) := by decide +kernel
theorem dX5_init_248 : decode cX5_init 248 = .ok (.goto 17, 3) := by decide +kernel
theorem dX5_init_251 : decode cX5_init 251 = .ok (.iload_n 1, 1) := by decide +kernel
theorem dX5_init_252 : decode cX5_init 252 = .ok (.sipush 500, 3) := by decide +kernel
theorem dX5_init_255 : decode cX5_init 255 = .ok (.if_icmp .le 9, 3) := by decide +kernel
theorem dX5_init_258 : decode cX5_init 258 = .ok (.sipush 500, 3) := by decide +kernel
theorem dX5_init_261 : decode cX5_init 261 = .ok (.goto 4, 3) := by decide +kernel
theorem dX5_init_264 : decode cX5_init 264 = .ok (.iload_n 1, 1) := by decide +kernel
theorem dX5_init_265 : decode cX5_init 265 = .ok (.putfield 100, 3) := by decide +kernel
theorem dX5_init_268 : decode cX5_init 268 = .ok (.return_, 1) := by decide +kernel
theorem dX5_thrown_0 : decode cX5_thrown 0 = .ok (.aload_n 0, 1) := by decide +kernel
theorem dX5_thrown_1 : decode cX5_thrown 1 = .ok (.getfield 103, 3) := by decide +kernel
theorem dX5_thrown_4 : decode cX5_thrown 4 = .ok (.ireturn, 1) := by decide +kernel
theorem dX5_refuse_0 : decode cX5_refuse 0 = .ok (.aload_n 0, 1) := by decide +kernel
theorem dX5_refuse_1 : decode cX5_refuse 1 = .ok (.iload_n 1, 1) := by decide +kernel
theorem dX5_refuse_2 : decode cX5_refuse 2 = .ok (.putfield 103, 3) := by decide +kernel
theorem dX5_refuse_5 : decode cX5_refuse 5 = .ok (.iconst 0, 1) := by decide +kernel
theorem dX5_refuse_6 : decode cX5_refuse 6 = .ok (.ireturn, 1) := by decide +kernel
theorem dX5_outside_0 : decode cX5_outside 0 = .ok (.iload_n 0, 1) := by decide +kernel
theorem dX5_outside_1 : decode cX5_outside 1 = .ok (.iload_n 1, 1) := by decide +kernel
theorem dX5_outside_2 : decode cX5_outside 2 = .ok (.if_icmp .lt 8, 3) := by decide +kernel
theorem dX5_outside_5 : decode cX5_outside 5 = .ok (.iload_n 0, 1) := by decide +kernel
theorem dX5_outside_6 : decode cX5_outside 6 = .ok (.iload_n 2, 1) := by decide +kernel
theorem dX5_outside_7 : decode cX5_outside 7 = .ok (.if_icmp .le 7, 3) := by decide +kernel
theorem dX5_outside_10 : decode cX5_outside 10 = .ok (.iconst 1, 1) := by decide +kernel
theorem dX5_outside_11 : decode cX5_outside 11 = .ok (.goto 4, 3) := by decide +kernel
theorem dX5_outside_14 : decode cX5_outside 14 = .ok (.iconst 0, 1) := by decide +kernel
theorem dX5_outside_15 : decode cX5_outside 15 = .ok (.ireturn, 1) := by decide +kernel
theorem dX5_put_0 : decode cX5_put 0 = .ok (.aload_n 0, 1) := by decide +kernel
theorem dX5_put_1 : decode cX5_put 1 = .ok (.iconst 0, 1) := by decide +kernel
theorem dX5_put_2 : decode cX5_put 2 = .ok (.putfield 103, 3) := by decide +kernel
theorem dX5_put_5 : decode cX5_put 5 = .ok (.iload_n 2, 1) := by decide +kernel
theorem dX5_put_6 : decode cX5_put 6 = .ok (.iconst 1, 1) := by decide +kernel
theorem dX5_put_7 : decode cX5_put 7 = .ok (.iconst 4, 1) := by decide +kernel
theorem dX5_put_8 : decode cX5_put 8 = .ok (.invokestatic 106, 3) := by decide +kernel
theorem dX5_put_11 : decode cX5_put 11 = .ok (.ifCond .ne 14, 3) := by decide +kernel
theorem dX5_put_14 : decode cX5_put 14 = .ok (.aload_n 0, 1) := by decide +kernel
theorem dX5_put_15 : decode cX5_put 15 = .ok (.getfield 110, 3) := by decide +kernel
theorem dX5_put_18 : decode cX5_put 18 = .ok (.iload_n 2, 1) := by decide +kernel
theorem dX5_put_19 : decode cX5_put 19 = .ok (.iadd, 1) := by decide +kernel
theorem dX5_put_20 : decode cX5_put 20 = .ok (.bipush 120, 2) := by decide +kernel
theorem dX5_put_22 : decode cX5_put 22 = .ok (.if_icmp .le 5, 3) := by decide +kernel
theorem dX5_put_25 : decode cX5_put 25 = .ok (.iconst 0, 1) := by decide +kernel
theorem dX5_put_26 : decode cX5_put 26 = .ok (.ireturn, 1) := by decide +kernel
theorem dX5_put_27 : decode cX5_put 27 = .ok (.iconst 0, 1) := by decide +kernel
theorem dX5_put_28 : decode cX5_put 28 = .ok (.istore_n 3, 1) := by decide +kernel
theorem dX5_put_29 : decode cX5_put 29 = .ok (.iload_n 3, 1) := by decide +kernel
theorem dX5_put_30 : decode cX5_put 30 = .ok (.iload_n 2, 1) := by decide +kernel
theorem dX5_put_31 : decode cX5_put 31 = .ok (.if_icmp .ge 31, 3) := by decide +kernel
theorem dX5_put_34 : decode cX5_put 34 = .ok (.iload_n 1, 1) := by decide +kernel
theorem dX5_put_35 : decode cX5_put 35 = .ok (.bipush 8, 2) := by decide +kernel
theorem dX5_put_37 : decode cX5_put 37 = .ok (.iload_n 3, 1) := by decide +kernel
theorem dX5_put_38 : decode cX5_put 38 = .ok (.imul, 1) := by decide +kernel
theorem dX5_put_39 : decode cX5_put 39 = .ok (.ishr, 1) := by decide +kernel
theorem dX5_put_40 : decode cX5_put 40 = .ok (.sipush 255, 3) := by decide +kernel
theorem dX5_put_43 : decode cX5_put 43 = .ok (.iand, 1) := by decide +kernel
theorem dX5_put_44 : decode cX5_put 44 = .ok (.bipush 32, 2) := by decide +kernel
theorem dX5_put_46 : decode cX5_put 46 = .ok (.bipush 126, 2) := by decide +kernel
theorem dX5_put_48 : decode cX5_put 48 = .ok (.invokestatic 106, 3) := by decide +kernel
theorem dX5_put_51 : decode cX5_put 51 = .ok (.ifCond .eq 5, 3) := by decide +kernel
theorem dX5_put_54 : decode cX5_put 54 = .ok (.iconst 0, 1) := by decide +kernel
theorem dX5_put_55 : decode cX5_put 55 = .ok (.ireturn, 1) := by decide +kernel
theorem dX5_put_56 : decode cX5_put 56 = .ok (.iinc 3 1, 3) := by decide +kernel
theorem dX5_put_59 : decode cX5_put 59 = .ok (.goto (-30), 3) := by decide +kernel
theorem dX5_put_62 : decode cX5_put 62 = .ok (.iload_n 2, 1) := by decide +kernel
theorem dX5_put_63 : decode cX5_put 63 = .ok (.iconst 1, 1) := by decide +kernel
theorem dX5_put_64 : decode cX5_put 64 = .ok (.isub, 1) := by decide +kernel
theorem dX5_put_65 : decode cX5_put 65 = .ok (.istore_n 3, 1) := by decide +kernel
theorem dX5_put_66 : decode cX5_put 66 = .ok (.iload_n 3, 1) := by decide +kernel
theorem dX5_put_67 : decode cX5_put 67 = .ok (.ifCond .lt 39, 3) := by decide +kernel
theorem dX5_put_70 : decode cX5_put 70 = .ok (.aload_n 0, 1) := by decide +kernel
theorem dX5_put_71 : decode cX5_put 71 = .ok (.getfield 7, 3) := by decide +kernel
theorem dX5_put_74 : decode cX5_put 74 = .ok (.aload_n 0, 1) := by decide +kernel
theorem dX5_put_75 : decode cX5_put 75 = .ok (.getfield 110, 3) := by decide +kernel
theorem dX5_put_78 : decode cX5_put 78 = .ok (.iload_n 1, 1) := by decide +kernel
theorem dX5_put_79 : decode cX5_put 79 = .ok (.bipush 8, 2) := by decide +kernel
theorem dX5_put_81 : decode cX5_put 81 = .ok (.iload_n 3, 1) := by decide +kernel
theorem dX5_put_82 : decode cX5_put 82 = .ok (.imul, 1) := by decide +kernel
theorem dX5_put_83 : decode cX5_put 83 = .ok (.ishr, 1) := by decide +kernel
theorem dX5_put_84 : decode cX5_put 84 = .ok (.sipush 255, 3) := by decide +kernel
theorem dX5_put_87 : decode cX5_put 87 = .ok (.iand, 1) := by decide +kernel
theorem dX5_put_88 : decode cX5_put 88 = .ok (.i2c, 1) := by decide +kernel
theorem dX5_put_89 : decode cX5_put 89 = .ok (.castore, 1) := by decide +kernel
theorem dX5_put_90 : decode cX5_put 90 = .ok (.aload_n 0, 1) := by decide +kernel
theorem dX5_put_91 : decode cX5_put 91 = .ok (.dup, 1) := by decide +kernel
theorem dX5_put_92 : decode cX5_put 92 = .ok (.getfield 110, 3) := by decide +kernel
theorem dX5_put_95 : decode cX5_put 95 = .ok (.iconst 1, 1) := by decide +kernel
theorem dX5_put_96 : decode cX5_put 96 = .ok (.iadd, 1) := by decide +kernel
theorem dX5_put_97 : decode cX5_put 97 = .ok (.putfield 110, 3) := by decide +kernel
theorem dX5_put_100 : decode cX5_put 100 = .ok (.iinc 3 (-1), 3) := by decide +kernel
theorem dX5_put_103 : decode cX5_put 103 = .ok (.goto (-37), 3) := by decide +kernel
theorem dX5_put_106 : decode cX5_put 106 = .ok (.iconst 1, 1) := by decide +kernel
theorem dX5_put_107 : decode cX5_put 107 = .ok (.ireturn, 1) := by decide +kernel
theorem dX5_look_0 : decode cX5_look 0 = .ok (.aload_n 0, 1) := by decide +kernel
theorem dX5_look_1 : decode cX5_look 1 = .ok (.getfield 113, 3) := by decide +kernel
theorem dX5_look_4 : decode cX5_look 4 = .ok (.aload_n 0, 1) := by decide +kernel
theorem dX5_look_5 : decode cX5_look 5 = .ok (.getfield 110, 3) := by decide +kernel
theorem dX5_look_8 : decode cX5_look 8 = .ok (.if_icmp .ge 15, 3) := by decide +kernel
theorem dX5_look_11 : decode cX5_look 11 = .ok (.aload_n 0, 1) := by decide +kernel
theorem dX5_look_12 : decode cX5_look 12 = .ok (.getfield 7, 3) := by decide +kernel
theorem dX5_look_15 : decode cX5_look 15 = .ok (.aload_n 0, 1) := by decide +kernel
theorem dX5_look_16 : decode cX5_look 16 = .ok (.getfield 113, 3) := by decide +kernel
theorem dX5_look_19 : decode cX5_look 19 = .ok (.caload, 1) := by decide +kernel
theorem dX5_look_20 : decode cX5_look 20 = .ok (.goto 4, 3) := by decide +kernel
theorem dX5_look_23 : decode cX5_look 23 = .ok (.iconst 0, 1) := by decide +kernel
theorem dX5_look_24 : decode cX5_look 24 = .ok (.ireturn, 1) := by decide +kernel
theorem dX5_must_0 : decode cX5_must 0 = .ok (.aload_n 0, 1) := by decide +kernel
theorem dX5_must_1 : decode cX5_must 1 = .ok (.aload_n 0, 1) := by decide +kernel
theorem dX5_must_2 : decode cX5_must 2 = .ok (.getfield 116, 3) := by decide +kernel
theorem dX5_must_5 : decode cX5_must 5 = .ok (.ifCond .eq 11, 3) := by decide +kernel
theorem dX5_must_8 : decode cX5_must 8 = .ok (.iload_n 1, 1) := by decide +kernel
theorem dX5_must_9 : decode cX5_must 9 = .ok (.ifCond .eq 7, 3) := by decide +kernel
theorem dX5_must_12 : decode cX5_must 12 = .ok (.iconst 1, 1) := by decide +kernel
theorem dX5_must_13 : decode cX5_must 13 = .ok (.goto 4, 3) := by decide +kernel
theorem dX5_must_16 : decode cX5_must 16 = .ok (.iconst 0, 1) := by decide +kernel
theorem dX5_must_17 : decode cX5_must 17 = .ok (.putfield 116, 3) := by decide +kernel
theorem dX5_must_20 : decode cX5_must 20 = .ok (.return_, 1) := by decide +kernel
theorem dX5_type_0 : decode cX5_type 0 = .ok (.aload_n 0, 1) := by decide +kernel
theorem dX5_type_1 : decode cX5_type 1 = .ok (.aload_n 0, 1) := by decide +kernel
theorem dX5_type_2 : decode cX5_type 2 = .ok (.getfield 120, 3) := by decide +kernel
theorem dX5_type_5 : decode cX5_type 5 = .ok (.ifCond .eq 11, 3) := by decide +kernel
theorem dX5_type_8 : decode cX5_type 8 = .ok (.iload_n 1, 1) := by decide +kernel
theorem dX5_type_9 : decode cX5_type 9 = .ok (.ifCond .eq 7, 3) := by decide +kernel
theorem dX5_type_12 : decode cX5_type 12 = .ok (.iconst 1, 1) := by decide +kernel
theorem dX5_type_13 : decode cX5_type 13 = .ok (.goto 4, 3) := by decide +kernel
theorem dX5_type_16 : decode cX5_type 16 = .ok (.iconst 0, 1) := by decide +kernel
theorem dX5_type_17 : decode cX5_type 17 = .ok (.putfield 120, 3) := by decide +kernel
theorem dX5_type_20 : decode cX5_type 20 = .ok (.return_, 1) := by decide +kernel
theorem dX5_pass_0 : decode cX5_pass 0 = .ok (.aload_n 0, 1) := by decide +kernel
theorem dX5_pass_1 : decode cX5_pass 1 = .ok (.invokevirtual 123, 3) := by decide +kernel
theorem dX5_pass_4 : decode cX5_pass 4 = .ok (.iload_n 1, 1) := by decide +kernel
theorem dX5_pass_5 : decode cX5_pass 5 = .ok (.if_icmp .ne 7, 3) := by decide +kernel
theorem dX5_pass_8 : decode cX5_pass 8 = .ok (.iconst 1, 1) := by decide +kernel
theorem dX5_pass_9 : decode cX5_pass 9 = .ok (.goto 4, 3) := by decide +kernel
theorem dX5_pass_12 : decode cX5_pass 12 = .ok (.iconst 0, 1) := by decide +kernel
theorem dX5_pass_13 : decode cX5_pass 13 = .ok (.istore_n 2, 1) := by decide +kernel
theorem dX5_pass_14 : decode cX5_pass 14 = .ok (.aload_n 0, 1) := by decide +kernel
theorem dX5_pass_15 : decode cX5_pass 15 = .ok (.iload_n 2, 1) := by decide +kernel
theorem dX5_pass_16 : decode cX5_pass 16 = .ok (.ifCond .eq 12, 3) := by decide +kernel
theorem dX5_pass_19 : decode cX5_pass 19 = .ok (.aload_n 0, 1) := by decide +kernel
theorem dX5_pass_20 : decode cX5_pass 20 = .ok (.getfield 113, 3) := by decide +kernel
theorem dX5_pass_23 : decode cX5_pass 23 = .ok (.iconst 1, 1) := by decide +kernel
theorem dX5_pass_24 : decode cX5_pass 24 = .ok (.iadd, 1) := by decide +kernel
theorem dX5_pass_25 : decode cX5_pass 25 = .ok (.goto 7, 3) := by decide +kernel
theorem dX5_pass_28 : decode cX5_pass 28 = .ok (.aload_n 0, 1) := by decide +kernel
theorem dX5_pass_29 : decode cX5_pass 29 = .ok (.getfield 113, 3) := by decide +kernel
theorem dX5_pass_32 : decode cX5_pass 32 = .ok (.putfield 113, 3) := by decide +kernel
theorem dX5_pass_35 : decode cX5_pass 35 = .ok (.iload_n 2, 1) := by decide +kernel
theorem dX5_pass_36 : decode cX5_pass 36 = .ok (.ireturn, 1) := by decide +kernel
theorem dX5_expect_0 : decode cX5_expect 0 = .ok (.aload_n 0, 1) := by decide +kernel
theorem dX5_expect_1 : decode cX5_expect 1 = .ok (.aload_n 0, 1) := by decide +kernel
theorem dX5_expect_2 : decode cX5_expect 2 = .ok (.iload_n 1, 1) := by decide +kernel
theorem dX5_expect_3 : decode cX5_expect 3 = .ok (.invokevirtual 127, 3) := by decide +kernel
theorem dX5_expect_6 : decode cX5_expect 6 = .ok (.invokevirtual 131, 3) := by decide +kernel
theorem dX5_expect_9 : decode cX5_expect 9 = .ok (.return_, 1) := by decide +kernel
theorem dX5_letter_0 : decode cX5_letter 0 = .ok (.aload_n 0, 1) := by decide +kernel
theorem dX5_letter_1 : decode cX5_letter 1 = .ok (.aload_n 0, 1) := by decide +kernel
theorem dX5_letter_2 : decode cX5_letter 2 = .ok (.invokevirtual 123, 3) := by decide +kernel
theorem dX5_letter_5 : decode cX5_letter 5 = .ok (.iload_n 1, 1) := by decide +kernel
theorem dX5_letter_6 : decode cX5_letter 6 = .ok (.if_icmp .lt 15, 3) := by decide +kernel
theorem dX5_letter_9 : decode cX5_letter 9 = .ok (.aload_n 0, 1) := by decide +kernel
theorem dX5_letter_10 : decode cX5_letter 10 = .ok (.invokevirtual 123, 3) := by decide +kernel
theorem dX5_letter_13 : decode cX5_letter 13 = .ok (.iload_n 2, 1) := by decide +kernel
theorem dX5_letter_14 : decode cX5_letter 14 = .ok (.if_icmp .gt 7, 3) := by decide +kernel
theorem dX5_letter_17 : decode cX5_letter 17 = .ok (.iconst 1, 1) := by decide +kernel
theorem dX5_letter_18 : decode cX5_letter 18 = .ok (.goto 4, 3) := by decide +kernel
theorem dX5_letter_21 : decode cX5_letter 21 = .ok (.iconst 0, 1) := by decide +kernel
theorem dX5_letter_22 : decode cX5_letter 22 = .ok (.invokevirtual 131, 3) := by decide +kernel
theorem dX5_letter_25 : decode cX5_letter 25 = .ok (.aload_n 0, 1) := by decide +kernel
theorem dX5_letter_26 : decode cX5_letter 26 = .ok (.dup, 1) := by decide +kernel
theorem dX5_letter_27 : decode cX5_letter 27 = .ok (.getfield 113, 3) := by decide +kernel
theorem dX5_letter_30 : decode cX5_letter 30 = .ok (.iconst 1, 1) := by decide +kernel
theorem dX5_letter_31 : decode cX5_letter 31 = .ok (.iadd, 1) := by decide +kernel
theorem dX5_letter_32 : decode cX5_letter 32 = .ok (.putfield 113, 3) := by decide +kernel
theorem dX5_letter_35 : decode cX5_letter 35 = .ok (.aload_n 0, 1) := by decide +kernel
theorem dX5_letter_36 : decode cX5_letter 36 = .ok (.getfield 116, 3) := by decide +kernel
theorem dX5_letter_39 : decode cX5_letter 39 = .ok (.ifCond .eq 19, 3) := by decide +kernel
theorem dX5_letter_42 : decode cX5_letter 42 = .ok (.aload_n 0, 1) := by decide +kernel
theorem dX5_letter_43 : decode cX5_letter 43 = .ok (.getfield 7, 3) := by decide +kernel
theorem dX5_letter_46 : decode cX5_letter 46 = .ok (.aload_n 0, 1) := by decide +kernel
theorem dX5_letter_47 : decode cX5_letter 47 = .ok (.getfield 113, 3) := by decide +kernel
theorem dX5_letter_50 : decode cX5_letter 50 = .ok (.iconst 1, 1) := by decide +kernel
theorem dX5_letter_51 : decode cX5_letter 51 = .ok (.isub, 1) := by decide +kernel
theorem dX5_letter_52 : decode cX5_letter 52 = .ok (.caload, 1) := by decide +kernel
theorem dX5_letter_53 : decode cX5_letter 53 = .ok (.iload_n 1, 1) := by decide +kernel
theorem dX5_letter_54 : decode cX5_letter 54 = .ok (.isub, 1) := by decide +kernel
theorem dX5_letter_55 : decode cX5_letter 55 = .ok (.goto 4, 3) := by decide +kernel
theorem dX5_letter_58 : decode cX5_letter 58 = .ok (.iconst 0, 1) := by decide +kernel
theorem dX5_letter_59 : decode cX5_letter 59 = .ok (.ireturn, 1) := by decide +kernel
theorem dX5_isDigit_0 : decode cX5_isDigit 0 = .ok (.aload_n 0, 1) := by decide +kernel
theorem dX5_isDigit_1 : decode cX5_isDigit 1 = .ok (.invokevirtual 123, 3) := by decide +kernel
theorem dX5_isDigit_4 : decode cX5_isDigit 4 = .ok (.bipush 48, 2) := by decide +kernel
theorem dX5_isDigit_6 : decode cX5_isDigit 6 = .ok (.bipush 57, 2) := by decide +kernel
theorem dX5_isDigit_8 : decode cX5_isDigit 8 = .ok (.invokestatic 106, 3) := by decide +kernel
theorem dX5_isDigit_11 : decode cX5_isDigit 11 = .ok (.ifCond .ne 7, 3) := by decide +kernel
theorem dX5_isDigit_14 : decode cX5_isDigit 14 = .ok (.iconst 1, 1) := by decide +kernel
theorem dX5_isDigit_15 : decode cX5_isDigit 15 = .ok (.goto 4, 3) := by decide +kernel
theorem dX5_isDigit_18 : decode cX5_isDigit 18 = .ok (.iconst 0, 1) := by decide +kernel
theorem dX5_isDigit_19 : decode cX5_isDigit 19 = .ok (.ireturn, 1) := by decide +kernel
theorem dX5_emit_0 : decode cX5_emit 0 = .ok (.aload_n 0, 1) := by decide +kernel
theorem dX5_emit_1 : decode cX5_emit 1 = .ok (.getfield 135, 3) := by decide +kernel
theorem dX5_emit_4 : decode cX5_emit 4 = .ok (.ifCond .eq 4, 3) := by decide +kernel
theorem dX5_emit_7 : decode cX5_emit 7 = .ok (.return_, 1) := by decide +kernel
theorem dX5_emit_8 : decode cX5_emit 8 = .ok (.aload_n 0, 1) := by decide +kernel
theorem dX5_emit_9 : decode cX5_emit 9 = .ok (.getfield 45, 3) := by decide +kernel
theorem dX5_emit_12 : decode cX5_emit 12 = .ok (.sipush 780, 3) := by decide +kernel
theorem dX5_emit_15 : decode cX5_emit 15 = .ok (.aload_n 0, 1) := by decide +kernel
theorem dX5_emit_16 : decode cX5_emit 16 = .ok (.getfield 138, 3) := by decide +kernel
theorem dX5_emit_19 : decode cX5_emit 19 = .ok (.iadd, 1) := by decide +kernel
theorem dX5_emit_20 : decode cX5_emit 20 = .ok (.iload_n 1, 1) := by decide +kernel
theorem dX5_emit_21 : decode cX5_emit 21 = .ok (.iastore, 1) := by decide +kernel
theorem dX5_emit_22 : decode cX5_emit 22 = .ok (.aload_n 0, 1) := by decide +kernel
theorem dX5_emit_23 : decode cX5_emit 23 = .ok (.getfield 48, 3) := by decide +kernel
theorem dX5_emit_26 : decode cX5_emit 26 = .ok (.sipush 780, 3) := by decide +kernel
theorem dX5_emit_29 : decode cX5_emit 29 = .ok (.aload_n 0, 1) := by decide +kernel
theorem dX5_emit_30 : decode cX5_emit 30 = .ok (.getfield 138, 3) := by decide +kernel
theorem dX5_emit_33 : decode cX5_emit 33 = .ok (.iadd, 1) := by decide +kernel
theorem dX5_emit_34 : decode cX5_emit 34 = .ok (.iload_n 2, 1) := by decide +kernel
theorem dX5_emit_35 : decode cX5_emit 35 = .ok (.iastore, 1) := by decide +kernel
theorem dX5_emit_36 : decode cX5_emit 36 = .ok (.aload_n 0, 1) := by decide +kernel
theorem dX5_emit_37 : decode cX5_emit 37 = .ok (.getfield 51, 3) := by decide +kernel
theorem dX5_emit_40 : decode cX5_emit 40 = .ok (.sipush 780, 3) := by decide +kernel
theorem dX5_emit_43 : decode cX5_emit 43 = .ok (.aload_n 0, 1) := by decide +kernel
theorem dX5_emit_44 : decode cX5_emit 44 = .ok (.getfield 138, 3) := by decide +kernel
theorem dX5_emit_47 : decode cX5_emit 47 = .ok (.iadd, 1) := by decide +kernel
theorem dX5_emit_48 : decode cX5_emit 48 = .ok (.aload_n 0, 1) := by decide +kernel
theorem dX5_emit_49 : decode cX5_emit 49 = .ok (.getfield 141, 3) := by decide +kernel
theorem dX5_emit_52 : decode cX5_emit 52 = .ok (.iastore, 1) := by decide +kernel
theorem dX5_emit_53 : decode cX5_emit 53 = .ok (.aload_n 0, 1) := by decide +kernel
theorem dX5_emit_54 : decode cX5_emit 54 = .ok (.dup, 1) := by decide +kernel
theorem dX5_emit_55 : decode cX5_emit 55 = .ok (.getfield 138, 3) := by decide +kernel
theorem dX5_emit_58 : decode cX5_emit 58 = .ok (.iconst 1, 1) := by decide +kernel
theorem dX5_emit_59 : decode cX5_emit 59 = .ok (.iadd, 1) := by decide +kernel
theorem dX5_emit_60 : decode cX5_emit 60 = .ok (.putfield 138, 3) := by decide +kernel
theorem dX5_emit_63 : decode cX5_emit 63 = .ok (.return_, 1) := by decide +kernel
theorem dX5_grow_0 : decode cX5_grow 0 = .ok (.aload_n 0, 1) := by decide +kernel
theorem dX5_grow_1 : decode cX5_grow 1 = .ok (.dup, 1) := by decide +kernel
theorem dX5_grow_2 : decode cX5_grow 2 = .ok (.getfield 141, 3) := by decide +kernel
theorem dX5_grow_5 : decode cX5_grow 5 = .ok (.iload_n 1, 1) := by decide +kernel
theorem dX5_grow_6 : decode cX5_grow 6 = .ok (.iadd, 1) := by decide +kernel
theorem dX5_grow_7 : decode cX5_grow 7 = .ok (.putfield 141, 3) := by decide +kernel
theorem dX5_grow_10 : decode cX5_grow 10 = .ok (.aload_n 0, 1) := by decide +kernel
theorem dX5_grow_11 : decode cX5_grow 11 = .ok (.aload_n 0, 1) := by decide +kernel
theorem dX5_grow_12 : decode cX5_grow 12 = .ok (.getfield 141, 3) := by decide +kernel
theorem dX5_grow_15 : decode cX5_grow 15 = .ok (.aload_n 0, 1) := by decide +kernel
theorem dX5_grow_16 : decode cX5_grow 16 = .ok (.getfield 144, 3) := by decide +kernel
theorem dX5_grow_19 : decode cX5_grow 19 = .ok (.if_icmp .le 10, 3) := by decide +kernel
theorem dX5_grow_22 : decode cX5_grow 22 = .ok (.aload_n 0, 1) := by decide +kernel
theorem dX5_grow_23 : decode cX5_grow 23 = .ok (.getfield 141, 3) := by decide +kernel
theorem dX5_grow_26 : decode cX5_grow 26 = .ok (.goto 7, 3) := by decide +kernel
theorem dX5_grow_29 : decode cX5_grow 29 = .ok (.aload_n 0, 1) := by decide +kernel
theorem dX5_grow_30 : decode cX5_grow 30 = .ok (.getfield 144, 3) := by decide +kernel
theorem dX5_grow_33 : decode cX5_grow 33 = .ok (.putfield 144, 3) := by decide +kernel
theorem dX5_grow_36 : decode cX5_grow 36 = .ok (.return_, 1) := by decide +kernel
theorem dX5_find_0 : decode cX5_find 0 = .ok (.iconst (-1), 1) := by decide +kernel
theorem dX5_find_1 : decode cX5_find 1 = .ok (.istore 4, 2) := by decide +kernel
theorem dX5_find_3 : decode cX5_find 3 = .ok (.iconst 0, 1) := by decide +kernel
theorem dX5_find_4 : decode cX5_find 4 = .ok (.istore 5, 2) := by decide +kernel
theorem dX5_find_6 : decode cX5_find 6 = .ok (.iload 5, 2) := by decide +kernel
theorem dX5_find_8 : decode cX5_find 8 = .ok (.aload_n 0, 1) := by decide +kernel
theorem dX5_find_9 : decode cX5_find 9 = .ok (.getfield 17, 3) := by decide +kernel
theorem dX5_find_12 : decode cX5_find 12 = .ok (.iload_n 1, 1) := by decide +kernel
theorem dX5_find_13 : decode cX5_find 13 = .ok (.iaload, 1) := by decide +kernel
theorem dX5_find_14 : decode cX5_find 14 = .ok (.if_icmp .ge 55, 3) := by decide +kernel
theorem dX5_find_17 : decode cX5_find 17 = .ok (.aload_n 0, 1) := by decide +kernel
theorem dX5_find_18 : decode cX5_find 18 = .ok (.getfield 21, 3) := by decide +kernel
theorem dX5_find_21 : decode cX5_find 21 = .ok (.bipush 6, 2) := by decide +kernel
theorem dX5_find_23 : decode cX5_find 23 = .ok (.iload_n 1, 1) := by decide +kernel
theorem dX5_find_24 : decode cX5_find 24 = .ok (.imul, 1) := by decide +kernel
theorem dX5_find_25 : decode cX5_find 25 = .ok (.iload 5, 2) := by decide +kernel
theorem dX5_find_27 : decode cX5_find 27 = .ok (.iadd, 1) := by decide +kernel
theorem dX5_find_28 : decode cX5_find 28 = .ok (.iaload, 1) := by decide +kernel
theorem dX5_find_29 : decode cX5_find 29 = .ok (.iload_n 2, 1) := by decide +kernel
theorem dX5_find_30 : decode cX5_find 30 = .ok (.if_icmp .ne 29, 3) := by decide +kernel
theorem dX5_find_33 : decode cX5_find 33 = .ok (.aload_n 0, 1) := by decide +kernel
theorem dX5_find_34 : decode cX5_find 34 = .ok (.getfield 24, 3) := by decide +kernel
theorem dX5_find_37 : decode cX5_find 37 = .ok (.bipush 6, 2) := by decide +kernel
theorem dX5_find_39 : decode cX5_find 39 = .ok (.iload_n 1, 1) := by decide +kernel
theorem dX5_find_40 : decode cX5_find 40 = .ok (.imul, 1) := by decide +kernel
theorem dX5_find_41 : decode cX5_find 41 = .ok (.iload 5, 2) := by decide +kernel
theorem dX5_find_43 : decode cX5_find 43 = .ok (.iadd, 1) := by decide +kernel
theorem dX5_find_44 : decode cX5_find 44 = .ok (.iaload, 1) := by decide +kernel
theorem dX5_find_45 : decode cX5_find 45 = .ok (.iload_n 3, 1) := by decide +kernel
theorem dX5_find_46 : decode cX5_find 46 = .ok (.if_icmp .ne 13, 3) := by decide +kernel
theorem dX5_find_49 : decode cX5_find 49 = .ok (.bipush 6, 2) := by decide +kernel
theorem dX5_find_51 : decode cX5_find 51 = .ok (.iload_n 1, 1) := by decide +kernel
theorem dX5_find_52 : decode cX5_find 52 = .ok (.imul, 1) := by decide +kernel
theorem dX5_find_53 : decode cX5_find 53 = .ok (.iload 5, 2) := by decide +kernel
theorem dX5_find_55 : decode cX5_find 55 = .ok (.iadd, 1) := by decide +kernel
theorem dX5_find_56 : decode cX5_find 56 = .ok (.goto 5, 3) := by decide +kernel
theorem dX5_find_59 : decode cX5_find 59 = .ok (.iload 4, 2) := by decide +kernel
theorem dX5_find_61 : decode cX5_find 61 = .ok (.istore 4, 2) := by decide +kernel
theorem dX5_find_63 : decode cX5_find 63 = .ok (.iinc 5 1, 3) := by decide +kernel
theorem dX5_find_66 : decode cX5_find 66 = .ok (.goto (-60), 3) := by decide +kernel
theorem dX5_find_69 : decode cX5_find 69 = .ok (.iload 4, 2) := by decide +kernel
theorem dX5_find_71 : decode cX5_find 71 = .ok (.ireturn, 1) := by decide +kernel
theorem dX5_before_0 : decode cX5_before 0 = .ok (.iconst 0, 1) := by decide +kernel
theorem dX5_before_1 : decode cX5_before 1 = .ok (.istore_n 3, 1) := by decide +kernel
theorem dX5_before_2 : decode cX5_before 2 = .ok (.iconst 0, 1) := by decide +kernel
theorem dX5_before_3 : decode cX5_before 3 = .ok (.istore 4, 2) := by decide +kernel
theorem dX5_before_5 : decode cX5_before 5 = .ok (.iload 4, 2) := by decide +kernel
theorem dX5_before_7 : decode cX5_before 7 = .ok (.iload_n 2, 1) := by decide +kernel
theorem dX5_before_8 : decode cX5_before 8 = .ok (.if_icmp .ge 31, 3) := by decide +kernel
theorem dX5_before_11 : decode cX5_before 11 = .ok (.iload_n 3, 1) := by decide +kernel
theorem dX5_before_12 : decode cX5_before 12 = .ok (.aload_n 0, 1) := by decide +kernel
theorem dX5_before_13 : decode cX5_before 13 = .ok (.getfield 33, 3) := by decide +kernel
theorem dX5_before_16 : decode cX5_before 16 = .ok (.iconst 3, 1) := by decide +kernel
theorem dX5_before_17 : decode cX5_before 17 = .ok (.iload_n 1, 1) := by decide +kernel
theorem dX5_before_18 : decode cX5_before 18 = .ok (.imul, 1) := by decide +kernel
theorem dX5_before_19 : decode cX5_before 19 = .ok (.iload 4, 2) := by decide +kernel
theorem dX5_before_21 : decode cX5_before 21 = .ok (.iadd, 1) := by decide +kernel
theorem dX5_before_22 : decode cX5_before 22 = .ok (.baload, 1) := by decide +kernel
theorem dX5_before_23 : decode cX5_before 23 = .ok (.ifCond .eq 7, 3) := by decide +kernel
theorem dX5_before_26 : decode cX5_before 26 = .ok (.iconst 2, 1) := by decide +kernel
theorem dX5_before_27 : decode cX5_before 27 = .ok (.goto 4, 3) := by decide +kernel
theorem dX5_before_30 : decode cX5_before 30 = .ok (.iconst 1, 1) := by decide +kernel
theorem dX5_before_31 : decode cX5_before 31 = .ok (.iadd, 1) := by decide +kernel
theorem dX5_before_32 : decode cX5_before 32 = .ok (.istore_n 3, 1) := by decide +kernel
theorem dX5_before_33 : decode cX5_before 33 = .ok (.iinc 4 1, 3) := by decide +kernel
theorem dX5_before_36 : decode cX5_before 36 = .ok (.goto (-31), 3) := by decide +kernel
theorem dX5_before_39 : decode cX5_before 39 = .ok (.iload_n 3, 1) := by decide +kernel
theorem dX5_before_40 : decode cX5_before 40 = .ok (.ireturn, 1) := by decide +kernel
theorem dX5_words_0 : decode cX5_words 0 = .ok (.aload_n 0, 1) := by decide +kernel
theorem dX5_words_1 : decode cX5_words 1 = .ok (.iload_n 1, 1) := by decide +kernel
theorem dX5_words_2 : decode cX5_words 2 = .ok (.aload_n 0, 1) := by decide +kernel
theorem dX5_words_3 : decode cX5_words 3 = .ok (.getfield 30, 3) := by decide +kernel
theorem dX5_words_6 : decode cX5_words 6 = .ok (.iload_n 1, 1) := by decide +kernel
theorem dX5_words_7 : decode cX5_words 7 = .ok (.iaload, 1) := by decide +kernel
theorem dX5_words_8 : decode cX5_words 8 = .ok (.invokevirtual 147, 3) := by decide +kernel
theorem dX5_words_11 : decode cX5_words 11 = .ok (.ireturn, 1) := by decide +kernel
theorem dX5_opened_0 : decode cX5_opened 0 = .ok (.aload_n 0, 1) := by decide +kernel
theorem dX5_opened_1 : decode cX5_opened 1 = .ok (.aload_n 0, 1) := by decide +kernel
theorem dX5_opened_2 : decode cX5_opened 2 = .ok (.getfield 151, 3) := by decide +kernel
theorem dX5_opened_5 : decode cX5_opened 5 = .ok (.bipush 9, 2) := by decide +kernel
theorem dX5_opened_7 : decode cX5_opened 7 = .ok (.if_icmp .ge 7, 3) := by decide +kernel
theorem dX5_opened_10 : decode cX5_opened 10 = .ok (.iconst 1, 1) := by decide +kernel
theorem dX5_opened_11 : decode cX5_opened 11 = .ok (.goto 4, 3) := by decide +kernel
theorem dX5_opened_14 : decode cX5_opened 14 = .ok (.iconst 0, 1) := by decide +kernel
theorem dX5_opened_15 : decode cX5_opened 15 = .ok (.invokevirtual 131, 3) := by decide +kernel
theorem dX5_opened_18 : decode cX5_opened 18 = .ok (.aload_n 0, 1) := by decide +kernel
theorem dX5_opened_19 : decode cX5_opened 19 = .ok (.getfield 116, 3) := by decide +kernel
theorem dX5_opened_22 : decode cX5_opened 22 = .ok (.ifCond .ne 4, 3) := by decide +kernel
theorem dX5_opened_25 : decode cX5_opened 25 = .ok (.return_, 1) := by decide +kernel
theorem dX5_opened_26 : decode cX5_opened 26 = .ok (.aload_n 0, 1) := by decide +kernel
theorem dX5_opened_27 : decode cX5_opened 27 = .ok (.getfield 54, 3) := by decide +kernel
theorem dX5_opened_30 : decode cX5_opened 30 = .ok (.aload_n 0, 1) := by decide +kernel
theorem dX5_opened_31 : decode cX5_opened 31 = .ok (.getfield 151, 3) := by decide +kernel
theorem dX5_opened_34 : decode cX5_opened 34 = .ok (.iload_n 1, 1) := by decide +kernel
theorem dX5_opened_35 : decode cX5_opened 35 = .ok (.iastore, 1) := by decide +kernel
theorem dX5_opened_36 : decode cX5_opened 36 = .ok (.aload_n 0, 1) := by decide +kernel
theorem dX5_opened_37 : decode cX5_opened 37 = .ok (.getfield 57, 3) := by decide +kernel
theorem dX5_opened_40 : decode cX5_opened 40 = .ok (.aload_n 0, 1) := by decide +kernel
theorem dX5_opened_41 : decode cX5_opened 41 = .ok (.getfield 151, 3) := by decide +kernel
theorem dX5_opened_44 : decode cX5_opened 44 = .ok (.iconst 0, 1) := by decide +kernel
theorem dX5_opened_45 : decode cX5_opened 45 = .ok (.iastore, 1) := by decide +kernel
theorem dX5_opened_46 : decode cX5_opened 46 = .ok (.aload_n 0, 1) := by decide +kernel
theorem dX5_opened_47 : decode cX5_opened 47 = .ok (.getfield 60, 3) := by decide +kernel
theorem dX5_opened_50 : decode cX5_opened 50 = .ok (.aload_n 0, 1) := by decide +kernel
theorem dX5_opened_51 : decode cX5_opened 51 = .ok (.getfield 151, 3) := by decide +kernel
theorem dX5_opened_54 : decode cX5_opened 54 = .ok (.iconst 0, 1) := by decide +kernel
theorem dX5_opened_55 : decode cX5_opened 55 = .ok (.iastore, 1) := by decide +kernel
theorem dX5_opened_56 : decode cX5_opened 56 = .ok (.aload_n 0, 1) := by decide +kernel
theorem dX5_opened_57 : decode cX5_opened 57 = .ok (.getfield 63, 3) := by decide +kernel
theorem dX5_opened_60 : decode cX5_opened 60 = .ok (.aload_n 0, 1) := by decide +kernel
theorem dX5_opened_61 : decode cX5_opened 61 = .ok (.getfield 151, 3) := by decide +kernel
theorem dX5_opened_64 : decode cX5_opened 64 = .ok (.iconst 0, 1) := by decide +kernel
theorem dX5_opened_65 : decode cX5_opened 65 = .ok (.bastore, 1) := by decide +kernel
theorem dX5_opened_66 : decode cX5_opened 66 = .ok (.aload_n 0, 1) := by decide +kernel
theorem dX5_opened_67 : decode cX5_opened 67 = .ok (.dup, 1) := by decide +kernel
theorem dX5_opened_68 : decode cX5_opened 68 = .ok (.getfield 151, 3) := by decide +kernel
theorem dX5_opened_71 : decode cX5_opened 71 = .ok (.iconst 1, 1) := by decide +kernel
theorem dX5_opened_72 : decode cX5_opened 72 = .ok (.iadd, 1) := by decide +kernel
theorem dX5_opened_73 : decode cX5_opened 73 = .ok (.putfield 151, 3) := by decide +kernel
theorem dX5_opened_76 : decode cX5_opened 76 = .ok (.return_, 1) := by decide +kernel
theorem dX5_readNumber_0 : decode cX5_readNumber 0 = .ok (.iconst 0, 1) := by decide +kernel
theorem dX5_readNumber_1 : decode cX5_readNumber 1 = .ok (.istore_n 1, 1) := by decide +kernel
theorem dX5_readNumber_2 : decode cX5_readNumber 2 = .ok (.iconst 0, 1) := by decide +kernel
theorem dX5_readNumber_3 : decode cX5_readNumber 3 = .ok (.istore_n 2, 1) := by decide +kernel
theorem dX5_readNumber_4 : decode cX5_readNumber 4 = .ok (.aload_n 0, 1) := by decide +kernel
theorem dX5_readNumber_5 : decode cX5_readNumber 5 = .ok (.invokevirtual 154, 3) := by decide +kernel
theorem dX5_readNumber_8 : decode cX5_readNumber 8 = .ok (.ifCond .eq 53, 3) := by decide +kernel
theorem dX5_readNumber_11 : decode cX5_readNumber 11 = .ok (.aload_n 0, 1) := by decide +kernel
theorem dX5_readNumber_12 : decode cX5_readNumber 12 = .ok (.getfield 116, 3) := by decide +kernel
theorem dX5_readNumber_15 : decode cX5_readNumber 15 = .ok (.ifCond .eq 46, 3) := by decide +kernel
theorem dX5_readNumber_18 : decode cX5_readNumber 18 = .ok (.aload_n 0, 1) := by decide +kernel
theorem dX5_readNumber_19 : decode cX5_readNumber 19 = .ok (.iload_n 2, 1) := by decide +kernel
theorem dX5_readNumber_20 : decode cX5_readNumber 20 = .ok (.iconst 4, 1) := by decide +kernel
theorem dX5_readNumber_21 : decode cX5_readNumber 21 = .ok (.if_icmp .ge 7, 3) := by decide +kernel
theorem dX5_readNumber_24 : decode cX5_readNumber 24 = .ok (.iconst 1, 1) := by decide +kernel
theorem dX5_readNumber_25 : decode cX5_readNumber 25 = .ok (.goto 4, 3) := by decide +kernel
theorem dX5_readNumber_28 : decode cX5_readNumber 28 = .ok (.iconst 0, 1) := by decide +kernel
theorem dX5_readNumber_29 : decode cX5_readNumber 29 = .ok (.invokevirtual 131, 3) := by decide +kernel
theorem dX5_readNumber_32 : decode cX5_readNumber 32 = .ok (.bipush 10, 2) := by decide +kernel
theorem dX5_readNumber_34 : decode cX5_readNumber 34 = .ok (.iload_n 1, 1) := by decide +kernel
theorem dX5_readNumber_35 : decode cX5_readNumber 35 = .ok (.imul, 1) := by decide +kernel
theorem dX5_readNumber_36 : decode cX5_readNumber 36 = .ok (.aload_n 0, 1) := by decide +kernel
theorem dX5_readNumber_37 : decode cX5_readNumber 37 = .ok (.invokevirtual 123, 3) := by decide +kernel
theorem dX5_readNumber_40 : decode cX5_readNumber 40 = .ok (.iadd, 1) := by decide +kernel
theorem dX5_readNumber_41 : decode cX5_readNumber 41 = .ok (.bipush 48, 2) := by decide +kernel
theorem dX5_readNumber_43 : decode cX5_readNumber 43 = .ok (.isub, 1) := by decide +kernel
theorem dX5_readNumber_44 : decode cX5_readNumber 44 = .ok (.istore_n 1, 1) := by decide +kernel
theorem dX5_readNumber_45 : decode cX5_readNumber 45 = .ok (.iinc 2 1, 3) := by decide +kernel
theorem dX5_readNumber_48 : decode cX5_readNumber 48 = .ok (.aload_n 0, 1) := by decide +kernel
theorem dX5_readNumber_49 : decode cX5_readNumber 49 = .ok (.dup, 1) := by decide +kernel
theorem dX5_readNumber_50 : decode cX5_readNumber 50 = .ok (.getfield 113, 3) := by decide +kernel
theorem dX5_readNumber_53 : decode cX5_readNumber 53 = .ok (.iconst 1, 1) := by decide +kernel
theorem dX5_readNumber_54 : decode cX5_readNumber 54 = .ok (.iadd, 1) := by decide +kernel
theorem dX5_readNumber_55 : decode cX5_readNumber 55 = .ok (.putfield 113, 3) := by decide +kernel
theorem dX5_readNumber_58 : decode cX5_readNumber 58 = .ok (.goto (-54), 3) := by decide +kernel
theorem dX5_readNumber_61 : decode cX5_readNumber 61 = .ok (.aload_n 0, 1) := by decide +kernel
theorem dX5_readNumber_62 : decode cX5_readNumber 62 = .ok (.iconst 0, 1) := by decide +kernel
theorem dX5_readNumber_63 : decode cX5_readNumber 63 = .ok (.iload_n 1, 1) := by decide +kernel
theorem dX5_readNumber_64 : decode cX5_readNumber 64 = .ok (.invokevirtual 158, 3) := by decide +kernel
theorem dX5_readNumber_67 : decode cX5_readNumber 67 = .ok (.aload_n 0, 1) := by decide +kernel
theorem dX5_readNumber_68 : decode cX5_readNumber 68 = .ok (.iconst 0, 1) := by decide +kernel
theorem dX5_readNumber_69 : decode cX5_readNumber 69 = .ok (.putfield 162, 3) := by decide +kernel
theorem dX5_readNumber_72 : decode cX5_readNumber 72 = .ok (.return_, 1) := by decide +kernel
theorem dX5_readParameter_0 : decode cX5_readParameter 0 = .ok (.aload_n 0, 1) := by decide +kernel
theorem dX5_readParameter_1 : decode cX5_readParameter 1 = .ok (.bipush 49, 2) := by decide +kernel
theorem dX5_readParameter_3 : decode cX5_readParameter 3 = .ok (.bipush 51, 2) := by decide +kernel
theorem dX5_readParameter_5 : decode cX5_readParameter 5 = .ok (.invokevirtual 165, 3) := by decide +kernel
theorem dX5_readParameter_8 : decode cX5_readParameter 8 = .ok (.istore_n 1, 1) := by decide +kernel
theorem dX5_readParameter_9 : decode cX5_readParameter 9 = .ok (.iload_n 1, 1) := by decide +kernel
theorem dX5_readParameter_10 : decode cX5_readParameter 10 = .ok (.aload_n 0, 1) := by decide +kernel
theorem dX5_readParameter_11 : decode cX5_readParameter 11 = .ok (.getfield 30, 3) := by decide +kernel
theorem dX5_readParameter_14 : decode cX5_readParameter 14 = .ok (.aload_n 0, 1) := by decide +kernel
theorem dX5_readParameter_15 : decode cX5_readParameter 15 = .ok (.getfield 169, 3) := by decide +kernel
theorem dX5_readParameter_18 : decode cX5_readParameter 18 = .ok (.iaload, 1) := by decide +kernel
theorem dX5_readParameter_19 : decode cX5_readParameter 19 = .ok (.if_icmp .ge 7, 3) := by decide +kernel
theorem dX5_readParameter_22 : decode cX5_readParameter 22 = .ok (.iconst 1, 1) := by decide +kernel
theorem dX5_readParameter_23 : decode cX5_readParameter 23 = .ok (.goto 4, 3) := by decide +kernel
theorem dX5_readParameter_26 : decode cX5_readParameter 26 = .ok (.iconst 0, 1) := by decide +kernel
theorem dX5_readParameter_27 : decode cX5_readParameter 27 = .ok (.istore_n 2, 1) := by decide +kernel
theorem dX5_readParameter_28 : decode cX5_readParameter 28 = .ok (.aload_n 0, 1) := by decide +kernel
theorem dX5_readParameter_29 : decode cX5_readParameter 29 = .ok (.iload_n 2, 1) := by decide +kernel
theorem dX5_readParameter_30 : decode cX5_readParameter 30 = .ok (.invokevirtual 172, 3) := by decide +kernel
theorem dX5_readParameter_33 : decode cX5_readParameter 33 = .ok (.aload_n 0, 1) := by decide +kernel
theorem dX5_readParameter_34 : decode cX5_readParameter 34 = .ok (.iload_n 2, 1) := by decide +kernel
theorem dX5_readParameter_35 : decode cX5_readParameter 35 = .ok (.ifCond .eq 23, 3) := by decide +kernel
theorem dX5_readParameter_38 : decode cX5_readParameter 38 = .ok (.aload_n 0, 1) := by decide +kernel
theorem dX5_readParameter_39 : decode cX5_readParameter 39 = .ok (.getfield 33, 3) := by decide +kernel
theorem dX5_readParameter_42 : decode cX5_readParameter 42 = .ok (.iconst 3, 1) := by decide +kernel
theorem dX5_readParameter_43 : decode cX5_readParameter 43 = .ok (.aload_n 0, 1) := by decide +kernel
theorem dX5_readParameter_44 : decode cX5_readParameter 44 = .ok (.getfield 169, 3) := by decide +kernel
theorem dX5_readParameter_47 : decode cX5_readParameter 47 = .ok (.imul, 1) := by decide +kernel
theorem dX5_readParameter_48 : decode cX5_readParameter 48 = .ok (.iload_n 1, 1) := by decide +kernel
theorem dX5_readParameter_49 : decode cX5_readParameter 49 = .ok (.iadd, 1) := by decide +kernel
theorem dX5_readParameter_50 : decode cX5_readParameter 50 = .ok (.baload, 1) := by decide +kernel
theorem dX5_readParameter_51 : decode cX5_readParameter 51 = .ok (.ifCond .eq 7, 3) := by decide +kernel
theorem dX5_readParameter_54 : decode cX5_readParameter 54 = .ok (.iconst 1, 1) := by decide +kernel
theorem dX5_readParameter_55 : decode cX5_readParameter 55 = .ok (.goto 4, 3) := by decide +kernel
theorem dX5_readParameter_58 : decode cX5_readParameter 58 = .ok (.iconst 0, 1) := by decide +kernel
theorem dX5_readParameter_59 : decode cX5_readParameter 59 = .ok (.putfield 162, 3) := by decide +kernel
theorem dX5_readParameter_62 : decode cX5_readParameter 62 = .ok (.iload_n 2, 1) := by decide +kernel
theorem dX5_readParameter_63 : decode cX5_readParameter 63 = .ok (.ifCond .eq 28, 3) := by decide +kernel
theorem dX5_readParameter_66 : decode cX5_readParameter 66 = .ok (.aload_n 0, 1) := by decide +kernel
theorem dX5_readParameter_67 : decode cX5_readParameter 67 = .ok (.aload_n 0, 1) := by decide +kernel
theorem dX5_readParameter_68 : decode cX5_readParameter 68 = .ok (.getfield 162, 3) := by decide +kernel
theorem dX5_readParameter_71 : decode cX5_readParameter 71 = .ok (.ifCond .eq 7, 3) := by decide +kernel
theorem dX5_readParameter_74 : decode cX5_readParameter 74 = .ok (.iconst 2, 1) := by decide +kernel
theorem dX5_readParameter_75 : decode cX5_readParameter 75 = .ok (.goto 4, 3) := by decide +kernel
theorem dX5_readParameter_78 : decode cX5_readParameter 78 = .ok (.iconst 1, 1) := by decide +kernel
theorem dX5_readParameter_79 : decode cX5_readParameter 79 = .ok (.aload_n 0, 1) := by decide +kernel
theorem dX5_readParameter_80 : decode cX5_readParameter 80 = .ok (.aload_n 0, 1) := by decide +kernel
theorem dX5_readParameter_81 : decode cX5_readParameter 81 = .ok (.getfield 169, 3) := by decide +kernel
theorem dX5_readParameter_84 : decode cX5_readParameter 84 = .ok (.iload_n 1, 1) := by decide +kernel
theorem dX5_readParameter_85 : decode cX5_readParameter 85 = .ok (.invokevirtual 147, 3) := by decide +kernel
theorem dX5_readParameter_88 : decode cX5_readParameter 88 = .ok (.invokevirtual 158, 3) := by decide +kernel
theorem dX5_readParameter_91 : decode cX5_readParameter 91 = .ok (.return_, 1) := by decide +kernel
theorem dX5_readCall_0 : decode cX5_readCall 0 = .ok (.aload_n 0, 1) := by decide +kernel
theorem dX5_readCall_1 : decode cX5_readCall 1 = .ok (.invokevirtual 123, 3) := by decide +kernel
theorem dX5_readCall_4 : decode cX5_readCall 4 = .ok (.bipush 65, 2) := by decide +kernel
theorem dX5_readCall_6 : decode cX5_readCall 6 = .ok (.bipush 70, 2) := by decide +kernel
theorem dX5_readCall_8 : decode cX5_readCall 8 = .ok (.invokestatic 106, 3) := by decide +kernel
theorem dX5_readCall_11 : decode cX5_readCall 11 = .ok (.ifCond .ne 7, 3) := by decide +kernel
theorem dX5_readCall_14 : decode cX5_readCall 14 = .ok (.iconst 1, 1) := by decide +kernel
theorem dX5_readCall_15 : decode cX5_readCall 15 = .ok (.goto 4, 3) := by decide +kernel
theorem dX5_readCall_18 : decode cX5_readCall 18 = .ok (.iconst 0, 1) := by decide +kernel
theorem dX5_readCall_19 : decode cX5_readCall 19 = .ok (.istore_n 1, 1) := by decide +kernel
theorem dX5_readCall_20 : decode cX5_readCall 20 = .ok (.iload_n 1, 1) := by decide +kernel
theorem dX5_readCall_21 : decode cX5_readCall 21 = .ok (.ifCond .eq 14, 3) := by decide +kernel
theorem dX5_readCall_24 : decode cX5_readCall 24 = .ok (.aload_n 0, 1) := by decide +kernel
theorem dX5_readCall_25 : decode cX5_readCall 25 = .ok (.bipush 65, 2) := by decide +kernel
theorem dX5_readCall_27 : decode cX5_readCall 27 = .ok (.bipush 70, 2) := by decide +kernel
theorem dX5_readCall_29 : decode cX5_readCall 29 = .ok (.invokevirtual 165, 3) := by decide +kernel
theorem dX5_readCall_32 : decode cX5_readCall 32 = .ok (.goto 4, 3) := by decide +kernel
theorem dX5_readCall_35 : decode cX5_readCall 35 = .ok (.iconst (-1), 1) := by decide +kernel
theorem dX5_readCall_36 : decode cX5_readCall 36 = .ok (.istore_n 2, 1) := by decide +kernel
theorem dX5_readCall_37 : decode cX5_readCall 37 = .ok (.iload_n 1, 1) := by decide +kernel
theorem dX5_readCall_38 : decode cX5_readCall 38 = .ok (.ifCond .eq 9, 3) := by decide +kernel
theorem dX5_readCall_41 : decode cX5_readCall 41 = .ok (.aload_n 0, 1) := by decide +kernel
theorem dX5_readCall_42 : decode cX5_readCall 42 = .ok (.bipush 46, 2) := by decide +kernel
theorem dX5_readCall_44 : decode cX5_readCall 44 = .ok (.invokevirtual 175, 3) := by decide +kernel
theorem dX5_readCall_47 : decode cX5_readCall 47 = .ok (.aload_n 0, 1) := by decide +kernel
theorem dX5_readCall_48 : decode cX5_readCall 48 = .ok (.bipush 97, 2) := by decide +kernel
theorem dX5_readCall_50 : decode cX5_readCall 50 = .ok (.bipush 122, 2) := by decide +kernel
theorem dX5_readCall_52 : decode cX5_readCall 52 = .ok (.invokevirtual 165, 3) := by decide +kernel
theorem dX5_readCall_55 : decode cX5_readCall 55 = .ok (.istore_n 3, 1) := by decide +kernel
theorem dX5_readCall_56 : decode cX5_readCall 56 = .ok (.aload_n 0, 1) := by decide +kernel
theorem dX5_readCall_57 : decode cX5_readCall 57 = .ok (.bipush 40, 2) := by decide +kernel
theorem dX5_readCall_59 : decode cX5_readCall 59 = .ok (.invokevirtual 175, 3) := by decide +kernel
theorem dX5_readCall_62 : decode cX5_readCall 62 = .ok (.aload_n 0, 1) := by decide +kernel
theorem dX5_readCall_63 : decode cX5_readCall 63 = .ok (.iconst 4, 1) := by decide +kernel
theorem dX5_readCall_64 : decode cX5_readCall 64 = .ok (.invokevirtual 179, 3) := by decide +kernel
theorem dX5_readCall_67 : decode cX5_readCall 67 = .ok (.aload_n 0, 1) := by decide +kernel
theorem dX5_readCall_68 : decode cX5_readCall 68 = .ok (.getfield 116, 3) := by decide +kernel
theorem dX5_readCall_71 : decode cX5_readCall 71 = .ok (.ifCond .ne 5, 3) := by decide +kernel
theorem dX5_readCall_74 : decode cX5_readCall 74 = .ok (.iconst 0, 1) := by decide +kernel
theorem dX5_readCall_75 : decode cX5_readCall 75 = .ok (.ireturn, 1) := by decide +kernel
theorem dX5_readCall_76 : decode cX5_readCall 76 = .ok (.aload_n 0, 1) := by decide +kernel
theorem dX5_readCall_77 : decode cX5_readCall 77 = .ok (.getfield 72, 3) := by decide +kernel
theorem dX5_readCall_80 : decode cX5_readCall 80 = .ok (.aload_n 0, 1) := by decide +kernel
theorem dX5_readCall_81 : decode cX5_readCall 81 = .ok (.getfield 151, 3) := by decide +kernel
theorem dX5_readCall_84 : decode cX5_readCall 84 = .ok (.iconst 1, 1) := by decide +kernel
theorem dX5_readCall_85 : decode cX5_readCall 85 = .ok (.isub, 1) := by decide +kernel
theorem dX5_readCall_86 : decode cX5_readCall 86 = .ok (.bipush 26, 2) := by decide +kernel
theorem dX5_readCall_88 : decode cX5_readCall 88 = .ok (.iload_n 2, 1) := by decide +kernel
theorem dX5_readCall_89 : decode cX5_readCall 89 = .ok (.iconst 1, 1) := by decide +kernel
theorem dX5_readCall_90 : decode cX5_readCall 90 = .ok (.iadd, 1) := by decide +kernel
theorem dX5_readCall_91 : decode cX5_readCall 91 = .ok (.imul, 1) := by decide +kernel
theorem dX5_readCall_92 : decode cX5_readCall 92 = .ok (.iload_n 3, 1) := by decide +kernel
theorem dX5_readCall_93 : decode cX5_readCall 93 = .ok (.iadd, 1) := by decide +kernel
theorem dX5_readCall_94 : decode cX5_readCall 94 = .ok (.iastore, 1) := by decide +kernel
theorem dX5_readCall_95 : decode cX5_readCall 95 = .ok (.aload_n 0, 1) := by decide +kernel
theorem dX5_readCall_96 : decode cX5_readCall 96 = .ok (.getfield 69, 3) := by decide +kernel
theorem dX5_readCall_99 : decode cX5_readCall 99 = .ok (.aload_n 0, 1) := by decide +kernel
theorem dX5_readCall_100 : decode cX5_readCall 100 = .ok (.getfield 151, 3) := by decide +kernel
theorem dX5_readCall_103 : decode cX5_readCall 103 = .ok (.iconst 1, 1) := by decide +kernel
theorem dX5_readCall_104 : decode cX5_readCall 104 = .ok (.isub, 1) := by decide +kernel
theorem dX5_readCall_105 : decode cX5_readCall 105 = .ok (.aload_n 0, 1) := by decide +kernel
theorem dX5_readCall_106 : decode cX5_readCall 106 = .ok (.getfield 141, 3) := by decide +kernel
theorem dX5_readCall_109 : decode cX5_readCall 109 = .ok (.iastore, 1) := by decide +kernel
theorem dX5_readCall_110 : decode cX5_readCall 110 = .ok (.aload_n 0, 1) := by decide +kernel
theorem dX5_readCall_111 : decode cX5_readCall 111 = .ok (.aload_n 0, 1) := by decide +kernel
theorem dX5_readCall_112 : decode cX5_readCall 112 = .ok (.getfield 135, 3) := by decide +kernel
theorem dX5_readCall_115 : decode cX5_readCall 115 = .ok (.ifCond .ne 15, 3) := by decide +kernel
theorem dX5_readCall_118 : decode cX5_readCall 118 = .ok (.aload_n 0, 1) := by decide +kernel
theorem dX5_readCall_119 : decode cX5_readCall 119 = .ok (.bipush 6, 2) := by decide +kernel
theorem dX5_readCall_121 : decode cX5_readCall 121 = .ok (.iload_n 3, 1) := by decide +kernel
theorem dX5_readCall_122 : decode cX5_readCall 122 = .ok (.iload_n 2, 1) := by decide +kernel
theorem dX5_readCall_123 : decode cX5_readCall 123 = .ok (.invokevirtual 183, 3) := by decide +kernel
theorem dX5_readCall_126 : decode cX5_readCall 126 = .ok (.iconst (-1), 1) := by decide +kernel
theorem dX5_readCall_127 : decode cX5_readCall 127 = .ok (.if_icmp .eq 7, 3) := by decide +kernel
theorem dX5_readCall_130 : decode cX5_readCall 130 = .ok (.iconst 1, 1) := by decide +kernel
theorem dX5_readCall_131 : decode cX5_readCall 131 = .ok (.goto 4, 3) := by decide +kernel
theorem dX5_readCall_134 : decode cX5_readCall 134 = .ok (.iconst 0, 1) := by decide +kernel
theorem dX5_readCall_135 : decode cX5_readCall 135 = .ok (.invokevirtual 172, 3) := by decide +kernel
theorem dX5_readCall_138 : decode cX5_readCall 138 = .ok (.aload_n 0, 1) := by decide +kernel
theorem dX5_readCall_139 : decode cX5_readCall 139 = .ok (.bipush 41, 2) := by decide +kernel
theorem dX5_readCall_141 : decode cX5_readCall 141 = .ok (.invokevirtual 127, 3) := by decide +kernel
theorem dX5_readCall_144 : decode cX5_readCall 144 = .ok (.ireturn, 1) := by decide +kernel
theorem dX5_calleeItem_0 : decode cX5_calleeItem 0 = .ok (.aload_n 0, 1) := by decide +kernel
theorem dX5_calleeItem_1 : decode cX5_calleeItem 1 = .ok (.bipush 6, 2) := by decide +kernel
theorem dX5_calleeItem_3 : decode cX5_calleeItem 3 = .ok (.aload_n 0, 1) := by decide +kernel
theorem dX5_calleeItem_4 : decode cX5_calleeItem 4 = .ok (.getfield 72, 3) := by decide +kernel
theorem dX5_calleeItem_7 : decode cX5_calleeItem 7 = .ok (.aload_n 0, 1) := by decide +kernel
theorem dX5_calleeItem_8 : decode cX5_calleeItem 8 = .ok (.getfield 151, 3) := by decide +kernel
theorem dX5_calleeItem_11 : decode cX5_calleeItem 11 = .ok (.iconst 1, 1) := by decide +kernel
theorem dX5_calleeItem_12 : decode cX5_calleeItem 12 = .ok (.isub, 1) := by decide +kernel
theorem dX5_calleeItem_13 : decode cX5_calleeItem 13 = .ok (.iaload, 1) := by decide +kernel
theorem dX5_calleeItem_14 : decode cX5_calleeItem 14 = .ok (.bipush 26, 2) := by decide +kernel
theorem dX5_calleeItem_16 : decode cX5_calleeItem 16 = .ok (.irem, 1) := by decide +kernel
theorem dX5_calleeItem_17 : decode cX5_calleeItem 17 = .ok (.aload_n 0, 1) := by decide +kernel
theorem dX5_calleeItem_18 : decode cX5_calleeItem 18 = .ok (.getfield 72, 3) := by decide +kernel
theorem dX5_calleeItem_21 : decode cX5_calleeItem 21 = .ok (.aload_n 0, 1) := by decide +kernel
theorem dX5_calleeItem_22 : decode cX5_calleeItem 22 = .ok (.getfield 151, 3) := by decide +kernel
theorem dX5_calleeItem_25 : decode cX5_calleeItem 25 = .ok (.iconst 1, 1) := by decide +kernel
theorem dX5_calleeItem_26 : decode cX5_calleeItem 26 = .ok (.isub, 1) := by decide +kernel
theorem dX5_calleeItem_27 : decode cX5_calleeItem 27 = .ok (.iaload, 1) := by decide +kernel
theorem dX5_calleeItem_28 : decode cX5_calleeItem 28 = .ok (.bipush 26, 2) := by decide +kernel
theorem dX5_calleeItem_30 : decode cX5_calleeItem 30 = .ok (.idiv, 1) := by decide +kernel
theorem dX5_calleeItem_31 : decode cX5_calleeItem 31 = .ok (.iconst 1, 1) := by decide +kernel
theorem dX5_calleeItem_32 : decode cX5_calleeItem 32 = .ok (.isub, 1) := by decide +kernel
theorem dX5_calleeItem_33 : decode cX5_calleeItem 33 = .ok (.invokevirtual 183, 3) := by decide +kernel
theorem dX5_calleeItem_36 : decode cX5_calleeItem 36 = .ok (.ireturn, 1) := by decide +kernel
theorem dX5_endCall_0 : decode cX5_endCall 0 = .ok (.aload_n 0, 1) := by decide +kernel
theorem dX5_endCall_1 : decode cX5_endCall 1 = .ok (.invokevirtual 187, 3) := by decide +kernel
theorem dX5_endCall_4 : decode cX5_endCall 4 = .ok (.istore_n 1, 1) := by decide +kernel
theorem dX5_endCall_5 : decode cX5_endCall 5 = .ok (.aload_n 0, 1) := by decide +kernel
theorem dX5_endCall_6 : decode cX5_endCall 6 = .ok (.aload_n 0, 1) := by decide +kernel
end
section
theorem dX5_endCall_7 : decode cX5_endCall 7 = .ok (.getfield 135, 3) := by decide +kernel
theorem dX5_endCall_10 : decode cX5_endCall 10 = .ok (.ifCond .ne 28, 3) := by decide +kernel
theorem dX5_endCall_13 : decode cX5_endCall 13 = .ok (.iload_n 1, 1) := by decide +kernel
theorem dX5_endCall_14 : decode cX5_endCall 14 = .ok (.iconst (-1), 1) := by decide +kernel
theorem dX5_endCall_15 : decode cX5_endCall 15 = .ok (.if_icmp .eq 27, 3) := by decide +kernel
theorem dX5_endCall_18 : decode cX5_endCall 18 = .ok (.aload_n 0, 1) := by decide +kernel
theorem dX5_endCall_19 : decode cX5_endCall 19 = .ok (.getfield 57, 3) := by decide +kernel
theorem dX5_endCall_22 : decode cX5_endCall 22 = .ok (.aload_n 0, 1) := by decide +kernel
theorem dX5_endCall_23 : decode cX5_endCall 23 = .ok (.getfield 151, 3) := by decide +kernel
theorem dX5_endCall_26 : decode cX5_endCall 26 = .ok (.iconst 1, 1) := by decide +kernel
theorem dX5_endCall_27 : decode cX5_endCall 27 = .ok (.isub, 1) := by decide +kernel
theorem dX5_endCall_28 : decode cX5_endCall 28 = .ok (.iaload, 1) := by decide +kernel
theorem dX5_endCall_29 : decode cX5_endCall 29 = .ok (.aload_n 0, 1) := by decide +kernel
theorem dX5_endCall_30 : decode cX5_endCall 30 = .ok (.getfield 30, 3) := by decide +kernel
theorem dX5_endCall_33 : decode cX5_endCall 33 = .ok (.iload_n 1, 1) := by decide +kernel
theorem dX5_endCall_34 : decode cX5_endCall 34 = .ok (.iaload, 1) := by decide +kernel
theorem dX5_endCall_35 : decode cX5_endCall 35 = .ok (.if_icmp .ne 7, 3) := by decide +kernel
theorem dX5_endCall_38 : decode cX5_endCall 38 = .ok (.iconst 1, 1) := by decide +kernel
theorem dX5_endCall_39 : decode cX5_endCall 39 = .ok (.goto 4, 3) := by decide +kernel
theorem dX5_endCall_42 : decode cX5_endCall 42 = .ok (.iconst 0, 1) := by decide +kernel
theorem dX5_endCall_43 : decode cX5_endCall 43 = .ok (.invokevirtual 172, 3) := by decide +kernel
theorem dX5_endCall_46 : decode cX5_endCall 46 = .ok (.aload_n 0, 1) := by decide +kernel
theorem dX5_endCall_47 : decode cX5_endCall 47 = .ok (.bipush 10, 2) := by decide +kernel
theorem dX5_endCall_49 : decode cX5_endCall 49 = .ok (.aload_n 0, 1) := by decide +kernel
theorem dX5_endCall_50 : decode cX5_endCall 50 = .ok (.getfield 72, 3) := by decide +kernel
theorem dX5_endCall_53 : decode cX5_endCall 53 = .ok (.aload_n 0, 1) := by decide +kernel
theorem dX5_endCall_54 : decode cX5_endCall 54 = .ok (.getfield 151, 3) := by decide +kernel
theorem dX5_endCall_57 : decode cX5_endCall 57 = .ok (.iconst 1, 1) := by decide +kernel
theorem dX5_endCall_58 : decode cX5_endCall 58 = .ok (.isub, 1) := by decide +kernel
theorem dX5_endCall_59 : decode cX5_endCall 59 = .ok (.iaload, 1) := by decide +kernel
theorem dX5_endCall_60 : decode cX5_endCall 60 = .ok (.invokevirtual 158, 3) := by decide +kernel
theorem dX5_endCall_63 : decode cX5_endCall 63 = .ok (.aload_n 0, 1) := by decide +kernel
theorem dX5_endCall_64 : decode cX5_endCall 64 = .ok (.aload_n 0, 1) := by decide +kernel
theorem dX5_endCall_65 : decode cX5_endCall 65 = .ok (.getfield 69, 3) := by decide +kernel
theorem dX5_endCall_68 : decode cX5_endCall 68 = .ok (.aload_n 0, 1) := by decide +kernel
theorem dX5_endCall_69 : decode cX5_endCall 69 = .ok (.getfield 151, 3) := by decide +kernel
theorem dX5_endCall_72 : decode cX5_endCall 72 = .ok (.iconst 1, 1) := by decide +kernel
theorem dX5_endCall_73 : decode cX5_endCall 73 = .ok (.isub, 1) := by decide +kernel
theorem dX5_endCall_74 : decode cX5_endCall 74 = .ok (.iaload, 1) := by decide +kernel
theorem dX5_endCall_75 : decode cX5_endCall 75 = .ok (.putfield 141, 3) := by decide +kernel
theorem dX5_endCall_78 : decode cX5_endCall 78 = .ok (.aload_n 0, 1) := by decide +kernel
theorem dX5_endCall_79 : decode cX5_endCall 79 = .ok (.iload_n 1, 1) := by decide +kernel
theorem dX5_endCall_80 : decode cX5_endCall 80 = .ok (.iconst (-1), 1) := by decide +kernel
theorem dX5_endCall_81 : decode cX5_endCall 81 = .ok (.if_icmp .eq 16, 3) := by decide +kernel
theorem dX5_endCall_84 : decode cX5_endCall 84 = .ok (.aload_n 0, 1) := by decide +kernel
theorem dX5_endCall_85 : decode cX5_endCall 85 = .ok (.getfield 36, 3) := by decide +kernel
theorem dX5_endCall_88 : decode cX5_endCall 88 = .ok (.iload_n 1, 1) := by decide +kernel
theorem dX5_endCall_89 : decode cX5_endCall 89 = .ok (.baload, 1) := by decide +kernel
theorem dX5_endCall_90 : decode cX5_endCall 90 = .ok (.ifCond .eq 7, 3) := by decide +kernel
theorem dX5_endCall_93 : decode cX5_endCall 93 = .ok (.iconst 1, 1) := by decide +kernel
theorem dX5_endCall_94 : decode cX5_endCall 94 = .ok (.goto 4, 3) := by decide +kernel
theorem dX5_endCall_97 : decode cX5_endCall 97 = .ok (.iconst 0, 1) := by decide +kernel
theorem dX5_endCall_98 : decode cX5_endCall 98 = .ok (.putfield 162, 3) := by decide +kernel
theorem dX5_endCall_101 : decode cX5_endCall 101 = .ok (.aload_n 0, 1) := by decide +kernel
theorem dX5_endCall_102 : decode cX5_endCall 102 = .ok (.dup, 1) := by decide +kernel
theorem dX5_endCall_103 : decode cX5_endCall 103 = .ok (.getfield 151, 3) := by decide +kernel
theorem dX5_endCall_106 : decode cX5_endCall 106 = .ok (.iconst 1, 1) := by decide +kernel
theorem dX5_endCall_107 : decode cX5_endCall 107 = .ok (.isub, 1) := by decide +kernel
theorem dX5_endCall_108 : decode cX5_endCall 108 = .ok (.putfield 151, 3) := by decide +kernel
theorem dX5_endCall_111 : decode cX5_endCall 111 = .ok (.return_, 1) := by decide +kernel
theorem dX5_beginFactor_0 : decode cX5_beginFactor 0 = .ok (.aload_n 0, 1) := by decide +kernel
theorem dX5_beginFactor_1 : decode cX5_beginFactor 1 = .ok (.invokevirtual 154, 3) := by decide +kernel
theorem dX5_beginFactor_4 : decode cX5_beginFactor 4 = .ok (.ifCond .eq 9, 3) := by decide +kernel
theorem dX5_beginFactor_7 : decode cX5_beginFactor 7 = .ok (.aload_n 0, 1) := by decide +kernel
theorem dX5_beginFactor_8 : decode cX5_beginFactor 8 = .ok (.invokevirtual 191, 3) := by decide +kernel
theorem dX5_beginFactor_11 : decode cX5_beginFactor 11 = .ok (.iconst 1, 1) := by decide +kernel
theorem dX5_beginFactor_12 : decode cX5_beginFactor 12 = .ok (.ireturn, 1) := by decide +kernel
theorem dX5_beginFactor_13 : decode cX5_beginFactor 13 = .ok (.aload_n 0, 1) := by decide +kernel
theorem dX5_beginFactor_14 : decode cX5_beginFactor 14 = .ok (.bipush 36, 2) := by decide +kernel
theorem dX5_beginFactor_16 : decode cX5_beginFactor 16 = .ok (.invokevirtual 127, 3) := by decide +kernel
theorem dX5_beginFactor_19 : decode cX5_beginFactor 19 = .ok (.ifCond .eq 9, 3) := by decide +kernel
theorem dX5_beginFactor_22 : decode cX5_beginFactor 22 = .ok (.aload_n 0, 1) := by decide +kernel
theorem dX5_beginFactor_23 : decode cX5_beginFactor 23 = .ok (.invokevirtual 194, 3) := by decide +kernel
theorem dX5_beginFactor_26 : decode cX5_beginFactor 26 = .ok (.iconst 1, 1) := by decide +kernel
theorem dX5_beginFactor_27 : decode cX5_beginFactor 27 = .ok (.ireturn, 1) := by decide +kernel
theorem dX5_beginFactor_28 : decode cX5_beginFactor 28 = .ok (.aload_n 0, 1) := by decide +kernel
theorem dX5_beginFactor_29 : decode cX5_beginFactor 29 = .ok (.invokevirtual 123, 3) := by decide +kernel
theorem dX5_beginFactor_32 : decode cX5_beginFactor 32 = .ok (.bipush 40, 2) := by decide +kernel
theorem dX5_beginFactor_34 : decode cX5_beginFactor 34 = .ok (.if_icmp .eq 21, 3) := by decide +kernel
theorem dX5_beginFactor_37 : decode cX5_beginFactor 37 = .ok (.aload_n 0, 1) := by decide +kernel
theorem dX5_beginFactor_38 : decode cX5_beginFactor 38 = .ok (.invokevirtual 123, 3) := by decide +kernel
theorem dX5_beginFactor_41 : decode cX5_beginFactor 41 = .ok (.bipush 123, 2) := by decide +kernel
theorem dX5_beginFactor_43 : decode cX5_beginFactor 43 = .ok (.if_icmp .eq 12, 3) := by decide +kernel
theorem dX5_beginFactor_46 : decode cX5_beginFactor 46 = .ok (.aload_n 0, 1) := by decide +kernel
theorem dX5_beginFactor_47 : decode cX5_beginFactor 47 = .ok (.invokevirtual 123, 3) := by decide +kernel
theorem dX5_beginFactor_50 : decode cX5_beginFactor 50 = .ok (.bipush 91, 2) := by decide +kernel
theorem dX5_beginFactor_52 : decode cX5_beginFactor 52 = .ok (.if_icmp .ne 7, 3) := by decide +kernel
theorem dX5_beginFactor_55 : decode cX5_beginFactor 55 = .ok (.iconst 1, 1) := by decide +kernel
theorem dX5_beginFactor_56 : decode cX5_beginFactor 56 = .ok (.goto 4, 3) := by decide +kernel
theorem dX5_beginFactor_59 : decode cX5_beginFactor 59 = .ok (.iconst 0, 1) := by decide +kernel
theorem dX5_beginFactor_60 : decode cX5_beginFactor 60 = .ok (.istore_n 1, 1) := by decide +kernel
theorem dX5_beginFactor_61 : decode cX5_beginFactor 61 = .ok (.iload_n 1, 1) := by decide +kernel
theorem dX5_beginFactor_62 : decode cX5_beginFactor 62 = .ok (.ifCond .ne 25, 3) := by decide +kernel
theorem dX5_beginFactor_65 : decode cX5_beginFactor 65 = .ok (.aload_n 0, 1) := by decide +kernel
theorem dX5_beginFactor_66 : decode cX5_beginFactor 66 = .ok (.invokevirtual 197, 3) := by decide +kernel
theorem dX5_beginFactor_69 : decode cX5_beginFactor 69 = .ok (.istore_n 2, 1) := by decide +kernel
theorem dX5_beginFactor_70 : decode cX5_beginFactor 70 = .ok (.iload_n 2, 1) := by decide +kernel
theorem dX5_beginFactor_71 : decode cX5_beginFactor 71 = .ok (.ifCond .eq 14, 3) := by decide +kernel
theorem dX5_beginFactor_74 : decode cX5_beginFactor 74 = .ok (.aload_n 0, 1) := by decide +kernel
theorem dX5_beginFactor_75 : decode cX5_beginFactor 75 = .ok (.getfield 116, 3) := by decide +kernel
theorem dX5_beginFactor_78 : decode cX5_beginFactor 78 = .ok (.ifCond .eq 7, 3) := by decide +kernel
theorem dX5_beginFactor_81 : decode cX5_beginFactor 81 = .ok (.aload_n 0, 1) := by decide +kernel
theorem dX5_beginFactor_82 : decode cX5_beginFactor 82 = .ok (.invokevirtual 200, 3) := by decide +kernel
theorem dX5_beginFactor_85 : decode cX5_beginFactor 85 = .ok (.iload_n 2, 1) := by decide +kernel
theorem dX5_beginFactor_86 : decode cX5_beginFactor 86 = .ok (.ireturn, 1) := by decide +kernel
theorem dX5_beginFactor_87 : decode cX5_beginFactor 87 = .ok (.aload_n 0, 1) := by decide +kernel
theorem dX5_beginFactor_88 : decode cX5_beginFactor 88 = .ok (.aload_n 0, 1) := by decide +kernel
theorem dX5_beginFactor_89 : decode cX5_beginFactor 89 = .ok (.invokevirtual 123, 3) := by decide +kernel
theorem dX5_beginFactor_92 : decode cX5_beginFactor 92 = .ok (.bipush 40, 2) := by decide +kernel
theorem dX5_beginFactor_94 : decode cX5_beginFactor 94 = .ok (.if_icmp .ne 7, 3) := by decide +kernel
theorem dX5_beginFactor_97 : decode cX5_beginFactor 97 = .ok (.iconst 1, 1) := by decide +kernel
theorem dX5_beginFactor_98 : decode cX5_beginFactor 98 = .ok (.goto 17, 3) := by decide +kernel
theorem dX5_beginFactor_101 : decode cX5_beginFactor 101 = .ok (.aload_n 0, 1) := by decide +kernel
theorem dX5_beginFactor_102 : decode cX5_beginFactor 102 = .ok (.invokevirtual 123, 3) := by decide +kernel
theorem dX5_beginFactor_105 : decode cX5_beginFactor 105 = .ok (.bipush 123, 2) := by decide +kernel
theorem dX5_beginFactor_107 : decode cX5_beginFactor 107 = .ok (.if_icmp .ne 7, 3) := by decide +kernel
theorem dX5_beginFactor_110 : decode cX5_beginFactor 110 = .ok (.iconst 2, 1) := by decide +kernel
theorem dX5_beginFactor_111 : decode cX5_beginFactor 111 = .ok (.goto 4, 3) := by decide +kernel
theorem dX5_beginFactor_114 : decode cX5_beginFactor 114 = .ok (.iconst 3, 1) := by decide +kernel
theorem dX5_beginFactor_115 : decode cX5_beginFactor 115 = .ok (.invokevirtual 179, 3) := by decide +kernel
theorem dX5_beginFactor_118 : decode cX5_beginFactor 118 = .ok (.aload_n 0, 1) := by decide +kernel
theorem dX5_beginFactor_119 : decode cX5_beginFactor 119 = .ok (.dup, 1) := by decide +kernel
theorem dX5_beginFactor_120 : decode cX5_beginFactor 120 = .ok (.getfield 113, 3) := by decide +kernel
theorem dX5_beginFactor_123 : decode cX5_beginFactor 123 = .ok (.iconst 1, 1) := by decide +kernel
theorem dX5_beginFactor_124 : decode cX5_beginFactor 124 = .ok (.iadd, 1) := by decide +kernel
theorem dX5_beginFactor_125 : decode cX5_beginFactor 125 = .ok (.putfield 113, 3) := by decide +kernel
theorem dX5_beginFactor_128 : decode cX5_beginFactor 128 = .ok (.iconst 0, 1) := by decide +kernel
theorem dX5_beginFactor_129 : decode cX5_beginFactor 129 = .ok (.ireturn, 1) := by decide +kernel
theorem dX5_project_0 : decode cX5_project 0 = .ok (.aload_n 0, 1) := by decide +kernel
theorem dX5_project_1 : decode cX5_project 1 = .ok (.bipush 46, 2) := by decide +kernel
theorem dX5_project_3 : decode cX5_project 3 = .ok (.invokevirtual 127, 3) := by decide +kernel
theorem dX5_project_6 : decode cX5_project 6 = .ok (.ifCond .ne 4, 3) := by decide +kernel
theorem dX5_project_9 : decode cX5_project 9 = .ok (.return_, 1) := by decide +kernel
theorem dX5_project_10 : decode cX5_project 10 = .ok (.aload_n 0, 1) := by decide +kernel
theorem dX5_project_11 : decode cX5_project 11 = .ok (.aload_n 0, 1) := by decide +kernel
theorem dX5_project_12 : decode cX5_project 12 = .ok (.getfield 162, 3) := by decide +kernel
theorem dX5_project_15 : decode cX5_project 15 = .ok (.invokevirtual 172, 3) := by decide +kernel
theorem dX5_project_18 : decode cX5_project 18 = .ok (.aload_n 0, 1) := by decide +kernel
theorem dX5_project_19 : decode cX5_project 19 = .ok (.aload_n 0, 1) := by decide +kernel
theorem dX5_project_20 : decode cX5_project 20 = .ok (.invokevirtual 123, 3) := by decide +kernel
theorem dX5_project_23 : decode cX5_project 23 = .ok (.bipush 48, 2) := by decide +kernel
theorem dX5_project_25 : decode cX5_project 25 = .ok (.if_icmp .eq 12, 3) := by decide +kernel
theorem dX5_project_28 : decode cX5_project 28 = .ok (.aload_n 0, 1) := by decide +kernel
theorem dX5_project_29 : decode cX5_project 29 = .ok (.invokevirtual 123, 3) := by decide +kernel
theorem dX5_project_32 : decode cX5_project 32 = .ok (.bipush 49, 2) := by decide +kernel
theorem dX5_project_34 : decode cX5_project 34 = .ok (.if_icmp .ne 7, 3) := by decide +kernel
theorem dX5_project_37 : decode cX5_project 37 = .ok (.iconst 1, 1) := by decide +kernel
theorem dX5_project_38 : decode cX5_project 38 = .ok (.goto 4, 3) := by decide +kernel
theorem dX5_project_41 : decode cX5_project 41 = .ok (.iconst 0, 1) := by decide +kernel
theorem dX5_project_42 : decode cX5_project 42 = .ok (.invokevirtual 131, 3) := by decide +kernel
theorem dX5_project_45 : decode cX5_project 45 = .ok (.aload_n 0, 1) := by decide +kernel
theorem dX5_project_46 : decode cX5_project 46 = .ok (.aload_n 0, 1) := by decide +kernel
theorem dX5_project_47 : decode cX5_project 47 = .ok (.invokevirtual 123, 3) := by decide +kernel
theorem dX5_project_50 : decode cX5_project 50 = .ok (.bipush 49, 2) := by decide +kernel
theorem dX5_project_52 : decode cX5_project 52 = .ok (.if_icmp .ne 8, 3) := by decide +kernel
theorem dX5_project_55 : decode cX5_project 55 = .ok (.bipush 7, 2) := by decide +kernel
theorem dX5_project_57 : decode cX5_project 57 = .ok (.goto 5, 3) := by decide +kernel
theorem dX5_project_60 : decode cX5_project 60 = .ok (.bipush 6, 2) := by decide +kernel
theorem dX5_project_62 : decode cX5_project 62 = .ok (.iconst 0, 1) := by decide +kernel
theorem dX5_project_63 : decode cX5_project 63 = .ok (.invokevirtual 158, 3) := by decide +kernel
theorem dX5_project_66 : decode cX5_project 66 = .ok (.aload_n 0, 1) := by decide +kernel
theorem dX5_project_67 : decode cX5_project 67 = .ok (.dup, 1) := by decide +kernel
theorem dX5_project_68 : decode cX5_project 68 = .ok (.getfield 113, 3) := by decide +kernel
theorem dX5_project_71 : decode cX5_project 71 = .ok (.iconst 1, 1) := by decide +kernel
theorem dX5_project_72 : decode cX5_project 72 = .ok (.iadd, 1) := by decide +kernel
theorem dX5_project_73 : decode cX5_project 73 = .ok (.putfield 113, 3) := by decide +kernel
theorem dX5_project_76 : decode cX5_project 76 = .ok (.aload_n 0, 1) := by decide +kernel
theorem dX5_project_77 : decode cX5_project 77 = .ok (.iconst 0, 1) := by decide +kernel
theorem dX5_project_78 : decode cX5_project 78 = .ok (.putfield 162, 3) := by decide +kernel
theorem dX5_project_81 : decode cX5_project 81 = .ok (.return_, 1) := by decide +kernel
theorem dX5_endFactor_0 : decode cX5_endFactor 0 = .ok (.aload_n 0, 1) := by decide +kernel
theorem dX5_endFactor_1 : decode cX5_endFactor 1 = .ok (.getfield 151, 3) := by decide +kernel
theorem dX5_endFactor_4 : decode cX5_endFactor 4 = .ok (.iconst 1, 1) := by decide +kernel
theorem dX5_endFactor_5 : decode cX5_endFactor 5 = .ok (.isub, 1) := by decide +kernel
theorem dX5_endFactor_6 : decode cX5_endFactor 6 = .ok (.istore_n 1, 1) := by decide +kernel
theorem dX5_endFactor_7 : decode cX5_endFactor 7 = .ok (.aload_n 0, 1) := by decide +kernel
theorem dX5_endFactor_8 : decode cX5_endFactor 8 = .ok (.invokevirtual 203, 3) := by decide +kernel
theorem dX5_endFactor_11 : decode cX5_endFactor 11 = .ok (.aload_n 0, 1) := by decide +kernel
theorem dX5_endFactor_12 : decode cX5_endFactor 12 = .ok (.getfield 63, 3) := by decide +kernel
theorem dX5_endFactor_15 : decode cX5_endFactor 15 = .ok (.iload_n 1, 1) := by decide +kernel
theorem dX5_endFactor_16 : decode cX5_endFactor 16 = .ok (.baload, 1) := by decide +kernel
theorem dX5_endFactor_17 : decode cX5_endFactor 17 = .ok (.ifCond .eq 8, 3) := by decide +kernel
theorem dX5_endFactor_20 : decode cX5_endFactor 20 = .ok (.aload_n 0, 1) := by decide +kernel
theorem dX5_endFactor_21 : decode cX5_endFactor 21 = .ok (.iconst 5, 1) := by decide +kernel
theorem dX5_endFactor_22 : decode cX5_endFactor 22 = .ok (.invokevirtual 206, 3) := by decide +kernel
theorem dX5_endFactor_25 : decode cX5_endFactor 25 = .ok (.aload_n 0, 1) := by decide +kernel
theorem dX5_endFactor_26 : decode cX5_endFactor 26 = .ok (.getfield 63, 3) := by decide +kernel
theorem dX5_endFactor_29 : decode cX5_endFactor 29 = .ok (.iload_n 1, 1) := by decide +kernel
theorem dX5_endFactor_30 : decode cX5_endFactor 30 = .ok (.aload_n 0, 1) := by decide +kernel
theorem dX5_endFactor_31 : decode cX5_endFactor 31 = .ok (.bipush 42, 2) := by decide +kernel
theorem dX5_endFactor_33 : decode cX5_endFactor 33 = .ok (.invokevirtual 127, 3) := by decide +kernel
theorem dX5_endFactor_36 : decode cX5_endFactor 36 = .ok (.bastore, 1) := by decide +kernel
theorem dX5_endFactor_37 : decode cX5_endFactor 37 = .ok (.aload_n 0, 1) := by decide +kernel
theorem dX5_endFactor_38 : decode cX5_endFactor 38 = .ok (.getfield 63, 3) := by decide +kernel
theorem dX5_endFactor_41 : decode cX5_endFactor 41 = .ok (.iload_n 1, 1) := by decide +kernel
theorem dX5_endFactor_42 : decode cX5_endFactor 42 = .ok (.baload, 1) := by decide +kernel
theorem dX5_endFactor_43 : decode cX5_endFactor 43 = .ok (.ifCond .eq 9, 3) := by decide +kernel
theorem dX5_endFactor_46 : decode cX5_endFactor 46 = .ok (.aload_n 0, 1) := by decide +kernel
theorem dX5_endFactor_47 : decode cX5_endFactor 47 = .ok (.invokevirtual 209, 3) := by decide +kernel
theorem dX5_endFactor_50 : decode cX5_endFactor 50 = .ok (.iconst 1, 1) := by decide +kernel
theorem dX5_endFactor_51 : decode cX5_endFactor 51 = .ok (.ireturn, 1) := by decide +kernel
theorem dX5_endFactor_52 : decode cX5_endFactor 52 = .ok (.aload_n 0, 1) := by decide +kernel
theorem dX5_endFactor_53 : decode cX5_endFactor 53 = .ok (.getfield 60, 3) := by decide +kernel
theorem dX5_endFactor_56 : decode cX5_endFactor 56 = .ok (.iload_n 1, 1) := by decide +kernel
theorem dX5_endFactor_57 : decode cX5_endFactor 57 = .ok (.iaload, 1) := by decide +kernel
theorem dX5_endFactor_58 : decode cX5_endFactor 58 = .ok (.ifCond .eq 13, 3) := by decide +kernel
theorem dX5_endFactor_61 : decode cX5_endFactor 61 = .ok (.aload_n 0, 1) := by decide +kernel
theorem dX5_endFactor_62 : decode cX5_endFactor 62 = .ok (.aload_n 0, 1) := by decide +kernel
theorem dX5_endFactor_63 : decode cX5_endFactor 63 = .ok (.getfield 60, 3) := by decide +kernel
theorem dX5_endFactor_66 : decode cX5_endFactor 66 = .ok (.iload_n 1, 1) := by decide +kernel
theorem dX5_endFactor_67 : decode cX5_endFactor 67 = .ok (.iaload, 1) := by decide +kernel
theorem dX5_endFactor_68 : decode cX5_endFactor 68 = .ok (.invokevirtual 206, 3) := by decide +kernel
theorem dX5_endFactor_71 : decode cX5_endFactor 71 = .ok (.aload_n 0, 1) := by decide +kernel
theorem dX5_endFactor_72 : decode cX5_endFactor 72 = .ok (.getfield 60, 3) := by decide +kernel
theorem dX5_endFactor_75 : decode cX5_endFactor 75 = .ok (.iload_n 1, 1) := by decide +kernel
theorem dX5_endFactor_76 : decode cX5_endFactor 76 = .ok (.aload_n 0, 1) := by decide +kernel
theorem dX5_endFactor_77 : decode cX5_endFactor 77 = .ok (.bipush 43, 2) := by decide +kernel
theorem dX5_endFactor_79 : decode cX5_endFactor 79 = .ok (.invokevirtual 127, 3) := by decide +kernel
theorem dX5_endFactor_82 : decode cX5_endFactor 82 = .ok (.ifCond .eq 7, 3) := by decide +kernel
theorem dX5_endFactor_85 : decode cX5_endFactor 85 = .ok (.iconst 3, 1) := by decide +kernel
theorem dX5_endFactor_86 : decode cX5_endFactor 86 = .ok (.goto 17, 3) := by decide +kernel
theorem dX5_endFactor_89 : decode cX5_endFactor 89 = .ok (.aload_n 0, 1) := by decide +kernel
theorem dX5_endFactor_90 : decode cX5_endFactor 90 = .ok (.bipush 45, 2) := by decide +kernel
theorem dX5_endFactor_92 : decode cX5_endFactor 92 = .ok (.invokevirtual 127, 3) := by decide +kernel
theorem dX5_endFactor_95 : decode cX5_endFactor 95 = .ok (.ifCond .eq 7, 3) := by decide +kernel
theorem dX5_endFactor_98 : decode cX5_endFactor 98 = .ok (.iconst 4, 1) := by decide +kernel
theorem dX5_endFactor_99 : decode cX5_endFactor 99 = .ok (.goto 4, 3) := by decide +kernel
theorem dX5_endFactor_102 : decode cX5_endFactor 102 = .ok (.iconst 0, 1) := by decide +kernel
theorem dX5_endFactor_103 : decode cX5_endFactor 103 = .ok (.iastore, 1) := by decide +kernel
theorem dX5_endFactor_104 : decode cX5_endFactor 104 = .ok (.aload_n 0, 1) := by decide +kernel
theorem dX5_endFactor_105 : decode cX5_endFactor 105 = .ok (.getfield 60, 3) := by decide +kernel
theorem dX5_endFactor_108 : decode cX5_endFactor 108 = .ok (.iload_n 1, 1) := by decide +kernel
theorem dX5_endFactor_109 : decode cX5_endFactor 109 = .ok (.iaload, 1) := by decide +kernel
theorem dX5_endFactor_110 : decode cX5_endFactor 110 = .ok (.ifCond .eq 7, 3) := by decide +kernel
theorem dX5_endFactor_113 : decode cX5_endFactor 113 = .ok (.aload_n 0, 1) := by decide +kernel
theorem dX5_endFactor_114 : decode cX5_endFactor 114 = .ok (.invokevirtual 209, 3) := by decide +kernel
theorem dX5_endFactor_117 : decode cX5_endFactor 117 = .ok (.aload_n 0, 1) := by decide +kernel
theorem dX5_endFactor_118 : decode cX5_endFactor 118 = .ok (.getfield 60, 3) := by decide +kernel
theorem dX5_endFactor_121 : decode cX5_endFactor 121 = .ok (.iload_n 1, 1) := by decide +kernel
theorem dX5_endFactor_122 : decode cX5_endFactor 122 = .ok (.iaload, 1) := by decide +kernel
theorem dX5_endFactor_123 : decode cX5_endFactor 123 = .ok (.ifCond .eq 7, 3) := by decide +kernel
theorem dX5_endFactor_126 : decode cX5_endFactor 126 = .ok (.iconst 1, 1) := by decide +kernel
theorem dX5_endFactor_127 : decode cX5_endFactor 127 = .ok (.goto 4, 3) := by decide +kernel
theorem dX5_endFactor_130 : decode cX5_endFactor 130 = .ok (.iconst 0, 1) := by decide +kernel
theorem dX5_endFactor_131 : decode cX5_endFactor 131 = .ok (.ireturn, 1) := by decide +kernel
theorem dX5_keep_0 : decode cX5_keep 0 = .ok (.aload_n 0, 1) := by decide +kernel
theorem dX5_keep_1 : decode cX5_keep 1 = .ok (.aload_n 0, 1) := by decide +kernel
theorem dX5_keep_2 : decode cX5_keep 2 = .ok (.getfield 162, 3) := by decide +kernel
theorem dX5_keep_5 : decode cX5_keep 5 = .ok (.ifCond .ne 7, 3) := by decide +kernel
theorem dX5_keep_8 : decode cX5_keep 8 = .ok (.iconst 1, 1) := by decide +kernel
theorem dX5_keep_9 : decode cX5_keep 9 = .ok (.goto 4, 3) := by decide +kernel
theorem dX5_keep_12 : decode cX5_keep 12 = .ok (.iconst 0, 1) := by decide +kernel
theorem dX5_keep_13 : decode cX5_keep 13 = .ok (.invokevirtual 172, 3) := by decide +kernel
theorem dX5_keep_16 : decode cX5_keep 16 = .ok (.aload_n 0, 1) := by decide +kernel
theorem dX5_keep_17 : decode cX5_keep 17 = .ok (.iconst 1, 1) := by decide +kernel
theorem dX5_keep_18 : decode cX5_keep 18 = .ok (.invokevirtual 212, 3) := by decide +kernel
theorem dX5_keep_21 : decode cX5_keep 21 = .ok (.return_, 1) := by decide +kernel
theorem dX5_operate_0 : decode cX5_operate 0 = .ok (.aload_n 0, 1) := by decide +kernel
theorem dX5_operate_1 : decode cX5_operate 1 = .ok (.aload_n 0, 1) := by decide +kernel
theorem dX5_operate_2 : decode cX5_operate 2 = .ok (.getfield 162, 3) := by decide +kernel
theorem dX5_operate_5 : decode cX5_operate 5 = .ok (.ifCond .ne 7, 3) := by decide +kernel
theorem dX5_operate_8 : decode cX5_operate 8 = .ok (.iconst 1, 1) := by decide +kernel
theorem dX5_operate_9 : decode cX5_operate 9 = .ok (.goto 4, 3) := by decide +kernel
theorem dX5_operate_12 : decode cX5_operate 12 = .ok (.iconst 0, 1) := by decide +kernel
theorem dX5_operate_13 : decode cX5_operate 13 = .ok (.invokevirtual 172, 3) := by decide +kernel
theorem dX5_operate_16 : decode cX5_operate 16 = .ok (.aload_n 0, 1) := by decide +kernel
theorem dX5_operate_17 : decode cX5_operate 17 = .ok (.dup, 1) := by decide +kernel
theorem dX5_operate_18 : decode cX5_operate 18 = .ok (.getfield 141, 3) := by decide +kernel
theorem dX5_operate_21 : decode cX5_operate 21 = .ok (.iconst 1, 1) := by decide +kernel
theorem dX5_operate_22 : decode cX5_operate 22 = .ok (.isub, 1) := by decide +kernel
theorem dX5_operate_23 : decode cX5_operate 23 = .ok (.putfield 141, 3) := by decide +kernel
theorem dX5_operate_26 : decode cX5_operate 26 = .ok (.aload_n 0, 1) := by decide +kernel
theorem dX5_operate_27 : decode cX5_operate 27 = .ok (.iload_n 1, 1) := by decide +kernel
theorem dX5_operate_28 : decode cX5_operate 28 = .ok (.iconst 0, 1) := by decide +kernel
theorem dX5_operate_29 : decode cX5_operate 29 = .ok (.invokevirtual 158, 3) := by decide +kernel
theorem dX5_operate_32 : decode cX5_operate 32 = .ok (.aload_n 0, 1) := by decide +kernel
theorem dX5_operate_33 : decode cX5_operate 33 = .ok (.iconst 0, 1) := by decide +kernel
theorem dX5_operate_34 : decode cX5_operate 34 = .ok (.putfield 162, 3) := by decide +kernel
theorem dX5_operate_37 : decode cX5_operate 37 = .ok (.return_, 1) := by decide +kernel
theorem dX5_endSum_0 : decode cX5_endSum 0 = .ok (.aload_n 0, 1) := by decide +kernel
theorem dX5_endSum_1 : decode cX5_endSum 1 = .ok (.getfield 151, 3) := by decide +kernel
theorem dX5_endSum_4 : decode cX5_endSum 4 = .ok (.iconst 1, 1) := by decide +kernel
theorem dX5_endSum_5 : decode cX5_endSum 5 = .ok (.isub, 1) := by decide +kernel
theorem dX5_endSum_6 : decode cX5_endSum 6 = .ok (.istore_n 1, 1) := by decide +kernel
theorem dX5_endSum_7 : decode cX5_endSum 7 = .ok (.aload_n 0, 1) := by decide +kernel
theorem dX5_endSum_8 : decode cX5_endSum 8 = .ok (.getfield 57, 3) := by decide +kernel
theorem dX5_endSum_11 : decode cX5_endSum 11 = .ok (.iload_n 1, 1) := by decide +kernel
theorem dX5_endSum_12 : decode cX5_endSum 12 = .ok (.iaload, 1) := by decide +kernel
theorem dX5_endSum_13 : decode cX5_endSum 13 = .ok (.istore_n 2, 1) := by decide +kernel
theorem dX5_endSum_14 : decode cX5_endSum 14 = .ok (.aload_n 0, 1) := by decide +kernel
theorem dX5_endSum_15 : decode cX5_endSum 15 = .ok (.getfield 57, 3) := by decide +kernel
theorem dX5_endSum_18 : decode cX5_endSum 18 = .ok (.iload_n 1, 1) := by decide +kernel
theorem dX5_endSum_19 : decode cX5_endSum 19 = .ok (.iload_n 2, 1) := by decide +kernel
theorem dX5_endSum_20 : decode cX5_endSum 20 = .ok (.iconst 1, 1) := by decide +kernel
theorem dX5_endSum_21 : decode cX5_endSum 21 = .ok (.iadd, 1) := by decide +kernel
theorem dX5_endSum_22 : decode cX5_endSum 22 = .ok (.iastore, 1) := by decide +kernel
theorem dX5_endSum_23 : decode cX5_endSum 23 = .ok (.aload_n 0, 1) := by decide +kernel
theorem dX5_endSum_24 : decode cX5_endSum 24 = .ok (.getfield 54, 3) := by decide +kernel
theorem dX5_endSum_27 : decode cX5_endSum 27 = .ok (.iload_n 1, 1) := by decide +kernel
theorem dX5_endSum_28 : decode cX5_endSum 28 = .ok (.iaload, 1) := by decide +kernel
theorem dX5_endSum_29 : decode cX5_endSum 29 = .ok (.tableswitch 144 1 3 #[27, 45, 137], 27) := by decide +kernel
theorem dX5_endSum_56 : decode cX5_endSum 56 = .ok (.aload_n 0, 1) := by decide +kernel
theorem dX5_endSum_57 : decode cX5_endSum 57 = .ok (.bipush 41, 2) := by decide +kernel
theorem dX5_endSum_59 : decode cX5_endSum 59 = .ok (.invokevirtual 175, 3) := by decide +kernel
theorem dX5_endSum_62 : decode cX5_endSum 62 = .ok (.aload_n 0, 1) := by decide +kernel
theorem dX5_endSum_63 : decode cX5_endSum 63 = .ok (.dup, 1) := by decide +kernel
theorem dX5_endSum_64 : decode cX5_endSum 64 = .ok (.getfield 151, 3) := by decide +kernel
theorem dX5_endSum_67 : decode cX5_endSum 67 = .ok (.iconst 1, 1) := by decide +kernel
theorem dX5_endSum_68 : decode cX5_endSum 68 = .ok (.isub, 1) := by decide +kernel
theorem dX5_endSum_69 : decode cX5_endSum 69 = .ok (.putfield 151, 3) := by decide +kernel
theorem dX5_endSum_72 : decode cX5_endSum 72 = .ok (.iconst 0, 1) := by decide +kernel
theorem dX5_endSum_73 : decode cX5_endSum 73 = .ok (.ireturn, 1) := by decide +kernel
theorem dX5_endSum_74 : decode cX5_endSum 74 = .ok (.aload_n 0, 1) := by decide +kernel
theorem dX5_endSum_75 : decode cX5_endSum 75 = .ok (.aload_n 0, 1) := by decide +kernel
theorem dX5_endSum_76 : decode cX5_endSum 76 = .ok (.getfield 162, 3) := by decide +kernel
theorem dX5_endSum_79 : decode cX5_endSum 79 = .ok (.ifCond .ne 7, 3) := by decide +kernel
theorem dX5_endSum_82 : decode cX5_endSum 82 = .ok (.iconst 1, 1) := by decide +kernel
theorem dX5_endSum_83 : decode cX5_endSum 83 = .ok (.goto 4, 3) := by decide +kernel
theorem dX5_endSum_86 : decode cX5_endSum 86 = .ok (.iconst 0, 1) := by decide +kernel
theorem dX5_endSum_87 : decode cX5_endSum 87 = .ok (.invokevirtual 172, 3) := by decide +kernel
theorem dX5_endSum_90 : decode cX5_endSum 90 = .ok (.iload_n 2, 1) := by decide +kernel
theorem dX5_endSum_91 : decode cX5_endSum 91 = .ok (.ifCond .ne 11, 3) := by decide +kernel
theorem dX5_endSum_94 : decode cX5_endSum 94 = .ok (.aload_n 0, 1) := by decide +kernel
theorem dX5_endSum_95 : decode cX5_endSum 95 = .ok (.iconst 1, 1) := by decide +kernel
theorem dX5_endSum_96 : decode cX5_endSum 96 = .ok (.invokevirtual 212, 3) := by decide +kernel
theorem dX5_endSum_99 : decode cX5_endSum 99 = .ok (.goto 13, 3) := by decide +kernel
theorem dX5_endSum_102 : decode cX5_endSum 102 = .ok (.aload_n 0, 1) := by decide +kernel
theorem dX5_endSum_103 : decode cX5_endSum 103 = .ok (.dup, 1) := by decide +kernel
theorem dX5_endSum_104 : decode cX5_endSum 104 = .ok (.getfield 141, 3) := by decide +kernel
theorem dX5_endSum_107 : decode cX5_endSum 107 = .ok (.iconst 1, 1) := by decide +kernel
theorem dX5_endSum_108 : decode cX5_endSum 108 = .ok (.isub, 1) := by decide +kernel
theorem dX5_endSum_109 : decode cX5_endSum 109 = .ok (.putfield 141, 3) := by decide +kernel
theorem dX5_endSum_112 : decode cX5_endSum 112 = .ok (.aload_n 0, 1) := by decide +kernel
theorem dX5_endSum_113 : decode cX5_endSum 113 = .ok (.iload_n 2, 1) := by decide +kernel
theorem dX5_endSum_114 : decode cX5_endSum 114 = .ok (.ifCond .ne 8, 3) := by decide +kernel
theorem dX5_endSum_117 : decode cX5_endSum 117 = .ok (.bipush 44, 2) := by decide +kernel
theorem dX5_endSum_119 : decode cX5_endSum 119 = .ok (.goto 5, 3) := by decide +kernel
theorem dX5_endSum_122 : decode cX5_endSum 122 = .ok (.bipush 125, 2) := by decide +kernel
theorem dX5_endSum_124 : decode cX5_endSum 124 = .ok (.invokevirtual 175, 3) := by decide +kernel
theorem dX5_endSum_127 : decode cX5_endSum 127 = .ok (.aload_n 0, 1) := by decide +kernel
theorem dX5_endSum_128 : decode cX5_endSum 128 = .ok (.iload_n 2, 1) := by decide +kernel
theorem dX5_endSum_129 : decode cX5_endSum 129 = .ok (.ifCond .le 7, 3) := by decide +kernel
theorem dX5_endSum_132 : decode cX5_endSum 132 = .ok (.iconst 1, 1) := by decide +kernel
theorem dX5_endSum_133 : decode cX5_endSum 133 = .ok (.goto 4, 3) := by decide +kernel
theorem dX5_endSum_136 : decode cX5_endSum 136 = .ok (.iconst 0, 1) := by decide +kernel
theorem dX5_endSum_137 : decode cX5_endSum 137 = .ok (.putfield 162, 3) := by decide +kernel
theorem dX5_endSum_140 : decode cX5_endSum 140 = .ok (.aload_n 0, 1) := by decide +kernel
theorem dX5_endSum_141 : decode cX5_endSum 141 = .ok (.iload_n 2, 1) := by decide +kernel
theorem dX5_endSum_142 : decode cX5_endSum 142 = .ok (.ifCond .ne 10, 3) := by decide +kernel
theorem dX5_endSum_145 : decode cX5_endSum 145 = .ok (.aload_n 0, 1) := by decide +kernel
theorem dX5_endSum_146 : decode cX5_endSum 146 = .ok (.getfield 151, 3) := by decide +kernel
theorem dX5_endSum_149 : decode cX5_endSum 149 = .ok (.goto 4, 3) := by decide +kernel
theorem dX5_endSum_152 : decode cX5_endSum 152 = .ok (.iload_n 1, 1) := by decide +kernel
theorem dX5_endSum_153 : decode cX5_endSum 153 = .ok (.putfield 151, 3) := by decide +kernel
theorem dX5_endSum_156 : decode cX5_endSum 156 = .ok (.iload_n 2, 1) := by decide +kernel
theorem dX5_endSum_157 : decode cX5_endSum 157 = .ok (.ifCond .ne 7, 3) := by decide +kernel
theorem dX5_endSum_160 : decode cX5_endSum 160 = .ok (.iconst 1, 1) := by decide +kernel
theorem dX5_endSum_161 : decode cX5_endSum 161 = .ok (.goto 4, 3) := by decide +kernel
theorem dX5_endSum_164 : decode cX5_endSum 164 = .ok (.iconst 0, 1) := by decide +kernel
theorem dX5_endSum_165 : decode cX5_endSum 165 = .ok (.ireturn, 1) := by decide +kernel
theorem dX5_endSum_166 : decode cX5_endSum 166 = .ok (.aload_n 0, 1) := by decide +kernel
theorem dX5_endSum_167 : decode cX5_endSum 167 = .ok (.iload_n 1, 1) := by decide +kernel
theorem dX5_endSum_168 : decode cX5_endSum 168 = .ok (.iload_n 2, 1) := by decide +kernel
theorem dX5_endSum_169 : decode cX5_endSum 169 = .ok (.invokevirtual 215, 3) := by decide +kernel
theorem dX5_endSum_172 : decode cX5_endSum 172 = .ok (.ireturn, 1) := by decide +kernel
theorem dX5_endSum_173 : decode cX5_endSum 173 = .ok (.aload_n 0, 1) := by decide +kernel
theorem dX5_endSum_174 : decode cX5_endSum 174 = .ok (.invokevirtual 187, 3) := by decide +kernel
theorem dX5_endSum_177 : decode cX5_endSum 177 = .ok (.istore_n 3, 1) := by decide +kernel
theorem dX5_endSum_178 : decode cX5_endSum 178 = .ok (.aload_n 0, 1) := by decide +kernel
theorem dX5_endSum_179 : decode cX5_endSum 179 = .ok (.aload_n 0, 1) := by decide +kernel
theorem dX5_endSum_180 : decode cX5_endSum 180 = .ok (.getfield 135, 3) := by decide +kernel
theorem dX5_endSum_183 : decode cX5_endSum 183 = .ok (.ifCond .ne 35, 3) := by decide +kernel
theorem dX5_endSum_186 : decode cX5_endSum 186 = .ok (.iload_n 3, 1) := by decide +kernel
theorem dX5_endSum_187 : decode cX5_endSum 187 = .ok (.iconst (-1), 1) := by decide +kernel
theorem dX5_endSum_188 : decode cX5_endSum 188 = .ok (.if_icmp .eq 34, 3) := by decide +kernel
theorem dX5_endSum_191 : decode cX5_endSum 191 = .ok (.iload_n 2, 1) := by decide +kernel
theorem dX5_endSum_192 : decode cX5_endSum 192 = .ok (.aload_n 0, 1) := by decide +kernel
theorem dX5_endSum_193 : decode cX5_endSum 193 = .ok (.getfield 30, 3) := by decide +kernel
theorem dX5_endSum_196 : decode cX5_endSum 196 = .ok (.iload_n 3, 1) := by decide +kernel
theorem dX5_endSum_197 : decode cX5_endSum 197 = .ok (.iaload, 1) := by decide +kernel
theorem dX5_endSum_198 : decode cX5_endSum 198 = .ok (.if_icmp .ge 24, 3) := by decide +kernel
theorem dX5_endSum_201 : decode cX5_endSum 201 = .ok (.aload_n 0, 1) := by decide +kernel
theorem dX5_endSum_202 : decode cX5_endSum 202 = .ok (.getfield 33, 3) := by decide +kernel
theorem dX5_endSum_205 : decode cX5_endSum 205 = .ok (.iconst 3, 1) := by decide +kernel
theorem dX5_endSum_206 : decode cX5_endSum 206 = .ok (.iload_n 3, 1) := by decide +kernel
theorem dX5_endSum_207 : decode cX5_endSum 207 = .ok (.imul, 1) := by decide +kernel
theorem dX5_endSum_208 : decode cX5_endSum 208 = .ok (.iload_n 2, 1) := by decide +kernel
theorem dX5_endSum_209 : decode cX5_endSum 209 = .ok (.iadd, 1) := by decide +kernel
theorem dX5_endSum_210 : decode cX5_endSum 210 = .ok (.baload, 1) := by decide +kernel
theorem dX5_endSum_211 : decode cX5_endSum 211 = .ok (.aload_n 0, 1) := by decide +kernel
theorem dX5_endSum_212 : decode cX5_endSum 212 = .ok (.getfield 162, 3) := by decide +kernel
theorem dX5_endSum_215 : decode cX5_endSum 215 = .ok (.if_icmp .ne 7, 3) := by decide +kernel
theorem dX5_endSum_218 : decode cX5_endSum 218 = .ok (.iconst 1, 1) := by decide +kernel
theorem dX5_endSum_219 : decode cX5_endSum 219 = .ok (.goto 4, 3) := by decide +kernel
theorem dX5_endSum_222 : decode cX5_endSum 222 = .ok (.iconst 0, 1) := by decide +kernel
theorem dX5_endSum_223 : decode cX5_endSum 223 = .ok (.invokevirtual 172, 3) := by decide +kernel
theorem dX5_endSum_226 : decode cX5_endSum 226 = .ok (.aload_n 0, 1) := by decide +kernel
theorem dX5_endSum_227 : decode cX5_endSum 227 = .ok (.aload_n 0, 1) := by decide +kernel
theorem dX5_endSum_228 : decode cX5_endSum 228 = .ok (.getfield 162, 3) := by decide +kernel
theorem dX5_endSum_231 : decode cX5_endSum 231 = .ok (.ifCond .eq 7, 3) := by decide +kernel
theorem dX5_endSum_234 : decode cX5_endSum 234 = .ok (.iconst 2, 1) := by decide +kernel
theorem dX5_endSum_235 : decode cX5_endSum 235 = .ok (.goto 4, 3) := by decide +kernel
theorem dX5_endSum_238 : decode cX5_endSum 238 = .ok (.iconst 1, 1) := by decide +kernel
theorem dX5_endSum_239 : decode cX5_endSum 239 = .ok (.invokevirtual 212, 3) := by decide +kernel
theorem dX5_endSum_242 : decode cX5_endSum 242 = .ok (.aload_n 0, 1) := by decide +kernel
theorem dX5_endSum_243 : decode cX5_endSum 243 = .ok (.bipush 41, 2) := by decide +kernel
theorem dX5_endSum_245 : decode cX5_endSum 245 = .ok (.invokevirtual 127, 3) := by decide +kernel
theorem dX5_endSum_248 : decode cX5_endSum 248 = .ok (.ifCond .eq 9, 3) := by decide +kernel
theorem dX5_endSum_251 : decode cX5_endSum 251 = .ok (.aload_n 0, 1) := by decide +kernel
theorem dX5_endSum_252 : decode cX5_endSum 252 = .ok (.invokevirtual 200, 3) := by decide +kernel
theorem dX5_endSum_255 : decode cX5_endSum 255 = .ok (.iconst 0, 1) := by decide +kernel
theorem dX5_endSum_256 : decode cX5_endSum 256 = .ok (.ireturn, 1) := by decide +kernel
theorem dX5_endSum_257 : decode cX5_endSum 257 = .ok (.aload_n 0, 1) := by decide +kernel
theorem dX5_endSum_258 : decode cX5_endSum 258 = .ok (.bipush 44, 2) := by decide +kernel
theorem dX5_endSum_260 : decode cX5_endSum 260 = .ok (.invokevirtual 175, 3) := by decide +kernel
theorem dX5_endSum_263 : decode cX5_endSum 263 = .ok (.iconst 1, 1) := by decide +kernel
theorem dX5_endSum_264 : decode cX5_endSum 264 = .ok (.ireturn, 1) := by decide +kernel
theorem dX5_choose_0 : decode cX5_choose 0 = .ok (.iload_n 2, 1) := by decide +kernel
theorem dX5_choose_1 : decode cX5_choose 1 = .ok (.ifCond .ne 44, 3) := by decide +kernel
theorem dX5_choose_4 : decode cX5_choose 4 = .ok (.aload_n 0, 1) := by decide +kernel
theorem dX5_choose_5 : decode cX5_choose 5 = .ok (.aload_n 0, 1) := by decide +kernel
theorem dX5_choose_6 : decode cX5_choose 6 = .ok (.getfield 162, 3) := by decide +kernel
theorem dX5_choose_9 : decode cX5_choose 9 = .ok (.ifCond .ne 7, 3) := by decide +kernel
theorem dX5_choose_12 : decode cX5_choose 12 = .ok (.iconst 1, 1) := by decide +kernel
theorem dX5_choose_13 : decode cX5_choose 13 = .ok (.goto 4, 3) := by decide +kernel
theorem dX5_choose_16 : decode cX5_choose 16 = .ok (.iconst 0, 1) := by decide +kernel
theorem dX5_choose_17 : decode cX5_choose 17 = .ok (.invokevirtual 172, 3) := by decide +kernel
theorem dX5_choose_20 : decode cX5_choose 20 = .ok (.aload_n 0, 1) := by decide +kernel
theorem dX5_choose_21 : decode cX5_choose 21 = .ok (.bipush 63, 2) := by decide +kernel
theorem dX5_choose_23 : decode cX5_choose 23 = .ok (.invokevirtual 175, 3) := by decide +kernel
theorem dX5_choose_26 : decode cX5_choose 26 = .ok (.aload_n 0, 1) := by decide +kernel
theorem dX5_choose_27 : decode cX5_choose 27 = .ok (.getfield 69, 3) := by decide +kernel
theorem dX5_choose_30 : decode cX5_choose 30 = .ok (.iload_n 1, 1) := by decide +kernel
theorem dX5_choose_31 : decode cX5_choose 31 = .ok (.aload_n 0, 1) := by decide +kernel
theorem dX5_choose_32 : decode cX5_choose 32 = .ok (.getfield 138, 3) := by decide +kernel
theorem dX5_choose_35 : decode cX5_choose 35 = .ok (.iastore, 1) := by decide +kernel
theorem dX5_choose_36 : decode cX5_choose 36 = .ok (.aload_n 0, 1) := by decide +kernel
theorem dX5_choose_37 : decode cX5_choose 37 = .ok (.bipush 8, 2) := by decide +kernel
theorem dX5_choose_39 : decode cX5_choose 39 = .ok (.iconst 0, 1) := by decide +kernel
theorem dX5_choose_40 : decode cX5_choose 40 = .ok (.invokevirtual 158, 3) := by decide +kernel
theorem dX5_choose_43 : decode cX5_choose 43 = .ok (.iconst 1, 1) := by decide +kernel
theorem dX5_choose_44 : decode cX5_choose 44 = .ok (.ireturn, 1) := by decide +kernel
theorem dX5_choose_45 : decode cX5_choose 45 = .ok (.iload_n 2, 1) := by decide +kernel
theorem dX5_choose_46 : decode cX5_choose 46 = .ok (.iconst 1, 1) := by decide +kernel
theorem dX5_choose_47 : decode cX5_choose 47 = .ok (.if_icmp .ne 66, 3) := by decide +kernel
theorem dX5_choose_50 : decode cX5_choose 50 = .ok (.aload_n 0, 1) := by decide +kernel
theorem dX5_choose_51 : decode cX5_choose 51 = .ok (.bipush 58, 2) := by decide +kernel
theorem dX5_choose_53 : decode cX5_choose 53 = .ok (.invokevirtual 175, 3) := by decide +kernel
theorem dX5_choose_56 : decode cX5_choose 56 = .ok (.aload_n 0, 1) := by decide +kernel
theorem dX5_choose_57 : decode cX5_choose 57 = .ok (.getfield 66, 3) := by decide +kernel
theorem dX5_choose_60 : decode cX5_choose 60 = .ok (.iload_n 1, 1) := by decide +kernel
theorem dX5_choose_61 : decode cX5_choose 61 = .ok (.aload_n 0, 1) := by decide +kernel
theorem dX5_choose_62 : decode cX5_choose 62 = .ok (.getfield 162, 3) := by decide +kernel
theorem dX5_choose_65 : decode cX5_choose 65 = .ok (.bastore, 1) := by decide +kernel
theorem dX5_choose_66 : decode cX5_choose 66 = .ok (.aload_n 0, 1) := by decide +kernel
theorem dX5_choose_67 : decode cX5_choose 67 = .ok (.getfield 135, 3) := by decide +kernel
theorem dX5_choose_70 : decode cX5_choose 70 = .ok (.ifCond .ne 24, 3) := by decide +kernel
theorem dX5_choose_73 : decode cX5_choose 73 = .ok (.aload_n 0, 1) := by decide +kernel
theorem dX5_choose_74 : decode cX5_choose 74 = .ok (.getfield 48, 3) := by decide +kernel
theorem dX5_choose_77 : decode cX5_choose 77 = .ok (.sipush 780, 3) := by decide +kernel
theorem dX5_choose_80 : decode cX5_choose 80 = .ok (.aload_n 0, 1) := by decide +kernel
theorem dX5_choose_81 : decode cX5_choose 81 = .ok (.getfield 69, 3) := by decide +kernel
theorem dX5_choose_84 : decode cX5_choose 84 = .ok (.iload_n 1, 1) := by decide +kernel
theorem dX5_choose_85 : decode cX5_choose 85 = .ok (.iaload, 1) := by decide +kernel
theorem dX5_choose_86 : decode cX5_choose 86 = .ok (.iadd, 1) := by decide +kernel
theorem dX5_choose_87 : decode cX5_choose 87 = .ok (.aload_n 0, 1) := by decide +kernel
theorem dX5_choose_88 : decode cX5_choose 88 = .ok (.getfield 138, 3) := by decide +kernel
theorem dX5_choose_91 : decode cX5_choose 91 = .ok (.iconst 1, 1) := by decide +kernel
theorem dX5_choose_92 : decode cX5_choose 92 = .ok (.iadd, 1) := by decide +kernel
theorem dX5_choose_93 : decode cX5_choose 93 = .ok (.iastore, 1) := by decide +kernel
theorem dX5_choose_94 : decode cX5_choose 94 = .ok (.aload_n 0, 1) := by decide +kernel
theorem dX5_choose_95 : decode cX5_choose 95 = .ok (.getfield 69, 3) := by decide +kernel
theorem dX5_choose_98 : decode cX5_choose 98 = .ok (.iload_n 1, 1) := by decide +kernel
theorem dX5_choose_99 : decode cX5_choose 99 = .ok (.aload_n 0, 1) := by decide +kernel
theorem dX5_choose_100 : decode cX5_choose 100 = .ok (.getfield 138, 3) := by decide +kernel
theorem dX5_choose_103 : decode cX5_choose 103 = .ok (.iastore, 1) := by decide +kernel
theorem dX5_choose_104 : decode cX5_choose 104 = .ok (.aload_n 0, 1) := by decide +kernel
theorem dX5_choose_105 : decode cX5_choose 105 = .ok (.bipush 9, 2) := by decide +kernel
theorem dX5_choose_107 : decode cX5_choose 107 = .ok (.iconst 0, 1) := by decide +kernel
theorem dX5_choose_108 : decode cX5_choose 108 = .ok (.invokevirtual 158, 3) := by decide +kernel
theorem dX5_choose_111 : decode cX5_choose 111 = .ok (.iconst 1, 1) := by decide +kernel
theorem dX5_choose_112 : decode cX5_choose 112 = .ok (.ireturn, 1) := by decide +kernel
theorem dX5_choose_113 : decode cX5_choose 113 = .ok (.aload_n 0, 1) := by decide +kernel
theorem dX5_choose_114 : decode cX5_choose 114 = .ok (.aload_n 0, 1) := by decide +kernel
theorem dX5_choose_115 : decode cX5_choose 115 = .ok (.getfield 162, 3) := by decide +kernel
theorem dX5_choose_118 : decode cX5_choose 118 = .ok (.aload_n 0, 1) := by decide +kernel
theorem dX5_choose_119 : decode cX5_choose 119 = .ok (.getfield 66, 3) := by decide +kernel
theorem dX5_choose_122 : decode cX5_choose 122 = .ok (.iload_n 1, 1) := by decide +kernel
theorem dX5_choose_123 : decode cX5_choose 123 = .ok (.baload, 1) := by decide +kernel
theorem dX5_choose_124 : decode cX5_choose 124 = .ok (.if_icmp .ne 7, 3) := by decide +kernel
theorem dX5_choose_127 : decode cX5_choose 127 = .ok (.iconst 1, 1) := by decide +kernel
theorem dX5_choose_128 : decode cX5_choose 128 = .ok (.goto 4, 3) := by decide +kernel
theorem dX5_choose_131 : decode cX5_choose 131 = .ok (.iconst 0, 1) := by decide +kernel
theorem dX5_choose_132 : decode cX5_choose 132 = .ok (.invokevirtual 172, 3) := by decide +kernel
theorem dX5_choose_135 : decode cX5_choose 135 = .ok (.aload_n 0, 1) := by decide +kernel
theorem dX5_choose_136 : decode cX5_choose 136 = .ok (.aload_n 0, 1) := by decide +kernel
theorem dX5_choose_137 : decode cX5_choose 137 = .ok (.getfield 66, 3) := by decide +kernel
theorem dX5_choose_140 : decode cX5_choose 140 = .ok (.iload_n 1, 1) := by decide +kernel
theorem dX5_choose_141 : decode cX5_choose 141 = .ok (.baload, 1) := by decide +kernel
theorem dX5_choose_142 : decode cX5_choose 142 = .ok (.putfield 162, 3) := by decide +kernel
theorem dX5_choose_145 : decode cX5_choose 145 = .ok (.aload_n 0, 1) := by decide +kernel
theorem dX5_choose_146 : decode cX5_choose 146 = .ok (.bipush 93, 2) := by decide +kernel
theorem dX5_choose_148 : decode cX5_choose 148 = .ok (.invokevirtual 175, 3) := by decide +kernel
theorem dX5_choose_151 : decode cX5_choose 151 = .ok (.aload_n 0, 1) := by decide +kernel
theorem dX5_choose_152 : decode cX5_choose 152 = .ok (.getfield 135, 3) := by decide +kernel
theorem dX5_choose_155 : decode cX5_choose 155 = .ok (.ifCond .ne 22, 3) := by decide +kernel
theorem dX5_choose_158 : decode cX5_choose 158 = .ok (.aload_n 0, 1) := by decide +kernel
theorem dX5_choose_159 : decode cX5_choose 159 = .ok (.getfield 48, 3) := by decide +kernel
theorem dX5_choose_162 : decode cX5_choose 162 = .ok (.sipush 780, 3) := by decide +kernel
theorem dX5_choose_165 : decode cX5_choose 165 = .ok (.aload_n 0, 1) := by decide +kernel
theorem dX5_choose_166 : decode cX5_choose 166 = .ok (.getfield 69, 3) := by decide +kernel
theorem dX5_choose_169 : decode cX5_choose 169 = .ok (.iload_n 1, 1) := by decide +kernel
theorem dX5_choose_170 : decode cX5_choose 170 = .ok (.iaload, 1) := by decide +kernel
theorem dX5_choose_171 : decode cX5_choose 171 = .ok (.iadd, 1) := by decide +kernel
theorem dX5_choose_172 : decode cX5_choose 172 = .ok (.aload_n 0, 1) := by decide +kernel
theorem dX5_choose_173 : decode cX5_choose 173 = .ok (.getfield 138, 3) := by decide +kernel
theorem dX5_choose_176 : decode cX5_choose 176 = .ok (.iastore, 1) := by decide +kernel
theorem dX5_choose_177 : decode cX5_choose 177 = .ok (.aload_n 0, 1) := by decide +kernel
theorem dX5_choose_178 : decode cX5_choose 178 = .ok (.dup, 1) := by decide +kernel
theorem dX5_choose_179 : decode cX5_choose 179 = .ok (.getfield 151, 3) := by decide +kernel
theorem dX5_choose_182 : decode cX5_choose 182 = .ok (.iconst 1, 1) := by decide +kernel
theorem dX5_choose_183 : decode cX5_choose 183 = .ok (.isub, 1) := by decide +kernel
theorem dX5_choose_184 : decode cX5_choose 184 = .ok (.putfield 151, 3) := by decide +kernel
theorem dX5_choose_187 : decode cX5_choose 187 = .ok (.iconst 0, 1) := by decide +kernel
theorem dX5_choose_188 : decode cX5_choose 188 = .ok (.ireturn, 1) := by decide +kernel
theorem dX5_readExpression_0 : decode cX5_readExpression 0 = .ok (.aload_n 0, 1) := by decide +kernel
theorem dX5_readExpression_1 : decode cX5_readExpression 1 = .ok (.iload_n 1, 1) := by decide +kernel
theorem dX5_readExpression_2 : decode cX5_readExpression 2 = .ok (.putfield 169, 3) := by decide +kernel
theorem dX5_readExpression_5 : decode cX5_readExpression 5 = .ok (.aload_n 0, 1) := by decide +kernel
theorem dX5_readExpression_6 : decode cX5_readExpression 6 = .ok (.iconst 0, 1) := by decide +kernel
theorem dX5_readExpression_7 : decode cX5_readExpression 7 = .ok (.putfield 151, 3) := by decide +kernel
theorem dX5_readExpression_10 : decode cX5_readExpression 10 = .ok (.aload_n 0, 1) := by decide +kernel
theorem dX5_readExpression_11 : decode cX5_readExpression 11 = .ok (.iconst 0, 1) := by decide +kernel
theorem dX5_readExpression_12 : decode cX5_readExpression 12 = .ok (.putfield 141, 3) := by decide +kernel
theorem dX5_readExpression_15 : decode cX5_readExpression 15 = .ok (.aload_n 0, 1) := by decide +kernel
theorem dX5_readExpression_16 : decode cX5_readExpression 16 = .ok (.iconst 0, 1) := by decide +kernel
theorem dX5_readExpression_17 : decode cX5_readExpression 17 = .ok (.putfield 144, 3) := by decide +kernel
theorem dX5_readExpression_20 : decode cX5_readExpression 20 = .ok (.aload_n 0, 1) := by decide +kernel
theorem dX5_readExpression_21 : decode cX5_readExpression 21 = .ok (.iconst 0, 1) := by decide +kernel
theorem dX5_readExpression_22 : decode cX5_readExpression 22 = .ok (.invokevirtual 179, 3) := by decide +kernel
theorem dX5_readExpression_25 : decode cX5_readExpression 25 = .ok (.aload_n 0, 1) := by decide +kernel
theorem dX5_readExpression_26 : decode cX5_readExpression 26 = .ok (.getfield 42, 3) := by decide +kernel
theorem dX5_readExpression_29 : decode cX5_readExpression 29 = .ok (.iload_n 1, 1) := by decide +kernel
theorem dX5_readExpression_30 : decode cX5_readExpression 30 = .ok (.aload_n 0, 1) := by decide +kernel
theorem dX5_readExpression_31 : decode cX5_readExpression 31 = .ok (.getfield 138, 3) := by decide +kernel
theorem dX5_readExpression_34 : decode cX5_readExpression 34 = .ok (.iastore, 1) := by decide +kernel
theorem dX5_readExpression_35 : decode cX5_readExpression 35 = .ok (.iconst 0, 1) := by decide +kernel
theorem dX5_readExpression_36 : decode cX5_readExpression 36 = .ok (.istore_n 2, 1) := by decide +kernel
theorem dX5_readExpression_37 : decode cX5_readExpression 37 = .ok (.aload_n 0, 1) := by decide +kernel
theorem dX5_readExpression_38 : decode cX5_readExpression 38 = .ok (.getfield 116, 3) := by decide +kernel
theorem dX5_readExpression_41 : decode cX5_readExpression 41 = .ok (.ifCond .eq 71, 3) := by decide +kernel
theorem dX5_readExpression_44 : decode cX5_readExpression 44 = .ok (.iload_n 2, 1) := by decide +kernel
theorem dX5_readExpression_45 : decode cX5_readExpression 45 = .ok (.ifCond .ne 67, 3) := by decide +kernel
theorem dX5_readExpression_48 : decode cX5_readExpression 48 = .ok (.aload_n 0, 1) := by decide +kernel
theorem dX5_readExpression_49 : decode cX5_readExpression 49 = .ok (.invokevirtual 219, 3) := by decide +kernel
theorem dX5_readExpression_52 : decode cX5_readExpression 52 = .ok (.istore_n 3, 1) := by decide +kernel
theorem dX5_readExpression_53 : decode cX5_readExpression 53 = .ok (.aload_n 0, 1) := by decide +kernel
theorem dX5_readExpression_54 : decode cX5_readExpression 54 = .ok (.getfield 116, 3) := by decide +kernel
theorem dX5_readExpression_57 : decode cX5_readExpression 57 = .ok (.ifCond .eq 52, 3) := by decide +kernel
theorem dX5_readExpression_60 : decode cX5_readExpression 60 = .ok (.iload_n 3, 1) := by decide +kernel
theorem dX5_readExpression_61 : decode cX5_readExpression 61 = .ok (.ifCond .eq 48, 3) := by decide +kernel
theorem dX5_readExpression_64 : decode cX5_readExpression 64 = .ok (.iload_n 2, 1) := by decide +kernel
theorem dX5_readExpression_65 : decode cX5_readExpression 65 = .ok (.ifCond .ne 44, 3) := by decide +kernel
theorem dX5_readExpression_68 : decode cX5_readExpression 68 = .ok (.aload_n 0, 1) := by decide +kernel
theorem dX5_readExpression_69 : decode cX5_readExpression 69 = .ok (.invokevirtual 222, 3) := by decide +kernel
theorem dX5_readExpression_72 : decode cX5_readExpression 72 = .ok (.ifCond .eq 8, 3) := by decide +kernel
theorem dX5_readExpression_75 : decode cX5_readExpression 75 = .ok (.iconst 0, 1) := by decide +kernel
theorem dX5_readExpression_76 : decode cX5_readExpression 76 = .ok (.istore_n 3, 1) := by decide +kernel
theorem dX5_readExpression_77 : decode cX5_readExpression 77 = .ok (.goto (-24), 3) := by decide +kernel
theorem dX5_readExpression_80 : decode cX5_readExpression 80 = .ok (.aload_n 0, 1) := by decide +kernel
theorem dX5_readExpression_81 : decode cX5_readExpression 81 = .ok (.getfield 151, 3) := by decide +kernel
theorem dX5_readExpression_84 : decode cX5_readExpression 84 = .ok (.iconst 1, 1) := by decide +kernel
theorem dX5_readExpression_85 : decode cX5_readExpression 85 = .ok (.if_icmp .ne 8, 3) := by decide +kernel
theorem dX5_readExpression_88 : decode cX5_readExpression 88 = .ok (.iconst 1, 1) := by decide +kernel
theorem dX5_readExpression_89 : decode cX5_readExpression 89 = .ok (.istore_n 2, 1) := by decide +kernel
theorem dX5_readExpression_90 : decode cX5_readExpression 90 = .ok (.goto (-37), 3) := by decide +kernel
theorem dX5_readExpression_93 : decode cX5_readExpression 93 = .ok (.aload_n 0, 1) := by decide +kernel
theorem dX5_readExpression_94 : decode cX5_readExpression 94 = .ok (.invokevirtual 225, 3) := by decide +kernel
theorem dX5_readExpression_97 : decode cX5_readExpression 97 = .ok (.ifCond .ne 7, 3) := by decide +kernel
theorem dX5_readExpression_100 : decode cX5_readExpression 100 = .ok (.iconst 1, 1) := by decide +kernel
theorem dX5_readExpression_101 : decode cX5_readExpression 101 = .ok (.goto 4, 3) := by decide +kernel
theorem dX5_readExpression_104 : decode cX5_readExpression 104 = .ok (.iconst 0, 1) := by decide +kernel
theorem dX5_readExpression_105 : decode cX5_readExpression 105 = .ok (.istore_n 3, 1) := by decide +kernel
theorem dX5_readExpression_106 : decode cX5_readExpression 106 = .ok (.goto (-53), 3) := by decide +kernel
theorem dX5_readExpression_109 : decode cX5_readExpression 109 = .ok (.goto (-72), 3) := by decide +kernel
theorem dX5_readExpression_112 : decode cX5_readExpression 112 = .ok (.aload_n 0, 1) := by decide +kernel
theorem dX5_readExpression_113 : decode cX5_readExpression 113 = .ok (.aload_n 0, 1) := by decide +kernel
theorem dX5_readExpression_114 : decode cX5_readExpression 114 = .ok (.getfield 162, 3) := by decide +kernel
theorem dX5_readExpression_117 : decode cX5_readExpression 117 = .ok (.aload_n 0, 1) := by decide +kernel
theorem dX5_readExpression_118 : decode cX5_readExpression 118 = .ok (.getfield 36, 3) := by decide +kernel
theorem dX5_readExpression_121 : decode cX5_readExpression 121 = .ok (.iload_n 1, 1) := by decide +kernel
theorem dX5_readExpression_122 : decode cX5_readExpression 122 = .ok (.baload, 1) := by decide +kernel
theorem dX5_readExpression_123 : decode cX5_readExpression 123 = .ok (.if_icmp .ne 7, 3) := by decide +kernel
theorem dX5_readExpression_126 : decode cX5_readExpression 126 = .ok (.iconst 1, 1) := by decide +kernel
theorem dX5_readExpression_127 : decode cX5_readExpression 127 = .ok (.goto 4, 3) := by decide +kernel
theorem dX5_readExpression_130 : decode cX5_readExpression 130 = .ok (.iconst 0, 1) := by decide +kernel
theorem dX5_readExpression_131 : decode cX5_readExpression 131 = .ok (.invokevirtual 172, 3) := by decide +kernel
theorem dX5_readExpression_134 : decode cX5_readExpression 134 = .ok (.aload_n 0, 1) := by decide +kernel
theorem dX5_readExpression_135 : decode cX5_readExpression 135 = .ok (.bipush 11, 2) := by decide +kernel
theorem dX5_readExpression_137 : decode cX5_readExpression 137 = .ok (.iconst 0, 1) := by decide +kernel
theorem dX5_readExpression_138 : decode cX5_readExpression 138 = .ok (.invokevirtual 158, 3) := by decide +kernel
theorem dX5_readExpression_141 : decode cX5_readExpression 141 = .ok (.aload_n 0, 1) := by decide +kernel
theorem dX5_readExpression_142 : decode cX5_readExpression 142 = .ok (.getfield 39, 3) := by decide +kernel
theorem dX5_readExpression_145 : decode cX5_readExpression 145 = .ok (.iload_n 1, 1) := by decide +kernel
theorem dX5_readExpression_146 : decode cX5_readExpression 146 = .ok (.aload_n 0, 1) := by decide +kernel
theorem dX5_readExpression_147 : decode cX5_readExpression 147 = .ok (.getfield 144, 3) := by decide +kernel
theorem dX5_readExpression_150 : decode cX5_readExpression 150 = .ok (.iastore, 1) := by decide +kernel
theorem dX5_readExpression_151 : decode cX5_readExpression 151 = .ok (.return_, 1) := by decide +kernel
theorem dX5_readSignature_0 : decode cX5_readSignature 0 = .ok (.aload_n 0, 1) := by decide +kernel
theorem dX5_readSignature_1 : decode cX5_readSignature 1 = .ok (.getfield 30, 3) := by decide +kernel
theorem dX5_readSignature_4 : decode cX5_readSignature 4 = .ok (.iload_n 1, 1) := by decide +kernel
theorem dX5_readSignature_5 : decode cX5_readSignature 5 = .ok (.iconst 0, 1) := by decide +kernel
theorem dX5_readSignature_6 : decode cX5_readSignature 6 = .ok (.iastore, 1) := by decide +kernel
theorem dX5_readSignature_7 : decode cX5_readSignature 7 = .ok (.aload_n 0, 1) := by decide +kernel
theorem dX5_readSignature_8 : decode cX5_readSignature 8 = .ok (.bipush 40, 2) := by decide +kernel
theorem dX5_readSignature_10 : decode cX5_readSignature 10 = .ok (.invokevirtual 175, 3) := by decide +kernel
theorem dX5_readSignature_13 : decode cX5_readSignature 13 = .ok (.aload_n 0, 1) := by decide +kernel
theorem dX5_readSignature_14 : decode cX5_readSignature 14 = .ok (.getfield 116, 3) := by decide +kernel
theorem dX5_readSignature_17 : decode cX5_readSignature 17 = .ok (.ifCond .eq 70, 3) := by decide +kernel
theorem dX5_readSignature_20 : decode cX5_readSignature 20 = .ok (.aload_n 0, 1) := by decide +kernel
theorem dX5_readSignature_21 : decode cX5_readSignature 21 = .ok (.bipush 41, 2) := by decide +kernel
theorem dX5_readSignature_23 : decode cX5_readSignature 23 = .ok (.invokevirtual 127, 3) := by decide +kernel
theorem dX5_readSignature_26 : decode cX5_readSignature 26 = .ok (.ifCond .ne 61, 3) := by decide +kernel
theorem dX5_readSignature_29 : decode cX5_readSignature 29 = .ok (.aload_n 0, 1) := by decide +kernel
theorem dX5_readSignature_30 : decode cX5_readSignature 30 = .ok (.aload_n 0, 1) := by decide +kernel
theorem dX5_readSignature_31 : decode cX5_readSignature 31 = .ok (.getfield 30, 3) := by decide +kernel
theorem dX5_readSignature_34 : decode cX5_readSignature 34 = .ok (.iload_n 1, 1) := by decide +kernel
theorem dX5_readSignature_35 : decode cX5_readSignature 35 = .ok (.iaload, 1) := by decide +kernel
theorem dX5_readSignature_36 : decode cX5_readSignature 36 = .ok (.iconst 3, 1) := by decide +kernel
theorem dX5_readSignature_37 : decode cX5_readSignature 37 = .ok (.if_icmp .ge 7, 3) := by decide +kernel
theorem dX5_readSignature_40 : decode cX5_readSignature 40 = .ok (.iconst 1, 1) := by decide +kernel
theorem dX5_readSignature_41 : decode cX5_readSignature 41 = .ok (.goto 4, 3) := by decide +kernel
theorem dX5_readSignature_44 : decode cX5_readSignature 44 = .ok (.iconst 0, 1) := by decide +kernel
theorem dX5_readSignature_45 : decode cX5_readSignature 45 = .ok (.invokevirtual 131, 3) := by decide +kernel
theorem dX5_readSignature_48 : decode cX5_readSignature 48 = .ok (.aload_n 0, 1) := by decide +kernel
theorem dX5_readSignature_49 : decode cX5_readSignature 49 = .ok (.getfield 116, 3) := by decide +kernel
theorem dX5_readSignature_52 : decode cX5_readSignature 52 = .ok (.ifCond .eq 22, 3) := by decide +kernel
theorem dX5_readSignature_55 : decode cX5_readSignature 55 = .ok (.aload_n 0, 1) := by decide +kernel
theorem dX5_readSignature_56 : decode cX5_readSignature 56 = .ok (.getfield 33, 3) := by decide +kernel
theorem dX5_readSignature_59 : decode cX5_readSignature 59 = .ok (.iconst 3, 1) := by decide +kernel
theorem dX5_readSignature_60 : decode cX5_readSignature 60 = .ok (.iload_n 1, 1) := by decide +kernel
theorem dX5_readSignature_61 : decode cX5_readSignature 61 = .ok (.imul, 1) := by decide +kernel
theorem dX5_readSignature_62 : decode cX5_readSignature 62 = .ok (.aload_n 0, 1) := by decide +kernel
theorem dX5_readSignature_63 : decode cX5_readSignature 63 = .ok (.getfield 30, 3) := by decide +kernel
theorem dX5_readSignature_66 : decode cX5_readSignature 66 = .ok (.iload_n 1, 1) := by decide +kernel
theorem dX5_readSignature_67 : decode cX5_readSignature 67 = .ok (.iaload, 1) := by decide +kernel
theorem dX5_readSignature_68 : decode cX5_readSignature 68 = .ok (.iadd, 1) := by decide +kernel
theorem dX5_readSignature_69 : decode cX5_readSignature 69 = .ok (.aload_n 0, 1) := by decide +kernel
theorem dX5_readSignature_70 : decode cX5_readSignature 70 = .ok (.invokevirtual 228, 3) := by decide +kernel
theorem dX5_readSignature_73 : decode cX5_readSignature 73 = .ok (.bastore, 1) := by decide +kernel
theorem dX5_readSignature_74 : decode cX5_readSignature 74 = .ok (.aload_n 0, 1) := by decide +kernel
theorem dX5_readSignature_75 : decode cX5_readSignature 75 = .ok (.getfield 30, 3) := by decide +kernel
theorem dX5_readSignature_78 : decode cX5_readSignature 78 = .ok (.iload_n 1, 1) := by decide +kernel
theorem dX5_readSignature_79 : decode cX5_readSignature 79 = .ok (.dup2, 1) := by decide +kernel
theorem dX5_readSignature_80 : decode cX5_readSignature 80 = .ok (.iaload, 1) := by decide +kernel
theorem dX5_readSignature_81 : decode cX5_readSignature 81 = .ok (.iconst 1, 1) := by decide +kernel
theorem dX5_readSignature_82 : decode cX5_readSignature 82 = .ok (.iadd, 1) := by decide +kernel
theorem dX5_readSignature_83 : decode cX5_readSignature 83 = .ok (.iastore, 1) := by decide +kernel
theorem dX5_readSignature_84 : decode cX5_readSignature 84 = .ok (.goto (-71), 3) := by decide +kernel
theorem dX5_readSignature_87 : decode cX5_readSignature 87 = .ok (.aload_n 0, 1) := by decide +kernel
theorem dX5_readSignature_88 : decode cX5_readSignature 88 = .ok (.getfield 36, 3) := by decide +kernel
theorem dX5_readSignature_91 : decode cX5_readSignature 91 = .ok (.iload_n 1, 1) := by decide +kernel
theorem dX5_readSignature_92 : decode cX5_readSignature 92 = .ok (.aload_n 0, 1) := by decide +kernel
theorem dX5_readSignature_93 : decode cX5_readSignature 93 = .ok (.getfield 116, 3) := by decide +kernel
theorem dX5_readSignature_96 : decode cX5_readSignature 96 = .ok (.ifCond .eq 14, 3) := by decide +kernel
theorem dX5_readSignature_99 : decode cX5_readSignature 99 = .ok (.aload_n 0, 1) := by decide +kernel
theorem dX5_readSignature_100 : decode cX5_readSignature 100 = .ok (.invokevirtual 228, 3) := by decide +kernel
theorem dX5_readSignature_103 : decode cX5_readSignature 103 = .ok (.ifCond .eq 7, 3) := by decide +kernel
theorem dX5_readSignature_106 : decode cX5_readSignature 106 = .ok (.iconst 1, 1) := by decide +kernel
theorem dX5_readSignature_107 : decode cX5_readSignature 107 = .ok (.goto 4, 3) := by decide +kernel
theorem dX5_readSignature_110 : decode cX5_readSignature 110 = .ok (.iconst 0, 1) := by decide +kernel
theorem dX5_readSignature_111 : decode cX5_readSignature 111 = .ok (.bastore, 1) := by decide +kernel
theorem dX5_readSignature_112 : decode cX5_readSignature 112 = .ok (.return_, 1) := by decide +kernel
theorem dX5_readType_0 : decode cX5_readType 0 = .ok (.aload_n 0, 1) := by decide +kernel
theorem dX5_readType_1 : decode cX5_readType 1 = .ok (.bipush 80, 2) := by decide +kernel
theorem dX5_readType_3 : decode cX5_readType 3 = .ok (.invokevirtual 127, 3) := by decide +kernel
theorem dX5_readType_6 : decode cX5_readType 6 = .ok (.istore_n 1, 1) := by decide +kernel
theorem dX5_readType_7 : decode cX5_readType 7 = .ok (.iload_n 1, 1) := by decide +kernel
theorem dX5_readType_8 : decode cX5_readType 8 = .ok (.ifCond .ne 9, 3) := by decide +kernel
theorem dX5_readType_11 : decode cX5_readType 11 = .ok (.aload_n 0, 1) := by decide +kernel
theorem dX5_readType_12 : decode cX5_readType 12 = .ok (.bipush 73, 2) := by decide +kernel
theorem dX5_readType_14 : decode cX5_readType 14 = .ok (.invokevirtual 175, 3) := by decide +kernel
theorem dX5_readType_17 : decode cX5_readType 17 = .ok (.iload_n 1, 1) := by decide +kernel
theorem dX5_readType_18 : decode cX5_readType 18 = .ok (.ireturn, 1) := by decide +kernel
theorem dX5_readItem_0 : decode cX5_readItem 0 = .ok (.bipush 36, 2) := by decide +kernel
theorem dX5_readItem_2 : decode cX5_readItem 2 = .ok (.iload_n 1, 1) := by decide +kernel
theorem dX5_readItem_3 : decode cX5_readItem 3 = .ok (.iadd, 1) := by decide +kernel
theorem dX5_readItem_4 : decode cX5_readItem 4 = .ok (.istore_n 2, 1) := by decide +kernel
theorem dX5_readItem_5 : decode cX5_readItem 5 = .ok (.aload_n 0, 1) := by decide +kernel
theorem dX5_readItem_6 : decode cX5_readItem 6 = .ok (.bipush 63, 2) := by decide +kernel
theorem dX5_readItem_8 : decode cX5_readItem 8 = .ok (.invokevirtual 127, 3) := by decide +kernel
theorem dX5_readItem_11 : decode cX5_readItem 11 = .ok (.istore_n 3, 1) := by decide +kernel
theorem dX5_readItem_12 : decode cX5_readItem 12 = .ok (.iload_n 3, 1) := by decide +kernel
theorem dX5_readItem_13 : decode cX5_readItem 13 = .ok (.ifCond .eq 14, 3) := by decide +kernel
theorem dX5_readItem_16 : decode cX5_readItem 16 = .ok (.aload_n 0, 1) := by decide +kernel
theorem dX5_readItem_17 : decode cX5_readItem 17 = .ok (.bipush 65, 2) := by decide +kernel
theorem dX5_readItem_19 : decode cX5_readItem 19 = .ok (.bipush 70, 2) := by decide +kernel
theorem dX5_readItem_21 : decode cX5_readItem 21 = .ok (.invokevirtual 165, 3) := by decide +kernel
theorem dX5_readItem_24 : decode cX5_readItem 24 = .ok (.goto 4, 3) := by decide +kernel
theorem dX5_readItem_27 : decode cX5_readItem 27 = .ok (.iconst (-1), 1) := by decide +kernel
end
section
theorem dX5_readItem_28 : decode cX5_readItem 28 = .ok (.istore 4, 2) := by decide +kernel
theorem dX5_readItem_30 : decode cX5_readItem 30 = .ok (.iload_n 3, 1) := by decide +kernel
theorem dX5_readItem_31 : decode cX5_readItem 31 = .ok (.ifCond .eq 9, 3) := by decide +kernel
theorem dX5_readItem_34 : decode cX5_readItem 34 = .ok (.aload_n 0, 1) := by decide +kernel
theorem dX5_readItem_35 : decode cX5_readItem 35 = .ok (.bipush 46, 2) := by decide +kernel
theorem dX5_readItem_37 : decode cX5_readItem 37 = .ok (.invokevirtual 175, 3) := by decide +kernel
theorem dX5_readItem_40 : decode cX5_readItem 40 = .ok (.iload_n 3, 1) := by decide +kernel
theorem dX5_readItem_41 : decode cX5_readItem 41 = .ok (.ifCond .ne 16, 3) := by decide +kernel
theorem dX5_readItem_44 : decode cX5_readItem 44 = .ok (.aload_n 0, 1) := by decide +kernel
theorem dX5_readItem_45 : decode cX5_readItem 45 = .ok (.bipush 43, 2) := by decide +kernel
theorem dX5_readItem_47 : decode cX5_readItem 47 = .ok (.invokevirtual 127, 3) := by decide +kernel
theorem dX5_readItem_50 : decode cX5_readItem 50 = .ok (.ifCond .eq 7, 3) := by decide +kernel
theorem dX5_readItem_53 : decode cX5_readItem 53 = .ok (.iconst 1, 1) := by decide +kernel
theorem dX5_readItem_54 : decode cX5_readItem 54 = .ok (.goto 4, 3) := by decide +kernel
theorem dX5_readItem_57 : decode cX5_readItem 57 = .ok (.iconst 0, 1) := by decide +kernel
theorem dX5_readItem_58 : decode cX5_readItem 58 = .ok (.istore 5, 2) := by decide +kernel
theorem dX5_readItem_60 : decode cX5_readItem 60 = .ok (.aload_n 0, 1) := by decide +kernel
theorem dX5_readItem_61 : decode cX5_readItem 61 = .ok (.bipush 97, 2) := by decide +kernel
theorem dX5_readItem_63 : decode cX5_readItem 63 = .ok (.bipush 122, 2) := by decide +kernel
theorem dX5_readItem_65 : decode cX5_readItem 65 = .ok (.invokevirtual 165, 3) := by decide +kernel
theorem dX5_readItem_68 : decode cX5_readItem 68 = .ok (.istore 6, 2) := by decide +kernel
theorem dX5_readItem_70 : decode cX5_readItem 70 = .ok (.aload_n 0, 1) := by decide +kernel
theorem dX5_readItem_71 : decode cX5_readItem 71 = .ok (.getfield 135, 3) := by decide +kernel
theorem dX5_readItem_74 : decode cX5_readItem 74 = .ok (.ifCond .eq 57, 3) := by decide +kernel
theorem dX5_readItem_77 : decode cX5_readItem 77 = .ok (.aload_n 0, 1) := by decide +kernel
theorem dX5_readItem_78 : decode cX5_readItem 78 = .ok (.aload_n 0, 1) := by decide +kernel
theorem dX5_readItem_79 : decode cX5_readItem 79 = .ok (.getfield 116, 3) := by decide +kernel
theorem dX5_readItem_82 : decode cX5_readItem 82 = .ok (.ifCond .eq 21, 3) := by decide +kernel
theorem dX5_readItem_85 : decode cX5_readItem 85 = .ok (.aload_n 0, 1) := by decide +kernel
theorem dX5_readItem_86 : decode cX5_readItem 86 = .ok (.bipush 6, 2) := by decide +kernel
theorem dX5_readItem_88 : decode cX5_readItem 88 = .ok (.iload 6, 2) := by decide +kernel
theorem dX5_readItem_90 : decode cX5_readItem 90 = .ok (.iload 4, 2) := by decide +kernel
theorem dX5_readItem_92 : decode cX5_readItem 92 = .ok (.invokevirtual 183, 3) := by decide +kernel
theorem dX5_readItem_95 : decode cX5_readItem 95 = .ok (.iconst (-1), 1) := by decide +kernel
theorem dX5_readItem_96 : decode cX5_readItem 96 = .ok (.if_icmp .ne 7, 3) := by decide +kernel
theorem dX5_readItem_99 : decode cX5_readItem 99 = .ok (.iconst 1, 1) := by decide +kernel
theorem dX5_readItem_100 : decode cX5_readItem 100 = .ok (.goto 4, 3) := by decide +kernel
theorem dX5_readItem_103 : decode cX5_readItem 103 = .ok (.iconst 0, 1) := by decide +kernel
theorem dX5_readItem_104 : decode cX5_readItem 104 = .ok (.invokevirtual 131, 3) := by decide +kernel
theorem dX5_readItem_107 : decode cX5_readItem 107 = .ok (.aload_n 0, 1) := by decide +kernel
theorem dX5_readItem_108 : decode cX5_readItem 108 = .ok (.getfield 21, 3) := by decide +kernel
theorem dX5_readItem_111 : decode cX5_readItem 111 = .ok (.iload_n 2, 1) := by decide +kernel
theorem dX5_readItem_112 : decode cX5_readItem 112 = .ok (.iload 6, 2) := by decide +kernel
theorem dX5_readItem_114 : decode cX5_readItem 114 = .ok (.iastore, 1) := by decide +kernel
theorem dX5_readItem_115 : decode cX5_readItem 115 = .ok (.aload_n 0, 1) := by decide +kernel
theorem dX5_readItem_116 : decode cX5_readItem 116 = .ok (.getfield 24, 3) := by decide +kernel
theorem dX5_readItem_119 : decode cX5_readItem 119 = .ok (.iload_n 2, 1) := by decide +kernel
theorem dX5_readItem_120 : decode cX5_readItem 120 = .ok (.iload 4, 2) := by decide +kernel
theorem dX5_readItem_122 : decode cX5_readItem 122 = .ok (.iastore, 1) := by decide +kernel
theorem dX5_readItem_123 : decode cX5_readItem 123 = .ok (.aload_n 0, 1) := by decide +kernel
theorem dX5_readItem_124 : decode cX5_readItem 124 = .ok (.getfield 27, 3) := by decide +kernel
theorem dX5_readItem_127 : decode cX5_readItem 127 = .ok (.iload_n 2, 1) := by decide +kernel
theorem dX5_readItem_128 : decode cX5_readItem 128 = .ok (.iload 5, 2) := by decide +kernel
theorem dX5_readItem_130 : decode cX5_readItem 130 = .ok (.bastore, 1) := by decide +kernel
theorem dX5_readItem_131 : decode cX5_readItem 131 = .ok (.aload_n 0, 1) := by decide +kernel
theorem dX5_readItem_132 : decode cX5_readItem 132 = .ok (.getfield 116, 3) := by decide +kernel
theorem dX5_readItem_135 : decode cX5_readItem 135 = .ok (.ifCond .eq 8, 3) := by decide +kernel
theorem dX5_readItem_138 : decode cX5_readItem 138 = .ok (.aload_n 0, 1) := by decide +kernel
theorem dX5_readItem_139 : decode cX5_readItem 139 = .ok (.iload_n 2, 1) := by decide +kernel
theorem dX5_readItem_140 : decode cX5_readItem 140 = .ok (.invokevirtual 231, 3) := by decide +kernel
theorem dX5_readItem_143 : decode cX5_readItem 143 = .ok (.aload_n 0, 1) := by decide +kernel
theorem dX5_readItem_144 : decode cX5_readItem 144 = .ok (.getfield 135, 3) := by decide +kernel
theorem dX5_readItem_147 : decode cX5_readItem 147 = .ok (.ifCond .eq 13, 3) := by decide +kernel
theorem dX5_readItem_150 : decode cX5_readItem 150 = .ok (.aload_n 0, 1) := by decide +kernel
theorem dX5_readItem_151 : decode cX5_readItem 151 = .ok (.getfield 17, 3) := by decide +kernel
theorem dX5_readItem_154 : decode cX5_readItem 154 = .ok (.bipush 6, 2) := by decide +kernel
theorem dX5_readItem_156 : decode cX5_readItem 156 = .ok (.iload_n 1, 1) := by decide +kernel
theorem dX5_readItem_157 : decode cX5_readItem 157 = .ok (.iconst 1, 1) := by decide +kernel
theorem dX5_readItem_158 : decode cX5_readItem 158 = .ok (.iadd, 1) := by decide +kernel
theorem dX5_readItem_159 : decode cX5_readItem 159 = .ok (.iastore, 1) := by decide +kernel
theorem dX5_readItem_160 : decode cX5_readItem 160 = .ok (.iload_n 3, 1) := by decide +kernel
theorem dX5_readItem_161 : decode cX5_readItem 161 = .ok (.ifCond .ne 10, 3) := by decide +kernel
theorem dX5_readItem_164 : decode cX5_readItem 164 = .ok (.aload_n 0, 1) := by decide +kernel
theorem dX5_readItem_165 : decode cX5_readItem 165 = .ok (.getfield 116, 3) := by decide +kernel
theorem dX5_readItem_168 : decode cX5_readItem 168 = .ok (.ifCond .ne 4, 3) := by decide +kernel
theorem dX5_readItem_171 : decode cX5_readItem 171 = .ok (.return_, 1) := by decide +kernel
theorem dX5_readItem_172 : decode cX5_readItem 172 = .ok (.aload_n 0, 1) := by decide +kernel
theorem dX5_readItem_173 : decode cX5_readItem 173 = .ok (.bipush 61, 2) := by decide +kernel
theorem dX5_readItem_175 : decode cX5_readItem 175 = .ok (.invokevirtual 175, 3) := by decide +kernel
theorem dX5_readItem_178 : decode cX5_readItem 178 = .ok (.aload_n 0, 1) := by decide +kernel
theorem dX5_readItem_179 : decode cX5_readItem 179 = .ok (.getfield 116, 3) := by decide +kernel
theorem dX5_readItem_182 : decode cX5_readItem 182 = .ok (.ifCond .eq 8, 3) := by decide +kernel
theorem dX5_readItem_185 : decode cX5_readItem 185 = .ok (.aload_n 0, 1) := by decide +kernel
theorem dX5_readItem_186 : decode cX5_readItem 186 = .ok (.iload_n 2, 1) := by decide +kernel
theorem dX5_readItem_187 : decode cX5_readItem 187 = .ok (.invokevirtual 234, 3) := by decide +kernel
theorem dX5_readItem_190 : decode cX5_readItem 190 = .ok (.return_, 1) := by decide +kernel
theorem dX5_readItems_0 : decode cX5_readItems 0 = .ok (.aload_n 0, 1) := by decide +kernel
theorem dX5_readItems_1 : decode cX5_readItems 1 = .ok (.iload_n 1, 1) := by decide +kernel
theorem dX5_readItems_2 : decode cX5_readItems 2 = .ok (.putfield 135, 3) := by decide +kernel
theorem dX5_readItems_5 : decode cX5_readItems 5 = .ok (.aload_n 0, 1) := by decide +kernel
theorem dX5_readItems_6 : decode cX5_readItems 6 = .ok (.iconst 0, 1) := by decide +kernel
theorem dX5_readItems_7 : decode cX5_readItems 7 = .ok (.putfield 138, 3) := by decide +kernel
theorem dX5_readItems_10 : decode cX5_readItems 10 = .ok (.aload_n 0, 1) := by decide +kernel
theorem dX5_readItems_11 : decode cX5_readItems 11 = .ok (.iconst 1, 1) := by decide +kernel
theorem dX5_readItems_12 : decode cX5_readItems 12 = .ok (.putfield 113, 3) := by decide +kernel
theorem dX5_readItems_15 : decode cX5_readItems 15 = .ok (.iconst 0, 1) := by decide +kernel
theorem dX5_readItems_16 : decode cX5_readItems 16 = .ok (.istore_n 2, 1) := by decide +kernel
theorem dX5_readItems_17 : decode cX5_readItems 17 = .ok (.aload_n 0, 1) := by decide +kernel
theorem dX5_readItems_18 : decode cX5_readItems 18 = .ok (.getfield 116, 3) := by decide +kernel
theorem dX5_readItems_21 : decode cX5_readItems 21 = .ok (.ifCond .eq 45, 3) := by decide +kernel
theorem dX5_readItems_24 : decode cX5_readItems 24 = .ok (.aload_n 0, 1) := by decide +kernel
theorem dX5_readItems_25 : decode cX5_readItems 25 = .ok (.bipush 59, 2) := by decide +kernel
theorem dX5_readItems_27 : decode cX5_readItems 27 = .ok (.invokevirtual 127, 3) := by decide +kernel
theorem dX5_readItems_30 : decode cX5_readItems 30 = .ok (.ifCond .eq 36, 3) := by decide +kernel
theorem dX5_readItems_33 : decode cX5_readItems 33 = .ok (.aload_n 0, 1) := by decide +kernel
theorem dX5_readItems_34 : decode cX5_readItems 34 = .ok (.iload_n 2, 1) := by decide +kernel
theorem dX5_readItems_35 : decode cX5_readItems 35 = .ok (.bipush 6, 2) := by decide +kernel
theorem dX5_readItems_37 : decode cX5_readItems 37 = .ok (.if_icmp .ge 7, 3) := by decide +kernel
theorem dX5_readItems_40 : decode cX5_readItems 40 = .ok (.iconst 1, 1) := by decide +kernel
theorem dX5_readItems_41 : decode cX5_readItems 41 = .ok (.goto 4, 3) := by decide +kernel
theorem dX5_readItems_44 : decode cX5_readItems 44 = .ok (.iconst 0, 1) := by decide +kernel
theorem dX5_readItems_45 : decode cX5_readItems 45 = .ok (.invokevirtual 131, 3) := by decide +kernel
theorem dX5_readItems_48 : decode cX5_readItems 48 = .ok (.aload_n 0, 1) := by decide +kernel
theorem dX5_readItems_49 : decode cX5_readItems 49 = .ok (.getfield 116, 3) := by decide +kernel
theorem dX5_readItems_52 : decode cX5_readItems 52 = .ok (.ifCond .eq 8, 3) := by decide +kernel
theorem dX5_readItems_55 : decode cX5_readItems 55 = .ok (.aload_n 0, 1) := by decide +kernel
theorem dX5_readItems_56 : decode cX5_readItems 56 = .ok (.iload_n 2, 1) := by decide +kernel
theorem dX5_readItems_57 : decode cX5_readItems 57 = .ok (.invokevirtual 237, 3) := by decide +kernel
theorem dX5_readItems_60 : decode cX5_readItems 60 = .ok (.iinc 2 1, 3) := by decide +kernel
theorem dX5_readItems_63 : decode cX5_readItems 63 = .ok (.goto (-46), 3) := by decide +kernel
theorem dX5_readItems_66 : decode cX5_readItems 66 = .ok (.aload_n 0, 1) := by decide +kernel
theorem dX5_readItems_67 : decode cX5_readItems 67 = .ok (.iload_n 2, 1) := by decide +kernel
theorem dX5_readItems_68 : decode cX5_readItems 68 = .ok (.ifCond .le 18, 3) := by decide +kernel
theorem dX5_readItems_71 : decode cX5_readItems 71 = .ok (.aload_n 0, 1) := by decide +kernel
theorem dX5_readItems_72 : decode cX5_readItems 72 = .ok (.getfield 113, 3) := by decide +kernel
theorem dX5_readItems_75 : decode cX5_readItems 75 = .ok (.aload_n 0, 1) := by decide +kernel
theorem dX5_readItems_76 : decode cX5_readItems 76 = .ok (.getfield 110, 3) := by decide +kernel
theorem dX5_readItems_79 : decode cX5_readItems 79 = .ok (.if_icmp .ne 7, 3) := by decide +kernel
theorem dX5_readItems_82 : decode cX5_readItems 82 = .ok (.iconst 1, 1) := by decide +kernel
theorem dX5_readItems_83 : decode cX5_readItems 83 = .ok (.goto 4, 3) := by decide +kernel
theorem dX5_readItems_86 : decode cX5_readItems 86 = .ok (.iconst 0, 1) := by decide +kernel
theorem dX5_readItems_87 : decode cX5_readItems 87 = .ok (.invokevirtual 131, 3) := by decide +kernel
theorem dX5_readItems_90 : decode cX5_readItems 90 = .ok (.return_, 1) := by decide +kernel
theorem dX5_accept_0 : decode cX5_accept 0 = .ok (.aload_n 0, 1) := by decide +kernel
theorem dX5_accept_1 : decode cX5_accept 1 = .ok (.getfield 13, 3) := by decide +kernel
theorem dX5_accept_4 : decode cX5_accept 4 = .ok (.iload_n 1, 1) := by decide +kernel
theorem dX5_accept_5 : decode cX5_accept 5 = .ok (.iconst 1, 1) := by decide +kernel
theorem dX5_accept_6 : decode cX5_accept 6 = .ok (.bastore, 1) := by decide +kernel
theorem dX5_accept_7 : decode cX5_accept 7 = .ok (.aload_n 0, 1) := by decide +kernel
theorem dX5_accept_8 : decode cX5_accept 8 = .ok (.getfield 17, 3) := by decide +kernel
theorem dX5_accept_11 : decode cX5_accept 11 = .ok (.iload_n 1, 1) := by decide +kernel
theorem dX5_accept_12 : decode cX5_accept 12 = .ok (.aload_n 0, 1) := by decide +kernel
theorem dX5_accept_13 : decode cX5_accept 13 = .ok (.getfield 17, 3) := by decide +kernel
theorem dX5_accept_16 : decode cX5_accept 16 = .ok (.bipush 6, 2) := by decide +kernel
theorem dX5_accept_18 : decode cX5_accept 18 = .ok (.iaload, 1) := by decide +kernel
theorem dX5_accept_19 : decode cX5_accept 19 = .ok (.iastore, 1) := by decide +kernel
theorem dX5_accept_20 : decode cX5_accept 20 = .ok (.iconst 0, 1) := by decide +kernel
theorem dX5_accept_21 : decode cX5_accept 21 = .ok (.istore_n 2, 1) := by decide +kernel
theorem dX5_accept_22 : decode cX5_accept 22 = .ok (.iload_n 2, 1) := by decide +kernel
theorem dX5_accept_23 : decode cX5_accept 23 = .ok (.bipush 6, 2) := by decide +kernel
theorem dX5_accept_25 : decode cX5_accept 25 = .ok (.if_icmp .ge 151, 3) := by decide +kernel
theorem dX5_accept_28 : decode cX5_accept 28 = .ok (.bipush 36, 2) := by decide +kernel
theorem dX5_accept_30 : decode cX5_accept 30 = .ok (.iload_n 2, 1) := by decide +kernel
theorem dX5_accept_31 : decode cX5_accept 31 = .ok (.iadd, 1) := by decide +kernel
theorem dX5_accept_32 : decode cX5_accept 32 = .ok (.istore_n 3, 1) := by decide +kernel
theorem dX5_accept_33 : decode cX5_accept 33 = .ok (.bipush 6, 2) := by decide +kernel
theorem dX5_accept_35 : decode cX5_accept 35 = .ok (.iload_n 1, 1) := by decide +kernel
theorem dX5_accept_36 : decode cX5_accept 36 = .ok (.imul, 1) := by decide +kernel
theorem dX5_accept_37 : decode cX5_accept 37 = .ok (.iload_n 2, 1) := by decide +kernel
theorem dX5_accept_38 : decode cX5_accept 38 = .ok (.iadd, 1) := by decide +kernel
theorem dX5_accept_39 : decode cX5_accept 39 = .ok (.istore 4, 2) := by decide +kernel
theorem dX5_accept_41 : decode cX5_accept 41 = .ok (.aload_n 0, 1) := by decide +kernel
theorem dX5_accept_42 : decode cX5_accept 42 = .ok (.getfield 21, 3) := by decide +kernel
theorem dX5_accept_45 : decode cX5_accept 45 = .ok (.iload 4, 2) := by decide +kernel
theorem dX5_accept_47 : decode cX5_accept 47 = .ok (.aload_n 0, 1) := by decide +kernel
theorem dX5_accept_48 : decode cX5_accept 48 = .ok (.getfield 21, 3) := by decide +kernel
theorem dX5_accept_51 : decode cX5_accept 51 = .ok (.iload_n 3, 1) := by decide +kernel
theorem dX5_accept_52 : decode cX5_accept 52 = .ok (.iaload, 1) := by decide +kernel
theorem dX5_accept_53 : decode cX5_accept 53 = .ok (.iastore, 1) := by decide +kernel
theorem dX5_accept_54 : decode cX5_accept 54 = .ok (.aload_n 0, 1) := by decide +kernel
theorem dX5_accept_55 : decode cX5_accept 55 = .ok (.getfield 24, 3) := by decide +kernel
theorem dX5_accept_58 : decode cX5_accept 58 = .ok (.iload 4, 2) := by decide +kernel
theorem dX5_accept_60 : decode cX5_accept 60 = .ok (.aload_n 0, 1) := by decide +kernel
theorem dX5_accept_61 : decode cX5_accept 61 = .ok (.getfield 24, 3) := by decide +kernel
theorem dX5_accept_64 : decode cX5_accept 64 = .ok (.iload_n 3, 1) := by decide +kernel
theorem dX5_accept_65 : decode cX5_accept 65 = .ok (.iaload, 1) := by decide +kernel
theorem dX5_accept_66 : decode cX5_accept 66 = .ok (.iastore, 1) := by decide +kernel
theorem dX5_accept_67 : decode cX5_accept 67 = .ok (.aload_n 0, 1) := by decide +kernel
theorem dX5_accept_68 : decode cX5_accept 68 = .ok (.getfield 27, 3) := by decide +kernel
theorem dX5_accept_71 : decode cX5_accept 71 = .ok (.iload 4, 2) := by decide +kernel
theorem dX5_accept_73 : decode cX5_accept 73 = .ok (.aload_n 0, 1) := by decide +kernel
theorem dX5_accept_74 : decode cX5_accept 74 = .ok (.getfield 27, 3) := by decide +kernel
theorem dX5_accept_77 : decode cX5_accept 77 = .ok (.iload_n 3, 1) := by decide +kernel
theorem dX5_accept_78 : decode cX5_accept 78 = .ok (.baload, 1) := by decide +kernel
theorem dX5_accept_79 : decode cX5_accept 79 = .ok (.bastore, 1) := by decide +kernel
theorem dX5_accept_80 : decode cX5_accept 80 = .ok (.aload_n 0, 1) := by decide +kernel
theorem dX5_accept_81 : decode cX5_accept 81 = .ok (.getfield 30, 3) := by decide +kernel
theorem dX5_accept_84 : decode cX5_accept 84 = .ok (.iload 4, 2) := by decide +kernel
theorem dX5_accept_86 : decode cX5_accept 86 = .ok (.aload_n 0, 1) := by decide +kernel
theorem dX5_accept_87 : decode cX5_accept 87 = .ok (.getfield 30, 3) := by decide +kernel
theorem dX5_accept_90 : decode cX5_accept 90 = .ok (.iload_n 3, 1) := by decide +kernel
theorem dX5_accept_91 : decode cX5_accept 91 = .ok (.iaload, 1) := by decide +kernel
theorem dX5_accept_92 : decode cX5_accept 92 = .ok (.iastore, 1) := by decide +kernel
theorem dX5_accept_93 : decode cX5_accept 93 = .ok (.aload_n 0, 1) := by decide +kernel
theorem dX5_accept_94 : decode cX5_accept 94 = .ok (.getfield 36, 3) := by decide +kernel
theorem dX5_accept_97 : decode cX5_accept 97 = .ok (.iload 4, 2) := by decide +kernel
theorem dX5_accept_99 : decode cX5_accept 99 = .ok (.aload_n 0, 1) := by decide +kernel
theorem dX5_accept_100 : decode cX5_accept 100 = .ok (.getfield 36, 3) := by decide +kernel
theorem dX5_accept_103 : decode cX5_accept 103 = .ok (.iload_n 3, 1) := by decide +kernel
theorem dX5_accept_104 : decode cX5_accept 104 = .ok (.baload, 1) := by decide +kernel
theorem dX5_accept_105 : decode cX5_accept 105 = .ok (.bastore, 1) := by decide +kernel
theorem dX5_accept_106 : decode cX5_accept 106 = .ok (.aload_n 0, 1) := by decide +kernel
theorem dX5_accept_107 : decode cX5_accept 107 = .ok (.getfield 39, 3) := by decide +kernel
theorem dX5_accept_110 : decode cX5_accept 110 = .ok (.iload 4, 2) := by decide +kernel
theorem dX5_accept_112 : decode cX5_accept 112 = .ok (.aload_n 0, 1) := by decide +kernel
theorem dX5_accept_113 : decode cX5_accept 113 = .ok (.getfield 39, 3) := by decide +kernel
theorem dX5_accept_116 : decode cX5_accept 116 = .ok (.iload_n 3, 1) := by decide +kernel
theorem dX5_accept_117 : decode cX5_accept 117 = .ok (.iaload, 1) := by decide +kernel
theorem dX5_accept_118 : decode cX5_accept 118 = .ok (.iastore, 1) := by decide +kernel
theorem dX5_accept_119 : decode cX5_accept 119 = .ok (.aload_n 0, 1) := by decide +kernel
theorem dX5_accept_120 : decode cX5_accept 120 = .ok (.getfield 42, 3) := by decide +kernel
theorem dX5_accept_123 : decode cX5_accept 123 = .ok (.iload 4, 2) := by decide +kernel
theorem dX5_accept_125 : decode cX5_accept 125 = .ok (.aload_n 0, 1) := by decide +kernel
theorem dX5_accept_126 : decode cX5_accept 126 = .ok (.getfield 42, 3) := by decide +kernel
theorem dX5_accept_129 : decode cX5_accept 129 = .ok (.iload_n 3, 1) := by decide +kernel
theorem dX5_accept_130 : decode cX5_accept 130 = .ok (.iaload, 1) := by decide +kernel
theorem dX5_accept_131 : decode cX5_accept 131 = .ok (.iastore, 1) := by decide +kernel
theorem dX5_accept_132 : decode cX5_accept 132 = .ok (.iconst 0, 1) := by decide +kernel
theorem dX5_accept_133 : decode cX5_accept 133 = .ok (.istore 5, 2) := by decide +kernel
theorem dX5_accept_135 : decode cX5_accept 135 = .ok (.iload 5, 2) := by decide +kernel
theorem dX5_accept_137 : decode cX5_accept 137 = .ok (.iconst 3, 1) := by decide +kernel
theorem dX5_accept_138 : decode cX5_accept 138 = .ok (.if_icmp .ge 32, 3) := by decide +kernel
theorem dX5_accept_141 : decode cX5_accept 141 = .ok (.aload_n 0, 1) := by decide +kernel
theorem dX5_accept_142 : decode cX5_accept 142 = .ok (.getfield 33, 3) := by decide +kernel
theorem dX5_accept_145 : decode cX5_accept 145 = .ok (.iconst 3, 1) := by decide +kernel
theorem dX5_accept_146 : decode cX5_accept 146 = .ok (.iload 4, 2) := by decide +kernel
theorem dX5_accept_148 : decode cX5_accept 148 = .ok (.imul, 1) := by decide +kernel
theorem dX5_accept_149 : decode cX5_accept 149 = .ok (.iload 5, 2) := by decide +kernel
theorem dX5_accept_151 : decode cX5_accept 151 = .ok (.iadd, 1) := by decide +kernel
theorem dX5_accept_152 : decode cX5_accept 152 = .ok (.aload_n 0, 1) := by decide +kernel
theorem dX5_accept_153 : decode cX5_accept 153 = .ok (.getfield 33, 3) := by decide +kernel
theorem dX5_accept_156 : decode cX5_accept 156 = .ok (.iconst 3, 1) := by decide +kernel
theorem dX5_accept_157 : decode cX5_accept 157 = .ok (.iload_n 3, 1) := by decide +kernel
theorem dX5_accept_158 : decode cX5_accept 158 = .ok (.imul, 1) := by decide +kernel
theorem dX5_accept_159 : decode cX5_accept 159 = .ok (.iload 5, 2) := by decide +kernel
theorem dX5_accept_161 : decode cX5_accept 161 = .ok (.iadd, 1) := by decide +kernel
theorem dX5_accept_162 : decode cX5_accept 162 = .ok (.baload, 1) := by decide +kernel
theorem dX5_accept_163 : decode cX5_accept 163 = .ok (.bastore, 1) := by decide +kernel
theorem dX5_accept_164 : decode cX5_accept 164 = .ok (.iinc 5 1, 3) := by decide +kernel
theorem dX5_accept_167 : decode cX5_accept 167 = .ok (.goto (-32), 3) := by decide +kernel
theorem dX5_accept_170 : decode cX5_accept 170 = .ok (.iinc 2 1, 3) := by decide +kernel
theorem dX5_accept_173 : decode cX5_accept 173 = .ok (.goto (-151), 3) := by decide +kernel
theorem dX5_accept_176 : decode cX5_accept 176 = .ok (.iconst 0, 1) := by decide +kernel
theorem dX5_accept_177 : decode cX5_accept 177 = .ok (.istore_n 2, 1) := by decide +kernel
theorem dX5_accept_178 : decode cX5_accept 178 = .ok (.iload_n 2, 1) := by decide +kernel
theorem dX5_accept_179 : decode cX5_accept 179 = .ok (.aload_n 0, 1) := by decide +kernel
theorem dX5_accept_180 : decode cX5_accept 180 = .ok (.getfield 138, 3) := by decide +kernel
theorem dX5_accept_183 : decode cX5_accept 183 = .ok (.if_icmp .ge 75, 3) := by decide +kernel
theorem dX5_accept_186 : decode cX5_accept 186 = .ok (.aload_n 0, 1) := by decide +kernel
theorem dX5_accept_187 : decode cX5_accept 187 = .ok (.getfield 45, 3) := by decide +kernel
theorem dX5_accept_190 : decode cX5_accept 190 = .ok (.sipush 130, 3) := by decide +kernel
theorem dX5_accept_193 : decode cX5_accept 193 = .ok (.iload_n 1, 1) := by decide +kernel
theorem dX5_accept_194 : decode cX5_accept 194 = .ok (.imul, 1) := by decide +kernel
theorem dX5_accept_195 : decode cX5_accept 195 = .ok (.iload_n 2, 1) := by decide +kernel
theorem dX5_accept_196 : decode cX5_accept 196 = .ok (.iadd, 1) := by decide +kernel
theorem dX5_accept_197 : decode cX5_accept 197 = .ok (.aload_n 0, 1) := by decide +kernel
theorem dX5_accept_198 : decode cX5_accept 198 = .ok (.getfield 45, 3) := by decide +kernel
theorem dX5_accept_201 : decode cX5_accept 201 = .ok (.sipush 780, 3) := by decide +kernel
theorem dX5_accept_204 : decode cX5_accept 204 = .ok (.iload_n 2, 1) := by decide +kernel
theorem dX5_accept_205 : decode cX5_accept 205 = .ok (.iadd, 1) := by decide +kernel
theorem dX5_accept_206 : decode cX5_accept 206 = .ok (.iaload, 1) := by decide +kernel
theorem dX5_accept_207 : decode cX5_accept 207 = .ok (.iastore, 1) := by decide +kernel
theorem dX5_accept_208 : decode cX5_accept 208 = .ok (.aload_n 0, 1) := by decide +kernel
theorem dX5_accept_209 : decode cX5_accept 209 = .ok (.getfield 48, 3) := by decide +kernel
theorem dX5_accept_212 : decode cX5_accept 212 = .ok (.sipush 130, 3) := by decide +kernel
theorem dX5_accept_215 : decode cX5_accept 215 = .ok (.iload_n 1, 1) := by decide +kernel
theorem dX5_accept_216 : decode cX5_accept 216 = .ok (.imul, 1) := by decide +kernel
theorem dX5_accept_217 : decode cX5_accept 217 = .ok (.iload_n 2, 1) := by decide +kernel
theorem dX5_accept_218 : decode cX5_accept 218 = .ok (.iadd, 1) := by decide +kernel
theorem dX5_accept_219 : decode cX5_accept 219 = .ok (.aload_n 0, 1) := by decide +kernel
theorem dX5_accept_220 : decode cX5_accept 220 = .ok (.getfield 48, 3) := by decide +kernel
theorem dX5_accept_223 : decode cX5_accept 223 = .ok (.sipush 780, 3) := by decide +kernel
theorem dX5_accept_226 : decode cX5_accept 226 = .ok (.iload_n 2, 1) := by decide +kernel
theorem dX5_accept_227 : decode cX5_accept 227 = .ok (.iadd, 1) := by decide +kernel
theorem dX5_accept_228 : decode cX5_accept 228 = .ok (.iaload, 1) := by decide +kernel
theorem dX5_accept_229 : decode cX5_accept 229 = .ok (.iastore, 1) := by decide +kernel
theorem dX5_accept_230 : decode cX5_accept 230 = .ok (.aload_n 0, 1) := by decide +kernel
theorem dX5_accept_231 : decode cX5_accept 231 = .ok (.getfield 51, 3) := by decide +kernel
theorem dX5_accept_234 : decode cX5_accept 234 = .ok (.sipush 130, 3) := by decide +kernel
theorem dX5_accept_237 : decode cX5_accept 237 = .ok (.iload_n 1, 1) := by decide +kernel
theorem dX5_accept_238 : decode cX5_accept 238 = .ok (.imul, 1) := by decide +kernel
theorem dX5_accept_239 : decode cX5_accept 239 = .ok (.iload_n 2, 1) := by decide +kernel
theorem dX5_accept_240 : decode cX5_accept 240 = .ok (.iadd, 1) := by decide +kernel
theorem dX5_accept_241 : decode cX5_accept 241 = .ok (.aload_n 0, 1) := by decide +kernel
theorem dX5_accept_242 : decode cX5_accept 242 = .ok (.getfield 51, 3) := by decide +kernel
theorem dX5_accept_245 : decode cX5_accept 245 = .ok (.sipush 780, 3) := by decide +kernel
theorem dX5_accept_248 : decode cX5_accept 248 = .ok (.iload_n 2, 1) := by decide +kernel
theorem dX5_accept_249 : decode cX5_accept 249 = .ok (.iadd, 1) := by decide +kernel
theorem dX5_accept_250 : decode cX5_accept 250 = .ok (.iaload, 1) := by decide +kernel
theorem dX5_accept_251 : decode cX5_accept 251 = .ok (.iastore, 1) := by decide +kernel
theorem dX5_accept_252 : decode cX5_accept 252 = .ok (.iinc 2 1, 3) := by decide +kernel
theorem dX5_accept_255 : decode cX5_accept 255 = .ok (.goto (-77), 3) := by decide +kernel
theorem dX5_accept_258 : decode cX5_accept 258 = .ok (.return_, 1) := by decide +kernel
theorem dX5_module_0 : decode cX5_module 0 = .ok (.aload_n 0, 1) := by decide +kernel
theorem dX5_module_1 : decode cX5_module 1 = .ok (.iconst 1, 1) := by decide +kernel
theorem dX5_module_2 : decode cX5_module 2 = .ok (.putfield 116, 3) := by decide +kernel
theorem dX5_module_5 : decode cX5_module 5 = .ok (.aload_n 0, 1) := by decide +kernel
theorem dX5_module_6 : decode cX5_module 6 = .ok (.iconst 0, 1) := by decide +kernel
theorem dX5_module_7 : decode cX5_module 7 = .ok (.putfield 113, 3) := by decide +kernel
theorem dX5_module_10 : decode cX5_module 10 = .ok (.aload_n 0, 1) := by decide +kernel
theorem dX5_module_11 : decode cX5_module 11 = .ok (.getfield 17, 3) := by decide +kernel
theorem dX5_module_14 : decode cX5_module 14 = .ok (.bipush 6, 2) := by decide +kernel
theorem dX5_module_16 : decode cX5_module 16 = .ok (.iconst 0, 1) := by decide +kernel
theorem dX5_module_17 : decode cX5_module 17 = .ok (.iastore, 1) := by decide +kernel
theorem dX5_module_18 : decode cX5_module 18 = .ok (.aload_n 0, 1) := by decide +kernel
theorem dX5_module_19 : decode cX5_module 19 = .ok (.bipush 65, 2) := by decide +kernel
theorem dX5_module_21 : decode cX5_module 21 = .ok (.bipush 70, 2) := by decide +kernel
theorem dX5_module_23 : decode cX5_module 23 = .ok (.invokevirtual 165, 3) := by decide +kernel
theorem dX5_module_26 : decode cX5_module 26 = .ok (.istore_n 1, 1) := by decide +kernel
theorem dX5_module_27 : decode cX5_module 27 = .ok (.aload_n 0, 1) := by decide +kernel
theorem dX5_module_28 : decode cX5_module 28 = .ok (.getfield 116, 3) := by decide +kernel
theorem dX5_module_31 : decode cX5_module 31 = .ok (.ifCond .eq 8, 3) := by decide +kernel
theorem dX5_module_34 : decode cX5_module 34 = .ok (.aload_n 0, 1) := by decide +kernel
theorem dX5_module_35 : decode cX5_module 35 = .ok (.iconst 1, 1) := by decide +kernel
theorem dX5_module_36 : decode cX5_module 36 = .ok (.invokevirtual 240, 3) := by decide +kernel
theorem dX5_module_39 : decode cX5_module 39 = .ok (.aload_n 0, 1) := by decide +kernel
theorem dX5_module_40 : decode cX5_module 40 = .ok (.iconst 1, 1) := by decide +kernel
theorem dX5_module_41 : decode cX5_module 41 = .ok (.putfield 120, 3) := by decide +kernel
theorem dX5_module_44 : decode cX5_module 44 = .ok (.aload_n 0, 1) := by decide +kernel
theorem dX5_module_45 : decode cX5_module 45 = .ok (.getfield 116, 3) := by decide +kernel
theorem dX5_module_48 : decode cX5_module 48 = .ok (.ifCond .eq 8, 3) := by decide +kernel
theorem dX5_module_51 : decode cX5_module 51 = .ok (.aload_n 0, 1) := by decide +kernel
theorem dX5_module_52 : decode cX5_module 52 = .ok (.iconst 0, 1) := by decide +kernel
theorem dX5_module_53 : decode cX5_module 53 = .ok (.invokevirtual 240, 3) := by decide +kernel
theorem dX5_module_56 : decode cX5_module 56 = .ok (.aload_n 0, 1) := by decide +kernel
theorem dX5_module_57 : decode cX5_module 57 = .ok (.iconst 0, 1) := by decide +kernel
theorem dX5_module_58 : decode cX5_module 58 = .ok (.putfield 110, 3) := by decide +kernel
theorem dX5_module_61 : decode cX5_module 61 = .ok (.aload_n 0, 1) := by decide +kernel
theorem dX5_module_62 : decode cX5_module 62 = .ok (.aload_n 0, 1) := by decide +kernel
theorem dX5_module_63 : decode cX5_module 63 = .ok (.getfield 116, 3) := by decide +kernel
theorem dX5_module_66 : decode cX5_module 66 = .ok (.ifCond .ne 7, 3) := by decide +kernel
theorem dX5_module_69 : decode cX5_module 69 = .ok (.iconst 1, 1) := by decide +kernel
theorem dX5_module_70 : decode cX5_module 70 = .ok (.goto 15, 3) := by decide +kernel
theorem dX5_module_73 : decode cX5_module 73 = .ok (.aload_n 0, 1) := by decide +kernel
theorem dX5_module_74 : decode cX5_module 74 = .ok (.getfield 120, 3) := by decide +kernel
theorem dX5_module_77 : decode cX5_module 77 = .ok (.ifCond .eq 7, 3) := by decide +kernel
theorem dX5_module_80 : decode cX5_module 80 = .ok (.iconst 0, 1) := by decide +kernel
theorem dX5_module_81 : decode cX5_module 81 = .ok (.goto 4, 3) := by decide +kernel
theorem dX5_module_84 : decode cX5_module 84 = .ok (.iconst 2, 1) := by decide +kernel
theorem dX5_module_85 : decode cX5_module 85 = .ok (.putfield 243, 3) := by decide +kernel
theorem dX5_module_88 : decode cX5_module 88 = .ok (.aload_n 0, 1) := by decide +kernel
theorem dX5_module_89 : decode cX5_module 89 = .ok (.getfield 243, 3) := by decide +kernel
theorem dX5_module_92 : decode cX5_module 92 = .ok (.ifCond .le 9, 3) := by decide +kernel
theorem dX5_module_95 : decode cX5_module 95 = .ok (.aload_n 0, 1) := by decide +kernel
theorem dX5_module_96 : decode cX5_module 96 = .ok (.iconst 1, 1) := by decide +kernel
theorem dX5_module_97 : decode cX5_module 97 = .ok (.invokevirtual 246, 3) := by decide +kernel
theorem dX5_module_100 : decode cX5_module 100 = .ok (.ireturn, 1) := by decide +kernel
theorem dX5_module_101 : decode cX5_module 101 = .ok (.aload_n 0, 1) := by decide +kernel
theorem dX5_module_102 : decode cX5_module 102 = .ok (.iconst 0, 1) := by decide +kernel
theorem dX5_module_103 : decode cX5_module 103 = .ok (.putfield 103, 3) := by decide +kernel
theorem dX5_module_106 : decode cX5_module 106 = .ok (.aload_n 0, 1) := by decide +kernel
theorem dX5_module_107 : decode cX5_module 107 = .ok (.iload_n 1, 1) := by decide +kernel
theorem dX5_module_108 : decode cX5_module 108 = .ok (.invokevirtual 250, 3) := by decide +kernel
theorem dX5_module_111 : decode cX5_module 111 = .ok (.aload_n 0, 1) := by decide +kernel
theorem dX5_module_112 : decode cX5_module 112 = .ok (.iconst 0, 1) := by decide +kernel
theorem dX5_module_113 : decode cX5_module 113 = .ok (.putfield 253, 3) := by decide +kernel
theorem dX5_module_116 : decode cX5_module 116 = .ok (.iload_n 1, 1) := by decide +kernel
theorem dX5_module_117 : decode cX5_module 117 = .ok (.ireturn, 1) := by decide +kernel
theorem dX5_fault_0 : decode cX5_fault 0 = .ok (.aload_n 0, 1) := by decide +kernel
theorem dX5_fault_1 : decode cX5_fault 1 = .ok (.iconst 0, 1) := by decide +kernel
theorem dX5_fault_2 : decode cX5_fault 2 = .ok (.putfield 103, 3) := by decide +kernel
theorem dX5_fault_5 : decode cX5_fault 5 = .ok (.aload_n 0, 1) := by decide +kernel
theorem dX5_fault_6 : decode cX5_fault 6 = .ok (.getfield 243, 3) := by decide +kernel
theorem dX5_fault_9 : decode cX5_fault 9 = .ok (.ireturn, 1) := by decide +kernel
theorem dX5_isModule_0 : decode cX5_isModule 0 = .ok (.iload_n 1, 1) := by decide +kernel
theorem dX5_isModule_1 : decode cX5_isModule 1 = .ok (.iconst 0, 1) := by decide +kernel
theorem dX5_isModule_2 : decode cX5_isModule 2 = .ok (.iconst 5, 1) := by decide +kernel
theorem dX5_isModule_3 : decode cX5_isModule 3 = .ok (.invokestatic 106, 3) := by decide +kernel
theorem dX5_isModule_6 : decode cX5_isModule 6 = .ok (.ifCond .ne 16, 3) := by decide +kernel
theorem dX5_isModule_9 : decode cX5_isModule 9 = .ok (.aload_n 0, 1) := by decide +kernel
theorem dX5_isModule_10 : decode cX5_isModule 10 = .ok (.getfield 13, 3) := by decide +kernel
theorem dX5_isModule_13 : decode cX5_isModule 13 = .ok (.iload_n 1, 1) := by decide +kernel
theorem dX5_isModule_14 : decode cX5_isModule 14 = .ok (.baload, 1) := by decide +kernel
theorem dX5_isModule_15 : decode cX5_isModule 15 = .ok (.ifCond .eq 7, 3) := by decide +kernel
theorem dX5_isModule_18 : decode cX5_isModule 18 = .ok (.iconst 1, 1) := by decide +kernel
theorem dX5_isModule_19 : decode cX5_isModule 19 = .ok (.goto 4, 3) := by decide +kernel
theorem dX5_isModule_22 : decode cX5_isModule 22 = .ok (.iconst 0, 1) := by decide +kernel
theorem dX5_isModule_23 : decode cX5_isModule 23 = .ok (.ireturn, 1) := by decide +kernel
theorem dX5_drop_0 : decode cX5_drop 0 = .ok (.aload_n 0, 1) := by decide +kernel
theorem dX5_drop_1 : decode cX5_drop 1 = .ok (.aload_n 0, 1) := by decide +kernel
theorem dX5_drop_2 : decode cX5_drop 2 = .ok (.iload_n 1, 1) := by decide +kernel
theorem dX5_drop_3 : decode cX5_drop 3 = .ok (.invokevirtual 256, 3) := by decide +kernel
theorem dX5_drop_6 : decode cX5_drop 6 = .ok (.ifCond .eq 7, 3) := by decide +kernel
theorem dX5_drop_9 : decode cX5_drop 9 = .ok (.iconst 0, 1) := by decide +kernel
theorem dX5_drop_10 : decode cX5_drop 10 = .ok (.goto 4, 3) := by decide +kernel
theorem dX5_drop_13 : decode cX5_drop 13 = .ok (.iconst 1, 1) := by decide +kernel
theorem dX5_drop_14 : decode cX5_drop 14 = .ok (.putfield 103, 3) := by decide +kernel
theorem dX5_drop_17 : decode cX5_drop 17 = .ok (.aload_n 0, 1) := by decide +kernel
theorem dX5_drop_18 : decode cX5_drop 18 = .ok (.getfield 103, 3) := by decide +kernel
theorem dX5_drop_21 : decode cX5_drop 21 = .ok (.ifCond .le 4, 3) := by decide +kernel
theorem dX5_drop_24 : decode cX5_drop 24 = .ok (.return_, 1) := by decide +kernel
theorem dX5_drop_25 : decode cX5_drop 25 = .ok (.aload_n 0, 1) := by decide +kernel
theorem dX5_drop_26 : decode cX5_drop 26 = .ok (.getfield 13, 3) := by decide +kernel
theorem dX5_drop_29 : decode cX5_drop 29 = .ok (.iload_n 1, 1) := by decide +kernel
theorem dX5_drop_30 : decode cX5_drop 30 = .ok (.iconst 0, 1) := by decide +kernel
theorem dX5_drop_31 : decode cX5_drop 31 = .ok (.bastore, 1) := by decide +kernel
theorem dX5_drop_32 : decode cX5_drop 32 = .ok (.aload_n 0, 1) := by decide +kernel
theorem dX5_drop_33 : decode cX5_drop 33 = .ok (.iconst 0, 1) := by decide +kernel
theorem dX5_drop_34 : decode cX5_drop 34 = .ok (.putfield 253, 3) := by decide +kernel
theorem dX5_drop_37 : decode cX5_drop 37 = .ok (.return_, 1) := by decide +kernel
theorem dX5_meant_0 : decode cX5_meant 0 = .ok (.aload_n 0, 1) := by decide +kernel
theorem dX5_meant_1 : decode cX5_meant 1 = .ok (.getfield 13, 3) := by decide +kernel
theorem dX5_meant_4 : decode cX5_meant 4 = .ok (.aload_n 0, 1) := by decide +kernel
theorem dX5_meant_5 : decode cX5_meant 5 = .ok (.getfield 24, 3) := by decide +kernel
theorem dX5_meant_8 : decode cX5_meant 8 = .ok (.iload_n 1, 1) := by decide +kernel
theorem dX5_meant_9 : decode cX5_meant 9 = .ok (.iaload, 1) := by decide +kernel
theorem dX5_meant_10 : decode cX5_meant 10 = .ok (.baload, 1) := by decide +kernel
theorem dX5_meant_11 : decode cX5_meant 11 = .ok (.ifCond .eq 23, 3) := by decide +kernel
theorem dX5_meant_14 : decode cX5_meant 14 = .ok (.aload_n 0, 1) := by decide +kernel
theorem dX5_meant_15 : decode cX5_meant 15 = .ok (.aload_n 0, 1) := by decide +kernel
theorem dX5_meant_16 : decode cX5_meant 16 = .ok (.getfield 24, 3) := by decide +kernel
theorem dX5_meant_19 : decode cX5_meant 19 = .ok (.iload_n 1, 1) := by decide +kernel
theorem dX5_meant_20 : decode cX5_meant 20 = .ok (.iaload, 1) := by decide +kernel
theorem dX5_meant_21 : decode cX5_meant 21 = .ok (.aload_n 0, 1) := by decide +kernel
theorem dX5_meant_22 : decode cX5_meant 22 = .ok (.getfield 21, 3) := by decide +kernel
theorem dX5_meant_25 : decode cX5_meant 25 = .ok (.iload_n 1, 1) := by decide +kernel
theorem dX5_meant_26 : decode cX5_meant 26 = .ok (.iaload, 1) := by decide +kernel
theorem dX5_meant_27 : decode cX5_meant 27 = .ok (.iconst (-1), 1) := by decide +kernel
theorem dX5_meant_28 : decode cX5_meant 28 = .ok (.invokevirtual 183, 3) := by decide +kernel
theorem dX5_meant_31 : decode cX5_meant 31 = .ok (.goto 4, 3) := by decide +kernel
theorem dX5_meant_34 : decode cX5_meant 34 = .ok (.iconst (-1), 1) := by decide +kernel
theorem dX5_meant_35 : decode cX5_meant 35 = .ok (.istore_n 2, 1) := by decide +kernel
theorem dX5_meant_36 : decode cX5_meant 36 = .ok (.iload_n 2, 1) := by decide +kernel
theorem dX5_meant_37 : decode cX5_meant 37 = .ok (.iconst (-1), 1) := by decide +kernel
theorem dX5_meant_38 : decode cX5_meant 38 = .ok (.if_icmp .eq 42, 3) := by decide +kernel
theorem dX5_meant_41 : decode cX5_meant 41 = .ok (.aload_n 0, 1) := by decide +kernel
theorem dX5_meant_42 : decode cX5_meant 42 = .ok (.getfield 27, 3) := by decide +kernel
theorem dX5_meant_45 : decode cX5_meant 45 = .ok (.iload_n 2, 1) := by decide +kernel
theorem dX5_meant_46 : decode cX5_meant 46 = .ok (.baload, 1) := by decide +kernel
theorem dX5_meant_47 : decode cX5_meant 47 = .ok (.ifCond .eq 33, 3) := by decide +kernel
theorem dX5_meant_50 : decode cX5_meant 50 = .ok (.aload_n 0, 1) := by decide +kernel
theorem dX5_meant_51 : decode cX5_meant 51 = .ok (.getfield 30, 3) := by decide +kernel
theorem dX5_meant_54 : decode cX5_meant 54 = .ok (.iload_n 2, 1) := by decide +kernel
theorem dX5_meant_55 : decode cX5_meant 55 = .ok (.iaload, 1) := by decide +kernel
theorem dX5_meant_56 : decode cX5_meant 56 = .ok (.aload_n 0, 1) := by decide +kernel
theorem dX5_meant_57 : decode cX5_meant 57 = .ok (.getfield 30, 3) := by decide +kernel
theorem dX5_meant_60 : decode cX5_meant 60 = .ok (.iload_n 1, 1) := by decide +kernel
theorem dX5_meant_61 : decode cX5_meant 61 = .ok (.iaload, 1) := by decide +kernel
theorem dX5_meant_62 : decode cX5_meant 62 = .ok (.if_icmp .ne 18, 3) := by decide +kernel
theorem dX5_meant_65 : decode cX5_meant 65 = .ok (.aload_n 0, 1) := by decide +kernel
theorem dX5_meant_66 : decode cX5_meant 66 = .ok (.getfield 36, 3) := by decide +kernel
theorem dX5_meant_69 : decode cX5_meant 69 = .ok (.iload_n 2, 1) := by decide +kernel
theorem dX5_meant_70 : decode cX5_meant 70 = .ok (.baload, 1) := by decide +kernel
theorem dX5_meant_71 : decode cX5_meant 71 = .ok (.aload_n 0, 1) := by decide +kernel
theorem dX5_meant_72 : decode cX5_meant 72 = .ok (.getfield 36, 3) := by decide +kernel
theorem dX5_meant_75 : decode cX5_meant 75 = .ok (.iload_n 1, 1) := by decide +kernel
theorem dX5_meant_76 : decode cX5_meant 76 = .ok (.baload, 1) := by decide +kernel
theorem dX5_meant_77 : decode cX5_meant 77 = .ok (.if_icmp .eq 5, 3) := by decide +kernel
theorem dX5_meant_80 : decode cX5_meant 80 = .ok (.iconst (-1), 1) := by decide +kernel
theorem dX5_meant_81 : decode cX5_meant 81 = .ok (.ireturn, 1) := by decide +kernel
theorem dX5_meant_82 : decode cX5_meant 82 = .ok (.iconst 1, 1) := by decide +kernel
theorem dX5_meant_83 : decode cX5_meant 83 = .ok (.istore_n 3, 1) := by decide +kernel
theorem dX5_meant_84 : decode cX5_meant 84 = .ok (.iconst 0, 1) := by decide +kernel
theorem dX5_meant_85 : decode cX5_meant 85 = .ok (.istore 4, 2) := by decide +kernel
theorem dX5_meant_87 : decode cX5_meant 87 = .ok (.iload 4, 2) := by decide +kernel
theorem dX5_meant_89 : decode cX5_meant 89 = .ok (.aload_n 0, 1) := by decide +kernel
theorem dX5_meant_90 : decode cX5_meant 90 = .ok (.getfield 30, 3) := by decide +kernel
theorem dX5_meant_93 : decode cX5_meant 93 = .ok (.iload_n 1, 1) := by decide +kernel
theorem dX5_meant_94 : decode cX5_meant 94 = .ok (.iaload, 1) := by decide +kernel
theorem dX5_meant_95 : decode cX5_meant 95 = .ok (.if_icmp .ge 44, 3) := by decide +kernel
theorem dX5_meant_98 : decode cX5_meant 98 = .ok (.iload_n 3, 1) := by decide +kernel
theorem dX5_meant_99 : decode cX5_meant 99 = .ok (.ifCond .eq 32, 3) := by decide +kernel
theorem dX5_meant_102 : decode cX5_meant 102 = .ok (.aload_n 0, 1) := by decide +kernel
theorem dX5_meant_103 : decode cX5_meant 103 = .ok (.getfield 33, 3) := by decide +kernel
theorem dX5_meant_106 : decode cX5_meant 106 = .ok (.iconst 3, 1) := by decide +kernel
theorem dX5_meant_107 : decode cX5_meant 107 = .ok (.iload_n 2, 1) := by decide +kernel
theorem dX5_meant_108 : decode cX5_meant 108 = .ok (.imul, 1) := by decide +kernel
theorem dX5_meant_109 : decode cX5_meant 109 = .ok (.iload 4, 2) := by decide +kernel
theorem dX5_meant_111 : decode cX5_meant 111 = .ok (.iadd, 1) := by decide +kernel
theorem dX5_meant_112 : decode cX5_meant 112 = .ok (.baload, 1) := by decide +kernel
theorem dX5_meant_113 : decode cX5_meant 113 = .ok (.aload_n 0, 1) := by decide +kernel
theorem dX5_meant_114 : decode cX5_meant 114 = .ok (.getfield 33, 3) := by decide +kernel
theorem dX5_meant_117 : decode cX5_meant 117 = .ok (.iconst 3, 1) := by decide +kernel
theorem dX5_meant_118 : decode cX5_meant 118 = .ok (.iload_n 1, 1) := by decide +kernel
theorem dX5_meant_119 : decode cX5_meant 119 = .ok (.imul, 1) := by decide +kernel
theorem dX5_meant_120 : decode cX5_meant 120 = .ok (.iload 4, 2) := by decide +kernel
theorem dX5_meant_122 : decode cX5_meant 122 = .ok (.iadd, 1) := by decide +kernel
theorem dX5_meant_123 : decode cX5_meant 123 = .ok (.baload, 1) := by decide +kernel
theorem dX5_meant_124 : decode cX5_meant 124 = .ok (.if_icmp .ne 7, 3) := by decide +kernel
theorem dX5_meant_127 : decode cX5_meant 127 = .ok (.iconst 1, 1) := by decide +kernel
theorem dX5_meant_128 : decode cX5_meant 128 = .ok (.goto 4, 3) := by decide +kernel
theorem dX5_meant_131 : decode cX5_meant 131 = .ok (.iconst 0, 1) := by decide +kernel
theorem dX5_meant_132 : decode cX5_meant 132 = .ok (.istore_n 3, 1) := by decide +kernel
theorem dX5_meant_133 : decode cX5_meant 133 = .ok (.iinc 4 1, 3) := by decide +kernel
theorem dX5_meant_136 : decode cX5_meant 136 = .ok (.goto (-49), 3) := by decide +kernel
theorem dX5_meant_139 : decode cX5_meant 139 = .ok (.iload_n 3, 1) := by decide +kernel
theorem dX5_meant_140 : decode cX5_meant 140 = .ok (.ifCond .eq 7, 3) := by decide +kernel
theorem dX5_meant_143 : decode cX5_meant 143 = .ok (.iload_n 2, 1) := by decide +kernel
theorem dX5_meant_144 : decode cX5_meant 144 = .ok (.goto 4, 3) := by decide +kernel
theorem dX5_meant_147 : decode cX5_meant 147 = .ok (.iconst (-1), 1) := by decide +kernel
theorem dX5_meant_148 : decode cX5_meant 148 = .ok (.ireturn, 1) := by decide +kernel
theorem dX5_link_0 : decode cX5_link 0 = .ok (.iconst 0, 1) := by decide +kernel
theorem dX5_link_1 : decode cX5_link 1 = .ok (.istore_n 1, 1) := by decide +kernel
theorem dX5_link_2 : decode cX5_link 2 = .ok (.iconst 0, 1) := by decide +kernel
theorem dX5_link_3 : decode cX5_link 3 = .ok (.istore_n 2, 1) := by decide +kernel
theorem dX5_link_4 : decode cX5_link 4 = .ok (.iconst 0, 1) := by decide +kernel
theorem dX5_link_5 : decode cX5_link 5 = .ok (.istore_n 3, 1) := by decide +kernel
theorem dX5_link_6 : decode cX5_link 6 = .ok (.iload_n 3, 1) := by decide +kernel
theorem dX5_link_7 : decode cX5_link 7 = .ok (.bipush 6, 2) := by decide +kernel
theorem dX5_link_9 : decode cX5_link 9 = .ok (.if_icmp .ge 26, 3) := by decide +kernel
theorem dX5_link_12 : decode cX5_link 12 = .ok (.aload_n 0, 1) := by decide +kernel
theorem dX5_link_13 : decode cX5_link 13 = .ok (.getfield 13, 3) := by decide +kernel
theorem dX5_link_16 : decode cX5_link 16 = .ok (.iload_n 3, 1) := by decide +kernel
theorem dX5_link_17 : decode cX5_link 17 = .ok (.baload, 1) := by decide +kernel
theorem dX5_link_18 : decode cX5_link 18 = .ok (.ifCond .eq 9, 3) := by decide +kernel
theorem dX5_link_21 : decode cX5_link 21 = .ok (.iload_n 1, 1) := by decide +kernel
theorem dX5_link_22 : decode cX5_link 22 = .ok (.iconst 1, 1) := by decide +kernel
theorem dX5_link_23 : decode cX5_link 23 = .ok (.iadd, 1) := by decide +kernel
theorem dX5_link_24 : decode cX5_link 24 = .ok (.goto 4, 3) := by decide +kernel
theorem dX5_link_27 : decode cX5_link 27 = .ok (.iload_n 1, 1) := by decide +kernel
theorem dX5_link_28 : decode cX5_link 28 = .ok (.istore_n 1, 1) := by decide +kernel
theorem dX5_link_29 : decode cX5_link 29 = .ok (.iinc 3 1, 3) := by decide +kernel
theorem dX5_link_32 : decode cX5_link 32 = .ok (.goto (-26), 3) := by decide +kernel
theorem dX5_link_35 : decode cX5_link 35 = .ok (.iload_n 1, 1) := by decide +kernel
theorem dX5_link_36 : decode cX5_link 36 = .ok (.ifCond .ne 9, 3) := by decide +kernel
theorem dX5_link_39 : decode cX5_link 39 = .ok (.aload_n 0, 1) := by decide +kernel
theorem dX5_link_40 : decode cX5_link 40 = .ok (.iconst 1, 1) := by decide +kernel
theorem dX5_link_41 : decode cX5_link 41 = .ok (.invokevirtual 246, 3) := by decide +kernel
theorem dX5_link_44 : decode cX5_link 44 = .ok (.ireturn, 1) := by decide +kernel
theorem dX5_link_45 : decode cX5_link 45 = .ok (.aload_n 0, 1) := by decide +kernel
theorem dX5_link_46 : decode cX5_link 46 = .ok (.iconst (-1), 1) := by decide +kernel
theorem dX5_link_47 : decode cX5_link 47 = .ok (.putfield 75, 3) := by decide +kernel
theorem dX5_link_50 : decode cX5_link 50 = .ok (.aload_n 0, 1) := by decide +kernel
theorem dX5_link_51 : decode cX5_link 51 = .ok (.iconst (-1), 1) := by decide +kernel
theorem dX5_link_52 : decode cX5_link 52 = .ok (.putfield 79, 3) := by decide +kernel
theorem dX5_link_55 : decode cX5_link 55 = .ok (.iconst 0, 1) := by decide +kernel
theorem dX5_link_56 : decode cX5_link 56 = .ok (.istore_n 3, 1) := by decide +kernel
theorem dX5_link_57 : decode cX5_link 57 = .ok (.iload_n 3, 1) := by decide +kernel
theorem dX5_link_58 : decode cX5_link 58 = .ok (.bipush 36, 2) := by decide +kernel
theorem dX5_link_60 : decode cX5_link 60 = .ok (.if_icmp .ge 137, 3) := by decide +kernel
theorem dX5_link_63 : decode cX5_link 63 = .ok (.aload_n 0, 1) := by decide +kernel
theorem dX5_link_64 : decode cX5_link 64 = .ok (.getfield 13, 3) := by decide +kernel
theorem dX5_link_67 : decode cX5_link 67 = .ok (.iload_n 3, 1) := by decide +kernel
theorem dX5_link_68 : decode cX5_link 68 = .ok (.bipush 6, 2) := by decide +kernel
theorem dX5_link_70 : decode cX5_link 70 = .ok (.idiv, 1) := by decide +kernel
theorem dX5_link_71 : decode cX5_link 71 = .ok (.baload, 1) := by decide +kernel
theorem dX5_link_72 : decode cX5_link 72 = .ok (.ifCond .eq 119, 3) := by decide +kernel
theorem dX5_link_75 : decode cX5_link 75 = .ok (.iload_n 3, 1) := by decide +kernel
theorem dX5_link_76 : decode cX5_link 76 = .ok (.bipush 6, 2) := by decide +kernel
theorem dX5_link_78 : decode cX5_link 78 = .ok (.irem, 1) := by decide +kernel
theorem dX5_link_79 : decode cX5_link 79 = .ok (.aload_n 0, 1) := by decide +kernel
theorem dX5_link_80 : decode cX5_link 80 = .ok (.getfield 17, 3) := by decide +kernel
theorem dX5_link_83 : decode cX5_link 83 = .ok (.iload_n 3, 1) := by decide +kernel
theorem dX5_link_84 : decode cX5_link 84 = .ok (.bipush 6, 2) := by decide +kernel
theorem dX5_link_86 : decode cX5_link 86 = .ok (.idiv, 1) := by decide +kernel
theorem dX5_link_87 : decode cX5_link 87 = .ok (.iaload, 1) := by decide +kernel
theorem dX5_link_88 : decode cX5_link 88 = .ok (.if_icmp .ge 103, 3) := by decide +kernel
theorem dX5_link_91 : decode cX5_link 91 = .ok (.aload_n 0, 1) := by decide +kernel
theorem dX5_link_92 : decode cX5_link 92 = .ok (.getfield 24, 3) := by decide +kernel
theorem dX5_link_95 : decode cX5_link 95 = .ok (.iload_n 3, 1) := by decide +kernel
theorem dX5_link_96 : decode cX5_link 96 = .ok (.iaload, 1) := by decide +kernel
theorem dX5_link_97 : decode cX5_link 97 = .ok (.iconst (-1), 1) := by decide +kernel
theorem dX5_link_98 : decode cX5_link 98 = .ok (.if_icmp .eq 16, 3) := by decide +kernel
theorem dX5_link_101 : decode cX5_link 101 = .ok (.aload_n 0, 1) := by decide +kernel
theorem dX5_link_102 : decode cX5_link 102 = .ok (.iload_n 3, 1) := by decide +kernel
theorem dX5_link_103 : decode cX5_link 103 = .ok (.invokevirtual 260, 3) := by decide +kernel
theorem dX5_link_106 : decode cX5_link 106 = .ok (.iconst (-1), 1) := by decide +kernel
theorem dX5_link_107 : decode cX5_link 107 = .ok (.if_icmp .ne 7, 3) := by decide +kernel
theorem dX5_link_110 : decode cX5_link 110 = .ok (.iconst 1, 1) := by decide +kernel
theorem dX5_link_111 : decode cX5_link 111 = .ok (.goto 4, 3) := by decide +kernel
theorem dX5_link_114 : decode cX5_link 114 = .ok (.iconst 0, 1) := by decide +kernel
theorem dX5_link_115 : decode cX5_link 115 = .ok (.istore 4, 2) := by decide +kernel
theorem dX5_link_117 : decode cX5_link 117 = .ok (.aload_n 0, 1) := by decide +kernel
theorem dX5_link_118 : decode cX5_link 118 = .ok (.getfield 24, 3) := by decide +kernel
theorem dX5_link_121 : decode cX5_link 121 = .ok (.iload_n 3, 1) := by decide +kernel
theorem dX5_link_122 : decode cX5_link 122 = .ok (.iaload, 1) := by decide +kernel
theorem dX5_link_123 : decode cX5_link 123 = .ok (.iconst (-1), 1) := by decide +kernel
theorem dX5_link_124 : decode cX5_link 124 = .ok (.if_icmp .ne 9, 3) := by decide +kernel
theorem dX5_link_127 : decode cX5_link 127 = .ok (.iload_n 2, 1) := by decide +kernel
theorem dX5_link_128 : decode cX5_link 128 = .ok (.iconst 1, 1) := by decide +kernel
theorem dX5_link_129 : decode cX5_link 129 = .ok (.iadd, 1) := by decide +kernel
theorem dX5_link_130 : decode cX5_link 130 = .ok (.goto 4, 3) := by decide +kernel
theorem dX5_link_133 : decode cX5_link 133 = .ok (.iload_n 2, 1) := by decide +kernel
theorem dX5_link_134 : decode cX5_link 134 = .ok (.istore_n 2, 1) := by decide +kernel
theorem dX5_link_135 : decode cX5_link 135 = .ok (.aload_n 0, 1) := by decide +kernel
theorem dX5_link_136 : decode cX5_link 136 = .ok (.iload 4, 2) := by decide +kernel
theorem dX5_link_138 : decode cX5_link 138 = .ok (.ifCond .eq 18, 3) := by decide +kernel
theorem dX5_link_141 : decode cX5_link 141 = .ok (.aload_n 0, 1) := by decide +kernel
theorem dX5_link_142 : decode cX5_link 142 = .ok (.getfield 75, 3) := by decide +kernel
theorem dX5_link_145 : decode cX5_link 145 = .ok (.iconst (-1), 1) := by decide +kernel
theorem dX5_link_146 : decode cX5_link 146 = .ok (.if_icmp .ne 10, 3) := by decide +kernel
theorem dX5_link_149 : decode cX5_link 149 = .ok (.iload_n 3, 1) := by decide +kernel
theorem dX5_link_150 : decode cX5_link 150 = .ok (.bipush 6, 2) := by decide +kernel
theorem dX5_link_152 : decode cX5_link 152 = .ok (.irem, 1) := by decide +kernel
theorem dX5_link_153 : decode cX5_link 153 = .ok (.goto 7, 3) := by decide +kernel
theorem dX5_link_156 : decode cX5_link 156 = .ok (.aload_n 0, 1) := by decide +kernel
theorem dX5_link_157 : decode cX5_link 157 = .ok (.getfield 79, 3) := by decide +kernel
theorem dX5_link_160 : decode cX5_link 160 = .ok (.putfield 79, 3) := by decide +kernel
theorem dX5_link_163 : decode cX5_link 163 = .ok (.aload_n 0, 1) := by decide +kernel
theorem dX5_link_164 : decode cX5_link 164 = .ok (.iload 4, 2) := by decide +kernel
theorem dX5_link_166 : decode cX5_link 166 = .ok (.ifCond .eq 18, 3) := by decide +kernel
theorem dX5_link_169 : decode cX5_link 169 = .ok (.aload_n 0, 1) := by decide +kernel
theorem dX5_link_170 : decode cX5_link 170 = .ok (.getfield 75, 3) := by decide +kernel
theorem dX5_link_173 : decode cX5_link 173 = .ok (.iconst (-1), 1) := by decide +kernel
theorem dX5_link_174 : decode cX5_link 174 = .ok (.if_icmp .ne 10, 3) := by decide +kernel
theorem dX5_link_177 : decode cX5_link 177 = .ok (.iload_n 3, 1) := by decide +kernel
theorem dX5_link_178 : decode cX5_link 178 = .ok (.bipush 6, 2) := by decide +kernel
theorem dX5_link_180 : decode cX5_link 180 = .ok (.idiv, 1) := by decide +kernel
theorem dX5_link_181 : decode cX5_link 181 = .ok (.goto 7, 3) := by decide +kernel
theorem dX5_link_184 : decode cX5_link 184 = .ok (.aload_n 0, 1) := by decide +kernel
theorem dX5_link_185 : decode cX5_link 185 = .ok (.getfield 75, 3) := by decide +kernel
theorem dX5_link_188 : decode cX5_link 188 = .ok (.putfield 75, 3) := by decide +kernel
theorem dX5_link_191 : decode cX5_link 191 = .ok (.iinc 3 1, 3) := by decide +kernel
theorem dX5_link_194 : decode cX5_link 194 = .ok (.goto (-137), 3) := by decide +kernel
theorem dX5_link_197 : decode cX5_link 197 = .ok (.aload_n 0, 1) := by decide +kernel
theorem dX5_link_198 : decode cX5_link 198 = .ok (.aload_n 0, 1) := by decide +kernel
theorem dX5_link_199 : decode cX5_link 199 = .ok (.getfield 75, 3) := by decide +kernel
theorem dX5_link_202 : decode cX5_link 202 = .ok (.iconst (-1), 1) := by decide +kernel
theorem dX5_link_203 : decode cX5_link 203 = .ok (.if_icmp .ne 7, 3) := by decide +kernel
theorem dX5_link_206 : decode cX5_link 206 = .ok (.iconst 1, 1) := by decide +kernel
theorem dX5_link_207 : decode cX5_link 207 = .ok (.goto 4, 3) := by decide +kernel
theorem dX5_link_210 : decode cX5_link 210 = .ok (.iconst 0, 1) := by decide +kernel
theorem dX5_link_211 : decode cX5_link 211 = .ok (.putfield 253, 3) := by decide +kernel
theorem dX5_link_214 : decode cX5_link 214 = .ok (.aload_n 0, 1) := by decide +kernel
theorem dX5_link_215 : decode cX5_link 215 = .ok (.getfield 253, 3) := by decide +kernel
theorem dX5_link_218 : decode cX5_link 218 = .ok (.ifCond .ne 9, 3) := by decide +kernel
theorem dX5_link_221 : decode cX5_link 221 = .ok (.aload_n 0, 1) := by decide +kernel
theorem dX5_link_222 : decode cX5_link 222 = .ok (.iconst 2, 1) := by decide +kernel
theorem dX5_link_223 : decode cX5_link 223 = .ok (.invokevirtual 246, 3) := by decide +kernel
theorem dX5_link_226 : decode cX5_link 226 = .ok (.ireturn, 1) := by decide +kernel
theorem dX5_link_227 : decode cX5_link 227 = .ok (.aload_n 0, 1) := by decide +kernel
theorem dX5_link_228 : decode cX5_link 228 = .ok (.iconst 0, 1) := by decide +kernel
theorem dX5_link_229 : decode cX5_link 229 = .ok (.putfield 103, 3) := by decide +kernel
theorem dX5_link_232 : decode cX5_link 232 = .ok (.iload_n 2, 1) := by decide +kernel
theorem dX5_link_233 : decode cX5_link 233 = .ok (.ireturn, 1) := by decide +kernel
theorem dX5_unfit_0 : decode cX5_unfit 0 = .ok (.aload_n 0, 1) := by decide +kernel
theorem dX5_unfit_1 : decode cX5_unfit 1 = .ok (.iconst 0, 1) := by decide +kernel
theorem dX5_unfit_2 : decode cX5_unfit 2 = .ok (.putfield 103, 3) := by decide +kernel
theorem dX5_unfit_5 : decode cX5_unfit 5 = .ok (.iload_n 1, 1) := by decide +kernel
theorem dX5_unfit_6 : decode cX5_unfit 6 = .ok (.ifCond .ne 10, 3) := by decide +kernel
theorem dX5_unfit_9 : decode cX5_unfit 9 = .ok (.aload_n 0, 1) := by decide +kernel
theorem dX5_unfit_10 : decode cX5_unfit 10 = .ok (.getfield 75, 3) := by decide +kernel
theorem dX5_unfit_13 : decode cX5_unfit 13 = .ok (.goto 16, 3) := by decide +kernel
theorem dX5_unfit_16 : decode cX5_unfit 16 = .ok (.iload_n 1, 1) := by decide +kernel
theorem dX5_unfit_17 : decode cX5_unfit 17 = .ok (.iconst 1, 1) := by decide +kernel
theorem dX5_unfit_18 : decode cX5_unfit 18 = .ok (.if_icmp .ne 10, 3) := by decide +kernel
theorem dX5_unfit_21 : decode cX5_unfit 21 = .ok (.aload_n 0, 1) := by decide +kernel
theorem dX5_unfit_22 : decode cX5_unfit 22 = .ok (.getfield 79, 3) := by decide +kernel
theorem dX5_unfit_25 : decode cX5_unfit 25 = .ok (.goto 4, 3) := by decide +kernel
theorem dX5_unfit_28 : decode cX5_unfit 28 = .ok (.iconst (-1), 1) := by decide +kernel
theorem dX5_unfit_29 : decode cX5_unfit 29 = .ok (.ireturn, 1) := by decide +kernel
theorem dX5_about_0 : decode cX5_about 0 = .ok (.aload_n 0, 1) := by decide +kernel
theorem dX5_about_1 : decode cX5_about 1 = .ok (.iload_n 1, 1) := by decide +kernel
theorem dX5_about_2 : decode cX5_about 2 = .ok (.invokevirtual 256, 3) := by decide +kernel
theorem dX5_about_5 : decode cX5_about 5 = .ok (.ifCond .eq 13, 3) := by decide +kernel
theorem dX5_about_8 : decode cX5_about 8 = .ok (.aload_n 0, 1) := by decide +kernel
theorem dX5_about_9 : decode cX5_about 9 = .ok (.iload_n 1, 1) := by decide +kernel
theorem dX5_about_10 : decode cX5_about 10 = .ok (.iload_n 2, 1) := by decide +kernel
theorem dX5_about_11 : decode cX5_about 11 = .ok (.iconst (-1), 1) := by decide +kernel
theorem dX5_about_12 : decode cX5_about 12 = .ok (.invokevirtual 183, 3) := by decide +kernel
theorem dX5_about_15 : decode cX5_about 15 = .ok (.goto 4, 3) := by decide +kernel
theorem dX5_about_18 : decode cX5_about 18 = .ok (.iconst (-1), 1) := by decide +kernel
theorem dX5_about_19 : decode cX5_about 19 = .ok (.istore 4, 2) := by decide +kernel
theorem dX5_about_21 : decode cX5_about 21 = .ok (.iload 4, 2) := by decide +kernel
theorem dX5_about_23 : decode cX5_about 23 = .ok (.iconst (-1), 1) := by decide +kernel
theorem dX5_about_24 : decode cX5_about 24 = .ok (.if_icmp .eq 12, 3) := by decide +kernel
theorem dX5_about_27 : decode cX5_about 27 = .ok (.iload_n 3, 1) := by decide +kernel
theorem dX5_about_28 : decode cX5_about 28 = .ok (.iconst 0, 1) := by decide +kernel
theorem dX5_about_29 : decode cX5_about 29 = .ok (.iconst 3, 1) := by decide +kernel
theorem dX5_about_30 : decode cX5_about 30 = .ok (.invokestatic 106, 3) := by decide +kernel
theorem dX5_about_33 : decode cX5_about 33 = .ok (.ifCond .eq 9, 3) := by decide +kernel
theorem dX5_about_36 : decode cX5_about 36 = .ok (.aload_n 0, 1) := by decide +kernel
theorem dX5_about_37 : decode cX5_about 37 = .ok (.iconst 1, 1) := by decide +kernel
theorem dX5_about_38 : decode cX5_about 38 = .ok (.invokevirtual 246, 3) := by decide +kernel
theorem dX5_about_41 : decode cX5_about 41 = .ok (.ireturn, 1) := by decide +kernel
theorem dX5_about_42 : decode cX5_about 42 = .ok (.aload_n 0, 1) := by decide +kernel
theorem dX5_about_43 : decode cX5_about 43 = .ok (.iconst 0, 1) := by decide +kernel
theorem dX5_about_44 : decode cX5_about 44 = .ok (.putfield 103, 3) := by decide +kernel
theorem dX5_about_47 : decode cX5_about 47 = .ok (.iload_n 3, 1) := by decide +kernel
theorem dX5_about_48 : decode cX5_about 48 = .ok (.ifCond .ne 13, 3) := by decide +kernel
theorem dX5_about_51 : decode cX5_about 51 = .ok (.aload_n 0, 1) := by decide +kernel
theorem dX5_about_52 : decode cX5_about 52 = .ok (.getfield 39, 3) := by decide +kernel
theorem dX5_about_55 : decode cX5_about 55 = .ok (.iload 4, 2) := by decide +kernel
theorem dX5_about_57 : decode cX5_about 57 = .ok (.iaload, 1) := by decide +kernel
theorem dX5_about_58 : decode cX5_about 58 = .ok (.goto 55, 3) := by decide +kernel
theorem dX5_about_61 : decode cX5_about 61 = .ok (.iload_n 3, 1) := by decide +kernel
theorem dX5_about_62 : decode cX5_about 62 = .ok (.iconst 1, 1) := by decide +kernel
theorem dX5_about_63 : decode cX5_about 63 = .ok (.if_icmp .ne 21, 3) := by decide +kernel
theorem dX5_about_66 : decode cX5_about 66 = .ok (.aload_n 0, 1) := by decide +kernel
theorem dX5_about_67 : decode cX5_about 67 = .ok (.getfield 27, 3) := by decide +kernel
theorem dX5_about_70 : decode cX5_about 70 = .ok (.iload 4, 2) := by decide +kernel
theorem dX5_about_72 : decode cX5_about 72 = .ok (.baload, 1) := by decide +kernel
theorem dX5_about_73 : decode cX5_about 73 = .ok (.ifCond .eq 7, 3) := by decide +kernel
theorem dX5_about_76 : decode cX5_about 76 = .ok (.iconst 1, 1) := by decide +kernel
theorem dX5_about_77 : decode cX5_about 77 = .ok (.goto 36, 3) := by decide +kernel
theorem dX5_about_80 : decode cX5_about 80 = .ok (.iconst 0, 1) := by decide +kernel
theorem dX5_about_81 : decode cX5_about 81 = .ok (.goto 32, 3) := by decide +kernel
theorem dX5_about_84 : decode cX5_about 84 = .ok (.iload_n 3, 1) := by decide +kernel
theorem dX5_about_85 : decode cX5_about 85 = .ok (.iconst 2, 1) := by decide +kernel
theorem dX5_about_86 : decode cX5_about 86 = .ok (.if_icmp .ne 12, 3) := by decide +kernel
theorem dX5_about_89 : decode cX5_about 89 = .ok (.aload_n 0, 1) := by decide +kernel
theorem dX5_about_90 : decode cX5_about 90 = .ok (.iload 4, 2) := by decide +kernel
theorem dX5_about_92 : decode cX5_about 92 = .ok (.invokevirtual 263, 3) := by decide +kernel
theorem dX5_about_95 : decode cX5_about 95 = .ok (.goto 18, 3) := by decide +kernel
theorem dX5_about_98 : decode cX5_about 98 = .ok (.aload_n 0, 1) := by decide +kernel
theorem dX5_about_99 : decode cX5_about 99 = .ok (.getfield 36, 3) := by decide +kernel
theorem dX5_about_102 : decode cX5_about 102 = .ok (.iload 4, 2) := by decide +kernel
theorem dX5_about_104 : decode cX5_about 104 = .ok (.baload, 1) := by decide +kernel
theorem dX5_about_105 : decode cX5_about 105 = .ok (.ifCond .eq 7, 3) := by decide +kernel
theorem dX5_about_108 : decode cX5_about 108 = .ok (.iconst 2, 1) := by decide +kernel
end
section
theorem dX5_about_109 : decode cX5_about 109 = .ok (.goto 4, 3) := by decide +kernel
theorem dX5_about_112 : decode cX5_about 112 = .ok (.iconst 1, 1) := by decide +kernel
theorem dX5_about_113 : decode cX5_about 113 = .ok (.ireturn, 1) := by decide +kernel
theorem dX5_push_0 : decode cX5_push 0 = .ok (.aload_n 0, 1) := by decide +kernel
theorem dX5_push_1 : decode cX5_push 1 = .ok (.getfield 82, 3) := by decide +kernel
theorem dX5_push_4 : decode cX5_push 4 = .ok (.aload_n 0, 1) := by decide +kernel
theorem dX5_push_5 : decode cX5_push 5 = .ok (.getfield 266, 3) := by decide +kernel
theorem dX5_push_8 : decode cX5_push 8 = .ok (.iload_n 1, 1) := by decide +kernel
theorem dX5_push_9 : decode cX5_push 9 = .ok (.iastore, 1) := by decide +kernel
theorem dX5_push_10 : decode cX5_push 10 = .ok (.aload_n 0, 1) := by decide +kernel
theorem dX5_push_11 : decode cX5_push 11 = .ok (.dup, 1) := by decide +kernel
theorem dX5_push_12 : decode cX5_push 12 = .ok (.getfield 266, 3) := by decide +kernel
theorem dX5_push_15 : decode cX5_push 15 = .ok (.iconst 1, 1) := by decide +kernel
theorem dX5_push_16 : decode cX5_push 16 = .ok (.iadd, 1) := by decide +kernel
theorem dX5_push_17 : decode cX5_push 17 = .ok (.putfield 266, 3) := by decide +kernel
theorem dX5_push_20 : decode cX5_push 20 = .ok (.return_, 1) := by decide +kernel
theorem dX5_pop_0 : decode cX5_pop 0 = .ok (.aload_n 0, 1) := by decide +kernel
theorem dX5_pop_1 : decode cX5_pop 1 = .ok (.dup, 1) := by decide +kernel
theorem dX5_pop_2 : decode cX5_pop 2 = .ok (.getfield 266, 3) := by decide +kernel
theorem dX5_pop_5 : decode cX5_pop 5 = .ok (.iconst 1, 1) := by decide +kernel
theorem dX5_pop_6 : decode cX5_pop 6 = .ok (.isub, 1) := by decide +kernel
theorem dX5_pop_7 : decode cX5_pop 7 = .ok (.putfield 266, 3) := by decide +kernel
theorem dX5_pop_10 : decode cX5_pop 10 = .ok (.aload_n 0, 1) := by decide +kernel
theorem dX5_pop_11 : decode cX5_pop 11 = .ok (.getfield 82, 3) := by decide +kernel
theorem dX5_pop_14 : decode cX5_pop 14 = .ok (.aload_n 0, 1) := by decide +kernel
theorem dX5_pop_15 : decode cX5_pop 15 = .ok (.getfield 266, 3) := by decide +kernel
theorem dX5_pop_18 : decode cX5_pop 18 = .ok (.iaload, 1) := by decide +kernel
theorem dX5_pop_19 : decode cX5_pop 19 = .ok (.ireturn, 1) := by decide +kernel
theorem dX5_enter_0 : decode cX5_enter 0 = .ok (.aload_n 0, 1) := by decide +kernel
theorem dX5_enter_1 : decode cX5_enter 1 = .ok (.getfield 269, 3) := by decide +kernel
theorem dX5_enter_4 : decode cX5_enter 4 = .ok (.ifCond .ne 5, 3) := by decide +kernel
theorem dX5_enter_7 : decode cX5_enter 7 = .ok (.iconst 2, 1) := by decide +kernel
theorem dX5_enter_8 : decode cX5_enter 8 = .ok (.ireturn, 1) := by decide +kernel
theorem dX5_enter_9 : decode cX5_enter 9 = .ok (.aload_n 0, 1) := by decide +kernel
theorem dX5_enter_10 : decode cX5_enter 10 = .ok (.dup, 1) := by decide +kernel
theorem dX5_enter_11 : decode cX5_enter 11 = .ok (.getfield 269, 3) := by decide +kernel
theorem dX5_enter_14 : decode cX5_enter 14 = .ok (.iconst 1, 1) := by decide +kernel
theorem dX5_enter_15 : decode cX5_enter 15 = .ok (.isub, 1) := by decide +kernel
theorem dX5_enter_16 : decode cX5_enter 16 = .ok (.putfield 269, 3) := by decide +kernel
theorem dX5_enter_19 : decode cX5_enter 19 = .ok (.aload_n 0, 1) := by decide +kernel
theorem dX5_enter_20 : decode cX5_enter 20 = .ok (.dup, 1) := by decide +kernel
theorem dX5_enter_21 : decode cX5_enter 21 = .ok (.getfield 272, 3) := by decide +kernel
theorem dX5_enter_24 : decode cX5_enter 24 = .ok (.iconst 1, 1) := by decide +kernel
theorem dX5_enter_25 : decode cX5_enter 25 = .ok (.iadd, 1) := by decide +kernel
theorem dX5_enter_26 : decode cX5_enter 26 = .ok (.putfield 272, 3) := by decide +kernel
theorem dX5_enter_29 : decode cX5_enter 29 = .ok (.iload_n 2, 1) := by decide +kernel
theorem dX5_enter_30 : decode cX5_enter 30 = .ok (.iconst 2, 1) := by decide +kernel
theorem dX5_enter_31 : decode cX5_enter 31 = .ok (.iadd, 1) := by decide +kernel
theorem dX5_enter_32 : decode cX5_enter 32 = .ok (.aload_n 0, 1) := by decide +kernel
theorem dX5_enter_33 : decode cX5_enter 33 = .ok (.getfield 39, 3) := by decide +kernel
theorem dX5_enter_36 : decode cX5_enter 36 = .ok (.iload_n 1, 1) := by decide +kernel
theorem dX5_enter_37 : decode cX5_enter 37 = .ok (.iaload, 1) := by decide +kernel
theorem dX5_enter_38 : decode cX5_enter 38 = .ok (.iadd, 1) := by decide +kernel
theorem dX5_enter_39 : decode cX5_enter 39 = .ok (.istore_n 3, 1) := by decide +kernel
theorem dX5_enter_40 : decode cX5_enter 40 = .ok (.iload_n 3, 1) := by decide +kernel
theorem dX5_enter_41 : decode cX5_enter 41 = .ok (.aload_n 0, 1) := by decide +kernel
theorem dX5_enter_42 : decode cX5_enter 42 = .ok (.getfield 100, 3) := by decide +kernel
theorem dX5_enter_45 : decode cX5_enter 45 = .ok (.if_icmp .le 5, 3) := by decide +kernel
theorem dX5_enter_48 : decode cX5_enter 48 = .ok (.iconst 1, 1) := by decide +kernel
theorem dX5_enter_49 : decode cX5_enter 49 = .ok (.ireturn, 1) := by decide +kernel
theorem dX5_enter_50 : decode cX5_enter 50 = .ok (.aload_n 0, 1) := by decide +kernel
theorem dX5_enter_51 : decode cX5_enter 51 = .ok (.iload_n 3, 1) := by decide +kernel
theorem dX5_enter_52 : decode cX5_enter 52 = .ok (.aload_n 0, 1) := by decide +kernel
theorem dX5_enter_53 : decode cX5_enter 53 = .ok (.getfield 275, 3) := by decide +kernel
theorem dX5_enter_56 : decode cX5_enter 56 = .ok (.if_icmp .le 7, 3) := by decide +kernel
theorem dX5_enter_59 : decode cX5_enter 59 = .ok (.iload_n 3, 1) := by decide +kernel
theorem dX5_enter_60 : decode cX5_enter 60 = .ok (.goto 7, 3) := by decide +kernel
theorem dX5_enter_63 : decode cX5_enter 63 = .ok (.aload_n 0, 1) := by decide +kernel
theorem dX5_enter_64 : decode cX5_enter 64 = .ok (.getfield 275, 3) := by decide +kernel
theorem dX5_enter_67 : decode cX5_enter 67 = .ok (.putfield 275, 3) := by decide +kernel
theorem dX5_enter_70 : decode cX5_enter 70 = .ok (.aload_n 0, 1) := by decide +kernel
theorem dX5_enter_71 : decode cX5_enter 71 = .ok (.getfield 85, 3) := by decide +kernel
theorem dX5_enter_74 : decode cX5_enter 74 = .ok (.aload_n 0, 1) := by decide +kernel
theorem dX5_enter_75 : decode cX5_enter 75 = .ok (.getfield 278, 3) := by decide +kernel
theorem dX5_enter_78 : decode cX5_enter 78 = .ok (.iload_n 1, 1) := by decide +kernel
theorem dX5_enter_79 : decode cX5_enter 79 = .ok (.bipush 6, 2) := by decide +kernel
theorem dX5_enter_81 : decode cX5_enter 81 = .ok (.idiv, 1) := by decide +kernel
theorem dX5_enter_82 : decode cX5_enter 82 = .ok (.iastore, 1) := by decide +kernel
theorem dX5_enter_83 : decode cX5_enter 83 = .ok (.aload_n 0, 1) := by decide +kernel
theorem dX5_enter_84 : decode cX5_enter 84 = .ok (.getfield 88, 3) := by decide +kernel
theorem dX5_enter_87 : decode cX5_enter 87 = .ok (.aload_n 0, 1) := by decide +kernel
theorem dX5_enter_88 : decode cX5_enter 88 = .ok (.getfield 278, 3) := by decide +kernel
theorem dX5_enter_91 : decode cX5_enter 91 = .ok (.iload_n 1, 1) := by decide +kernel
theorem dX5_enter_92 : decode cX5_enter 92 = .ok (.iastore, 1) := by decide +kernel
theorem dX5_enter_93 : decode cX5_enter 93 = .ok (.aload_n 0, 1) := by decide +kernel
theorem dX5_enter_94 : decode cX5_enter 94 = .ok (.getfield 91, 3) := by decide +kernel
theorem dX5_enter_97 : decode cX5_enter 97 = .ok (.aload_n 0, 1) := by decide +kernel
theorem dX5_enter_98 : decode cX5_enter 98 = .ok (.getfield 278, 3) := by decide +kernel
theorem dX5_enter_101 : decode cX5_enter 101 = .ok (.aload_n 0, 1) := by decide +kernel
theorem dX5_enter_102 : decode cX5_enter 102 = .ok (.getfield 42, 3) := by decide +kernel
theorem dX5_enter_105 : decode cX5_enter 105 = .ok (.iload_n 1, 1) := by decide +kernel
theorem dX5_enter_106 : decode cX5_enter 106 = .ok (.iaload, 1) := by decide +kernel
theorem dX5_enter_107 : decode cX5_enter 107 = .ok (.iastore, 1) := by decide +kernel
theorem dX5_enter_108 : decode cX5_enter 108 = .ok (.aload_n 0, 1) := by decide +kernel
theorem dX5_enter_109 : decode cX5_enter 109 = .ok (.getfield 94, 3) := by decide +kernel
theorem dX5_enter_112 : decode cX5_enter 112 = .ok (.aload_n 0, 1) := by decide +kernel
theorem dX5_enter_113 : decode cX5_enter 113 = .ok (.getfield 278, 3) := by decide +kernel
theorem dX5_enter_116 : decode cX5_enter 116 = .ok (.aload_n 0, 1) := by decide +kernel
theorem dX5_enter_117 : decode cX5_enter 117 = .ok (.getfield 266, 3) := by decide +kernel
theorem dX5_enter_120 : decode cX5_enter 120 = .ok (.aload_n 0, 1) := by decide +kernel
theorem dX5_enter_121 : decode cX5_enter 121 = .ok (.iload_n 1, 1) := by decide +kernel
theorem dX5_enter_122 : decode cX5_enter 122 = .ok (.invokevirtual 263, 3) := by decide +kernel
theorem dX5_enter_125 : decode cX5_enter 125 = .ok (.isub, 1) := by decide +kernel
theorem dX5_enter_126 : decode cX5_enter 126 = .ok (.iastore, 1) := by decide +kernel
theorem dX5_enter_127 : decode cX5_enter 127 = .ok (.aload_n 0, 1) := by decide +kernel
theorem dX5_enter_128 : decode cX5_enter 128 = .ok (.getfield 97, 3) := by decide +kernel
theorem dX5_enter_131 : decode cX5_enter 131 = .ok (.aload_n 0, 1) := by decide +kernel
theorem dX5_enter_132 : decode cX5_enter 132 = .ok (.getfield 278, 3) := by decide +kernel
theorem dX5_enter_135 : decode cX5_enter 135 = .ok (.iload_n 2, 1) := by decide +kernel
theorem dX5_enter_136 : decode cX5_enter 136 = .ok (.iconst 2, 1) := by decide +kernel
theorem dX5_enter_137 : decode cX5_enter 137 = .ok (.iadd, 1) := by decide +kernel
theorem dX5_enter_138 : decode cX5_enter 138 = .ok (.iastore, 1) := by decide +kernel
theorem dX5_enter_139 : decode cX5_enter 139 = .ok (.aload_n 0, 1) := by decide +kernel
theorem dX5_enter_140 : decode cX5_enter 140 = .ok (.dup, 1) := by decide +kernel
theorem dX5_enter_141 : decode cX5_enter 141 = .ok (.getfield 278, 3) := by decide +kernel
theorem dX5_enter_144 : decode cX5_enter 144 = .ok (.iconst 1, 1) := by decide +kernel
theorem dX5_enter_145 : decode cX5_enter 145 = .ok (.iadd, 1) := by decide +kernel
theorem dX5_enter_146 : decode cX5_enter 146 = .ok (.putfield 278, 3) := by decide +kernel
theorem dX5_enter_149 : decode cX5_enter 149 = .ok (.iconst 0, 1) := by decide +kernel
theorem dX5_enter_150 : decode cX5_enter 150 = .ok (.ireturn, 1) := by decide +kernel
theorem dX5_leave_0 : decode cX5_leave 0 = .ok (.aload_n 0, 1) := by decide +kernel
theorem dX5_leave_1 : decode cX5_leave 1 = .ok (.dup, 1) := by decide +kernel
theorem dX5_leave_2 : decode cX5_leave 2 = .ok (.getfield 278, 3) := by decide +kernel
theorem dX5_leave_5 : decode cX5_leave 5 = .ok (.iconst 1, 1) := by decide +kernel
theorem dX5_leave_6 : decode cX5_leave 6 = .ok (.isub, 1) := by decide +kernel
theorem dX5_leave_7 : decode cX5_leave 7 = .ok (.putfield 278, 3) := by decide +kernel
theorem dX5_leave_10 : decode cX5_leave 10 = .ok (.aload_n 0, 1) := by decide +kernel
theorem dX5_leave_11 : decode cX5_leave 11 = .ok (.getfield 36, 3) := by decide +kernel
theorem dX5_leave_14 : decode cX5_leave 14 = .ok (.aload_n 0, 1) := by decide +kernel
theorem dX5_leave_15 : decode cX5_leave 15 = .ok (.getfield 88, 3) := by decide +kernel
theorem dX5_leave_18 : decode cX5_leave 18 = .ok (.aload_n 0, 1) := by decide +kernel
theorem dX5_leave_19 : decode cX5_leave 19 = .ok (.getfield 278, 3) := by decide +kernel
theorem dX5_leave_22 : decode cX5_leave 22 = .ok (.iaload, 1) := by decide +kernel
theorem dX5_leave_23 : decode cX5_leave 23 = .ok (.baload, 1) := by decide +kernel
theorem dX5_leave_24 : decode cX5_leave 24 = .ok (.istore_n 1, 1) := by decide +kernel
theorem dX5_leave_25 : decode cX5_leave 25 = .ok (.iload_n 1, 1) := by decide +kernel
theorem dX5_leave_26 : decode cX5_leave 26 = .ok (.ifCond .eq 10, 3) := by decide +kernel
theorem dX5_leave_29 : decode cX5_leave 29 = .ok (.aload_n 0, 1) := by decide +kernel
theorem dX5_leave_30 : decode cX5_leave 30 = .ok (.invokevirtual 281, 3) := by decide +kernel
theorem dX5_leave_33 : decode cX5_leave 33 = .ok (.goto 4, 3) := by decide +kernel
theorem dX5_leave_36 : decode cX5_leave 36 = .ok (.iconst 0, 1) := by decide +kernel
theorem dX5_leave_37 : decode cX5_leave 37 = .ok (.istore_n 2, 1) := by decide +kernel
theorem dX5_leave_38 : decode cX5_leave 38 = .ok (.aload_n 0, 1) := by decide +kernel
theorem dX5_leave_39 : decode cX5_leave 39 = .ok (.invokevirtual 281, 3) := by decide +kernel
theorem dX5_leave_42 : decode cX5_leave 42 = .ok (.istore_n 3, 1) := by decide +kernel
theorem dX5_leave_43 : decode cX5_leave 43 = .ok (.aload_n 0, 1) := by decide +kernel
theorem dX5_leave_44 : decode cX5_leave 44 = .ok (.aload_n 0, 1) := by decide +kernel
theorem dX5_leave_45 : decode cX5_leave 45 = .ok (.getfield 94, 3) := by decide +kernel
theorem dX5_leave_48 : decode cX5_leave 48 = .ok (.aload_n 0, 1) := by decide +kernel
theorem dX5_leave_49 : decode cX5_leave 49 = .ok (.getfield 278, 3) := by decide +kernel
theorem dX5_leave_52 : decode cX5_leave 52 = .ok (.iaload, 1) := by decide +kernel
theorem dX5_leave_53 : decode cX5_leave 53 = .ok (.putfield 266, 3) := by decide +kernel
theorem dX5_leave_56 : decode cX5_leave 56 = .ok (.aload_n 0, 1) := by decide +kernel
theorem dX5_leave_57 : decode cX5_leave 57 = .ok (.iload_n 3, 1) := by decide +kernel
theorem dX5_leave_58 : decode cX5_leave 58 = .ok (.invokevirtual 284, 3) := by decide +kernel
theorem dX5_leave_61 : decode cX5_leave 61 = .ok (.iload_n 1, 1) := by decide +kernel
theorem dX5_leave_62 : decode cX5_leave 62 = .ok (.ifCond .eq 8, 3) := by decide +kernel
theorem dX5_leave_65 : decode cX5_leave 65 = .ok (.aload_n 0, 1) := by decide +kernel
theorem dX5_leave_66 : decode cX5_leave 66 = .ok (.iload_n 2, 1) := by decide +kernel
theorem dX5_leave_67 : decode cX5_leave 67 = .ok (.invokevirtual 284, 3) := by decide +kernel
theorem dX5_leave_70 : decode cX5_leave 70 = .ok (.return_, 1) := by decide +kernel
theorem dX5_invoke_0 : decode cX5_invoke 0 = .ok (.aload_n 0, 1) := by decide +kernel
theorem dX5_invoke_1 : decode cX5_invoke 1 = .ok (.iload_n 1, 1) := by decide +kernel
theorem dX5_invoke_2 : decode cX5_invoke 2 = .ok (.iload_n 2, 1) := by decide +kernel
theorem dX5_invoke_3 : decode cX5_invoke 3 = .ok (.bipush 26, 2) := by decide +kernel
theorem dX5_invoke_5 : decode cX5_invoke 5 = .ok (.irem, 1) := by decide +kernel
theorem dX5_invoke_6 : decode cX5_invoke 6 = .ok (.iload_n 2, 1) := by decide +kernel
theorem dX5_invoke_7 : decode cX5_invoke 7 = .ok (.bipush 26, 2) := by decide +kernel
theorem dX5_invoke_9 : decode cX5_invoke 9 = .ok (.idiv, 1) := by decide +kernel
theorem dX5_invoke_10 : decode cX5_invoke 10 = .ok (.iconst 1, 1) := by decide +kernel
theorem dX5_invoke_11 : decode cX5_invoke 11 = .ok (.isub, 1) := by decide +kernel
theorem dX5_invoke_12 : decode cX5_invoke 12 = .ok (.invokevirtual 183, 3) := by decide +kernel
theorem dX5_invoke_15 : decode cX5_invoke 15 = .ok (.istore 4, 2) := by decide +kernel
theorem dX5_invoke_17 : decode cX5_invoke 17 = .ok (.aload_n 0, 1) := by decide +kernel
theorem dX5_invoke_18 : decode cX5_invoke 18 = .ok (.iload_n 2, 1) := by decide +kernel
theorem dX5_invoke_19 : decode cX5_invoke 19 = .ok (.bipush 26, 2) := by decide +kernel
theorem dX5_invoke_21 : decode cX5_invoke 21 = .ok (.idiv, 1) := by decide +kernel
theorem dX5_invoke_22 : decode cX5_invoke 22 = .ok (.ifCond .ne 8, 3) := by decide +kernel
theorem dX5_invoke_25 : decode cX5_invoke 25 = .ok (.iload 4, 2) := by decide +kernel
theorem dX5_invoke_27 : decode cX5_invoke 27 = .ok (.goto 9, 3) := by decide +kernel
theorem dX5_invoke_30 : decode cX5_invoke 30 = .ok (.aload_n 0, 1) := by decide +kernel
theorem dX5_invoke_31 : decode cX5_invoke 31 = .ok (.iload 4, 2) := by decide +kernel
theorem dX5_invoke_33 : decode cX5_invoke 33 = .ok (.invokevirtual 260, 3) := by decide +kernel
theorem dX5_invoke_36 : decode cX5_invoke 36 = .ok (.iload_n 3, 1) := by decide +kernel
theorem dX5_invoke_37 : decode cX5_invoke 37 = .ok (.invokevirtual 287, 3) := by decide +kernel
theorem dX5_invoke_40 : decode cX5_invoke 40 = .ok (.ireturn, 1) := by decide +kernel
theorem dX5_work_0 : decode cX5_work 0 = .ok (.iload_n 1, 1) := by decide +kernel
theorem dX5_work_1 : decode cX5_work 1 = .ok (.iconst 3, 1) := by decide +kernel
theorem dX5_work_2 : decode cX5_work 2 = .ok (.if_icmp .lt 8, 3) := by decide +kernel
theorem dX5_work_5 : decode cX5_work 5 = .ok (.iload_n 1, 1) := by decide +kernel
theorem dX5_work_6 : decode cX5_work 6 = .ok (.iconst 5, 1) := by decide +kernel
theorem dX5_work_7 : decode cX5_work 7 = .ok (.if_icmp .le 7, 3) := by decide +kernel
theorem dX5_work_10 : decode cX5_work 10 = .ok (.iconst 0, 1) := by decide +kernel
theorem dX5_work_11 : decode cX5_work 11 = .ok (.goto 7, 3) := by decide +kernel
theorem dX5_work_14 : decode cX5_work 14 = .ok (.aload_n 0, 1) := by decide +kernel
theorem dX5_work_15 : decode cX5_work 15 = .ok (.invokevirtual 281, 3) := by decide +kernel
theorem dX5_work_18 : decode cX5_work 18 = .ok (.istore 4, 2) := by decide +kernel
theorem dX5_work_20 : decode cX5_work 20 = .ok (.iload_n 1, 1) := by decide +kernel
theorem dX5_work_21 : decode cX5_work 21 = .ok (.tableswitch 150 0 6 #[43, 51, 66, 95, 109, 123, 137], 43) := by decide +kernel
theorem dX5_work_64 : decode cX5_work 64 = .ok (.aload_n 0, 1) := by decide +kernel
theorem dX5_work_65 : decode cX5_work 65 = .ok (.iload_n 2, 1) := by decide +kernel
theorem dX5_work_66 : decode cX5_work 66 = .ok (.invokevirtual 284, 3) := by decide +kernel
theorem dX5_work_69 : decode cX5_work 69 = .ok (.goto 134, 3) := by decide +kernel
theorem dX5_work_72 : decode cX5_work 72 = .ok (.aload_n 0, 1) := by decide +kernel
theorem dX5_work_73 : decode cX5_work 73 = .ok (.aload_n 0, 1) := by decide +kernel
theorem dX5_work_74 : decode cX5_work 74 = .ok (.getfield 82, 3) := by decide +kernel
theorem dX5_work_77 : decode cX5_work 77 = .ok (.iload_n 3, 1) := by decide +kernel
theorem dX5_work_78 : decode cX5_work 78 = .ok (.iload_n 2, 1) := by decide +kernel
theorem dX5_work_79 : decode cX5_work 79 = .ok (.iadd, 1) := by decide +kernel
theorem dX5_work_80 : decode cX5_work 80 = .ok (.iaload, 1) := by decide +kernel
theorem dX5_work_81 : decode cX5_work 81 = .ok (.invokevirtual 284, 3) := by decide +kernel
theorem dX5_work_84 : decode cX5_work 84 = .ok (.goto 119, 3) := by decide +kernel
theorem dX5_work_87 : decode cX5_work 87 = .ok (.aload_n 0, 1) := by decide +kernel
theorem dX5_work_88 : decode cX5_work 88 = .ok (.aload_n 0, 1) := by decide +kernel
theorem dX5_work_89 : decode cX5_work 89 = .ok (.getfield 82, 3) := by decide +kernel
theorem dX5_work_92 : decode cX5_work 92 = .ok (.iload_n 3, 1) := by decide +kernel
theorem dX5_work_93 : decode cX5_work 93 = .ok (.iload_n 2, 1) := by decide +kernel
theorem dX5_work_94 : decode cX5_work 94 = .ok (.iadd, 1) := by decide +kernel
theorem dX5_work_95 : decode cX5_work 95 = .ok (.iaload, 1) := by decide +kernel
theorem dX5_work_96 : decode cX5_work 96 = .ok (.invokevirtual 284, 3) := by decide +kernel
theorem dX5_work_99 : decode cX5_work 99 = .ok (.aload_n 0, 1) := by decide +kernel
theorem dX5_work_100 : decode cX5_work 100 = .ok (.aload_n 0, 1) := by decide +kernel
theorem dX5_work_101 : decode cX5_work 101 = .ok (.getfield 82, 3) := by decide +kernel
theorem dX5_work_104 : decode cX5_work 104 = .ok (.iload_n 3, 1) := by decide +kernel
theorem dX5_work_105 : decode cX5_work 105 = .ok (.iload_n 2, 1) := by decide +kernel
theorem dX5_work_106 : decode cX5_work 106 = .ok (.iadd, 1) := by decide +kernel
theorem dX5_work_107 : decode cX5_work 107 = .ok (.iconst 1, 1) := by decide +kernel
theorem dX5_work_108 : decode cX5_work 108 = .ok (.iadd, 1) := by decide +kernel
theorem dX5_work_109 : decode cX5_work 109 = .ok (.iaload, 1) := by decide +kernel
theorem dX5_work_110 : decode cX5_work 110 = .ok (.invokevirtual 284, 3) := by decide +kernel
theorem dX5_work_113 : decode cX5_work 113 = .ok (.goto 90, 3) := by decide +kernel
theorem dX5_work_116 : decode cX5_work 116 = .ok (.aload_n 0, 1) := by decide +kernel
theorem dX5_work_117 : decode cX5_work 117 = .ok (.aload_n 0, 1) := by decide +kernel
theorem dX5_work_118 : decode cX5_work 118 = .ok (.invokevirtual 281, 3) := by decide +kernel
theorem dX5_work_121 : decode cX5_work 121 = .ok (.iload 4, 2) := by decide +kernel
theorem dX5_work_123 : decode cX5_work 123 = .ok (.iadd, 1) := by decide +kernel
theorem dX5_work_124 : decode cX5_work 124 = .ok (.invokevirtual 284, 3) := by decide +kernel
theorem dX5_work_127 : decode cX5_work 127 = .ok (.goto 76, 3) := by decide +kernel
theorem dX5_work_130 : decode cX5_work 130 = .ok (.aload_n 0, 1) := by decide +kernel
theorem dX5_work_131 : decode cX5_work 131 = .ok (.aload_n 0, 1) := by decide +kernel
theorem dX5_work_132 : decode cX5_work 132 = .ok (.invokevirtual 281, 3) := by decide +kernel
theorem dX5_work_135 : decode cX5_work 135 = .ok (.iload 4, 2) := by decide +kernel
theorem dX5_work_137 : decode cX5_work 137 = .ok (.isub, 1) := by decide +kernel
theorem dX5_work_138 : decode cX5_work 138 = .ok (.invokevirtual 284, 3) := by decide +kernel
theorem dX5_work_141 : decode cX5_work 141 = .ok (.goto 62, 3) := by decide +kernel
theorem dX5_work_144 : decode cX5_work 144 = .ok (.aload_n 0, 1) := by decide +kernel
theorem dX5_work_145 : decode cX5_work 145 = .ok (.aload_n 0, 1) := by decide +kernel
theorem dX5_work_146 : decode cX5_work 146 = .ok (.invokevirtual 281, 3) := by decide +kernel
theorem dX5_work_149 : decode cX5_work 149 = .ok (.iload 4, 2) := by decide +kernel
theorem dX5_work_151 : decode cX5_work 151 = .ok (.imul, 1) := by decide +kernel
theorem dX5_work_152 : decode cX5_work 152 = .ok (.invokevirtual 284, 3) := by decide +kernel
theorem dX5_work_155 : decode cX5_work 155 = .ok (.goto 48, 3) := by decide +kernel
theorem dX5_work_158 : decode cX5_work 158 = .ok (.aload_n 0, 1) := by decide +kernel
theorem dX5_work_159 : decode cX5_work 159 = .ok (.dup, 1) := by decide +kernel
theorem dX5_work_160 : decode cX5_work 160 = .ok (.getfield 266, 3) := by decide +kernel
theorem dX5_work_163 : decode cX5_work 163 = .ok (.iconst 1, 1) := by decide +kernel
theorem dX5_work_164 : decode cX5_work 164 = .ok (.isub, 1) := by decide +kernel
theorem dX5_work_165 : decode cX5_work 165 = .ok (.putfield 266, 3) := by decide +kernel
theorem dX5_work_168 : decode cX5_work 168 = .ok (.goto 35, 3) := by decide +kernel
theorem dX5_work_171 : decode cX5_work 171 = .ok (.aload_n 0, 1) := by decide +kernel
theorem dX5_work_172 : decode cX5_work 172 = .ok (.getfield 82, 3) := by decide +kernel
theorem dX5_work_175 : decode cX5_work 175 = .ok (.aload_n 0, 1) := by decide +kernel
theorem dX5_work_176 : decode cX5_work 176 = .ok (.getfield 266, 3) := by decide +kernel
theorem dX5_work_179 : decode cX5_work 179 = .ok (.iconst 2, 1) := by decide +kernel
theorem dX5_work_180 : decode cX5_work 180 = .ok (.isub, 1) := by decide +kernel
theorem dX5_work_181 : decode cX5_work 181 = .ok (.aload_n 0, 1) := by decide +kernel
theorem dX5_work_182 : decode cX5_work 182 = .ok (.getfield 82, 3) := by decide +kernel
theorem dX5_work_185 : decode cX5_work 185 = .ok (.aload_n 0, 1) := by decide +kernel
theorem dX5_work_186 : decode cX5_work 186 = .ok (.getfield 266, 3) := by decide +kernel
theorem dX5_work_189 : decode cX5_work 189 = .ok (.iconst 1, 1) := by decide +kernel
theorem dX5_work_190 : decode cX5_work 190 = .ok (.isub, 1) := by decide +kernel
theorem dX5_work_191 : decode cX5_work 191 = .ok (.iaload, 1) := by decide +kernel
theorem dX5_work_192 : decode cX5_work 192 = .ok (.iastore, 1) := by decide +kernel
theorem dX5_work_193 : decode cX5_work 193 = .ok (.aload_n 0, 1) := by decide +kernel
theorem dX5_work_194 : decode cX5_work 194 = .ok (.dup, 1) := by decide +kernel
theorem dX5_work_195 : decode cX5_work 195 = .ok (.getfield 266, 3) := by decide +kernel
theorem dX5_work_198 : decode cX5_work 198 = .ok (.iconst 1, 1) := by decide +kernel
theorem dX5_work_199 : decode cX5_work 199 = .ok (.isub, 1) := by decide +kernel
theorem dX5_work_200 : decode cX5_work 200 = .ok (.putfield 266, 3) := by decide +kernel
theorem dX5_work_203 : decode cX5_work 203 = .ok (.return_, 1) := by decide +kernel
theorem dX5_go_0 : decode cX5_go 0 = .ok (.iconst 0, 1) := by decide +kernel
theorem dX5_go_1 : decode cX5_go 1 = .ok (.istore_n 1, 1) := by decide +kernel
theorem dX5_go_2 : decode cX5_go 2 = .ok (.aload_n 0, 1) := by decide +kernel
theorem dX5_go_3 : decode cX5_go 3 = .ok (.getfield 278, 3) := by decide +kernel
theorem dX5_go_6 : decode cX5_go 6 = .ok (.ifCond .le 171, 3) := by decide +kernel
theorem dX5_go_9 : decode cX5_go 9 = .ok (.iload_n 1, 1) := by decide +kernel
theorem dX5_go_10 : decode cX5_go 10 = .ok (.ifCond .ne 167, 3) := by decide +kernel
theorem dX5_go_13 : decode cX5_go 13 = .ok (.aload_n 0, 1) := by decide +kernel
theorem dX5_go_14 : decode cX5_go 14 = .ok (.getfield 278, 3) := by decide +kernel
theorem dX5_go_17 : decode cX5_go 17 = .ok (.iconst 1, 1) := by decide +kernel
theorem dX5_go_18 : decode cX5_go 18 = .ok (.isub, 1) := by decide +kernel
theorem dX5_go_19 : decode cX5_go 19 = .ok (.istore_n 2, 1) := by decide +kernel
theorem dX5_go_20 : decode cX5_go 20 = .ok (.aload_n 0, 1) := by decide +kernel
theorem dX5_go_21 : decode cX5_go 21 = .ok (.getfield 85, 3) := by decide +kernel
theorem dX5_go_24 : decode cX5_go 24 = .ok (.iload_n 2, 1) := by decide +kernel
theorem dX5_go_25 : decode cX5_go 25 = .ok (.iaload, 1) := by decide +kernel
theorem dX5_go_26 : decode cX5_go 26 = .ok (.istore_n 3, 1) := by decide +kernel
theorem dX5_go_27 : decode cX5_go 27 = .ok (.sipush 130, 3) := by decide +kernel
theorem dX5_go_30 : decode cX5_go 30 = .ok (.iload_n 3, 1) := by decide +kernel
theorem dX5_go_31 : decode cX5_go 31 = .ok (.imul, 1) := by decide +kernel
theorem dX5_go_32 : decode cX5_go 32 = .ok (.aload_n 0, 1) := by decide +kernel
theorem dX5_go_33 : decode cX5_go 33 = .ok (.getfield 91, 3) := by decide +kernel
theorem dX5_go_36 : decode cX5_go 36 = .ok (.iload_n 2, 1) := by decide +kernel
theorem dX5_go_37 : decode cX5_go 37 = .ok (.iaload, 1) := by decide +kernel
theorem dX5_go_38 : decode cX5_go 38 = .ok (.iadd, 1) := by decide +kernel
theorem dX5_go_39 : decode cX5_go 39 = .ok (.istore 4, 2) := by decide +kernel
theorem dX5_go_41 : decode cX5_go 41 = .ok (.aload_n 0, 1) := by decide +kernel
theorem dX5_go_42 : decode cX5_go 42 = .ok (.getfield 91, 3) := by decide +kernel
theorem dX5_go_45 : decode cX5_go 45 = .ok (.iload_n 2, 1) := by decide +kernel
theorem dX5_go_46 : decode cX5_go 46 = .ok (.dup2, 1) := by decide +kernel
theorem dX5_go_47 : decode cX5_go 47 = .ok (.iaload, 1) := by decide +kernel
theorem dX5_go_48 : decode cX5_go 48 = .ok (.iconst 1, 1) := by decide +kernel
theorem dX5_go_49 : decode cX5_go 49 = .ok (.iadd, 1) := by decide +kernel
theorem dX5_go_50 : decode cX5_go 50 = .ok (.iastore, 1) := by decide +kernel
theorem dX5_go_51 : decode cX5_go 51 = .ok (.aload_n 0, 1) := by decide +kernel
theorem dX5_go_52 : decode cX5_go 52 = .ok (.getfield 45, 3) := by decide +kernel
theorem dX5_go_55 : decode cX5_go 55 = .ok (.iload 4, 2) := by decide +kernel
theorem dX5_go_57 : decode cX5_go 57 = .ok (.iaload, 1) := by decide +kernel
theorem dX5_go_58 : decode cX5_go 58 = .ok (.istore 5, 2) := by decide +kernel
theorem dX5_go_60 : decode cX5_go 60 = .ok (.iload 5, 2) := by decide +kernel
theorem dX5_go_62 : decode cX5_go 62 = .ok (.bipush 10, 2) := by decide +kernel
theorem dX5_go_64 : decode cX5_go 64 = .ok (.if_icmp .ne 33, 3) := by decide +kernel
theorem dX5_go_67 : decode cX5_go 67 = .ok (.aload_n 0, 1) := by decide +kernel
theorem dX5_go_68 : decode cX5_go 68 = .ok (.iload_n 3, 1) := by decide +kernel
theorem dX5_go_69 : decode cX5_go 69 = .ok (.aload_n 0, 1) := by decide +kernel
theorem dX5_go_70 : decode cX5_go 70 = .ok (.getfield 48, 3) := by decide +kernel
theorem dX5_go_73 : decode cX5_go 73 = .ok (.iload 4, 2) := by decide +kernel
theorem dX5_go_75 : decode cX5_go 75 = .ok (.iaload, 1) := by decide +kernel
theorem dX5_go_76 : decode cX5_go 76 = .ok (.aload_n 0, 1) := by decide +kernel
theorem dX5_go_77 : decode cX5_go 77 = .ok (.getfield 97, 3) := by decide +kernel
theorem dX5_go_80 : decode cX5_go 80 = .ok (.iload_n 2, 1) := by decide +kernel
theorem dX5_go_81 : decode cX5_go 81 = .ok (.iaload, 1) := by decide +kernel
theorem dX5_go_82 : decode cX5_go 82 = .ok (.aload_n 0, 1) := by decide +kernel
theorem dX5_go_83 : decode cX5_go 83 = .ok (.getfield 51, 3) := by decide +kernel
theorem dX5_go_86 : decode cX5_go 86 = .ok (.iload 4, 2) := by decide +kernel
theorem dX5_go_88 : decode cX5_go 88 = .ok (.iaload, 1) := by decide +kernel
theorem dX5_go_89 : decode cX5_go 89 = .ok (.iadd, 1) := by decide +kernel
theorem dX5_go_90 : decode cX5_go 90 = .ok (.invokevirtual 290, 3) := by decide +kernel
theorem dX5_go_93 : decode cX5_go 93 = .ok (.istore_n 1, 1) := by decide +kernel
theorem dX5_go_94 : decode cX5_go 94 = .ok (.goto 80, 3) := by decide +kernel
theorem dX5_go_97 : decode cX5_go 97 = .ok (.iload 5, 2) := by decide +kernel
theorem dX5_go_99 : decode cX5_go 99 = .ok (.bipush 11, 2) := by decide +kernel
theorem dX5_go_101 : decode cX5_go 101 = .ok (.if_icmp .ne 10, 3) := by decide +kernel
theorem dX5_go_104 : decode cX5_go 104 = .ok (.aload_n 0, 1) := by decide +kernel
theorem dX5_go_105 : decode cX5_go 105 = .ok (.invokevirtual 293, 3) := by decide +kernel
theorem dX5_go_108 : decode cX5_go 108 = .ok (.goto 66, 3) := by decide +kernel
theorem dX5_go_111 : decode cX5_go 111 = .ok (.iload 5, 2) := by decide +kernel
theorem dX5_go_113 : decode cX5_go 113 = .ok (.bipush 9, 2) := by decide +kernel
theorem dX5_go_115 : decode cX5_go 115 = .ok (.if_icmp .eq 17, 3) := by decide +kernel
theorem dX5_go_118 : decode cX5_go 118 = .ok (.iload 5, 2) := by decide +kernel
theorem dX5_go_120 : decode cX5_go 120 = .ok (.bipush 8, 2) := by decide +kernel
theorem dX5_go_122 : decode cX5_go 122 = .ok (.if_icmp .ne 26, 3) := by decide +kernel
theorem dX5_go_125 : decode cX5_go 125 = .ok (.aload_n 0, 1) := by decide +kernel
theorem dX5_go_126 : decode cX5_go 126 = .ok (.invokevirtual 281, 3) := by decide +kernel
theorem dX5_go_129 : decode cX5_go 129 = .ok (.ifCond .ne 19, 3) := by decide +kernel
theorem dX5_go_132 : decode cX5_go 132 = .ok (.aload_n 0, 1) := by decide +kernel
theorem dX5_go_133 : decode cX5_go 133 = .ok (.getfield 91, 3) := by decide +kernel
theorem dX5_go_136 : decode cX5_go 136 = .ok (.iload_n 2, 1) := by decide +kernel
theorem dX5_go_137 : decode cX5_go 137 = .ok (.aload_n 0, 1) := by decide +kernel
theorem dX5_go_138 : decode cX5_go 138 = .ok (.getfield 48, 3) := by decide +kernel
theorem dX5_go_141 : decode cX5_go 141 = .ok (.iload 4, 2) := by decide +kernel
theorem dX5_go_143 : decode cX5_go 143 = .ok (.iaload, 1) := by decide +kernel
theorem dX5_go_144 : decode cX5_go 144 = .ok (.iastore, 1) := by decide +kernel
theorem dX5_go_145 : decode cX5_go 145 = .ok (.goto 29, 3) := by decide +kernel
theorem dX5_go_148 : decode cX5_go 148 = .ok (.iload 5, 2) := by decide +kernel
theorem dX5_go_150 : decode cX5_go 150 = .ok (.bipush 8, 2) := by decide +kernel
theorem dX5_go_152 : decode cX5_go 152 = .ok (.if_icmp .eq 22, 3) := by decide +kernel
theorem dX5_go_155 : decode cX5_go 155 = .ok (.aload_n 0, 1) := by decide +kernel
theorem dX5_go_156 : decode cX5_go 156 = .ok (.iload 5, 2) := by decide +kernel
theorem dX5_go_158 : decode cX5_go 158 = .ok (.aload_n 0, 1) := by decide +kernel
theorem dX5_go_159 : decode cX5_go 159 = .ok (.getfield 48, 3) := by decide +kernel
theorem dX5_go_162 : decode cX5_go 162 = .ok (.iload 4, 2) := by decide +kernel
theorem dX5_go_164 : decode cX5_go 164 = .ok (.iaload, 1) := by decide +kernel
theorem dX5_go_165 : decode cX5_go 165 = .ok (.aload_n 0, 1) := by decide +kernel
theorem dX5_go_166 : decode cX5_go 166 = .ok (.getfield 94, 3) := by decide +kernel
theorem dX5_go_169 : decode cX5_go 169 = .ok (.iload_n 2, 1) := by decide +kernel
theorem dX5_go_170 : decode cX5_go 170 = .ok (.iaload, 1) := by decide +kernel
theorem dX5_go_171 : decode cX5_go 171 = .ok (.invokevirtual 296, 3) := by decide +kernel
theorem dX5_go_174 : decode cX5_go 174 = .ok (.goto (-172), 3) := by decide +kernel
theorem dX5_go_177 : decode cX5_go 177 = .ok (.iload_n 1, 1) := by decide +kernel
theorem dX5_go_178 : decode cX5_go 178 = .ok (.ireturn, 1) := by decide +kernel
theorem dX5_callable_0 : decode cX5_callable 0 = .ok (.aload_n 0, 1) := by decide +kernel
theorem dX5_callable_1 : decode cX5_callable 1 = .ok (.getfield 253, 3) := by decide +kernel
theorem dX5_callable_4 : decode cX5_callable 4 = .ok (.ifCond .ne 5, 3) := by decide +kernel
theorem dX5_callable_7 : decode cX5_callable 7 = .ok (.iconst 1, 1) := by decide +kernel
theorem dX5_callable_8 : decode cX5_callable 8 = .ok (.ireturn, 1) := by decide +kernel
theorem dX5_callable_9 : decode cX5_callable 9 = .ok (.aload_n 0, 1) := by decide +kernel
theorem dX5_callable_10 : decode cX5_callable 10 = .ok (.iload_n 1, 1) := by decide +kernel
theorem dX5_callable_11 : decode cX5_callable 11 = .ok (.invokevirtual 256, 3) := by decide +kernel
theorem dX5_callable_14 : decode cX5_callable 14 = .ok (.ifCond .eq 13, 3) := by decide +kernel
theorem dX5_callable_17 : decode cX5_callable 17 = .ok (.aload_n 0, 1) := by decide +kernel
theorem dX5_callable_18 : decode cX5_callable 18 = .ok (.iload_n 1, 1) := by decide +kernel
theorem dX5_callable_19 : decode cX5_callable 19 = .ok (.iload_n 2, 1) := by decide +kernel
theorem dX5_callable_20 : decode cX5_callable 20 = .ok (.iconst (-1), 1) := by decide +kernel
theorem dX5_callable_21 : decode cX5_callable 21 = .ok (.invokevirtual 183, 3) := by decide +kernel
theorem dX5_callable_24 : decode cX5_callable 24 = .ok (.goto 4, 3) := by decide +kernel
theorem dX5_callable_27 : decode cX5_callable 27 = .ok (.iconst (-1), 1) := by decide +kernel
theorem dX5_callable_28 : decode cX5_callable 28 = .ok (.istore_n 3, 1) := by decide +kernel
theorem dX5_callable_29 : decode cX5_callable 29 = .ok (.iload_n 3, 1) := by decide +kernel
theorem dX5_callable_30 : decode cX5_callable 30 = .ok (.iconst (-1), 1) := by decide +kernel
theorem dX5_callable_31 : decode cX5_callable 31 = .ok (.if_icmp .eq 12, 3) := by decide +kernel
theorem dX5_callable_34 : decode cX5_callable 34 = .ok (.aload_n 0, 1) := by decide +kernel
theorem dX5_callable_35 : decode cX5_callable 35 = .ok (.getfield 27, 3) := by decide +kernel
theorem dX5_callable_38 : decode cX5_callable 38 = .ok (.iload_n 3, 1) := by decide +kernel
theorem dX5_callable_39 : decode cX5_callable 39 = .ok (.baload, 1) := by decide +kernel
theorem dX5_callable_40 : decode cX5_callable 40 = .ok (.ifCond .ne 7, 3) := by decide +kernel
theorem dX5_callable_43 : decode cX5_callable 43 = .ok (.iconst 2, 1) := by decide +kernel
theorem dX5_callable_44 : decode cX5_callable 44 = .ok (.goto 17, 3) := by decide +kernel
theorem dX5_callable_47 : decode cX5_callable 47 = .ok (.aload_n 0, 1) := by decide +kernel
theorem dX5_callable_48 : decode cX5_callable 48 = .ok (.iload_n 3, 1) := by decide +kernel
theorem dX5_callable_49 : decode cX5_callable 49 = .ok (.invokevirtual 263, 3) := by decide +kernel
theorem dX5_callable_52 : decode cX5_callable 52 = .ok (.iconst 4, 1) := by decide +kernel
theorem dX5_callable_53 : decode cX5_callable 53 = .ok (.if_icmp .le 7, 3) := by decide +kernel
theorem dX5_callable_56 : decode cX5_callable 56 = .ok (.iconst 3, 1) := by decide +kernel
theorem dX5_callable_57 : decode cX5_callable 57 = .ok (.goto 4, 3) := by decide +kernel
theorem dX5_callable_60 : decode cX5_callable 60 = .ok (.iconst 0, 1) := by decide +kernel
theorem dX5_callable_61 : decode cX5_callable 61 = .ok (.ireturn, 1) := by decide +kernel
theorem dX5_call_0 : decode cX5_call 0 = .ok (.aload_n 0, 1) := by decide +kernel
theorem dX5_call_1 : decode cX5_call 1 = .ok (.aload_n 0, 1) := by decide +kernel
theorem dX5_call_2 : decode cX5_call 2 = .ok (.iload_n 1, 1) := by decide +kernel
theorem dX5_call_3 : decode cX5_call 3 = .ok (.iload_n 2, 1) := by decide +kernel
theorem dX5_call_4 : decode cX5_call 4 = .ok (.invokevirtual 300, 3) := by decide +kernel
theorem dX5_call_7 : decode cX5_call 7 = .ok (.putfield 103, 3) := by decide +kernel
theorem dX5_call_10 : decode cX5_call 10 = .ok (.aload_n 0, 1) := by decide +kernel
theorem dX5_call_11 : decode cX5_call 11 = .ok (.getfield 103, 3) := by decide +kernel
theorem dX5_call_14 : decode cX5_call 14 = .ok (.ifCond .le 5, 3) := by decide +kernel
theorem dX5_call_17 : decode cX5_call 17 = .ok (.iconst 0, 1) := by decide +kernel
theorem dX5_call_18 : decode cX5_call 18 = .ok (.ireturn, 1) := by decide +kernel
theorem dX5_call_19 : decode cX5_call 19 = .ok (.aload_n 0, 1) := by decide +kernel
theorem dX5_call_20 : decode cX5_call 20 = .ok (.iload_n 1, 1) := by decide +kernel
theorem dX5_call_21 : decode cX5_call 21 = .ok (.iload_n 2, 1) := by decide +kernel
theorem dX5_call_22 : decode cX5_call 22 = .ok (.iconst (-1), 1) := by decide +kernel
theorem dX5_call_23 : decode cX5_call 23 = .ok (.invokevirtual 183, 3) := by decide +kernel
theorem dX5_call_26 : decode cX5_call 26 = .ok (.istore 8, 2) := by decide +kernel
theorem dX5_call_28 : decode cX5_call 28 = .ok (.aload_n 0, 1) := by decide +kernel
theorem dX5_call_29 : decode cX5_call 29 = .ok (.iload 8, 2) := by decide +kernel
theorem dX5_call_31 : decode cX5_call 31 = .ok (.invokevirtual 263, 3) := by decide +kernel
theorem dX5_call_34 : decode cX5_call 34 = .ok (.istore 9, 2) := by decide +kernel
theorem dX5_call_36 : decode cX5_call 36 = .ok (.aload_n 0, 1) := by decide +kernel
theorem dX5_call_37 : decode cX5_call 37 = .ok (.iload 7, 2) := by decide +kernel
theorem dX5_call_39 : decode cX5_call 39 = .ok (.ifCond .ge 7, 3) := by decide +kernel
theorem dX5_call_42 : decode cX5_call 42 = .ok (.iconst 0, 1) := by decide +kernel
theorem dX5_call_43 : decode cX5_call 43 = .ok (.goto 19, 3) := by decide +kernel
theorem dX5_call_46 : decode cX5_call 46 = .ok (.iload 7, 2) := by decide +kernel
theorem dX5_call_48 : decode cX5_call 48 = .ok (.sipush 3000, 3) := by decide +kernel
theorem dX5_call_51 : decode cX5_call 51 = .ok (.if_icmp .le 9, 3) := by decide +kernel
theorem dX5_call_54 : decode cX5_call 54 = .ok (.sipush 3000, 3) := by decide +kernel
theorem dX5_call_57 : decode cX5_call 57 = .ok (.goto 5, 3) := by decide +kernel
theorem dX5_call_60 : decode cX5_call 60 = .ok (.iload 7, 2) := by decide +kernel
theorem dX5_call_62 : decode cX5_call 62 = .ok (.putfield 269, 3) := by decide +kernel
theorem dX5_call_65 : decode cX5_call 65 = .ok (.aload_n 0, 1) := by decide +kernel
theorem dX5_call_66 : decode cX5_call 66 = .ok (.iconst 0, 1) := by decide +kernel
theorem dX5_call_67 : decode cX5_call 67 = .ok (.putfield 272, 3) := by decide +kernel
theorem dX5_call_70 : decode cX5_call 70 = .ok (.aload_n 0, 1) := by decide +kernel
theorem dX5_call_71 : decode cX5_call 71 = .ok (.iconst 0, 1) := by decide +kernel
theorem dX5_call_72 : decode cX5_call 72 = .ok (.putfield 275, 3) := by decide +kernel
theorem dX5_call_75 : decode cX5_call 75 = .ok (.aload_n 0, 1) := by decide +kernel
theorem dX5_call_76 : decode cX5_call 76 = .ok (.iconst 0, 1) := by decide +kernel
theorem dX5_call_77 : decode cX5_call 77 = .ok (.putfield 278, 3) := by decide +kernel
theorem dX5_call_80 : decode cX5_call 80 = .ok (.aload_n 0, 1) := by decide +kernel
theorem dX5_call_81 : decode cX5_call 81 = .ok (.iconst 0, 1) := by decide +kernel
theorem dX5_call_82 : decode cX5_call 82 = .ok (.putfield 266, 3) := by decide +kernel
theorem dX5_call_85 : decode cX5_call 85 = .ok (.iload 9, 2) := by decide +kernel
theorem dX5_call_87 : decode cX5_call 87 = .ok (.ifCond .le 8, 3) := by decide +kernel
theorem dX5_call_90 : decode cX5_call 90 = .ok (.aload_n 0, 1) := by decide +kernel
theorem dX5_call_91 : decode cX5_call 91 = .ok (.iload_n 3, 1) := by decide +kernel
theorem dX5_call_92 : decode cX5_call 92 = .ok (.invokevirtual 284, 3) := by decide +kernel
theorem dX5_call_95 : decode cX5_call 95 = .ok (.iload 9, 2) := by decide +kernel
theorem dX5_call_97 : decode cX5_call 97 = .ok (.iconst 1, 1) := by decide +kernel
theorem dX5_call_98 : decode cX5_call 98 = .ok (.if_icmp .le 9, 3) := by decide +kernel
theorem dX5_call_101 : decode cX5_call 101 = .ok (.aload_n 0, 1) := by decide +kernel
theorem dX5_call_102 : decode cX5_call 102 = .ok (.iload 4, 2) := by decide +kernel
theorem dX5_call_104 : decode cX5_call 104 = .ok (.invokevirtual 284, 3) := by decide +kernel
theorem dX5_call_107 : decode cX5_call 107 = .ok (.iload 9, 2) := by decide +kernel
theorem dX5_call_109 : decode cX5_call 109 = .ok (.iconst 2, 1) := by decide +kernel
theorem dX5_call_110 : decode cX5_call 110 = .ok (.if_icmp .le 9, 3) := by decide +kernel
theorem dX5_call_113 : decode cX5_call 113 = .ok (.aload_n 0, 1) := by decide +kernel
theorem dX5_call_114 : decode cX5_call 114 = .ok (.iload 5, 2) := by decide +kernel
theorem dX5_call_116 : decode cX5_call 116 = .ok (.invokevirtual 284, 3) := by decide +kernel
theorem dX5_call_119 : decode cX5_call 119 = .ok (.iload 9, 2) := by decide +kernel
theorem dX5_call_121 : decode cX5_call 121 = .ok (.iconst 3, 1) := by decide +kernel
theorem dX5_call_122 : decode cX5_call 122 = .ok (.if_icmp .le 9, 3) := by decide +kernel
theorem dX5_call_125 : decode cX5_call 125 = .ok (.aload_n 0, 1) := by decide +kernel
theorem dX5_call_126 : decode cX5_call 126 = .ok (.iload 6, 2) := by decide +kernel
theorem dX5_call_128 : decode cX5_call 128 = .ok (.invokevirtual 284, 3) := by decide +kernel
theorem dX5_call_131 : decode cX5_call 131 = .ok (.aload_n 0, 1) := by decide +kernel
theorem dX5_call_132 : decode cX5_call 132 = .ok (.iload 8, 2) := by decide +kernel
theorem dX5_call_134 : decode cX5_call 134 = .ok (.iload 9, 2) := by decide +kernel
theorem dX5_call_136 : decode cX5_call 136 = .ok (.invokevirtual 287, 3) := by decide +kernel
theorem dX5_call_139 : decode cX5_call 139 = .ok (.istore 10, 2) := by decide +kernel
theorem dX5_call_141 : decode cX5_call 141 = .ok (.iload 10, 2) := by decide +kernel
theorem dX5_call_143 : decode cX5_call 143 = .ok (.ifCond .ne 10, 3) := by decide +kernel
theorem dX5_call_146 : decode cX5_call 146 = .ok (.aload_n 0, 1) := by decide +kernel
theorem dX5_call_147 : decode cX5_call 147 = .ok (.invokevirtual 303, 3) := by decide +kernel
theorem dX5_call_150 : decode cX5_call 150 = .ok (.goto 5, 3) := by decide +kernel
theorem dX5_call_153 : decode cX5_call 153 = .ok (.iload 10, 2) := by decide +kernel
theorem dX5_call_155 : decode cX5_call 155 = .ok (.istore 10, 2) := by decide +kernel
theorem dX5_call_157 : decode cX5_call 157 = .ok (.aload_n 0, 1) := by decide +kernel
theorem dX5_call_158 : decode cX5_call 158 = .ok (.iload 10, 2) := by decide +kernel
theorem dX5_call_160 : decode cX5_call 160 = .ok (.ifCond .ne 20, 3) := by decide +kernel
theorem dX5_call_163 : decode cX5_call 163 = .ok (.aload_n 0, 1) := by decide +kernel
theorem dX5_call_164 : decode cX5_call 164 = .ok (.getfield 36, 3) := by decide +kernel
theorem dX5_call_167 : decode cX5_call 167 = .ok (.iload 8, 2) := by decide +kernel
theorem dX5_call_169 : decode cX5_call 169 = .ok (.baload, 1) := by decide +kernel
theorem dX5_call_170 : decode cX5_call 170 = .ok (.ifCond .eq 10, 3) := by decide +kernel
theorem dX5_call_173 : decode cX5_call 173 = .ok (.aload_n 0, 1) := by decide +kernel
theorem dX5_call_174 : decode cX5_call 174 = .ok (.invokevirtual 281, 3) := by decide +kernel
theorem dX5_call_177 : decode cX5_call 177 = .ok (.goto 4, 3) := by decide +kernel
theorem dX5_call_180 : decode cX5_call 180 = .ok (.iconst 0, 1) := by decide +kernel
theorem dX5_call_181 : decode cX5_call 181 = .ok (.putfield 306, 3) := by decide +kernel
theorem dX5_call_184 : decode cX5_call 184 = .ok (.aload_n 0, 1) := by decide +kernel
theorem dX5_call_185 : decode cX5_call 185 = .ok (.iload 10, 2) := by decide +kernel
theorem dX5_call_187 : decode cX5_call 187 = .ok (.ifCond .ne 10, 3) := by decide +kernel
theorem dX5_call_190 : decode cX5_call 190 = .ok (.aload_n 0, 1) := by decide +kernel
theorem dX5_call_191 : decode cX5_call 191 = .ok (.invokevirtual 281, 3) := by decide +kernel
theorem dX5_call_194 : decode cX5_call 194 = .ok (.goto 4, 3) := by decide +kernel
theorem dX5_call_197 : decode cX5_call 197 = .ok (.iconst 0, 1) := by decide +kernel
theorem dX5_call_198 : decode cX5_call 198 = .ok (.putfield 309, 3) := by decide +kernel
theorem dX5_call_201 : decode cX5_call 201 = .ok (.iload 10, 2) := by decide +kernel
theorem dX5_call_203 : decode cX5_call 203 = .ok (.ireturn, 1) := by decide +kernel
theorem dX5_result_0 : decode cX5_result 0 = .ok (.aload_n 0, 1) := by decide +kernel
theorem dX5_result_1 : decode cX5_result 1 = .ok (.iconst 0, 1) := by decide +kernel
theorem dX5_result_2 : decode cX5_result 2 = .ok (.putfield 103, 3) := by decide +kernel
theorem dX5_result_5 : decode cX5_result 5 = .ok (.iload_n 1, 1) := by decide +kernel
theorem dX5_result_6 : decode cX5_result 6 = .ok (.ifCond .ne 10, 3) := by decide +kernel
theorem dX5_result_9 : decode cX5_result 9 = .ok (.aload_n 0, 1) := by decide +kernel
theorem dX5_result_10 : decode cX5_result 10 = .ok (.getfield 309, 3) := by decide +kernel
theorem dX5_result_13 : decode cX5_result 13 = .ok (.goto 16, 3) := by decide +kernel
theorem dX5_result_16 : decode cX5_result 16 = .ok (.iload_n 1, 1) := by decide +kernel
theorem dX5_result_17 : decode cX5_result 17 = .ok (.iconst 1, 1) := by decide +kernel
theorem dX5_result_18 : decode cX5_result 18 = .ok (.if_icmp .ne 10, 3) := by decide +kernel
theorem dX5_result_21 : decode cX5_result 21 = .ok (.aload_n 0, 1) := by decide +kernel
theorem dX5_result_22 : decode cX5_result 22 = .ok (.getfield 306, 3) := by decide +kernel
theorem dX5_result_25 : decode cX5_result 25 = .ok (.goto 4, 3) := by decide +kernel
theorem dX5_result_28 : decode cX5_result 28 = .ok (.iconst 0, 1) := by decide +kernel
theorem dX5_result_29 : decode cX5_result 29 = .ok (.ireturn, 1) := by decide +kernel
theorem dX5_took_0 : decode cX5_took 0 = .ok (.aload_n 0, 1) := by decide +kernel
theorem dX5_took_1 : decode cX5_took 1 = .ok (.iconst 0, 1) := by decide +kernel
theorem dX5_took_2 : decode cX5_took 2 = .ok (.putfield 103, 3) := by decide +kernel
theorem dX5_took_5 : decode cX5_took 5 = .ok (.iload_n 1, 1) := by decide +kernel
theorem dX5_took_6 : decode cX5_took 6 = .ok (.ifCond .ne 10, 3) := by decide +kernel
theorem dX5_took_9 : decode cX5_took 9 = .ok (.aload_n 0, 1) := by decide +kernel
theorem dX5_took_10 : decode cX5_took 10 = .ok (.getfield 275, 3) := by decide +kernel
theorem dX5_took_13 : decode cX5_took 13 = .ok (.goto 16, 3) := by decide +kernel
theorem dX5_took_16 : decode cX5_took 16 = .ok (.iload_n 1, 1) := by decide +kernel
theorem dX5_took_17 : decode cX5_took 17 = .ok (.iconst 1, 1) := by decide +kernel
theorem dX5_took_18 : decode cX5_took 18 = .ok (.if_icmp .ne 10, 3) := by decide +kernel
theorem dX5_took_21 : decode cX5_took 21 = .ok (.aload_n 0, 1) := by decide +kernel
theorem dX5_took_22 : decode cX5_took 22 = .ok (.getfield 272, 3) := by decide +kernel
theorem dX5_took_25 : decode cX5_took 25 = .ok (.goto 4, 3) := by decide +kernel
theorem dX5_took_28 : decode cX5_took 28 = .ok (.iconst (-1), 1) := by decide +kernel
theorem dX5_took_29 : decode cX5_took 29 = .ok (.ireturn, 1) := by decide +kernel
end
section
theorem jmmin_X4_47 : Cond.methodLink RX4 47 Lib.Math.min.name ∈ wsL_law ∧ Cond.static Lib.Math.min.name ∈ wsL_law ∧ Cond.initialized "java/lang/Math" ∈ wsL_law ∧ Cond.code Lib.Math.min.name Lib.Math.min.code 2 (some .int) ∈ wsL_law := ⟨(rin_2 _ (List.mem_of_getElem? (i := 12) rfl)), (rin_2 _ (List.mem_of_getElem? (i := 13) rfl)), (rin_2 _ (List.mem_of_getElem? (i := 14) rfl)), (rin_2 _ (List.mem_of_getElem? (i := 15) rfl))⟩
theorem jmmax_X4_53 : Cond.methodLink RX4 53 Lib.Math.max.name ∈ wsL_law ∧ Cond.static Lib.Math.max.name ∈ wsL_law ∧ Cond.initialized "java/lang/Math" ∈ wsL_law ∧ Cond.code Lib.Math.max.name Lib.Math.max.code 2 (some .int) ∈ wsL_law := ⟨(rin_2 _ (List.mem_of_getElem? (i := 16) rfl)), (rin_2 _ (List.mem_of_getElem? (i := 17) rfl)), (rin_2 _ (List.mem_of_getElem? (i := 14) rfl)), (rin_2 _ (List.mem_of_getElem? (i := 18) rfl))⟩
theorem jmmax_X0_179 : Cond.methodLink RX0 179 Lib.Math.max.name ∈ wsL_law ∧ Cond.static Lib.Math.max.name ∈ wsL_law ∧ Cond.initialized "java/lang/Math" ∈ wsL_law ∧ Cond.code Lib.Math.max.name Lib.Math.max.code 2 (some .int) ∈ wsL_law := ⟨(rin_9 _ (List.mem_of_getElem? (i := 17) rfl)), (rin_2 _ (List.mem_of_getElem? (i := 17) rfl)), (rin_2 _ (List.mem_of_getElem? (i := 14) rfl)), (rin_2 _ (List.mem_of_getElem? (i := 18) rfl))⟩
theorem jmmax_X2_76 : Cond.methodLink RX2 76 Lib.Math.max.name ∈ wsL_law ∧ Cond.static Lib.Math.max.name ∈ wsL_law ∧ Cond.initialized "java/lang/Math" ∈ wsL_law ∧ Cond.code Lib.Math.max.name Lib.Math.max.code 2 (some .int) ∈ wsL_law := ⟨(rin_23 _ (List.mem_of_getElem? (i := 4) rfl)), (rin_2 _ (List.mem_of_getElem? (i := 17) rfl)), (rin_2 _ (List.mem_of_getElem? (i := 14) rfl)), (rin_2 _ (List.mem_of_getElem? (i := 18) rfl))⟩
end
section
/-- the locals by lookup; a store in its place -/
def jlk : List (Nat × Value) → Nat → Option Value
  | [], _ => none
  | q :: l, k => bif Nat.beq q.1 k then some q.2 else jlk l k
theorem jlk_at : ∀ (lv : List (Nat × Value)) (i : Nat) (v : Value), jlk lv i = some v → ∃ q : Nat, lv[q]? = some (i, v)
  | [], i, v, h => by simp [jlk] at h
  | q :: l, i, v, h => by
    unfold jlk at h
    cases e : Nat.beq q.1 i with
    | true =>
      rw [e] at h
      have e1 := Nat.eq_of_beq_eq_true e
      have e2 : q.2 = v := by simpa using h
      exact ⟨0, by subst e1; subst e2; rfl⟩
    | false =>
      rw [e] at h
      obtain ⟨p, hp⟩ := jlk_at l i v (by simpa using h)
      exact ⟨p + 1, by simpa using hp⟩
theorem nbeq (x y : Nat) : Nat.beq x y = (x == y) := by
  cases h : Nat.beq x y with
  | true =>
    have := Nat.eq_of_beq_eq_true h
    subst this
    simp
  | false =>
    have := Nat.ne_of_beq_eq_false h
    simp [this]
def jrmv (i : Nat) (lv : List (Nat × Value)) : List (Nat × Value) := lv.filter (fun q => !(Nat.beq q.1 i) && !(Nat.beq (q.1 + 1) i && q.2.category == 2))
def jsv : List (Nat × Value) → Nat → Value → List (Nat × Value)
  | [], i, v => [(i, v)]
  | q :: l, i, v => bif Nat.beq q.1 i then (i, v) :: jrmv i l else bif (Nat.beq (q.1 + 1) i && q.2.category == 2) then jsv l i v else q :: jsv l i v
theorem jsv_in : ∀ (lv : List (Nat × Value)) (i : Nat) (v : Value), ∀ q ∈ jsv lv i v, q ∈ jst i v lv
  | [], i, v, q, h => by simp [jsv] at h; simp [jst, h]
  | p :: l, i, v, q, h => by
    have key : ∀ z ∈ jst i v l, z ∈ jst i v (p :: l) := by
      intro z hz
      simp only [jst, List.mem_cons, List.mem_filter] at hz ⊢
      rcases hz with hz | hz
      · exact Or.inl hz
      · exact Or.inr ⟨Or.inr hz.1, hz.2⟩
    unfold jsv at h
    cases e : Nat.beq p.1 i with
    | true =>
      rw [e] at h
      simp only [cond_true, List.mem_cons] at h
      rcases h with h | h
      · subst h; simp [jst]
      · refine key q ?_
        simp only [jst, List.mem_cons, List.mem_filter, jrmv] at h ⊢
        exact Or.inr ⟨h.1, by simpa only [nbeq] using h.2⟩
    | false =>
      rw [e] at h
      simp only [cond_false] at h
      cases e2 : (Nat.beq (p.1 + 1) i && p.2.category == 2) with
      | true =>
        rw [e2] at h
        exact key q (jsv_in l i v q h)
      | false =>
        rw [e2] at h
        simp only [cond_false, List.mem_cons] at h
        rcases h with h | h
        · subst h
          have a : (q.1 == i) = false := by rw [← nbeq]; exact e
          have b : (q.1 + 1 == i && q.2.category == 2) = false := by rw [← nbeq]; exact e2
          refine List.mem_cons_of_mem _ (List.mem_filter.mpr ⟨List.mem_cons_self, ?_⟩)
          rw [a, b]; rfl
        · exact key q (jsv_in l i v q h)
theorem lv_mono {ls : Array Slot} {nL : Nat} {l l' : List (Nat × Value)} (h : lv_has ls nL l) (hi : ∀ q ∈ l', q ∈ l) : lv_has ls nL l' := ⟨h.1, h.2.1, fun q hq => h.2.2 q (hi q hq)⟩
section JS
variable {X : jX} {w : jW} {h : jH} {cc : ByteArray} {own : String} {pc : Nat} {lv : List (Nat × Value)} {r : List Value}
theorem j_mono {lv' : List (Nat × Value)} (hi : ∀ q ∈ lv', q ∈ lv) (k : J X w h pc lv' r) : J X w h pc lv r := fun H locs ls hP hS hl => k H locs ls hP hS (lv_mono hl hi)
theorem k_iload_n (C : jC X w cc own) {i : Fin 4} {x : Int32} (d : decode cc pc = .ok (.iload_n i, 1)) (hq : jlk lv i = some (.int x)) (k : J X w h (pc + 1) lv (.int x :: r)) : J X w h pc lv r := by
  obtain ⟨q, hq⟩ := jlk_at _ _ _ hq
  exact j_iload_n C q d hq k
theorem k_iload (C : jC X w cc own) {i : Nat} {x : Int32} (d : decode cc pc = .ok (.iload i, 2)) (hq : jlk lv i = some (.int x)) (k : J X w h (pc + 2) lv (.int x :: r)) : J X w h pc lv r := by
  obtain ⟨q, hq⟩ := jlk_at _ _ _ hq
  exact j_iload C q d hq k
theorem k_aload_n (C : jC X w cc own) {i : Fin 4} {x : Nat} (d : decode cc pc = .ok (.aload_n i, 1)) (hq : jlk lv i = some (.ref x)) (k : J X w h (pc + 1) lv (.ref x :: r)) : J X w h pc lv r := by
  obtain ⟨q, hq⟩ := jlk_at _ _ _ hq
  exact j_aload_n C q d hq k
theorem k_aload (C : jC X w cc own) {i : Nat} {x : Nat} (d : decode cc pc = .ok (.aload i, 2)) (hq : jlk lv i = some (.ref x)) (k : J X w h (pc + 2) lv (.ref x :: r)) : J X w h pc lv r := by
  obtain ⟨q, hq⟩ := jlk_at _ _ _ hq
  exact j_aload C q d hq k
theorem k_aload_nN (C : jC X w cc own) {i : Fin 4} (d : decode cc pc = .ok (.aload_n i, 1)) (hq : jlk lv i = some .null) (k : J X w h (pc + 1) lv (.null :: r)) : J X w h pc lv r := by
  obtain ⟨q, hq⟩ := jlk_at _ _ _ hq
  exact j_aload_nN C q d hq k
theorem k_istore_n (C : jC X w cc own) {i : Fin 4} {x : Int32} (d : decode cc pc = .ok (.istore_n i, 1)) (hn : (i : Nat) < (jXc X).maxLocals) (k : J X w h (pc + 1) (jsv lv i (.int x)) r) : J X w h pc lv (.int x :: r) := j_istore_n C d hn rfl (j_mono (jsv_in _ _ _) k)
theorem k_istore (C : jC X w cc own) {i : Nat} {x : Int32} (d : decode cc pc = .ok (.istore i, 2)) (hn : i < (jXc X).maxLocals) (k : J X w h (pc + 2) (jsv lv i (.int x)) r) : J X w h pc lv (.int x :: r) := j_istore C d hn rfl (j_mono (jsv_in _ _ _) k)
theorem k_astore_n (C : jC X w cc own) {i : Fin 4} {x : Nat} (d : decode cc pc = .ok (.astore_n i, 1)) (hn : (i : Nat) < (jXc X).maxLocals) (k : J X w h (pc + 1) (jsv lv i (.ref x)) r) : J X w h pc lv (.ref x :: r) := j_astore_n C d hn rfl (j_mono (jsv_in _ _ _) k)
theorem k_astore (C : jC X w cc own) {i : Nat} {x : Nat} (d : decode cc pc = .ok (.astore i, 2)) (hn : i < (jXc X).maxLocals) (k : J X w h (pc + 2) (jsv lv i (.ref x)) r) : J X w h pc lv (.ref x :: r) := j_astore C d hn rfl (j_mono (jsv_in _ _ _) k)
theorem k_astore_nN (C : jC X w cc own) {i : Fin 4} (d : decode cc pc = .ok (.astore_n i, 1)) (hn : (i : Nat) < (jXc X).maxLocals) (k : J X w h (pc + 1) (jsv lv i .null) r) : J X w h pc lv (.null :: r) := j_astore_nN C d hn rfl (j_mono (jsv_in _ _ _) k)
theorem k_iinc (C : jC X w cc own) {i : Nat} {n : Int} {x v : Int32} (d : decode cc pc = .ok (.iinc i n, 3)) (hq : jlk lv i = some (.int x)) (hv : x + Int32.ofInt n = v) (hn : i < (jXc X).maxLocals) (k : J X w h (pc + 3) (jsv lv i (.int v)) r) : J X w h pc lv r := by
  obtain ⟨q, hq⟩ := jlk_at _ _ _ hq
  exact j_iinc C q d hq hv hn rfl (j_mono (jsv_in _ _ _) k)
theorem jroom {d d0 maxL : Nat} (hR : jXR X = jrm d) (hd : d0 + 1 ≤ d) (hm : maxL ≤ 21) : d0 + 1 ≤ (jXR X).frames ∧ 8 + (maxL + 11) + 40 * d0 ≤ (jXR X).locals := by
  rw [hR]
  refine ⟨hd, ?_⟩
  show _ ≤ 40 * d
  omega
theorem jeq {st st' : List Value} (he : st = st') (k : J X w h pc lv st') : J X w h pc lv st := he ▸ k
theorem jeqh {h' : jH} (he : h = h') (k : J X w h' pc lv r) : J X w h pc lv r := he ▸ k
def jcons (v : Option Value) (r : List Value) : List Value := match v with
  | none => r
  | some x => x :: r
theorem jcons_eq (v : Option Value) (r : List Value) : v.toList ++ r = jcons v r := by cases v <;> rfl
theorem k_callV (C : jC X w cc own) {index k ci n d0 : Nat} {y : MethodName} {bytes : ByteArray} {maxL : Nat} {ret : Option FieldType} {As st : List Value} {Po : Option Value → jH → Prop} (K : jCB own index y bytes maxL ret n ∧ Cond.instanceMethod y ∈ wsL_law ∧ Cond.selects (jR ci) y y ∈ wsL_law) (hM : jM (jXl X) w y bytes maxL ret d0 (.ref (jad w k) :: As) h Po) (hcl : vwCl[ci]? = some (jR ci, jT ci, jN ci)) (hk : k < 99) (hc : jk k = .inl ci) (hst : st = As.reverse ++ .ref (jad w k) :: r) (hn : As.length = n) (hr : (r.map fun v => v.category).sum ≤ 8) (hR : d0 + 1 ≤ (jXR X).frames ∧ 8 + (maxL + 11) + 40 * d0 ≤ (jXR X).locals) (d : decode cc pc = .ok (.invokevirtual index, 3))
    (kk : ∀ (v : Option Value) (h' : jH), Po v h' → J X w h' (pc + 3) lv (jcons v r)) : J X w h pc lv st := j_callV C K hM hcl hk hc hst hn hr hR d (fun v h' hp => by rw [jcons_eq]; exact kk v h' hp)
theorem k_callS (C : jC X w cc own) {index n d0 : Nat} {y : MethodName} {bytes : ByteArray} {maxL : Nat} {ret : Option FieldType} {As st : List Value} {Po : Option Value → jH → Prop} (K : jCB own index y bytes maxL ret n ∧ Cond.static y ∈ wsL_law) (hM : jM (jXl X) w y bytes maxL ret d0 As h Po) (hst : st = As.reverse ++ r) (hn : As.length = n) (hr : (r.map fun v => v.category).sum ≤ 8) (hR : d0 + 1 ≤ (jXR X).frames ∧ 8 + (maxL + 11) + 40 * d0 ≤ (jXR X).locals) (d : decode cc pc = .ok (.invokestatic index, 3))
    (kk : ∀ (v : Option Value) (h' : jH), Po v h' → J X w h' (pc + 3) lv (jcons v r)) : J X w h pc lv st := j_callS C K hM hst hn hr hR d (fun v h' hp => by rw [jcons_eq]; exact kk v h' hp)
theorem jM_mono {l : Launch} {y : MethodName} {nL : Nat} {ret : Option FieldType} {d : Nat} {As : List Value} {Po Po' : Option Value → jH → Prop} (hM : jM l w y cc nL ret d As h Po) (hi : ∀ v h', Po v h' → Po' v h') : jM l w y cc nL ret d As h Po' := by
  intro p e ha hc hk s m args below hf happ hP hK
  obtain ⟨k, o, h1, h2, h3, ⟨v, h', a1, a2, a3⟩, a4⟩ := hM p e ha hc hk s m args below hf happ hP hK
  exact ⟨k, o, h1, h2, h3, ⟨v, h', a1, hi v h' a2, a3⟩, a4⟩
end JS
end
section
/-- the text that is compiled: n characters, t i the one at place i; the compiler reads it from the buffer -/
def tx (h : jH) (t : Nat → Nat) (n : Nat) : Prop := h.2.1 13 0 = some 1 ∧ h.1 13 1 = nI n ∧ n ≤ 120 ∧ ∀ i, i < n → h.1 1 i = nI (t i) ∧ t i < 128
def pek (t : Nat → Nat) (n a : Nat) : Nat := if a < n then t a else 0
theorem pek_lt {h : jH} {t : Nat → Nat} {n : Nat} (ht : tx h t n) (a : Nat) : pek t n a < 128 := by
  unfold pek
  split
  · next e => exact (ht.2.2.2 a e).2
  · decide
section CL1
variable {l : Launch} {w : jW} {h : jH} {t : Nat → Nat} {n a : Nat}
theorem m_peek (hw : jok w) (ht : tx h t n) (ha : h.1 13 2 = nI a) (han : a ≤ n) : jM l w yX0_peek cX0_peek 1 (some .char) 0 [.ref (jad w 13)] h (fun r h' => r = some (.int (nI (pek t n a))) ∧ h' = h) := by
  refine jM_of (by decide) hw (Nat.le_of_ble_eq_true rfl) ?_
  intro X C hl hR hnL hrt hE
  have C : jC X w cX0_peek RX0 := C
  obtain ⟨h0, h1, h2, h3⟩ := ht
  show J X w h 0 [(0, .ref (jad w 13))] []
  refine k_aload_n C dX0_peek_0 rfl ?_
  refine j_geti C fX0_19 rfl (by first | decide | omega) (by first | assumption | rfl) dX0_peek_1 ?_
  refine k_aload_n C dX0_peek_4 rfl ?_
  refine j_geti C fX0_15 rfl (by first | decide | omega) (by first | assumption | rfl) dX0_peek_5 ?_
  refine j_icmp_ge C 23 dX0_peek_8 (by decide) (fun c8 => ?_) (fun c8 => ?_)
  · rw [h1, ha, nI_leI (by omega) (by omega)] at c8
    refine j_iconst (v := 0) C dX0_peek_23 (by decide) ?_
    first | exact j_zret C hrt rfl hE dX0_peek_24 ⟨by rw [pek, if_neg (by omega)]; rfl, rfl⟩ | (rw [(h3 a (by omega)).1]; exact j_zret C hrt (pk_charN (by have := (h3 a (by omega)).2; omega)).1 hE dX0_peek_24 ⟨by rw [pek, if_pos (by omega)], rfl⟩)
  · rw [h1, ha, nI_leI (by omega) (by omega)] at c8
    refine k_aload_n C dX0_peek_11 rfl ?_
    refine j_getr C fX0_9 rfl (by first | decide | omega) (by first | assumption | rfl) (by assumption) dX0_peek_12 ?_
    refine k_aload_n C dX0_peek_15 rfl ?_
    refine j_geti C fX0_19 rfl (by first | decide | omega) (by first | assumption | rfl) dX0_peek_16 ?_
    refine j_cald C (by first | decide | omega) (by first | assumption | rfl) (ha) ((by omega)) (by decide) dX0_peek_19 ?_
    refine j_goto C 24 dX0_peek_20 (by decide) ?_
    first | exact j_zret C hrt rfl hE dX0_peek_24 ⟨by rw [pek, if_neg (by omega)]; rfl, rfl⟩ | (rw [(h3 a (by omega)).1]; exact j_zret C hrt (pk_charN (by have := (h3 a (by omega)).2; omega)).1 hE dX0_peek_24 ⟨by rw [pek, if_pos (by omega)], rfl⟩)
theorem m_refuse (hw : jok w) : jM l w yX0_refuse cX0_refuse 1 (some .int) 0 [.ref (jad w 13)] h (fun r h' => r = some (.int 1) ∧ h' = (up2 (up2 h.1 13 4 1) 13 2 (h.1 13 1), h.2)) := by
  refine jM_of (by decide) hw (Nat.le_of_ble_eq_true rfl) ?_
  intro X C hl hR hnL hrt hE
  have C : jC X w cX0_refuse RX0 := C
  show J X w h 0 [(0, .ref (jad w 13))] []
  refine k_aload_n C dX0_refuse_0 rfl ?_
  refine j_iconst (v := 1) C dX0_refuse_1 (by decide) ?_
  refine j_putz C fX0_34 rfl rfl (by first | decide | assumption) (by first | decide | omega) (by first | assumption | rfl) dX0_refuse_2 ?_
  refine k_aload_n C dX0_refuse_5 rfl ?_
  refine k_aload_n C dX0_refuse_6 rfl ?_
  refine j_geti C fX0_15 rfl (by first | decide | omega) (by first | assumption | rfl) dX0_refuse_7 ?_
  refine j_puti C fX0_19 rfl rfl (by first | decide | omega) (by first | assumption | rfl) dX0_refuse_10 ?_
  refine j_iconst (v := 1) C dX0_refuse_13 (by decide) ?_
  exact j_iret C hrt hE dX0_refuse_14 (⟨rfl, rfl⟩)
theorem m_need (hw : jok w) (x y : Int32) : jM l w yX0_need cX0_need 3 none 0 [.ref (jad w 13), .int x, .int y] h (fun r h' => r = none ∧ h' = if x = y then h else (up2 h.1 13 5 1, h.2)) := by
  refine jM_of (by decide) hw (Nat.le_of_ble_eq_true rfl) ?_
  intro X C hl hR hnL hrt hE
  have C : jC X w cX0_need RX0 := C
  show J X w h 0 [(0, .ref (jad w 13)), (1, .int x), (2, .int y)] []
  refine k_iload_n C dX0_need_0 rfl ?_
  refine k_iload_n C dX0_need_1 rfl ?_
  refine j_icmp_eq C 10 dX0_need_2 (by decide) (fun c2 => ?_) (fun c2 => ?_)
  · exact j_vret C hrt hE dX0_need_10 (⟨rfl, by first | rw [if_pos (by assumption)] | rw [if_neg (by assumption)]⟩)
  · refine k_aload_n C dX0_need_5 rfl ?_
    refine j_iconst (v := 1) C dX0_need_6 (by decide) ?_
    refine j_putz C fX0_38 rfl rfl (by first | decide | assumption) (by first | decide | omega) (by first | assumption | rfl) dX0_need_7 ?_
    exact j_vret C hrt hE dX0_need_10 (⟨rfl, by first | rw [if_pos (by assumption)] | rw [if_neg (by assumption)]⟩)
theorem m_release (hw : jok w) (x : Int32) : jM l w yX0_release cX0_release 2 none 0 [.ref (jad w 13), .int x] h (fun r h' => r = none ∧ h' = (up2 h.1 13 7 (h.1 13 7 - x), h.2)) := by
  refine jM_of (by decide) hw (Nat.le_of_ble_eq_true rfl) ?_
  intro X C hl hR hnL hrt hE
  have C : jC X w cX0_release RX0 := C
  show J X w h 0 [(0, .ref (jad w 13)), (1, .int x)] []
  refine k_aload_n C dX0_release_0 rfl ?_
  refine j_dup C dX0_release_1 rfl ?_
  refine j_geti C fX0_114 rfl (by first | decide | omega) (by first | assumption | rfl) dX0_release_2 ?_
  refine k_iload_n C dX0_release_5 rfl ?_
  refine j_isub C dX0_release_6 ?_
  refine j_puti C fX0_114 rfl rfl (by first | decide | omega) (by first | assumption | rfl) dX0_release_7 ?_
  exact j_vret C hrt hE dX0_release_10 (⟨rfl, rfl⟩)
theorem m_isIn (hw : jok w) {x y z : Nat} (hx : x < 2 ^ 31) (hy : y < 2 ^ 31) (hz : z < 2 ^ 31) : jM l w yX0_isIn cX0_isIn 3 (some .boolean) 0 [.int (nI x), .int (nI y), .int (nI z)] h (fun r h' => r = some (.int (if y ≤ x ∧ x ≤ z then 1 else 0)) ∧ h' = h) := by
  refine jM_of (by decide) hw (Nat.le_of_ble_eq_true rfl) ?_
  intro X C hl hR hnL hrt hE
  have C : jC X w cX0_isIn RX0 := C
  show J X w h 0 [(0, .int (nI x)), (1, .int (nI y)), (2, .int (nI z))] []
  refine k_iload_n C dX0_isIn_0 rfl ?_
  refine k_iload_n C dX0_isIn_1 rfl ?_
  refine j_icmp_lt C 14 dX0_isIn_2 (by decide) (fun c2 => ?_) (fun c2 => ?_)
  · rw [nI_ltI hx hy] at c2
    refine j_iconst (v := 0) C dX0_isIn_14 (by decide) ?_
    first | exact j_zret C hrt rfl hE dX0_isIn_15 ⟨by rw [if_pos (by omega)], rfl⟩ | exact j_zret C hrt rfl hE dX0_isIn_15 ⟨by rw [if_neg (by omega)], rfl⟩
  · rw [nI_ltI hx hy] at c2
    refine k_iload_n C dX0_isIn_5 rfl ?_
    refine k_iload_n C dX0_isIn_6 rfl ?_
    refine j_icmp_gt C 14 dX0_isIn_7 (by decide) (fun c7 => ?_) (fun c7 => ?_)
    · rw [nI_ltI hz hx] at c7
      refine j_iconst (v := 0) C dX0_isIn_14 (by decide) ?_
      first | exact j_zret C hrt rfl hE dX0_isIn_15 ⟨by rw [if_pos (by omega)], rfl⟩ | exact j_zret C hrt rfl hE dX0_isIn_15 ⟨by rw [if_neg (by omega)], rfl⟩
    · rw [nI_ltI hz hx] at c7
      refine j_iconst (v := 1) C dX0_isIn_10 (by decide) ?_
      refine j_goto C 15 dX0_isIn_11 (by decide) ?_
      first | exact j_zret C hrt rfl hE dX0_isIn_15 ⟨by rw [if_pos (by omega)], rfl⟩ | exact j_zret C hrt rfl hE dX0_isIn_15 ⟨by rw [if_neg (by omega)], rfl⟩
end CL1
end
section
/-- a unit's cells hang together -/
def ur (h : jH) (u : Nat) : Prop := u < 7 ∧ h.2.1 (ub u) 2 = some (ub u + 1) ∧ h.2.1 (ub u) 4 = some (ub u + 2) ∧ ∀ i, i < 6 → h.2.1 (ub u + 1) i = some (ub u + 3 + i)
/-- item i of unit u fits owner and name -/
def fitI (h : jH) (u : Nat) (o nm : Int32) (i : Nat) : Prop := h.1 (ub u + 3 + i) 0 = o ∧ h.1 (ub u + 3 + i) 1 = nm
section CL2
variable {l : Launch} {w : jW} {h : jH} {u : Nat}
theorem m_emit (hw : jok w) (hu : ur h u) {c : Nat} (hc : h.1 (ub u) 3 = nI c) (hc2 : c ≤ 240) (x y : Int32) : jM l w yX3_emit cX3_emit 4 (some .int) 0 [.ref (jad w (ub u)), .int x, .int y] h (fun r h' => r = some (.int (nI c)) ∧ h' = if c < 240 then (up2 (up2 h.1 (ub u + 2) c (x ||| y <<< ((4 : Int32) &&& 31))) (ub u) 3 (nI (c + 1)), h.2) else h) := by
  refine jM_of (by decide) hw (Nat.le_of_ble_eq_true rfl) ?_
  intro X C hl hR hnL hrt hE
  have C : jC X w cX3_emit RX3 := C
  obtain ⟨hu1, hu2, hu3, hu4⟩ := hu
  obtain ⟨k3, k4, k5, k6, k7⟩ := jk_unit u hu1
  show J X w h 0 [(0, .ref (jad w (ub u))), (1, .int x), (2, .int y)] []
  refine k_aload_n C dX3_emit_0 rfl ?_
  refine j_geti C fX3_32 rfl (by first | decide | omega) (by first | assumption | rfl) dX3_emit_1 ?_
  refine k_istore_n C dX3_emit_4 (by rw [hnL]; decide) ?_
  refine k_iload_n C dX3_emit_5 rfl ?_
  refine j_sipush (v := 240) C dX3_emit_6 (by decide) ?_
  refine j_icmp_ge C 33 dX3_emit_9 (by decide) (fun c9 => ?_) (fun c9 => ?_)
  · rw [hc, show (240 : Int32) = nI 240 from rfl, nI_leI (by omega) (by omega)] at c9
    refine k_iload_n C dX3_emit_33 rfl ?_
    rw [hc]
    first | exact j_iret C hrt hE dX3_emit_34 ⟨rfl, by rw [if_neg (by omega)]⟩ | exact j_iret C hrt hE dX3_emit_34 ⟨rfl, by rw [if_pos (by omega)]; simp only [up2_o (show ub u ≠ ub u + 2 by omega), hc, nI_1]⟩
  · rw [hc, show (240 : Int32) = nI 240 from rfl, nI_leI (by omega) (by omega)] at c9
    refine k_aload_n C dX3_emit_12 rfl ?_
    refine j_getr C fX3_17 rfl (by first | decide | omega) (by first | assumption | rfl) (by assumption) dX3_emit_13 ?_
    refine k_iload_n C dX3_emit_16 rfl ?_
    refine k_iload_n C dX3_emit_17 rfl ?_
    refine k_iload_n C dX3_emit_18 rfl ?_
    refine j_iconst (v := 4) C dX3_emit_19 (by decide) ?_
    refine j_ishl C dX3_emit_20 ?_
    refine j_ior C dX3_emit_21 ?_
    refine j_iast C (by first | decide | omega) (by first | assumption | rfl) (hc) ((by omega)) (by decide) dX3_emit_22 ?_
    refine k_aload_n C dX3_emit_23 rfl ?_
    refine j_dup C dX3_emit_24 rfl ?_
    refine j_geti C fX3_32 rfl (by first | decide | omega) (by first | assumption | rfl) dX3_emit_25 ?_
    refine j_iconst (v := 1) C dX3_emit_28 (by decide) ?_
    refine j_iadd C dX3_emit_29 ?_
    refine j_puti C fX3_32 rfl rfl (by first | decide | omega) (by first | assumption | rfl) dX3_emit_30 ?_
    refine k_iload_n C dX3_emit_33 rfl ?_
    rw [hc]
    first | exact j_iret C hrt hE dX3_emit_34 ⟨rfl, by rw [if_neg (by omega)]⟩ | exact j_iret C hrt hE dX3_emit_34 ⟨rfl, by rw [if_pos (by omega)]; simp only [up2_o (show ub u ≠ ub u + 2 by omega), hc, nI_1]⟩
theorem m_landHere (hw : jok w) (hu : ur h u) {c j : Nat} (hc : h.1 (ub u) 3 = nI c) (hj : j ≤ 240) : jM l w yX3_landHere cX3_landHere 2 none 0 [.ref (jad w (ub u)), .int (nI j)] h (fun r h' => r = none ∧ h' = if j < 240 then (up2 h.1 (ub u + 2) j (h.1 (ub u + 2) j ||| nI c <<< ((4 : Int32) &&& 31)), h.2) else h) := by
  refine jM_of (by decide) hw (Nat.le_of_ble_eq_true rfl) ?_
  intro X C hl hR hnL hrt hE
  have C : jC X w cX3_landHere RX3 := C
  obtain ⟨hu1, hu2, hu3, hu4⟩ := hu
  obtain ⟨k3, k4, k5, k6, k7⟩ := jk_unit u hu1
  show J X w h 0 [(0, .ref (jad w (ub u))), (1, .int (nI j))] []
  refine k_iload_n C dX3_landHere_0 rfl ?_
  refine j_sipush (v := 240) C dX3_landHere_1 (by decide) ?_
  refine j_icmp_ge C 22 dX3_landHere_4 (by decide) (fun c4 => ?_) (fun c4 => ?_)
  · rw [show (240 : Int32) = nI 240 from rfl, nI_leI (by omega) (by omega)] at c4
    first | exact j_vret C hrt hE dX3_landHere_22 ⟨rfl, by rw [if_neg (by omega)]⟩ | exact j_vret C hrt hE dX3_landHere_22 ⟨rfl, by rw [if_pos (by omega), hc]⟩
  · rw [show (240 : Int32) = nI 240 from rfl, nI_leI (by omega) (by omega)] at c4
    refine k_aload_n C dX3_landHere_7 rfl ?_
    refine j_getr C fX3_17 rfl (by first | decide | omega) (by first | assumption | rfl) (by assumption) dX3_landHere_8 ?_
    refine k_iload_n C dX3_landHere_11 rfl ?_
    refine j_dup2 C dX3_landHere_12 rfl rfl ?_
    refine j_iald C (by first | decide | omega) (by first | assumption | rfl) (rfl) ((by omega)) (by decide) dX3_landHere_13 ?_
    refine k_aload_n C dX3_landHere_14 rfl ?_
    refine j_geti C fX3_32 rfl (by first | decide | omega) (by first | assumption | rfl) dX3_landHere_15 ?_
    refine j_iconst (v := 4) C dX3_landHere_18 (by decide) ?_
    refine j_ishl C dX3_landHere_19 ?_
    refine j_ior C dX3_landHere_20 ?_
    refine j_iast C (by first | decide | omega) (by first | assumption | rfl) (rfl) ((by omega)) (by decide) dX3_landHere_21 ?_
    first | exact j_vret C hrt hE dX3_landHere_22 ⟨rfl, by rw [if_neg (by omega)]⟩ | exact j_vret C hrt hE dX3_landHere_22 ⟨rfl, by rw [if_pos (by omega), hc]⟩
theorem m_find (hw : jok w) (hu : ur h u) {c : Nat} (hc : h.1 (ub u) 1 = nI c) (hc2 : c ≤ 6) (o nm : Int32) : jM l w yX3_find cX3_find 4 (some (.object "ModuleLinker$Item")) 0 [.ref (jad w (ub u)), .int o, .int nm] h (fun r h' => h' = h ∧ ((∃ i, i < c ∧ fitI h u o nm i ∧ (∀ k, k < i → ¬ fitI h u o nm k) ∧ r = some (.ref (jad w (ub u + 3 + i)))) ∨ ((∀ k, k < c → ¬ fitI h u o nm k) ∧ r = some .null))) := by
  refine jM_of (by decide) hw (Nat.le_of_ble_eq_true rfl) ?_
  intro X C hl hR hnL hrt hE
  have C : jC X w cX3_find RX3 := C
  obtain ⟨hu1, hu2, hu3, hu4⟩ := hu
  obtain ⟨k3, k4, k5, k6, k7⟩ := jk_unit u hu1
  show J X w h 0 [(0, .ref (jad w (ub u))), (1, .int o), (2, .int nm)] []
  have loop : ∀ (m i : Nat), i + m = c → (∀ k, k < i → ¬ fitI h u o nm k) → J X w h 2 [(0, .ref (jad w (ub u))), (1, .int o), (2, .int nm), (3, .int (nI i))] [] := by
    intro m
    induction m with
    | zero =>
      intro i hi hno
      refine k_iload_n C dX3_find_2 rfl ?_
      refine k_aload_n C dX3_find_3 rfl ?_
      refine j_geti C fX3_22 rfl (by first | decide | omega) (by first | assumption | rfl) dX3_find_4 ?_
      refine j_icmp_ge C 49 dX3_find_7 (by decide) (fun c7 => ?_) (fun c7 => ?_)
      · refine j_null C dX3_find_49 ?_
        exact j_aret C hrt (Or.inl rfl) hE dX3_find_50 (⟨rfl, Or.inr ⟨fun k hk => hno k (by omega), rfl⟩⟩)
      · exact absurd (by rw [hc]; exact nI_le (by omega) (by omega)) c7 -- stop
    | succ m ih =>
      intro i hi hno
      have k8 := k7 i (by omega)
      have hv := hu4 i (by omega)
      refine k_iload_n C dX3_find_2 rfl ?_
      refine k_aload_n C dX3_find_3 rfl ?_
      refine j_geti C fX3_22 rfl (by first | decide | omega) (by first | assumption | rfl) dX3_find_4 ?_
      refine j_icmp_ge C 49 dX3_find_7 (by decide) (fun c7 => ?_) (fun c7 => ?_)
      · exact absurd c7 (by rw [hc]; exact nI_ge (by omega) (by omega)) -- stop
      · refine k_aload_n C dX3_find_10 rfl ?_
        refine j_getr C fX3_11 rfl (by first | decide | omega) (by first | assumption | rfl) (by assumption) dX3_find_11 ?_
        refine k_iload_n C dX3_find_14 rfl ?_
        refine j_aald C (t := 4) (by decide) rfl (by first | decide | omega) (by first | assumption | rfl) (rfl) ((by omega)) (by decide) (hv) dX3_find_15 ?_
        refine j_geti C fX3_26 rfl (by first | decide | omega) (by first | assumption | rfl) dX3_find_16 ?_
        refine k_iload_n C dX3_find_19 rfl ?_
        refine j_icmp_ne C 43 dX3_find_20 (by decide) (fun c20 => ?_) (fun c20 => ?_)
        · refine k_iinc C dX3_find_43 rfl rfl (by rw [hnL]; decide) ?_
          refine j_goto C 2 dX3_find_46 (by decide) ?_
          rw [show nI i + Int32.ofInt 1 = nI (i + 1) from nI_1 i]
          exact ih (i + 1) (by omega) (fun k hk => by rcases Nat.lt_succ_iff_lt_or_eq.mp hk with h9 | h9; exact hno k h9; subst h9; intro q; first | exact c20 q.1 | exact c33 q.2)
        · refine k_aload_n C dX3_find_23 rfl ?_
          refine j_getr C fX3_11 rfl (by first | decide | omega) (by first | assumption | rfl) (by assumption) dX3_find_24 ?_
          refine k_iload_n C dX3_find_27 rfl ?_
          refine j_aald C (t := 4) (by decide) rfl (by first | decide | omega) (by first | assumption | rfl) (rfl) ((by omega)) (by decide) (hv) dX3_find_28 ?_
          refine j_geti C fX3_29 rfl (by first | decide | omega) (by first | assumption | rfl) dX3_find_29 ?_
          refine k_iload_n C dX3_find_32 rfl ?_
          refine j_icmp_ne C 43 dX3_find_33 (by decide) (fun c33 => ?_) (fun c33 => ?_)
          · refine k_iinc C dX3_find_43 rfl rfl (by rw [hnL]; decide) ?_
            refine j_goto C 2 dX3_find_46 (by decide) ?_
            rw [show nI i + Int32.ofInt 1 = nI (i + 1) from nI_1 i]
            exact ih (i + 1) (by omega) (fun k hk => by rcases Nat.lt_succ_iff_lt_or_eq.mp hk with h9 | h9; exact hno k h9; subst h9; intro q; first | exact c20 q.1 | exact c33 q.2)
          · refine k_aload_n C dX3_find_36 rfl ?_
            refine j_getr C fX3_11 rfl (by first | decide | omega) (by first | assumption | rfl) (by assumption) dX3_find_37 ?_
            refine k_iload_n C dX3_find_40 rfl ?_
            refine j_aald C (t := 4) (by decide) rfl (by first | decide | omega) (by first | assumption | rfl) (rfl) ((by omega)) (by decide) (hv) dX3_find_41 ?_
            exact j_aret C hrt (Or.inr ⟨_, rfl⟩) hE dX3_find_42 (⟨rfl, Or.inl ⟨i, by omega, ⟨c20, c33⟩, hno, rfl⟩⟩)
  refine j_iconst (v := 0) C dX3_find_0 (by decide) ?_
  refine k_istore_n C dX3_find_1 (by rw [hnL]; decide) ?_
  exact loop c 0 (by omega) (fun k hk => absurd hk (Nat.not_lt_zero k))
end CL2
end
section
/-! THE MEANING OF A TEXT, without machine. A text: n characters t 0 .. ; pek: the one at a place, 0 behind the end. -/
/-- an event of the code: kind, operand, the words held ahead of it, the words of the value at hand ahead of it (0: none). Kinds: 0 a number, 1 2 a parameter (its words), 3 4 hold (its words), 5 6 7 + - *, 8 make a pair, 9 10 .0 .1, 11 go on at the operand if 0, 12 go on at the operand, 13 call, 14 back -/
abbrev Ev : Type := Nat × Nat × Nat × Nat
/-- what is typed: the words of its type, its events, the most words held while it is worked out (0: none were) -/
abbrev TI : Type := Option (Nat × List Ev × Nat)
/-- what is read: where it ends, and what it is by the number of its first event and the words held ahead of it -/
abbrev PR : Type := Option (Nat × (Nat → Nat → TI))
def tl (r : TI) : Nat := match r with
  | none => 0
  | some x => x.2.1.length
/-- a signature's type k (0 the result's; 0 when there is none); the words of the parameters ahead of k -/
def ta (s k : Nat) : Nat := if 3 < k then 0 else s / 4 ^ k % 4
def wb (s : Nat) : Nat → Nat
  | 0 => 0
  | k + 1 => if k = 0 then 0 else wb s k + ta s k
/-- the heads: owner (0: none, else the module + 1), name, signature -/
def lkp : List (Nat × Nat × Nat) → Nat → Nat → Option Nat
  | [], _, _ => none
  | q :: l, o, m => if q.1 = o ∧ q.2.1 = m then some q.2.2 else lkp l o m
section PURE
variable (t : Nat → Nat) (n : Nat) (hs : List (Nat × Nat × Nat)) (sg : Nat)
def nmb : Nat → Nat → Nat → Nat × Nat
  | 0, a, v => (a, v)
  | f + 1, a, v => if 48 ≤ pek t n a ∧ pek t n a ≤ 57 then nmb f (a + 1) (10 * v + (pek t n a - 48)) else (a, v)
def pNum (a : Nat) : PR := some ((nmb t n 4 a 0).1, fun _ hd => some (1, [(0, (nmb t n 4 a 0).2, hd, 0)], 0))
def pPar (a : Nat) : PR := if 49 ≤ pek t n (a + 1) ∧ pek t n (a + 1) ≤ 51 then some (a + 2, fun _ hd => if ta sg (pek t n (a + 1) - 48) = 0 then none else some (ta sg (pek t n (a + 1) - 48), [(ta sg (pek t n (a + 1) - 48), wb sg (pek t n (a + 1) - 48), hd, 0)], 0)) else none
/-- an operator of two numbers -/
def tOp (k hd : Nat) (r1 r2 : TI) : TI := match r1, r2 with
  | some (1, e1, m1), some (1, e2, m2) => some (if k = 8 then 2 else 1, e1 ++ (3, 0, hd, 1) :: (e2 ++ [(k, 0, hd + 1, 1)]), max m1 (max (hd + 1) m2))
  | _, _ => none
def tPrj (k hd : Nat) (r : TI) : TI := match r with
  | some (2, e, m) => some (1, e ++ [(k, 0, hd, 2)], m)
  | _ => none
def tCho (bs hd : Nat) (r1 r2 r3 : TI) : TI := match r1, r2, r3 with
  | some (1, e1, m1), some (y, e2, m2), some (z, e3, m3) => if y = z then some (y, e1 ++ (11, bs + e1.length + 1 + e2.length + 1, hd, 1) :: (e2 ++ (12, bs + e1.length + 1 + e2.length + 1 + e3.length, hd, y) :: e3), max m1 (max m2 m3)) else none
  | _, _, _ => none
def pGrp (sub : Nat → PR) (a : Nat) : PR := match sub (a + 1) with
  | none => none
  | some (a1, f) => if pek t n a1 = 41 then some (a1 + 1, f) else none
def pPair (sub : Nat → PR) (a : Nat) : PR := match sub (a + 1) with
  | none => none
  | some (a1, f1) => if pek t n a1 = 44 then (match sub (a1 + 1) with
    | none => none
    | some (a2, f2) => if pek t n a2 = 125 then some (a2 + 1, fun bs hd => tOp 8 hd (f1 bs hd) (f2 (bs + tl (f1 bs hd) + 1) (hd + 1))) else none) else none
def pCho (sub : Nat → PR) (a : Nat) : PR := match sub (a + 1) with
  | none => none
  | some (a1, f1) => if pek t n a1 = 63 then (match sub (a1 + 1) with
    | none => none
    | some (a2, f2) => if pek t n a2 = 58 then (match sub (a2 + 1) with
      | none => none
      | some (a3, f3) => if pek t n a3 = 93 then some (a3 + 1, fun bs hd => tCho bs hd (f1 bs hd) (f2 (bs + tl (f1 bs hd) + 1) hd) (f3 (bs + tl (f1 bs hd) + 1 + tl (f2 (bs + tl (f1 bs hd) + 1) hd) + 1) hd)) else none) else none) else none
/-- the arguments so far: events, the most held, the words held now -/
abbrev TA : Type := Option (List Ev × Nat × Nat)
def tArg (cs : Option Nat) (k : Nat) (q : TA) (f : Nat → Nat → TI) (bs : Nat) : TA := match cs, q with
  | some s, some (e, m, hc) => (match f (bs + e.length) hc with
    | some (y, e2, m2) => if ta s (k + 1) = y then some (e ++ (e2 ++ [(2 + y, 0, hc, y)]), max m (max m2 (hc + y)), hc + y) else none
    | none => none)
  | _, _ => none
/-- arguments from a on, k of them read: where they end, how many, what they are -/
def pArgs (sub : Nat → PR) (cs : Option Nat) : Nat → Nat → Nat → (Nat → Nat → TA) → Option (Nat × Nat × (Nat → Nat → TA))
  | 0, _, _, _ => none
  | f + 1, k, a, q => match sub a with
    | none => none
    | some (a1, g) => if pek t n a1 = 44 then pArgs sub cs f (k + 1) (a1 + 1) (fun bs hd => tArg cs k (q bs hd) g bs) else some (a1, k + 1, fun bs hd => tArg cs k (q bs hd) g bs)
def tCall (cs : Option Nat) (o m k : Nat) (q : TA) : TI := match cs, q with
  | some s, some (e, mx, hc) => if ta s (k + 1) = 0 then some (ta s 0, e ++ [(13, o * 26 + m, hc, 0)], mx) else none
  | _, _ => none
/-- a call, from behind its opening bracket -/
def pCall (sub : Nat → PR) (o m a : Nat) : PR := if pek t n a = 41 then some (a + 1, fun _ hd => tCall (lkp hs o m) o m 0 (some ([], 0, hd))) else match pArgs t n sub (lkp hs o m) (n - a) 0 a (fun _ hd => some ([], 0, hd)) with
  | none => none
  | some (a1, k, q) => if pek t n a1 = 41 then some (a1 + 1, fun bs hd => tCall (lkp hs o m) o m k (q bs hd)) else none
/-- a factor without what may stand behind it; br: whether brackets may still be opened -/
def pWho (br : Bool) (sub : Nat → PR) (a : Nat) : PR :=
  if 48 ≤ pek t n a ∧ pek t n a ≤ 57 then pNum t n a
  else if pek t n a = 36 then pPar t n sg a
  else if br = false then none
  else if 97 ≤ pek t n a ∧ pek t n a ≤ 122 then (if pek t n (a + 1) = 40 then pCall t n hs sub 0 (pek t n a - 97) (a + 2) else none)
  else if 65 ≤ pek t n a ∧ pek t n a ≤ 70 then (if pek t n (a + 1) = 46 ∧ (97 ≤ pek t n (a + 2) ∧ pek t n (a + 2) ≤ 122) ∧ pek t n (a + 3) = 40 then pCall t n hs sub (pek t n a - 64) (pek t n (a + 2) - 97) (a + 4) else none)
  else if pek t n a = 40 then pGrp t n sub a
  else if pek t n a = 123 then pPair t n sub a
  else if pek t n a = 91 then pCho t n sub a
  else none
def pFac (br : Bool) (sub : Nat → PR) (a : Nat) : PR := match pWho t n hs sg br sub a with
  | none => none
  | some (a1, f) => if pek t n a1 = 46 then (if pek t n (a1 + 1) = 48 then some (a1 + 2, fun bs hd => tPrj 9 hd (f bs hd)) else if pek t n (a1 + 1) = 49 then some (a1 + 2, fun bs hd => tPrj 10 hd (f bs hd)) else none) else some (a1, f)
def pMul (br : Bool) (sub : Nat → PR) : Nat → Nat → (Nat → Nat → TI) → PR
  | 0, a, f => some (a, f)
  | q + 1, a, f => if pek t n a = 42 then (match pFac t n hs sg br sub (a + 1) with
    | none => none
    | some (a1, g) => pMul br sub q a1 (fun bs hd => tOp 7 hd (f bs hd) (g (bs + tl (f bs hd) + 1) (hd + 1)))) else some (a, f)
def pPro (br : Bool) (sub : Nat → PR) (a : Nat) : PR := match pFac t n hs sg br sub a with
  | none => none
  | some (a1, f) => pMul t n hs sg br sub (n - a1) a1 f
def pAdd (br : Bool) (sub : Nat → PR) : Nat → Nat → (Nat → Nat → TI) → PR
  | 0, a, f => some (a, f)
  | q + 1, a, f => if pek t n a = 43 ∨ pek t n a = 45 then (match pPro t n hs sg br sub (a + 1) with
    | none => none
    | some (a1, g) => pAdd br sub q a1 (fun bs hd => tOp (if pek t n a = 43 then 5 else 6) hd (f bs hd) (g (bs + tl (f bs hd) + 1) (hd + 1)))) else some (a, f)
def pSum (br : Bool) (sub : Nat → PR) (a : Nat) : PR := match pPro t n hs sg br sub a with
  | none => none
  | some (a1, f) => pAdd t n hs sg br sub (n - a1) a1 f
/-- an expression with at most b brackets in one another -/
def pE : Nat → Nat → PR
  | 0, a => pSum t n hs sg false (fun _ => none) a
  | b + 1, a => pSum t n hs sg true (pE b) a
end PURE
end
section
section PROG
variable {t : Nat → Nat} {n : Nat} {hs : List (Nat × Nat × Nat)} {sg : Nat}
theorem pek_in {a c : Nat} (h : pek t n a = c) (hc : c ≠ 0) : a < n := by
  unfold pek at h
  split at h
  · assumption
  · exact absurd h.symm hc
theorem pek_ge {a : Nat} (h : n ≤ a) : pek t n a = 0 := by simp [pek, Nat.not_lt.mpr h]
theorem pek_gt {a c : Nat} (h : c < pek t n a) : a < n := pek_in (c := pek t n a) rfl (by omega)
/-- what is read ends behind its beginning, in the text -/
def pgr (n : Nat) (sub : Nat → PR) : Prop := ∀ a a1 f, sub a = some (a1, f) → a < a1 ∧ a1 ≤ n
theorem nmb_pr : ∀ (f a v : Nat), a ≤ n → a ≤ (nmb t n f a v).1 ∧ (nmb t n f a v).1 ≤ n
  | 0, a, v, h => ⟨Nat.le_refl _, h⟩
  | f + 1, a, v, h => by
    unfold nmb
    split
    · next c =>
      have h1 : a < n := pek_gt (c := 0) (t := t) (by omega)
      have := nmb_pr f (a + 1) (10 * v + (pek t n a - 48)) (by omega)
      omega
    · exact ⟨Nat.le_refl _, h⟩
theorem nmb_lt {a v : Nat} (h : 48 ≤ pek t n a ∧ pek t n a ≤ 57) (f : Nat) : a < (nmb t n (f + 1) a v).1 ∧ (nmb t n (f + 1) a v).1 ≤ n := by
  have h1 : a < n := pek_gt (c := 0) (t := t) (by omega)
  unfold nmb
  rw [if_pos h]
  have := nmb_pr (t := t) (n := n) f (a + 1) (10 * v + (pek t n a - 48)) (by omega)
  omega
theorem pgr_Args {sub : Nat → PR} (hp : pgr n sub) (cs : Option Nat) : ∀ (f k a : Nat) (q : Nat → Nat → TA) (a1 k1 : Nat) (q1 : Nat → Nat → TA), pArgs t n sub cs f k a q = some (a1, k1, q1) → a < a1 ∧ a1 ≤ n
  | 0, k, a, q, a1, k1, q1, h => by simp [pArgs] at h
  | f + 1, k, a, q, a1, k1, q1, h => by
    unfold pArgs at h
    split at h
    · cases h
    · next a2 g e =>
      have h2 := hp a a2 g e
      split at h
      · have := pgr_Args hp cs f (k + 1) (a2 + 1) _ a1 k1 q1 h
        omega
      · simp only [Option.some.injEq, Prod.mk.injEq] at h
        omega
theorem pgr_Call {sub : Nat → PR} (hp : pgr n sub) {o m a a1 : Nat} {f : Nat → Nat → TI} (h : pCall t n hs sub o m a = some (a1, f)) : a < a1 ∧ a1 ≤ n := by
  unfold pCall at h
  split at h
  · next c =>
    have := pek_in c (by decide)
    simp only [Option.some.injEq, Prod.mk.injEq] at h
    omega
  · split at h
    · cases h
    · next a2 k q e =>
      have h2 := pgr_Args hp _ _ _ _ _ _ _ _ e
      split at h
      · next c =>
        have := pek_in c (by decide)
        simp only [Option.some.injEq, Prod.mk.injEq] at h
        omega
      · cases h
theorem pgr_Who {br : Bool} {sub : Nat → PR} (hp : pgr n sub) : pgr n (pWho t n hs sg br sub) := by
  intro a a1 f h
  unfold pWho at h
  split at h
  · next c =>
    have : a < (nmb t n 4 a 0).1 ∧ (nmb t n 4 a 0).1 ≤ n := nmb_lt (t := t) (n := n) (v := 0) c 3
    unfold pNum at h
    simp only [Option.some.injEq, Prod.mk.injEq] at h
    omega
  split at h
  · unfold pPar at h
    split at h
    · next c =>
      have := pek_gt (c := 0) (t := t) (n := n) (a := a + 1) (by omega)
      simp only [Option.some.injEq, Prod.mk.injEq] at h
      omega
    · cases h
  split at h
  · cases h
  split at h
  · split at h
    · have := pgr_Call hp h
      omega
    · cases h
  split at h
  · split at h
    · have := pgr_Call hp h
      omega
    · cases h
  split at h
  · unfold pGrp at h
    split at h
    · cases h
    · next a2 g e =>
      have h2 := hp _ _ _ e
      split at h
      · next c =>
        have := pek_in c (by decide)
        simp only [Option.some.injEq, Prod.mk.injEq] at h
        omega
      · cases h
  split at h
  · unfold pPair at h
    split at h
    · cases h
    · next a2 g e =>
      have h2 := hp _ _ _ e
      split at h
      · split at h
        · cases h
        · next a3 g3 e3 =>
          have h3 := hp _ _ _ e3
          split at h
          · next c =>
            have := pek_in c (by decide)
            simp only [Option.some.injEq, Prod.mk.injEq] at h
            omega
          · cases h
      · cases h
  split at h
  · unfold pCho at h
    split at h
    · cases h
    · next a2 g e =>
      have h2 := hp _ _ _ e
      split at h
      · split at h
        · cases h
        · next a3 g3 e3 =>
          have h3 := hp _ _ _ e3
          split at h
          · split at h
            · cases h
            · next a4 g4 e4 =>
              have h4 := hp _ _ _ e4
              split at h
              · next c =>
                have := pek_in c (by decide)
                simp only [Option.some.injEq, Prod.mk.injEq] at h
                omega
              · cases h
          · cases h
      · cases h
  · cases h
theorem pgr_Fac {br : Bool} {sub : Nat → PR} (hp : pgr n sub) : pgr n (pFac t n hs sg br sub) := by
  intro a a1 f h
  unfold pFac at h
  split at h
  · cases h
  · next a2 g e =>
    have h2 := pgr_Who hp _ _ _ e
    split at h
    · split at h
      · next c =>
        have := pek_in c (by decide)
        simp only [Option.some.injEq, Prod.mk.injEq] at h
        omega
      · split at h
        · next c =>
          have := pek_in c (by decide)
          simp only [Option.some.injEq, Prod.mk.injEq] at h
          omega
        · cases h
    · simp only [Option.some.injEq, Prod.mk.injEq] at h
      omega
theorem pgr_Mul {br : Bool} {sub : Nat → PR} (hp : pgr n sub) : ∀ (q a : Nat) (f : Nat → Nat → TI) (a1 : Nat) (g : Nat → Nat → TI), pMul t n hs sg br sub q a f = some (a1, g) → a ≤ n → a ≤ a1 ∧ a1 ≤ n
  | 0, a, f, a1, g, h, ha => by simp only [pMul, Option.some.injEq, Prod.mk.injEq] at h; omega
  | q + 1, a, f, a1, g, h, ha => by
    unfold pMul at h
    split at h
    · split at h
      · cases h
      · next a2 g2 e =>
        have h2 := pgr_Fac hp _ _ _ e
        have := pgr_Mul hp q a2 _ a1 g h (by omega)
        omega
    · simp only [Option.some.injEq, Prod.mk.injEq] at h; omega
theorem pgr_Pro {br : Bool} {sub : Nat → PR} (hp : pgr n sub) : pgr n (pPro t n hs sg br sub) := by
  intro a a1 f h
  unfold pPro at h
  split at h
  · cases h
  · next a2 g e =>
    have h2 := pgr_Fac hp _ _ _ e
    have := pgr_Mul hp _ _ _ _ _ h (by omega)
    omega
theorem pgr_Add {br : Bool} {sub : Nat → PR} (hp : pgr n sub) : ∀ (q a : Nat) (f : Nat → Nat → TI) (a1 : Nat) (g : Nat → Nat → TI), pAdd t n hs sg br sub q a f = some (a1, g) → a ≤ n → a ≤ a1 ∧ a1 ≤ n
  | 0, a, f, a1, g, h, ha => by simp only [pAdd, Option.some.injEq, Prod.mk.injEq] at h; omega
  | q + 1, a, f, a1, g, h, ha => by
    unfold pAdd at h
    split at h
    · split at h
      · cases h
      · next a2 g2 e =>
        have h2 := pgr_Pro hp _ _ _ e
        have := pgr_Add hp q a2 _ a1 g h (by omega)
        omega
    · simp only [Option.some.injEq, Prod.mk.injEq] at h; omega
theorem pgr_Sum {br : Bool} {sub : Nat → PR} (hp : pgr n sub) : pgr n (pSum t n hs sg br sub) := by
  intro a a1 f h
  unfold pSum at h
  split at h
  · cases h
  · next a2 g e =>
    have h2 := pgr_Pro hp _ _ _ e
    have := pgr_Add hp _ _ _ _ _ h (by omega)
    omega
theorem pgr_E : ∀ b, pgr n (pE t n hs sg b)
  | 0 => fun a a1 f h => pgr_Sum (hs := hs) (sg := sg) (t := t) (sub := fun _ => none) (fun a a1 f h => by cases h) a a1 f h
  | b + 1 => fun a a1 f h => pgr_Sum (hs := hs) (sg := sg) (t := t) (pgr_E b) a a1 f h
/-- behind the end nothing can be read -/
theorem pWho_n {br : Bool} {sub : Nat → PR} {a : Nat} (h : n ≤ a) : pWho t n hs sg br sub a = none := by
  have := pek_ge (t := t) h
  unfold pWho
  rw [this]
  simp
theorem pE_n {b a : Nat} (h : n ≤ a) : pE t n hs sg b a = none := by
  cases b <;> simp [pE, pSum, pPro, pFac, pWho_n h]
end PROG
end
section
/-! THE COMPILER'S STATE while it reads the bodies of unit u: against a heap h0 only its place (a), its two faults (tw, yw), what is held (hd), the room (rm), the code's length (c) and the code (F) have changed. -/
def Fr (u : Nat) (h h' : jH) : Prop := h'.2 = h.2 ∧ ∀ k j, ¬ (k = 13 ∧ (j = 2 ∨ j = 4 ∨ j = 5 ∨ j = 7 ∨ j = 8)) → ¬ (k = ub u ∧ j = 3) → k ≠ ub u + 2 → h'.1 k j = h.1 k j
def cst (h0 h : jH) (u a : Nat) (tw yw hd rm : Int32) (c : Nat) (F : Nat → Int32) : Prop := Fr u h0 h ∧ h.1 13 2 = nI a ∧ h.1 13 4 = tw ∧ h.1 13 5 = yw ∧ h.1 13 7 = hd ∧ h.1 13 8 = rm ∧ h.1 (ub u) 3 = nI c ∧ h.1 (ub u + 2) = F
theorem jroomM {X : jX} {d : Nat} {r : List Value} (hR : jXR X = jrm d) (hd : 1 ≤ d) (hs : (r.map fun v => v.category).sum ≤ 8) : 1 ≤ (jXR X).frames ∧ (r.map fun v => v.category).sum + 13 ≤ (jXR X).locals := by
  rw [hR]
  refine ⟨hd, ?_⟩
  show _ ≤ 40 * d
  omega
theorem ub_in {u : Nat} (hu : u < 7) : 4 ≤ ub u ∧ (ub u + 8 < 13 ∨ 13 < ub u) ∧ ub u + 8 < 68 := by unfold ub; split <;> omega
/-- what stays while the bodies are read: the unit's cells, the text, the heads, the signature of the definition -/
def oI (o : Nat) : Int32 := nI o - 1
def cS (h : jH) (u : Nat) (t : Nat → Nat) (n : Nat) (hs : List (Nat × Nat × Nat)) (me sg : Nat) : Prop := ur h u ∧ h.2.1 13 3 = some (ub u) ∧ tx h t n ∧ h.1 (ub u) 0 = nI me ∧ me < 6 ∧ h.1 (ub u) 1 = nI hs.length ∧ hs.length ≤ 6 ∧ (∀ i (hi : i < hs.length), h.1 (ub u + 3 + i) 0 = oI (hs[i]).1 ∧ h.1 (ub u + 3 + i) 1 = nI (hs[i]).2.1 ∧ h.1 (ub u + 3 + i) 2 = nI (hs[i]).2.2 ∧ (hs[i]).1 ≤ 6 ∧ (hs[i]).2.1 < 26 ∧ (hs[i]).2.2 < 256) ∧ h.1 13 6 = nI sg ∧ sg < 256
section CST
variable {l : Launch} {w : jW} {h0 h : jH} {u : Nat} {t : Nat → Nat} {n : Nat} {hs : List (Nat × Nat × Nat)} {me sg : Nat} {a c : Nat} {tw yw hd rm : Int32} {F : Nat → Int32}
theorem FrUr (hF : Fr u h0 h) (hu : ur h0 u) : ur h u := by
  obtain ⟨e, -⟩ := hF
  unfold ur at hu ⊢
  rw [e]; exact hu
theorem FrTx (hF : Fr u h0 h) (hu : u < 7) (ht : tx h0 t n) : tx h t n := by
  have := ub_in hu
  obtain ⟨e, k⟩ := hF
  obtain ⟨h1, h2, h3, h4⟩ := ht
  refine ⟨by rw [e]; exact h1, ?_, h3, fun i hi => ?_⟩
  · rw [k 13 1 (by omega) (by omega) (by omega)]; exact h2
  · rw [k 1 i (by omega) (by omega) (by omega)]; exact h4 i hi
theorem cS.u7 (hS : cS h0 u t n hs me sg) : u < 7 := hS.1.1
theorem cS_n (hS : cS h0 u t n hs me sg) : n ≤ 120 := hS.2.2.1.2.2.1
theorem s_peek (hw : jok w) (hS : cS h0 u t n hs me sg) (hc : cst h0 h u a tw yw hd rm c F) (han : a ≤ n) : jM l w yX0_peek cX0_peek 1 (some .char) 0 [.ref (jad w 13)] h (fun r h' => r = some (.int (nI (pek t n a))) ∧ h' = h) := m_peek hw (FrTx hc.1 hS.u7 hS.2.2.1) hc.2.1 han
/-- a change of one of the compiler's numbers, or of the code -/
theorem cst_at (hu : u < 7) (hc : cst h0 h u a tw yw hd rm c F) (a' : Nat) : cst h0 (up2 h.1 13 2 (nI a'), h.2) u a' tw yw hd rm c F := by
  have := ub_in hu
  obtain ⟨⟨e, k⟩, h1, h2, h3, h4, h5, h6, h7⟩ := hc
  refine ⟨⟨e, fun k' j' q1 q2 q3 => ?_⟩, by simp [up2], by simp [up2, h2], by simp [up2, h3], by simp [up2, h4], by simp [up2, h5], ?_, ?_⟩
  · show up2 h.1 13 2 _ k' j' = _
    rw [up2_n (by omega)]; exact k k' j' q1 q2 q3
  · show up2 h.1 13 2 _ _ _ = _
    rw [up2_n (by omega)]; exact h6
  · show up2 h.1 13 2 _ _ = _
    rw [up2_o (by omega)]; exact h7
theorem cst_tw (hu : u < 7) (hc : cst h0 h u a tw yw hd rm c F) (x : Int32) : cst h0 (up2 h.1 13 4 x, h.2) u a x yw hd rm c F := by
  have := ub_in hu
  obtain ⟨⟨e, k⟩, h1, h2, h3, h4, h5, h6, h7⟩ := hc
  refine ⟨⟨e, fun k' j' q1 q2 q3 => ?_⟩, by simp [up2, h1], by simp [up2], by simp [up2, h3], by simp [up2, h4], by simp [up2, h5], ?_, ?_⟩
  · show up2 h.1 13 4 _ k' j' = _
    rw [up2_n (by omega)]; exact k k' j' q1 q2 q3
  · show up2 h.1 13 4 _ _ _ = _
    rw [up2_n (by omega)]; exact h6
  · show up2 h.1 13 4 _ _ = _
    rw [up2_o (by omega)]; exact h7
theorem cst_yw (hu : u < 7) (hc : cst h0 h u a tw yw hd rm c F) (x : Int32) : cst h0 (up2 h.1 13 5 x, h.2) u a tw x hd rm c F := by
  have := ub_in hu
  obtain ⟨⟨e, k⟩, h1, h2, h3, h4, h5, h6, h7⟩ := hc
  refine ⟨⟨e, fun k' j' q1 q2 q3 => ?_⟩, by simp [up2, h1], by simp [up2, h2], by simp [up2], by simp [up2, h4], by simp [up2, h5], ?_, ?_⟩
  · show up2 h.1 13 5 _ k' j' = _
    rw [up2_n (by omega)]; exact k k' j' q1 q2 q3
  · show up2 h.1 13 5 _ _ _ = _
    rw [up2_n (by omega)]; exact h6
  · show up2 h.1 13 5 _ _ = _
    rw [up2_o (by omega)]; exact h7
theorem cst_hd (hu : u < 7) (hc : cst h0 h u a tw yw hd rm c F) (x : Int32) : cst h0 (up2 h.1 13 7 x, h.2) u a tw yw x rm c F := by
  have := ub_in hu
  obtain ⟨⟨e, k⟩, h1, h2, h3, h4, h5, h6, h7⟩ := hc
  refine ⟨⟨e, fun k' j' q1 q2 q3 => ?_⟩, by simp [up2, h1], by simp [up2, h2], by simp [up2, h3], by simp [up2], by simp [up2, h5], ?_, ?_⟩
  · show up2 h.1 13 7 _ k' j' = _
    rw [up2_n (by omega)]; exact k k' j' q1 q2 q3
  · show up2 h.1 13 7 _ _ _ = _
    rw [up2_n (by omega)]; exact h6
  · show up2 h.1 13 7 _ _ = _
    rw [up2_o (by omega)]; exact h7
theorem cst_rm (hu : u < 7) (hc : cst h0 h u a tw yw hd rm c F) (x : Int32) : cst h0 (up2 h.1 13 8 x, h.2) u a tw yw hd x c F := by
  have := ub_in hu
  obtain ⟨⟨e, k⟩, h1, h2, h3, h4, h5, h6, h7⟩ := hc
  refine ⟨⟨e, fun k' j' q1 q2 q3 => ?_⟩, by simp [up2, h1], by simp [up2, h2], by simp [up2, h3], by simp [up2, h4], by simp [up2], ?_, ?_⟩
  · show up2 h.1 13 8 _ k' j' = _
    rw [up2_n (by omega)]; exact k k' j' q1 q2 q3
  · show up2 h.1 13 8 _ _ _ = _
    rw [up2_n (by omega)]; exact h6
  · show up2 h.1 13 8 _ _ = _
    rw [up2_o (by omega)]; exact h7
theorem cst_co (hu : u < 7) (hc : cst h0 h u a tw yw hd rm c F) (i : Nat) (x : Int32) : cst h0 (up2 h.1 (ub u + 2) i x, h.2) u a tw yw hd rm c (va_up F i x) := by
  have := ub_in hu
  obtain ⟨⟨e, k⟩, h1, h2, h3, h4, h5, h6, h7⟩ := hc
  refine ⟨⟨e, fun k' j' q1 q2 q3 => ?_⟩, ?_, ?_, ?_, ?_, ?_, ?_, ?_⟩
  · show up2 h.1 _ i _ k' j' = _
    rw [up2_n (by omega)]; exact k k' j' q1 q2 q3
  · show up2 h.1 _ i _ 13 2 = _
    rw [up2_n (by omega)]; exact h1
  · show up2 h.1 _ i _ 13 4 = _
    rw [up2_n (by omega)]; exact h2
  · show up2 h.1 _ i _ 13 5 = _
    rw [up2_n (by omega)]; exact h3
  · show up2 h.1 _ i _ 13 7 = _
    rw [up2_n (by omega)]; exact h4
  · show up2 h.1 _ i _ 13 8 = _
    rw [up2_n (by omega)]; exact h5
  · show up2 h.1 _ i _ (ub u) 3 = _
    rw [up2_n (by omega)]; exact h6
  · show up2 h.1 _ i _ (ub u + 2) = _
    rw [up2_r, h7]
theorem cst_cl (hu : u < 7) (hc : cst h0 h u a tw yw hd rm c F) (c' : Nat) : cst h0 (up2 h.1 (ub u) 3 (nI c'), h.2) u a tw yw hd rm c' F := by
  have := ub_in hu
  obtain ⟨⟨e, k⟩, h1, h2, h3, h4, h5, h6, h7⟩ := hc
  refine ⟨⟨e, fun k' j' q1 q2 q3 => ?_⟩, ?_, ?_, ?_, ?_, ?_, ?_, ?_⟩
  · show up2 h.1 _ 3 _ k' j' = _
    rw [up2_n (by omega)]; exact k k' j' q1 q2 q3
  · show up2 h.1 _ 3 _ 13 2 = _
    rw [up2_n (by omega)]; exact h1
  · show up2 h.1 _ 3 _ 13 4 = _
    rw [up2_n (by omega)]; exact h2
  · show up2 h.1 _ 3 _ 13 5 = _
    rw [up2_n (by omega)]; exact h3
  · show up2 h.1 _ 3 _ 13 7 = _
    rw [up2_n (by omega)]; exact h4
  · show up2 h.1 _ 3 _ 13 8 = _
    rw [up2_n (by omega)]; exact h5
  · show up2 h.1 _ 3 _ (ub u) 3 = _
    rw [up2_s]
  · show up2 h.1 _ 3 _ (ub u + 2) = _
    rw [up2_o (by omega)]; exact h7
/-- the code behind an emit -/
def emC (c : Nat) : Nat := if c < 240 then c + 1 else c
def emF (c : Nat) (F : Nat → Int32) (x y : Int32) : Nat → Int32 := if c < 240 then va_up F c (x ||| y <<< ((4 : Int32) &&& 31)) else F
theorem s_emit (hw : jok w) (hS : cS h0 u t n hs me sg) (hc : cst h0 h u a tw yw hd rm c F) (hc2 : c ≤ 240) (x y : Int32) : jM l w yX3_emit cX3_emit 4 (some .int) 0 [.ref (jad w (ub u)), .int x, .int y] h (fun r h' => r = some (.int (nI c)) ∧ cst h0 h' u a tw yw hd rm (emC c) (emF c F x y)) := by
  refine jM_mono (m_emit hw (FrUr hc.1 hS.1) hc.2.2.2.2.2.2.1 hc2 x y) ?_
  rintro v h' ⟨rfl, rfl⟩
  refine ⟨rfl, ?_⟩
  unfold emC emF
  split
  · exact cst_cl hS.u7 (cst_co hS.u7 hc c _) (c + 1)
  · exact hc
theorem s_refuse (hw : jok w) (hS : cS h0 u t n hs me sg) (hc : cst h0 h u a tw yw hd rm c F) : jM l w yX0_refuse cX0_refuse 1 (some .int) 0 [.ref (jad w 13)] h (fun r h' => r = some (.int 1) ∧ cst h0 h' u n 1 yw hd rm c F) := by
  refine jM_mono (m_refuse hw) ?_
  rintro v h' ⟨rfl, rfl⟩
  refine ⟨rfl, ?_⟩
  rw [(FrTx hc.1 hS.u7 hS.2.2.1).2.1]
  exact cst_at hS.u7 (cst_tw hS.u7 hc 1) n
theorem s_need (hw : jok w) (hS : cS h0 u t n hs me sg) (hc : cst h0 h u a tw yw hd rm c F) (x y : Int32) : jM l w yX0_need cX0_need 3 none 0 [.ref (jad w 13), .int x, .int y] h (fun r h' => r = none ∧ cst h0 h' u a tw (if x = y then yw else 1) hd rm c F) := by
  refine jM_mono (m_need hw x y) ?_
  rintro v h' ⟨rfl, rfl⟩
  refine ⟨rfl, ?_⟩
  split
  · exact hc
  · exact cst_yw hS.u7 hc 1
theorem s_release (hw : jok w) (hS : cS h0 u t n hs me sg) (hc : cst h0 h u a tw yw hd rm c F) (x : Int32) : jM l w yX0_release cX0_release 2 none 0 [.ref (jad w 13), .int x] h (fun r h' => r = none ∧ cst h0 h' u a tw yw (hd - x) rm c F) := by
  refine jM_mono (m_release hw x) ?_
  rintro v h' ⟨rfl, rfl⟩
  refine ⟨rfl, ?_⟩
  rw [hc.2.2.2.2.1]
  exact cst_hd hS.u7 hc (hd - x)
theorem i1n {P : Prop} [Decidable P] : ¬ ((if P then (1 : Int32) else 0) = 0) ↔ P := by
  by_cases h : P <;> simp [h]
theorem i1z {P : Prop} [Decidable P] : ((if P then (1 : Int32) else 0) = 0) ↔ ¬ P := by
  by_cases h : P <;> simp [h]
theorem nz1 {P : Prop} [Decidable P] : narrow .boolean (.int (if P then (1 : Int32) else 0)) = .int (if P then (1 : Int32) else 0) := by
  by_cases h : P <;> simp only [h, if_true, if_false] <;> rfl
theorem s_takeIf (hw : jok w) (hS : cS h0 u t n hs me sg) (hc : cst h0 h u a tw yw hd rm c F) (han : a ≤ n) {ch : Nat} (hch : ch < 128) : jM l w yX0_takeIf cX0_takeIf 2 (some .boolean) 1 [.ref (jad w 13), .int (nI ch)] h (fun r h' => r = some (.int (if pek t n a = ch then 1 else 0)) ∧ cst h0 h' u (if pek t n a = ch then a + 1 else a) tw yw hd rm c F) := by
  refine jM_of (by decide) hw (Nat.le_of_ble_eq_true rfl) ?_
  intro X C hl hR hnL hrt hE
  subst hl
  have C : jC X w cX0_takeIf RX0 := C
  have hpk := pek_lt (FrTx hc.1 hS.u7 hS.2.2.1) a
  show J X w h 0 [(0, .ref (jad w 13)), (1, .int (nI ch))] []
  refine k_aload_n C dX0_takeIf_0 rfl ?_
  refine k_callV (k := 13) (ci := 0) (As := []) C mX0_64 (s_peek hw hS hc han) jCl0.1 (by first | decide | omega) (by first | assumption | rfl) rfl rfl (Nat.le_of_ble_eq_true rfl) (jroom hR (by first | decide | omega) (by decide)) dX0_takeIf_1 ?_
  rintro v9 h9 ⟨rfl, rfl⟩
  refine k_iload_n C dX0_takeIf_4 rfl ?_
  refine j_icmp_eq C 10 dX0_takeIf_5 (by decide) (fun c5 => ?_) (fun c5 => ?_)
  · rw [nI_eq (by omega) (by omega)] at c5
    refine k_aload_n C dX0_takeIf_10 rfl ?_
    refine j_dup C dX0_takeIf_11 rfl ?_
    refine j_geti C fX0_19 rfl (by first | decide | omega) (by first | assumption | rfl) dX0_takeIf_12 ?_
    refine j_iconst (v := 1) C dX0_takeIf_15 (by decide) ?_
    refine j_iadd C dX0_takeIf_16 ?_
    rw [hc.2.1, nI_1]
    refine j_puti C fX0_19 rfl rfl (by decide) rfl dX0_takeIf_17 ?_
    refine j_iconst (v := 1) C dX0_takeIf_20 (by decide) ?_
    exact j_zret C hrt (rfl) hE dX0_takeIf_21 (by first | exact ⟨by rw [if_neg c5], by rw [if_neg c5]; exact hc⟩ | exact ⟨by rw [if_pos c5], by rw [if_pos c5]; exact cst_at hS.u7 hc (a + 1)⟩)
  · rw [nI_eq (by omega) (by omega)] at c5
    refine j_iconst (v := 0) C dX0_takeIf_8 (by decide) ?_
    exact j_zret C hrt (rfl) hE dX0_takeIf_9 (by first | exact ⟨by rw [if_neg c5], by rw [if_neg c5]; exact hc⟩ | exact ⟨by rw [if_pos c5], by rw [if_pos c5]; exact cst_at hS.u7 hc (a + 1)⟩)
theorem s_take (hw : jok w) (hS : cS h0 u t n hs me sg) (hc : cst h0 h u a tw yw hd rm c F) (han : a ≤ n) {ch : Nat} (hch : ch < 128) : jM l w yX0_take cX0_take 2 none 2 [.ref (jad w 13), .int (nI ch)] h (fun r h' => r = none ∧ cst h0 h' u (if pek t n a = ch then a + 1 else n) (if pek t n a = ch then tw else 1) yw hd rm c F) := by
  refine jM_of (by decide) hw (Nat.le_of_ble_eq_true rfl) ?_
  intro X C hl hR hnL hrt hE
  subst hl
  have C : jC X w cX0_take RX0 := C
  show J X w h 0 [(0, .ref (jad w 13)), (1, .int (nI ch))] []
  refine k_aload_n C dX0_take_0 rfl ?_
  refine k_iload_n C dX0_take_1 rfl ?_
  refine k_callV (k := 13) (ci := 0) (As := [.int (nI ch)]) C mX0_82 (s_takeIf hw hS hc han hch) jCl0.1 (by first | decide | omega) (by first | assumption | rfl) rfl rfl (Nat.le_of_ble_eq_true rfl) (jroom hR (by first | decide | omega) (by decide)) dX0_take_2 ?_
  rintro v9 h9 ⟨rfl, hc⟩
  refine j_if_ne C 13 dX0_take_5 (by decide) (fun c5 => ?_) (fun c5 => ?_)
  · rw [i1n] at c5; rw [if_pos c5] at hc
    exact j_vret C hrt hE dX0_take_13 (by first | exact ⟨rfl, by rw [if_pos c5, if_pos c5]; exact hc⟩ | exact ⟨rfl, by rw [if_neg c5, if_neg c5]; exact hc⟩)
  · rw [i1z] at c5; rw [if_neg c5] at hc
    refine k_aload_n C dX0_take_8 rfl ?_
    refine k_callV (k := 13) (ci := 0) (As := []) C mX0_75 (s_refuse hw hS hc) jCl0.1 (by first | decide | omega) (by first | assumption | rfl) rfl rfl (Nat.le_of_ble_eq_true rfl) (jroom hR (by first | decide | omega) (by decide)) dX0_take_9 ?_
    rintro v9 h9 ⟨rfl, hc⟩
    refine j_pop C dX0_take_12 rfl ?_
    exact j_vret C hrt hE dX0_take_13 (by first | exact ⟨rfl, by rw [if_pos c5, if_pos c5]; exact hc⟩ | exact ⟨rfl, by rw [if_neg c5, if_neg c5]; exact hc⟩)
theorem s_readAmong (hw : jok w) (hS : cS h0 u t n hs me sg) (hc : cst h0 h u a tw yw hd rm c F) (han : a ≤ n) {lo hi : Nat} (hlo : lo < 128) (hhi : hi < 128) : jM l w yX0_readAmong cX0_readAmong 4 (some .int) 1 [.ref (jad w 13), .int (nI lo), .int (nI hi)] h (fun r h' => r = some (.int (nI (if lo ≤ pek t n a ∧ pek t n a ≤ hi then pek t n a - lo else 0))) ∧ cst h0 h' u (if lo ≤ pek t n a ∧ pek t n a ≤ hi then a + 1 else n) (if lo ≤ pek t n a ∧ pek t n a ≤ hi then tw else 1) yw hd rm c F) := by
  refine jM_of (by decide) hw (Nat.le_of_ble_eq_true rfl) ?_
  intro X C hl hR hnL hrt hE
  subst hl
  have C : jC X w cX0_readAmong RX0 := C
  have hpk := pek_lt (FrTx hc.1 hS.u7 hS.2.2.1) a
  show J X w h 0 [(0, .ref (jad w 13)), (1, .int (nI lo)), (2, .int (nI hi))] []
  refine k_aload_n C dX0_readAmong_0 rfl ?_
  refine k_callV (k := 13) (ci := 0) (As := []) C mX0_64 (s_peek hw hS hc han) jCl0.1 (by first | decide | omega) (by first | assumption | rfl) rfl rfl (Nat.le_of_ble_eq_true rfl) (jroom hR (by first | decide | omega) (by decide)) dX0_readAmong_1 ?_
  rintro v9 h9 ⟨rfl, rfl⟩
  refine k_istore_n C dX0_readAmong_4 (by rw [hnL]; decide) ?_
  refine k_iload_n C dX0_readAmong_5 rfl ?_
  refine k_iload_n C dX0_readAmong_6 rfl ?_
  refine k_iload_n C dX0_readAmong_7 rfl ?_
  refine k_callS (As := [.int (nI (pek t n a)), .int (nI lo), .int (nI hi)]) C mX0_151 (m_isIn hw (x := pek t n a) (y := lo) (z := hi) (by omega) (by omega) (by omega)) rfl rfl (Nat.le_of_ble_eq_true rfl) (jroom hR (by first | decide | omega) (by decide)) dX0_readAmong_8 ?_
  rintro v9 h9 ⟨rfl, rfl⟩
  refine j_if_ne C 21 dX0_readAmong_11 (by decide) (fun c11 => ?_) (fun c11 => ?_)
  · rw [i1n] at c11
    refine k_aload_n C dX0_readAmong_21 rfl ?_
    refine j_dup C dX0_readAmong_22 rfl ?_
    refine j_geti C fX0_19 rfl (by first | decide | omega) (by first | assumption | rfl) dX0_readAmong_23 ?_
    refine j_iconst (v := 1) C dX0_readAmong_26 (by decide) ?_
    refine j_iadd C dX0_readAmong_27 ?_
    rw [hc.2.1, nI_1]
    refine j_puti C fX0_19 rfl rfl (by decide) rfl dX0_readAmong_28 ?_
    refine k_iload_n C dX0_readAmong_31 rfl ?_
    refine k_iload_n C dX0_readAmong_32 rfl ?_
    refine j_isub C dX0_readAmong_33 ?_
    exact j_iret C hrt hE dX0_readAmong_34 (by first | exact ⟨by rw [if_neg c11]; rfl, by rw [if_neg c11, if_neg c11]; exact hc⟩ | exact ⟨by rw [if_pos c11, pk_sub c11.1], by rw [if_pos c11, if_pos c11]; exact cst_at hS.u7 hc (a + 1)⟩)
  · rw [i1z] at c11
    refine k_aload_n C dX0_readAmong_14 rfl ?_
    refine k_callV (k := 13) (ci := 0) (As := []) C mX0_75 (s_refuse hw hS hc) jCl0.1 (by first | decide | omega) (by first | assumption | rfl) rfl rfl (Nat.le_of_ble_eq_true rfl) (jroom hR (by first | decide | omega) (by decide)) dX0_readAmong_15 ?_
    rintro v9 h9 ⟨rfl, hc⟩
    refine j_pop C dX0_readAmong_18 rfl ?_
    refine j_iconst (v := 0) C dX0_readAmong_19 (by decide) ?_
    exact j_iret C hrt hE dX0_readAmong_20 (by first | exact ⟨by rw [if_neg c11]; rfl, by rw [if_neg c11, if_neg c11]; exact hc⟩ | exact ⟨by rw [if_pos c11, pk_sub c11.1], by rw [if_pos c11, if_pos c11]; exact cst_at hS.u7 hc (a + 1)⟩)
theorem s_hold (hw : jok w) (hS : cS h0 u t n hs me sg) (hc : cst h0 h u a tw yw hd rm c F) (hc2 : c ≤ 240) (x : Int32) : jM l w yX0_hold cX0_hold 2 none 1 [.ref (jad w 13), .int x] h (fun r h' => r = none ∧ cst h0 h' u a tw yw (hd + x) (if rm < hd + x then hd + x else rm) (emC c) (emF c F (if x = 2 then 4 else 3) 0)) := by
  refine jM_of (by decide) hw (Nat.le_of_ble_eq_true rfl) ?_
  intro X C hl hR hnL hrt hE
  subst hl
  have C : jC X w cX0_hold RX0 := C
  obtain ⟨k3, k4, k5, k6, k7⟩ := jk_unit u hS.u7
  show J X w h 0 [(0, .ref (jad w 13)), (1, .int x)] []
  refine k_aload_n C dX0_hold_0 rfl ?_
  refine j_dup C dX0_hold_1 rfl ?_
  refine j_geti C fX0_114 rfl (by first | decide | omega) (by first | assumption | rfl) dX0_hold_2 ?_
  refine k_iload_n C dX0_hold_5 rfl ?_
  refine j_iadd C dX0_hold_6 ?_
  rw [hc.2.2.2.2.1]
  refine j_puti C fX0_114 rfl rfl (by decide) rfl dX0_hold_7 ?_
  replace hc := cst_hd hS.u7 hc (hd + x)
  revert hc
  generalize ((up2 h.1 13 7 (hd + x), h.2) : jH) = h2
  intro hc
  refine k_aload_n C dX0_hold_10 rfl ?_
  refine k_aload_n C dX0_hold_11 rfl ?_
  refine j_geti C fX0_117 rfl (by first | decide | omega) (by first | assumption | rfl) dX0_hold_12 ?_
  refine k_aload_n C dX0_hold_15 rfl ?_
  refine j_geti C fX0_114 rfl (by first | decide | omega) (by first | assumption | rfl) dX0_hold_16 ?_
  refine j_mmax C jmmax_X0_179 (jroomM hR (by first | decide | omega) (Nat.le_of_ble_eq_true rfl)) dX0_hold_19 ?_
  rw [hc.2.2.2.2.1, hc.2.2.2.2.2.1]
  refine j_puti C fX0_117 rfl rfl (by decide) rfl dX0_hold_22 ?_
  replace hc := cst_rm hS.u7 hc (if rm < hd + x then hd + x else rm)
  revert hc
  generalize ((up2 h2.1 13 8 (if rm < hd + x then hd + x else rm), h2.2) : jH) = h3
  intro hc
  refine k_aload_n C dX0_hold_25 rfl ?_
  refine j_getr C fX0_22 rfl (by first | decide | omega) (by first | assumption | rfl) (by rw [hc.1.1]; exact hS.2.1) dX0_hold_26 ?_
  refine k_iload_n C dX0_hold_29 rfl ?_
  refine j_iconst (v := 2) C dX0_hold_30 (by decide) ?_
  refine j_icmp_ne C 38 dX0_hold_31 (by decide) (fun c31 => ?_) (fun c31 => ?_)
  · refine j_iconst (v := 3) C dX0_hold_38 (by decide) ?_
    refine j_iconst (v := 0) C dX0_hold_39 (by decide) ?_
    first | (refine k_callV (k := ub u) (ci := 3) (As := [.int 4, .int 0]) C mX0_131 (s_emit hw hS hc hc2 4 0) jCl3.1 (by omega) k3 rfl rfl (Nat.le_of_ble_eq_true rfl) (jroom hR (by decide) (by decide)) dX0_hold_40 ?_; rintro v9 h9 ⟨rfl, hc⟩; refine j_pop C dX0_hold_43 rfl ?_; exact j_vret C hrt hE dX0_hold_44 ⟨rfl, by rw [if_pos c31]; exact hc⟩) | (refine k_callV (k := ub u) (ci := 3) (As := [.int 3, .int 0]) C mX0_131 (s_emit hw hS hc hc2 3 0) jCl3.1 (by omega) k3 rfl rfl (Nat.le_of_ble_eq_true rfl) (jroom hR (by decide) (by decide)) dX0_hold_40 ?_; rintro v9 h9 ⟨rfl, hc⟩; refine j_pop C dX0_hold_43 rfl ?_; exact j_vret C hrt hE dX0_hold_44 ⟨rfl, by rw [if_neg c31]; exact hc⟩)
  · refine j_iconst (v := 4) C dX0_hold_34 (by decide) ?_
    refine j_goto C 39 dX0_hold_35 (by decide) ?_
    refine j_iconst (v := 0) C dX0_hold_39 (by decide) ?_
    first | (refine k_callV (k := ub u) (ci := 3) (As := [.int 4, .int 0]) C mX0_131 (s_emit hw hS hc hc2 4 0) jCl3.1 (by omega) k3 rfl rfl (Nat.le_of_ble_eq_true rfl) (jroom hR (by decide) (by decide)) dX0_hold_40 ?_; rintro v9 h9 ⟨rfl, hc⟩; refine j_pop C dX0_hold_43 rfl ?_; exact j_vret C hrt hE dX0_hold_44 ⟨rfl, by rw [if_pos c31]; exact hc⟩) | (refine k_callV (k := ub u) (ci := 3) (As := [.int 3, .int 0]) C mX0_131 (s_emit hw hS hc hc2 3 0) jCl3.1 (by omega) k3 rfl rfl (Nat.le_of_ble_eq_true rfl) (jroom hR (by decide) (by decide)) dX0_hold_40 ?_; rintro v9 h9 ⟨rfl, hc⟩; refine j_pop C dX0_hold_43 rfl ?_; exact j_vret C hrt hE dX0_hold_44 ⟨rfl, by rw [if_neg c31]; exact hc⟩)
end CST
end
section
/-! how long a code is, in the class and in the reference; what a place in it holds -/
def kcl (e : Ev) : Nat := if e.1 = 9 then 0 else 1
def krf (e : Ev) : Nat := if e.1 = 3 ∨ e.1 = 4 ∨ e.1 = 8 then 0 else 1
def cpos : List Ev → Nat
  | [] => 0
  | e :: l => kcl e + cpos l
def rpos : List Ev → Nat
  | [] => 0
  | e :: l => krf e + rpos l
theorem cpos_app : ∀ (a b : List Ev), cpos (a ++ b) = cpos a + cpos b
  | [], b => by simp [cpos]
  | e :: l, b => by simp [cpos, cpos_app l b]; omega
theorem rpos_app : ∀ (a b : List Ev), rpos (a ++ b) = rpos a + rpos b
  | [], b => by simp [rpos]
  | e :: l, b => by simp [rpos, rpos_app l b]; omega
/-- where each event stands in the class's code -/
def cmp (P : Nat → Nat) : Nat → List Ev → Prop
  | _, [] => True
  | b, e :: l => P (b + 1) = P b + kcl e ∧ cmp P (b + 1) l
theorem cmp_app {P : Nat → Nat} : ∀ (x y : List Ev) (b : Nat), cmp P b (x ++ y) ↔ cmp P b x ∧ cmp P (b + x.length) y
  | [], y, b => by simp [cmp]
  | e :: l, y, b => by
    simp only [List.cons_append, cmp, List.length_cons]
    rw [cmp_app l y (b + 1), show b + 1 + l.length = b + (l.length + 1) by omega, and_assoc]
theorem cmp_end {P : Nat → Nat} : ∀ (x : List Ev) (b : Nat), cmp P b x → P (b + x.length) = P b + cpos x
  | [], b, _ => by simp [cpos]
  | e :: l, b, h => by
    have := cmp_end l (b + 1) h.2
    simp only [List.length_cons, cpos]
    rw [show b + (l.length + 1) = b + 1 + l.length by omega, this, h.1]
    omega
/-- an event as the class writes it down -/
def enc (me : Nat) (P : Nat → Nat) (e : Ev) : Nat := match e.1 with
  | 0 => 16 * e.2.1
  | 1 => 1 + 16 * e.2.1
  | 2 => 2 + 16 * e.2.1
  | 3 => 3
  | 4 => 4
  | 5 => 5
  | 6 => 6
  | 7 => 7
  | 8 => 8
  | 10 => 9
  | 11 => 10 + 16 * P e.2.1
  | 12 => 11 + 16 * P e.2.1
  | 13 => 12 + 16 * (if e.2.1 < 26 then me * 26 + e.2.1 else e.2.1 - 26)
  | _ => 13
def Rep (F : Nat → Int32) (me : Nat) (P : Nat → Nat) : Nat → List Ev → Prop
  | _, [] => True
  | b, e :: l => (e.1 ≠ 9 → F (P b) = nI (enc me P e)) ∧ Rep F me P (b + 1) l
theorem Rep_app {F : Nat → Int32} {me : Nat} {P : Nat → Nat} : ∀ (x y : List Ev) (b : Nat), Rep F me P b (x ++ y) ↔ Rep F me P b x ∧ Rep F me P (b + x.length) y
  | [], y, b => by simp [Rep]
  | e :: l, y, b => by
    simp only [List.cons_append, Rep, List.length_cons]
    rw [Rep_app l y (b + 1), show b + 1 + l.length = b + (l.length + 1) by omega, and_assoc]
theorem Rep_keep {F G : Nat → Int32} {me : Nat} {P : Nat → Nat} : ∀ (x : List Ev) (b : Nat), cmp P b x → (∀ p, P b ≤ p → p < P b + cpos x → G p = F p) → Rep F me P b x → Rep G me P b x
  | [], _, _, _, _ => trivial
  | e :: l, b, hc, hk, h => by
    have h1 := hc.1
    simp only [cpos] at hk
    refine ⟨fun ne => ?_, Rep_keep l (b + 1) hc.2 (fun p p1 p2 => hk p (by omega) (by omega)) h.2⟩
    rw [hk (P b) (Nat.le_refl _) (by simp [kcl, ne]; omega)]
    exact h.1 ne
/-- what is read from a to a1 is short -/
def sz (a a1 : Nat) (f : Nat → Nat → TI) : Prop := ∀ bs hd y e m, f bs hd = some (y, e, m) → (y = 1 ∨ y = 2) ∧ cpos e + 1 ≤ 2 * (a1 - a) ∧ rpos e ≤ a1 - a ∧ m ≤ hd + 2 * (a1 - a)
def szs (sub : Nat → PR) : Prop := ∀ a a1 f, sub a = some (a1, f) → sz a a1 f
section SIZE
variable {t : Nat → Nat} {n : Nat} {hs : List (Nat × Nat × Nat)} {sg : Nat}
theorem sz_op {a a1 a2 k : Nat} {f g : Nat → Nat → TI} (hk : k = 5 ∨ k = 6 ∨ k = 7 ∨ k = 8) (h1 : a < a1) (h2 : a1 + 1 < a2) (hf : sz a a1 f) (hg : sz (a1 + 1) a2 g) (x : Nat) (hx : a2 ≤ x) : sz a x (fun bs hd => tOp k hd (f bs hd) (g (bs + tl (f bs hd) + 1) (hd + 1))) := by
  intro bs hd y e m h
  dsimp only at h
  unfold tOp at h
  split at h
  · next e1 m1 e2 m2 q1 q2 =>
    obtain ⟨-, b1, b2, b3⟩ := hf bs hd _ _ _ q1
    obtain ⟨-, c1, c2, c3⟩ := hg _ _ _ _ _ q2
    simp only [Option.some.injEq, Prod.mk.injEq] at h
    obtain ⟨rfl, rfl, rfl⟩ := h
    have k9 : kcl (k, 0, hd + 1, 1) = 1 := by simp only [kcl]; rw [if_neg (by omega)]
    have k8 : krf (k, 0, hd + 1, 1) ≤ 1 := by simp only [krf]; split <;> omega
    simp only [cpos_app, rpos_app, cpos, rpos, k9]
    simp only [kcl, krf] at *
    refine ⟨by split <;> omega, ?_, ?_, ?_⟩
    · simp; omega
    · simp; omega
    · omega
  · cases h
theorem sz_mono {a a1 a2 : Nat} {f : Nat → Nat → TI} (h : sz a a1 f) (h2 : a1 ≤ a2) : sz a a2 f := by
  intro bs hd y e m q
  have := h bs hd y e m q
  omega
theorem sz_low {a b a1 : Nat} {f : Nat → Nat → TI} (h : sz b a1 f) (h2 : a ≤ b) : sz a a1 f := by
  intro bs hd y e m q
  have := h bs hd y e m q
  omega
theorem sz_Args {sub : Nat → PR} (hp : pgr n sub) (hz : szs sub) (cs : Option Nat) : ∀ (f k a : Nat) (q : Nat → Nat → TA) (a1 k1 : Nat) (q1 : Nat → Nat → TA) (a0 : Nat), a0 ≤ a → (∀ bs hd e m hc, q bs hd = some (e, m, hc) → cpos e ≤ 2 * (a - a0) ∧ rpos e ≤ a - a0 ∧ hc ≤ hd + 2 * (a - a0) ∧ m ≤ hd + 2 * (a - a0)) → pArgs t n sub cs f k a q = some (a1, k1, q1) → ∀ bs hd e m hc, q1 bs hd = some (e, m, hc) → cpos e ≤ 2 * (a1 - a0) ∧ rpos e ≤ a1 - a0 ∧ hc ≤ hd + 2 * (a1 - a0) ∧ m ≤ hd + 2 * (a1 - a0)
  | 0, k, a, q, a1, k1, q1, a0, h0, hq, h => by simp [pArgs] at h
  | f + 1, k, a, q, a1, k1, q1, a0, h0, hq, h => by
    unfold pArgs at h
    split at h
    · cases h
    · next a2 g e0 =>
      have h2 := hp a a2 g e0
      have h3 := hz a a2 g e0
      have key : ∀ bs hd e m hc, tArg cs k (q bs hd) g bs = some (e, m, hc) → cpos e ≤ 2 * (a2 - a0) ∧ rpos e ≤ a2 - a0 ∧ hc ≤ hd + 2 * (a2 - a0) ∧ m ≤ hd + 2 * (a2 - a0) := by
        intro bs hd e m hc hh
        unfold tArg at hh
        split at hh
        · next s e1 m1 hc1 w1 w2 =>
          obtain ⟨b1, b2, b3, b4⟩ := hq _ _ _ _ _ w2
          split at hh
          · next y e2 m2 w3 =>
            obtain ⟨c0, c1, c2, c3⟩ := h3 _ _ _ _ _ w3
            split at hh
            · simp only [Option.some.injEq, Prod.mk.injEq] at hh
              obtain ⟨rfl, rfl, rfl⟩ := hh
              simp only [cpos_app, rpos_app, cpos, rpos, kcl, krf]
              rw [if_pos (show 2 + y = 3 ∨ 2 + y = 4 ∨ 2 + y = 8 by omega)]
              split <;> omega
            · cases hh
          · cases hh
        · cases hh
      split at h
      · next c =>
        refine sz_Args hp hz cs f (k + 1) (a2 + 1) _ a1 k1 q1 a0 (by omega) ?_ h
        intro bs hd e m hc hh
        have := key bs hd e m hc hh
        omega
      · simp only [Option.some.injEq, Prod.mk.injEq] at h
        obtain ⟨rfl, rfl, rfl⟩ := h
        exact key
theorem sz_tCall {a a1 a2 o m k : Nat} {cs : Option Nat} {q : Nat → Nat → TA} (h1 : a ≤ a1) (h2 : a1 < a2) (hcs : ∀ s, cs = some s → ta s 0 = 1 ∨ ta s 0 = 2) (hq : ∀ bs hd e mx hc, q bs hd = some (e, mx, hc) → cpos e ≤ 2 * (a1 - a) ∧ rpos e ≤ a1 - a ∧ hc ≤ hd + 2 * (a1 - a) ∧ mx ≤ hd + 2 * (a1 - a)) : sz a a2 (fun bs hd => tCall cs o m k (q bs hd)) := by
  intro bs hd y e mm h
  dsimp only at h
  unfold tCall at h
  split at h
  · next s e1 m1 hc1 w2 =>
    obtain ⟨b1, b2, b3, b4⟩ := hq _ _ _ _ _ w2
    split at h
    · simp only [Option.some.injEq, Prod.mk.injEq] at h
      obtain ⟨rfl, rfl, rfl⟩ := h
      have := hcs s rfl
      simp only [cpos_app, rpos_app, cpos, rpos, kcl, krf]
      simp
      omega
    · cases h
  · cases h
/-- every head's signature has a result -/
def hsok (hs : List (Nat × Nat × Nat)) : Prop := ∀ q ∈ hs, ta q.2.2 0 = 1 ∨ ta q.2.2 0 = 2
theorem lkp_in : ∀ (hs : List (Nat × Nat × Nat)) (o m s : Nat), lkp hs o m = some s → ∃ q ∈ hs, q.1 = o ∧ q.2.1 = m ∧ q.2.2 = s
  | [], o, m, s, h => by simp [lkp] at h
  | q :: l, o, m, s, h => by
    unfold lkp at h
    split at h
    · next c => exact ⟨q, List.mem_cons_self, c.1, c.2, by simpa using h⟩
    · obtain ⟨p, h1, h2⟩ := lkp_in l o m s h
      exact ⟨p, List.mem_cons_of_mem _ h1, h2⟩
theorem ta_le (s k : Nat) : ta s k ≤ 3 := by unfold ta; split <;> omega
theorem sz_Call {sub : Nat → PR} (hp : pgr n sub) (hz : szs sub) (hh : hsok hs) {o m a a1 : Nat} {f : Nat → Nat → TI} (h : pCall t n hs sub o m a = some (a1, f)) : sz a a1 f := by
  have hcs : ∀ s, lkp hs o m = some s → ta s 0 = 1 ∨ ta s 0 = 2 := fun s q => by
    obtain ⟨p, h1, -, -, h2⟩ := lkp_in _ _ _ _ q
    rw [← h2]; exact hh p h1
  unfold pCall at h
  split at h
  · simp only [Option.some.injEq, Prod.mk.injEq] at h
    obtain ⟨rfl, rfl⟩ := h
    exact sz_tCall (a1 := a) (q := fun _ hd => some ([], 0, hd)) (Nat.le_refl _) (by omega) hcs (fun bs hd e mx hc q => by
      simp only [Option.some.injEq, Prod.mk.injEq] at q
      obtain ⟨rfl, rfl, rfl⟩ := q
      simp [cpos, rpos])
  · split at h
    · cases h
    · next a2 k q e =>
      have h2 := pgr_Args hp _ _ _ _ _ _ _ _ e
      split at h
      · simp only [Option.some.injEq, Prod.mk.injEq] at h
        obtain ⟨rfl, rfl⟩ := h
        refine sz_tCall (a1 := a2) (by omega) (by omega) hcs (sz_Args hp hz _ _ _ _ _ _ _ _ a (Nat.le_refl _) ?_ e)
        intro bs hd e mx hc q
        simp only [Option.some.injEq, Prod.mk.injEq] at q
        obtain ⟨rfl, rfl, rfl⟩ := q
        simp [cpos, rpos]
      · cases h
theorem sz_Who {br : Bool} {sub : Nat → PR} (hp : pgr n sub) (hz : szs sub) (hh : hsok hs) (hsg : sg < 256) (hty : ∀ k, ta sg k ≠ 3) : szs (pWho t n hs sg br sub) := by
  intro a a1 f h
  have hlt := pgr_Who hp _ _ _ h
  unfold pWho at h
  split at h
  · unfold pNum at h
    simp only [Option.some.injEq, Prod.mk.injEq] at h
    obtain ⟨-, rfl⟩ := h
    intro bs hd y e m q
    simp only [Option.some.injEq, Prod.mk.injEq] at q
    obtain ⟨rfl, rfl, rfl⟩ := q
    simp [cpos, rpos, kcl, krf]
    omega
  split at h
  · unfold pPar at h
    split at h
    · next c =>
      simp only [Option.some.injEq, Prod.mk.injEq] at h
      obtain ⟨rfl, rfl⟩ := h
      intro bs hd y e m q
      dsimp only at q
      split at q
      · cases q
      · next c2 =>
        simp only [Option.some.injEq, Prod.mk.injEq] at q
        obtain ⟨rfl, rfl, rfl⟩ := q
        have h3 := hty (pek t n (a + 1) - 48)
        have h4 := ta_le sg (pek t n (a + 1) - 48)
        refine ⟨by omega, ?_, ?_, by omega⟩
        · simp only [cpos, kcl]; split <;> omega
        · simp only [rpos, krf]; split <;> omega
    · cases h
  split at h
  · cases h
  split at h
  · split at h
    · exact sz_low (sz_Call hp hz hh h) (by omega)
    · cases h
  split at h
  · split at h
    · exact sz_low (sz_Call hp hz hh h) (by omega)
    · cases h
  split at h
  · unfold pGrp at h
    split at h
    · cases h
    · next a2 g e =>
      have h2 := hp _ _ _ e
      split at h
      · simp only [Option.some.injEq, Prod.mk.injEq] at h
        obtain ⟨rfl, rfl⟩ := h
        exact sz_low (sz_mono (hz _ _ _ e) (by omega)) (by omega)
      · cases h
  split at h
  · unfold pPair at h
    split at h
    · cases h
    · next a2 g e =>
      have h2 := hp _ _ _ e
      split at h
      · split at h
        · cases h
        · next a3 g3 e3 =>
          have h3 := hp _ _ _ e3
          split at h
          · simp only [Option.some.injEq, Prod.mk.injEq] at h
            obtain ⟨rfl, rfl⟩ := h
            exact sz_low (sz_op (by omega) h2.1 h3.1 (hz _ _ _ e) (hz _ _ _ e3) (a3 + 1) (by omega)) (by omega)
          · cases h
      · cases h
  split at h
  · unfold pCho at h
    split at h
    · cases h
    · next a2 g e =>
      have h2 := hp _ _ _ e
      split at h
      · split at h
        · cases h
        · next a3 g3 e3 =>
          have h3 := hp _ _ _ e3
          split at h
          · split at h
            · cases h
            · next a4 g4 e4 =>
              have h4 := hp _ _ _ e4
              split at h
              · simp only [Option.some.injEq, Prod.mk.injEq] at h
                obtain ⟨rfl, rfl⟩ := h
                intro bs hd y ev m q
                dsimp only at q
                unfold tCho at q
                split at q
                · next e1 m1 y2 e2 m2 z3 e3' m3 q1 q2 q3 =>
                  obtain ⟨-, b1, b2, b3⟩ := hz _ _ _ e _ _ _ _ _ q1
                  obtain ⟨c0, c1, c2, c3⟩ := hz _ _ _ e3 _ _ _ _ _ q2
                  obtain ⟨d0, d1, d2, d3⟩ := hz _ _ _ e4 _ _ _ _ _ q3
                  split at q
                  · simp only [Option.some.injEq, Prod.mk.injEq] at q
                    obtain ⟨rfl, rfl, rfl⟩ := q
                    simp only [cpos_app, rpos_app, cpos, rpos, kcl, krf]
                    simp
                    omega
                  · cases q
                · cases q
              · cases h
          · cases h
      · cases h
  · cases h
theorem sz_Fac {br : Bool} {sub : Nat → PR} (hp : pgr n sub) (hz : szs sub) (hh : hsok hs) (hsg : sg < 256) (hty : ∀ k, ta sg k ≠ 3) : szs (pFac t n hs sg br sub) := by
  intro a a1 f h
  unfold pFac at h
  split at h
  · cases h
  · next a2 g e =>
    have h2 := pgr_Who hp _ _ _ e
    have h3 := sz_Who hp hz hh hsg hty _ _ _ e
    have key : ∀ k, k = 9 ∨ k = 10 → sz a (a2 + 2) (fun bs hd => tPrj k hd (g bs hd)) := by
      intro k hk bs hd y ev m q
      dsimp only at q
      unfold tPrj at q
      split at q
      · next e1 m1 q1 =>
        obtain ⟨-, b1, b2, b3⟩ := h3 _ _ _ _ _ q1
        simp only [Option.some.injEq, Prod.mk.injEq] at q
        obtain ⟨rfl, rfl, rfl⟩ := q
        simp only [cpos_app, rpos_app, cpos, rpos]
        have z1 : kcl (k, 0, hd, 2) ≤ 1 := by simp only [kcl]; split <;> omega
        have z2 : krf (k, 0, hd, 2) ≤ 1 := by simp only [krf]; split <;> omega
        refine ⟨by simp, ?_, ?_, ?_⟩
        · omega
        · omega
        · omega
      · cases q
    split at h
    · split at h
      · simp only [Option.some.injEq, Prod.mk.injEq] at h
        obtain ⟨rfl, rfl⟩ := h
        exact key 9 (Or.inl rfl)
      · split at h
        · simp only [Option.some.injEq, Prod.mk.injEq] at h
          obtain ⟨rfl, rfl⟩ := h
          exact key 10 (Or.inr rfl)
        · cases h
    · simp only [Option.some.injEq, Prod.mk.injEq] at h
      obtain ⟨rfl, rfl⟩ := h
      exact h3
theorem sz_Mul {br : Bool} {sub : Nat → PR} (hp : pgr n sub) (hz : szs sub) (hh : hsok hs) (hsg : sg < 256) (hty : ∀ k, ta sg k ≠ 3) : ∀ (q a : Nat) (f : Nat → Nat → TI) (a1 : Nat) (g : Nat → Nat → TI) (a0 : Nat), a0 < a → sz a0 a f → pMul t n hs sg br sub q a f = some (a1, g) → sz a0 a1 g
  | 0, a, f, a1, g, a0, h0, hf, h => by simp only [pMul, Option.some.injEq, Prod.mk.injEq] at h; obtain ⟨rfl, rfl⟩ := h; exact hf
  | q + 1, a, f, a1, g, a0, h0, hf, h => by
    unfold pMul at h
    split at h
    · split at h
      · cases h
      · next a2 g2 e =>
        have h2 := pgr_Fac hp _ _ _ e
        exact sz_Mul hp hz hh hsg hty q a2 _ a1 g a0 (by omega) (sz_op (by omega) h0 h2.1 hf (sz_Fac hp hz hh hsg hty _ _ _ e) a2 (Nat.le_refl _)) h
    · simp only [Option.some.injEq, Prod.mk.injEq] at h; obtain ⟨rfl, rfl⟩ := h; exact hf
theorem sz_Pro {br : Bool} {sub : Nat → PR} (hp : pgr n sub) (hz : szs sub) (hh : hsok hs) (hsg : sg < 256) (hty : ∀ k, ta sg k ≠ 3) : szs (pPro t n hs sg br sub) := by
  intro a a1 f h
  unfold pPro at h
  split at h
  · cases h
  · next a2 g e => exact sz_Mul hp hz hh hsg hty _ _ _ _ _ a (pgr_Fac hp _ _ _ e).1 (sz_Fac hp hz hh hsg hty _ _ _ e) h
theorem sz_Add {br : Bool} {sub : Nat → PR} (hp : pgr n sub) (hz : szs sub) (hh : hsok hs) (hsg : sg < 256) (hty : ∀ k, ta sg k ≠ 3) : ∀ (q a : Nat) (f : Nat → Nat → TI) (a1 : Nat) (g : Nat → Nat → TI) (a0 : Nat), a0 < a → sz a0 a f → pAdd t n hs sg br sub q a f = some (a1, g) → sz a0 a1 g
  | 0, a, f, a1, g, a0, h0, hf, h => by simp only [pAdd, Option.some.injEq, Prod.mk.injEq] at h; obtain ⟨rfl, rfl⟩ := h; exact hf
  | q + 1, a, f, a1, g, a0, h0, hf, h => by
    unfold pAdd at h
    split at h
    · split at h
      · cases h
      · next a2 g2 e =>
        have h2 := pgr_Pro hp _ _ _ e
        exact sz_Add hp hz hh hsg hty q a2 _ a1 g a0 (by omega) (sz_op (by split <;> omega) h0 h2.1 hf (sz_Pro hp hz hh hsg hty _ _ _ e) a2 (Nat.le_refl _)) h
    · simp only [Option.some.injEq, Prod.mk.injEq] at h; obtain ⟨rfl, rfl⟩ := h; exact hf
theorem sz_Sum {br : Bool} {sub : Nat → PR} (hp : pgr n sub) (hz : szs sub) (hh : hsok hs) (hsg : sg < 256) (hty : ∀ k, ta sg k ≠ 3) : szs (pSum t n hs sg br sub) := by
  intro a a1 f h
  unfold pSum at h
  split at h
  · cases h
  · next a2 g e => exact sz_Add hp hz hh hsg hty _ _ _ _ _ a (pgr_Pro hp _ _ _ e).1 (sz_Pro hp hz hh hsg hty _ _ _ e) h
theorem sz_E (hh : hsok hs) (hsg : sg < 256) (hty : ∀ k, ta sg k ≠ 3) : ∀ b, szs (pE t n hs sg b)
  | 0 => fun a a1 f h => sz_Sum (n := n) (t := t) (sub := fun _ => none) (fun a a1 f h => by cases h) (fun a a1 f h => by cases h) hh hsg hty a a1 f h
  | b + 1 => fun a a1 f h => sz_Sum (pgr_E b) (sz_E hh hsg hty b) hh hsg hty a a1 f h
end SIZE
end
section
/-! THE COMPILER'S STATE BY MODES: none: the text is none as said (its place is the end); some none: types are not as said; some (c, hd, rm, F): all is well so far, c the code's length, hd what is held, rm the room, F the code. -/
abbrev cMd : Type := Option (Option (Nat × Nat × Nat × (Nat → Int32)))
def cAt (h0 h : jH) (u n a : Nat) (md : cMd) : Prop := a ≤ n ∧ match md with
  | none => a = n ∧ ∃ (yw hd rm : Int32) (c : Nat) (F : Nat → Int32), c ≤ 240 ∧ cst h0 h u a 1 yw hd rm c F
  | some none => ∃ (hd rm : Int32) (c : Nat) (F : Nat → Int32), c ≤ 240 ∧ cst h0 h u a 0 1 hd rm c F
  | some (some q) => q.1 ≤ 240 ∧ cst h0 h u a 0 0 (nI q.2.1) (nI q.2.2.1) q.1 q.2.2.2
def oNd (x y : Int32) (md : cMd) : cMd := match md with
  | none => none
  | some q => if x = y then some q else some none
def oEm (x y : Int32) (md : cMd) : cMd := match md with
  | some (some q) => some (some (emC q.1, q.2.1, q.2.2.1, emF q.1 q.2.2.2 x y))
  | m => m
def oHo (k : Nat) (md : cMd) : cMd := match md with
  | some (some q) => some (some (emC q.1, q.2.1 + k, max q.2.2.1 (q.2.1 + k), emF q.1 q.2.2.2 (if k = 2 then 4 else 3) 0))
  | m => m
def oRl (k : Nat) (md : cMd) : cMd := match md with
  | some (some q) => some (some (q.1, q.2.1 - k, q.2.2.1, q.2.2.2))
  | m => m
def oLa (j : Nat) (md : cMd) : cMd := match md with
  | some (some q) => some (some (q.1, q.2.1, q.2.2.1, if j < 240 then va_up q.2.2.2 j (q.2.2.2 j ||| nI q.1 <<< ((4 : Int32) &&& 31)) else q.2.2.2))
  | m => m
def oAt (b : Bool) (n a a' : Nat) (md : cMd) : Nat × cMd := if b then (a', md) else (n, none)
theorem emC_le {c : Nat} (h : c ≤ 240) : emC c ≤ 240 := by unfold emC; split <;> omega
section CAT
variable {l : Launch} {w : jW} {h0 h : jH} {u : Nat} {t : Nat → Nat} {n : Nat} {hs : List (Nat × Nat × Nat)} {me sg : Nat} {a : Nat} {md : cMd}
theorem cAt_any (hc : cAt h0 h u n a md) : ∃ (tw yw hd rm : Int32) (c : Nat) (F : Nat → Int32), c ≤ 240 ∧ cst h0 h u a tw yw hd rm c F := by
  obtain ⟨-, hc⟩ := hc
  rcases md with _ | _ | q
  · obtain ⟨-, yw, hd, rm, c, F, h1, h2⟩ := hc; exact ⟨_, _, _, _, c, F, h1, h2⟩
  · obtain ⟨hd, rm, c, F, h1, h2⟩ := hc; exact ⟨_, _, _, _, c, F, h1, h2⟩
  · exact ⟨_, _, _, _, _, _, hc.1, hc.2⟩
/-- a move of the place alone, or a fault of the text -/
theorem cAt_move {a' : Nat} (hS : cS h0 u t n hs me sg) (hc : cAt h0 h u n a md) (ha : a' ≤ n) (hm : md = none → a' = n) {h' : jH} (hk : ∀ (tw yw hd rm : Int32) (c : Nat) (F : Nat → Int32), cst h0 h u a tw yw hd rm c F → cst h0 h' u a' tw yw hd rm c F) : cAt h0 h' u n a' md := by
  obtain ⟨-, hc⟩ := hc
  refine ⟨ha, ?_⟩
  rcases md with _ | _ | q
  · obtain ⟨-, yw, hd, rm, c, F, h1, h2⟩ := hc; exact ⟨hm rfl, yw, hd, rm, c, F, h1, hk _ _ _ _ _ _ h2⟩
  · obtain ⟨hd, rm, c, F, h1, h2⟩ := hc; exact ⟨hd, rm, c, F, h1, hk _ _ _ _ _ _ h2⟩
  · exact ⟨hc.1, hk _ _ _ _ _ _ hc.2⟩
/-- any two descriptions of one heap agree -/
theorem cst_two {a' c c' : Nat} {tw yw hd rm tw' yw' hd' rm' : Int32} {F F' : Nat → Int32} (h1 : cst h0 h u a tw yw hd rm c F) (h2 : cst h0 h u a' tw' yw' hd' rm' c' F') : tw = tw' ∧ yw = yw' ∧ hd = hd' ∧ rm = rm' ∧ nI c = nI c' ∧ F = F' ∧ nI a = nI a' :=
  ⟨h1.2.2.1.symm.trans h2.2.2.1, h1.2.2.2.1.symm.trans h2.2.2.2.1, h1.2.2.2.2.1.symm.trans h2.2.2.2.2.1, h1.2.2.2.2.2.1.symm.trans h2.2.2.2.2.2.1, h1.2.2.2.2.2.2.1.symm.trans h2.2.2.2.2.2.2.1, h1.2.2.2.2.2.2.2.symm.trans h2.2.2.2.2.2.2.2, h1.2.1.symm.trans h2.2.1⟩
theorem t_peek (hw : jok w) (hS : cS h0 u t n hs me sg) (hc : cAt h0 h u n a md) : jM l w yX0_peek cX0_peek 1 (some .char) 0 [.ref (jad w 13)] h (fun r h' => r = some (.int (nI (pek t n a))) ∧ h' = h) := by
  obtain ⟨_, _, _, _, _, _, _, h2⟩ := cAt_any hc
  exact s_peek hw hS h2 hc.1
theorem tkle {ch : Nat} (h0c : ch ≠ 0) (ha : a ≤ n) : (if pek t n a = ch then a + 1 else a) ≤ n := by
  split
  · next q => have := pek_in q h0c; omega
  · exact ha
theorem t_takeIf (hw : jok w) (hS : cS h0 u t n hs me sg) (hc : cAt h0 h u n a md) {ch : Nat} (hch : ch < 128) (h0c : ch ≠ 0) : jM l w yX0_takeIf cX0_takeIf 2 (some .boolean) 1 [.ref (jad w 13), .int (nI ch)] h (fun r h' => r = some (.int (if pek t n a = ch then 1 else 0)) ∧ cAt h0 h' u n (if pek t n a = ch then a + 1 else a) md) := by
  obtain ⟨ha, hm⟩ := hc
  rcases md with _ | _ | q
  · obtain ⟨e, yw, hd, rm, c, F, h1, h2⟩ := hm
    refine jM_mono (s_takeIf hw hS h2 ha hch) ?_
    rintro v h' ⟨rfl, h3⟩
    have : ¬ pek t n a = ch := fun q => by have := pek_in q h0c; omega
    simp only [if_neg this] at h3 ⊢
    exact ⟨trivial, ha, e, yw, hd, rm, c, F, h1, h3⟩
  · obtain ⟨hd, rm, c, F, h1, h2⟩ := hm
    refine jM_mono (s_takeIf hw hS h2 ha hch) ?_
    rintro v h' ⟨rfl, h3⟩
    exact ⟨rfl, tkle h0c ha, hd, rm, c, F, h1, h3⟩
  · refine jM_mono (s_takeIf hw hS hm.2 ha hch) ?_
    rintro v h' ⟨rfl, h3⟩
    exact ⟨rfl, tkle h0c ha, hm.1, h3⟩
theorem t_take (hw : jok w) (hS : cS h0 u t n hs me sg) (hc : cAt h0 h u n a md) {ch : Nat} (hch : ch < 128) (h0c : ch ≠ 0) : jM l w yX0_take cX0_take 2 none 2 [.ref (jad w 13), .int (nI ch)] h (fun r h' => r = none ∧ cAt h0 h' u n (oAt (pek t n a == ch) n a (a + 1) md).1 (oAt (pek t n a == ch) n a (a + 1) md).2) := by
  obtain ⟨tw, yw, hd, rm, c, F, h1, h2⟩ := cAt_any hc
  refine jM_mono (s_take hw hS h2 hc.1 hch) ?_
  rintro v h' ⟨rfl, h3⟩
  refine ⟨rfl, ?_⟩
  by_cases q : pek t n a = ch
  · rw [if_pos q, if_pos q] at h3
    have hlt := pek_in q h0c
    simp only [oAt, q, beq_self_eq_true, if_true]
    refine cAt_move hS hc (by omega) ?_ ?_
    · intro e; subst e; have := hc.2.1; omega
    · intro tw' yw' hd' rm' c' F' h4
      obtain ⟨rfl, rfl, rfl, rfl, e5, rfl, -⟩ := cst_two h2 h4
      refine ⟨h3.1, h3.2.1, h3.2.2.1, h3.2.2.2.1, h3.2.2.2.2.1, h3.2.2.2.2.2.1, ?_, h3.2.2.2.2.2.2.2⟩
      rw [h3.2.2.2.2.2.2.1, e5]
  · rw [if_neg q, if_neg q] at h3
    have e : (pek t n a == ch) = false := by simp [q]
    simp only [oAt, e]
    exact ⟨Nat.le_refl _, rfl, yw, hd, rm, c, F, h1, h3⟩
theorem t_readAmong (hw : jok w) (hS : cS h0 u t n hs me sg) (hc : cAt h0 h u n a md) {lo hi : Nat} (hlo : lo < 128) (hhi : hi < 128) (hl0 : 0 < lo) : jM l w yX0_readAmong cX0_readAmong 4 (some .int) 1 [.ref (jad w 13), .int (nI lo), .int (nI hi)] h (fun r h' => r = some (.int (nI (if lo ≤ pek t n a ∧ pek t n a ≤ hi then pek t n a - lo else 0))) ∧ cAt h0 h' u n (oAt (decide (lo ≤ pek t n a ∧ pek t n a ≤ hi)) n a (a + 1) md).1 (oAt (decide (lo ≤ pek t n a ∧ pek t n a ≤ hi)) n a (a + 1) md).2) := by
  obtain ⟨tw, yw, hd, rm, c, F, h1, h2⟩ := cAt_any hc
  refine jM_mono (s_readAmong hw hS h2 hc.1 hlo hhi) ?_
  rintro v h' ⟨rfl, h3⟩
  refine ⟨rfl, ?_⟩
  by_cases q : lo ≤ pek t n a ∧ pek t n a ≤ hi
  · rw [if_pos q, if_pos q] at h3
    have hlt := pek_gt (c := 0) (t := t) (n := n) (a := a) (by omega)
    simp only [oAt, q, and_self, decide_true, if_true]
    refine cAt_move hS hc (by omega) ?_ ?_
    · intro e; subst e; have := hc.2.1; omega
    · intro tw' yw' hd' rm' c' F' h4
      obtain ⟨rfl, rfl, rfl, rfl, e5, rfl, -⟩ := cst_two h2 h4
      refine ⟨h3.1, h3.2.1, h3.2.2.1, h3.2.2.2.1, h3.2.2.2.2.1, h3.2.2.2.2.2.1, ?_, h3.2.2.2.2.2.2.2⟩
      rw [h3.2.2.2.2.2.2.1, e5]
  · rw [if_neg q, if_neg q] at h3
    have e : decide (lo ≤ pek t n a ∧ pek t n a ≤ hi) = false := by simp only [q, decide_false]
    simp only [oAt, e]
    exact ⟨Nat.le_refl _, rfl, yw, hd, rm, c, F, h1, h3⟩
theorem t_refuse (hw : jok w) (hS : cS h0 u t n hs me sg) (hc : cAt h0 h u n a md) : jM l w yX0_refuse cX0_refuse 1 (some .int) 0 [.ref (jad w 13)] h (fun r h' => r = some (.int 1) ∧ cAt h0 h' u n n none) := by
  obtain ⟨tw, yw, hd, rm, c, F, h1, h2⟩ := cAt_any hc
  refine jM_mono (s_refuse hw hS h2) ?_
  rintro v h' ⟨rfl, h3⟩
  exact ⟨rfl, Nat.le_refl _, rfl, yw, hd, rm, c, F, h1, h3⟩
theorem t_need (hw : jok w) (hS : cS h0 u t n hs me sg) (hc : cAt h0 h u n a md) (x y : Int32) : jM l w yX0_need cX0_need 3 none 0 [.ref (jad w 13), .int x, .int y] h (fun r h' => r = none ∧ cAt h0 h' u n a (oNd x y md)) := by
  obtain ⟨ha, hm⟩ := hc
  rcases md with _ | _ | q
  · obtain ⟨e, yw, hd, rm, c, F, h1, h2⟩ := hm
    refine jM_mono (s_need hw hS h2 x y) ?_
    rintro v h' ⟨rfl, h3⟩
    exact ⟨rfl, ha, e, _, hd, rm, c, F, h1, h3⟩
  · obtain ⟨hd, rm, c, F, h1, h2⟩ := hm
    refine jM_mono (s_need hw hS h2 x y) ?_
    rintro v h' ⟨rfl, h3⟩
    rw [ite_self] at h3
    exact ⟨rfl, ha, by simp only [oNd, ite_self]; exact ⟨hd, rm, c, F, h1, h3⟩⟩
  · refine jM_mono (s_need hw hS hm.2 x y) ?_
    rintro v h' ⟨rfl, h3⟩
    refine ⟨rfl, ha, ?_⟩
    by_cases e : x = y
    · simp only [oNd, e, if_true] at h3 ⊢; exact ⟨hm.1, h3⟩
    · simp only [oNd, e, if_false] at h3 ⊢; exact ⟨_, _, _, _, hm.1, h3⟩
theorem t_emit (hw : jok w) (hS : cS h0 u t n hs me sg) (hc : cAt h0 h u n a md) (x y : Int32) : jM l w yX3_emit cX3_emit 4 (some .int) 0 [.ref (jad w (ub u)), .int x, .int y] h (fun r h' => (∃ c, c ≤ 240 ∧ r = some (.int (nI c)) ∧ ∀ q, md = some (some q) → c = q.1) ∧ cAt h0 h' u n a (oEm x y md)) := by
  obtain ⟨ha, hm⟩ := hc
  rcases md with _ | _ | q
  · obtain ⟨e, yw, hd, rm, c, F, h1, h2⟩ := hm
    refine jM_mono (s_emit hw hS h2 h1 x y) ?_
    rintro v h' ⟨rfl, h3⟩
    exact ⟨⟨c, h1, rfl, fun q z => by cases z⟩, ha, e, yw, hd, rm, _, _, emC_le h1, h3⟩
  · obtain ⟨hd, rm, c, F, h1, h2⟩ := hm
    refine jM_mono (s_emit hw hS h2 h1 x y) ?_
    rintro v h' ⟨rfl, h3⟩
    exact ⟨⟨c, h1, rfl, fun q z => by cases z⟩, ha, hd, rm, _, _, emC_le h1, h3⟩
  · refine jM_mono (s_emit hw hS hm.2 hm.1 x y) ?_
    rintro v h' ⟨rfl, h3⟩
    exact ⟨⟨q.1, hm.1, rfl, fun q' z => by cases z; rfl⟩, ha, emC_le hm.1, h3⟩
theorem t_release (hw : jok w) (hS : cS h0 u t n hs me sg) (hc : cAt h0 h u n a md) (x : Int32) (k : Nat) (hx : ∀ q, md = some (some q) → x = nI k ∧ k ≤ q.2.1) : jM l w yX0_release cX0_release 2 none 0 [.ref (jad w 13), .int x] h (fun r h' => r = none ∧ cAt h0 h' u n a (oRl k md)) := by
  obtain ⟨ha, hm⟩ := hc
  rcases md with _ | _ | q
  · obtain ⟨e, yw, hd, rm, c, F, h1, h2⟩ := hm
    refine jM_mono (s_release hw hS h2 x) ?_
    rintro v h' ⟨rfl, h3⟩
    exact ⟨rfl, ha, e, yw, _, rm, c, F, h1, h3⟩
  · obtain ⟨hd, rm, c, F, h1, h2⟩ := hm
    refine jM_mono (s_release hw hS h2 x) ?_
    rintro v h' ⟨rfl, h3⟩
    exact ⟨rfl, ha, _, rm, c, F, h1, h3⟩
  · refine jM_mono (s_release hw hS hm.2 x) ?_
    rintro v h' ⟨rfl, h3⟩
    obtain ⟨rfl, hk⟩ := hx q rfl
    rw [pk_sub hk] at h3
    exact ⟨rfl, ha, hm.1, h3⟩
theorem t_hold (hw : jok w) (hS : cS h0 u t n hs me sg) (hc : cAt h0 h u n a md) (x : Int32) (k : Nat) (hx : ∀ q, md = some (some q) → x = nI k ∧ k ≤ 2 ∧ q.2.1 ≤ 1000 ∧ q.2.2.1 ≤ 1000) : jM l w yX0_hold cX0_hold 2 none 1 [.ref (jad w 13), .int x] h (fun r h' => r = none ∧ cAt h0 h' u n a (oHo k md)) := by
  obtain ⟨ha, hm⟩ := hc
  rcases md with _ | _ | q
  · obtain ⟨e, yw, hd, rm, c, F, h1, h2⟩ := hm
    refine jM_mono (s_hold hw hS h2 h1 x) ?_
    rintro v h' ⟨rfl, h3⟩
    exact ⟨rfl, ha, e, yw, _, _, _, _, emC_le h1, h3⟩
  · obtain ⟨hd, rm, c, F, h1, h2⟩ := hm
    refine jM_mono (s_hold hw hS h2 h1 x) ?_
    rintro v h' ⟨rfl, h3⟩
    exact ⟨rfl, ha, _, _, _, _, emC_le h1, h3⟩
  · refine jM_mono (s_hold hw hS hm.2 hm.1 x) ?_
    rintro v h' ⟨rfl, h3⟩
    obtain ⟨rfl, hk, b1, b2⟩ := hx q rfl
    refine ⟨rfl, ha, emC_le hm.1, ?_⟩
    rw [nI_add] at h3
    have e1 : (if nI q.2.2.1 < nI (q.2.1 + k) then nI (q.2.1 + k) else nI q.2.2.1) = nI (max q.2.2.1 (q.2.1 + k)) := by
      by_cases z : q.2.2.1 < q.2.1 + k
      · rw [if_pos (nI_lt z (by omega)), Nat.max_eq_right (by omega)]
      · rw [if_neg (nI_nlt (by omega) (by omega)), Nat.max_eq_left (by omega)]
    have e2 : (if nI k = (2 : Int32) then (4 : Int32) else 3) = if k = 2 then 4 else 3 := by
      have : nI k = (2 : Int32) ↔ k = 2 := nI_eq (a := k) (b := 2) (by omega) (by omega)
      by_cases z : k = 2
      · rw [if_pos (this.mpr z), if_pos z]
      · rw [if_neg (fun q => z (this.mp q)), if_neg z]
    rw [e1, e2] at h3
    exact h3
theorem t_landHere (hw : jok w) (hS : cS h0 u t n hs me sg) (hc : cAt h0 h u n a md) {j : Nat} (hj : j ≤ 240) : jM l w yX3_landHere cX3_landHere 2 none 0 [.ref (jad w (ub u)), .int (nI j)] h (fun r h' => r = none ∧ cAt h0 h' u n a (oLa j md)) := by
  have key : ∀ (tw yw hd rm : Int32) (c : Nat) (F : Nat → Int32), cst h0 h u a tw yw hd rm c F → jM l w yX3_landHere cX3_landHere 2 none 0 [.ref (jad w (ub u)), .int (nI j)] h (fun r h' => r = none ∧ cst h0 h' u a tw yw hd rm c (if j < 240 then va_up F j (F j ||| nI c <<< ((4 : Int32) &&& 31)) else F)) := by
    intro tw yw hd rm c F h2
    refine jM_mono (m_landHere hw (FrUr h2.1 hS.1) h2.2.2.2.2.2.2.1 hj) ?_
    rintro v h' ⟨rfl, rfl⟩
    refine ⟨rfl, ?_⟩
    have e := h2.2.2.2.2.2.2.2
    split
    · rw [e]; exact cst_co hS.u7 h2 j _
    · exact h2
  obtain ⟨ha, hm⟩ := hc
  rcases md with _ | _ | q
  · obtain ⟨e, yw, hd, rm, c, F, h1, h2⟩ := hm
    refine jM_mono (key _ _ _ _ _ _ h2) ?_
    rintro v h' ⟨rfl, h3⟩
    exact ⟨rfl, ha, e, yw, _, rm, c, _, h1, h3⟩
  · obtain ⟨hd, rm, c, F, h1, h2⟩ := hm
    refine jM_mono (key _ _ _ _ _ _ h2) ?_
    rintro v h' ⟨rfl, h3⟩
    exact ⟨rfl, ha, _, rm, c, _, h1, h3⟩
  · refine jM_mono (key _ _ _ _ _ _ hm.2) ?_
    rintro v h' ⟨rfl, h3⟩
    exact ⟨rfl, ha, hm.1, h3⟩
end CAT
end
section
section RD1
variable {l : Launch} {w : jW} {h0 h : jH} {u : Nat} {t : Nat → Nat} {n : Nat} {hs : List (Nat × Nat × Nat)} {me sg : Nat} {a : Nat} {md : cMd}
theorem ta_sh {s k : Nat} (hs : s < 256) (hk : k ≤ 3) : nI s >>> (((2 : Int32) * nI k) &&& 31) &&& 3 = nI (ta s k) := by
  have h3 : (3 : Int32).toBitVec.toNat = 2 ^ 2 - 1 := by decide
  have key : ∀ j, j ≤ 3 → (((2 : Int32) * nI j) &&& 31).toBitVec.smod 32 = BitVec.ofNat 32 (2 * j) := by decide
  have key2 : ∀ j, j ≤ 3 → (BitVec.ofNat 32 (2 * j)).toNat = 2 * j := by decide
  rw [pk_shrN (by omega) _ (2 * k) (by rw [key k hk, key2 k hk]), pk_andN (by have := Nat.div_le_self s (2 ^ (2 * k)); omega) 2 h3]
  unfold ta
  rw [if_neg (by omega), Nat.pow_mul]
theorem m_typeAt (hw : jok w) {s k : Nat} (hs : s < 256) (hk : k < 1000) : jM l w yX4_typeAt cX4_typeAt 2 (some .int) 0 [.int (nI s), .int (nI k)] h (fun r h' => r = some (.int (nI (ta s k))) ∧ h' = h) := by
  refine jM_of (by decide) hw (Nat.le_of_ble_eq_true rfl) ?_
  intro X C hl hR hnL hrt hE
  have C : jC X w cX4_typeAt RX4 := C
  show J X w h 0 [(0, .int (nI s)), (1, .int (nI k))] []
  refine k_iload_n C dX4_typeAt_0 rfl ?_
  refine j_iconst (v := 3) C dX4_typeAt_1 (by decide) ?_
  refine j_icmp_le C 9 dX4_typeAt_2 (by decide) (fun c2 => ?_) (fun c2 => ?_)
  · rw [show (3 : Int32) = nI 3 from rfl, nI_leI (by omega) (by omega)] at c2
    refine k_iload_n C dX4_typeAt_9 rfl ?_
    refine j_iconst (v := 2) C dX4_typeAt_10 (by decide) ?_
    refine k_iload_n C dX4_typeAt_11 rfl ?_
    refine j_imul C dX4_typeAt_12 ?_
    refine j_ishr C dX4_typeAt_13 ?_
    refine j_iconst (v := 3) C dX4_typeAt_14 (by decide) ?_
    refine j_iand C dX4_typeAt_15 ?_
    first | exact j_iret C hrt hE dX4_typeAt_16 ⟨by unfold ta; rw [if_pos (by omega)]; rfl, rfl⟩ | exact j_iret C hrt hE dX4_typeAt_16 ⟨by rw [ta_sh hs c2], rfl⟩
  · rw [show (3 : Int32) = nI 3 from rfl, nI_leI (by omega) (by omega)] at c2
    refine j_iconst (v := 0) C dX4_typeAt_5 (by decide) ?_
    refine j_goto C 16 dX4_typeAt_6 (by decide) ?_
    first | exact j_iret C hrt hE dX4_typeAt_16 ⟨by unfold ta; rw [if_pos (by omega)]; rfl, rfl⟩ | exact j_iret C hrt hE dX4_typeAt_16 ⟨by rw [ta_sh hs c2], rfl⟩
theorem m_wordsBefore (hw : jok w) {s k : Nat} (hs : s < 256) (hk : k < 100) : jM l w yX4_wordsBefore cX4_wordsBefore 4 (some .int) 1 [.int (nI s), .int (nI k)] h (fun r h' => r = some (.int (nI (wb s k))) ∧ h' = h) := by
  refine jM_of (by decide) hw (Nat.le_of_ble_eq_true rfl) ?_
  intro X C hl hR hnL hrt hE
  subst hl
  have C : jC X w cX4_wordsBefore RX4 := C
  show J X w h 0 [(0, .int (nI s)), (1, .int (nI k))] []
  have loop : ∀ (m i : Nat), i + m = max k 1 → 1 ≤ i → J X w h 4 [(0, .int (nI s)), (1, .int (nI k)), (2, .int (nI (wb s i))), (3, .int (nI i))] [] := by
    intro m
    induction m with
    | zero =>
      intro i hi h1
      have e : wb s i = wb s k := by
        rcases Nat.lt_or_ge k 1 with z | z
        · rw [show k = 0 by omega, show i = 1 by omega]; rfl
        · rw [show i = k by omega]
      refine k_iload_n C dX4_wordsBefore_4 rfl ?_
      refine k_iload_n C dX4_wordsBefore_5 rfl ?_
      refine j_icmp_ge C 23 dX4_wordsBefore_6 (by decide) (fun c6 => ?_) (fun c6 => ?_)
      · refine k_iload_n C dX4_wordsBefore_23 rfl ?_
        exact j_iret C hrt hE dX4_wordsBefore_24 (⟨by rw [e], rfl⟩)
      · exact absurd (nI_le (by omega) (by omega)) c6 -- stop
    | succ m ih =>
      intro i hi h1
      refine k_iload_n C dX4_wordsBefore_4 rfl ?_
      refine k_iload_n C dX4_wordsBefore_5 rfl ?_
      refine j_icmp_ge C 23 dX4_wordsBefore_6 (by decide) (fun c6 => ?_) (fun c6 => ?_)
      · exact absurd c6 (nI_ge (by omega) (by omega)) -- stop
      · refine k_iload_n C dX4_wordsBefore_9 rfl ?_
        refine k_iload_n C dX4_wordsBefore_10 rfl ?_
        refine k_iload_n C dX4_wordsBefore_11 rfl ?_
        refine k_callS (As := [.int (nI s), .int (nI i)]) C mX4_124 (m_typeAt hw hs (k := i) (by omega)) rfl rfl (Nat.le_of_ble_eq_true rfl) (jroom hR (by first | decide | omega) (by decide)) dX4_wordsBefore_12 ?_
        rintro v9 h9 ⟨rfl, rfl⟩
        refine j_iadd C dX4_wordsBefore_15 ?_
        refine k_istore_n C dX4_wordsBefore_16 (by rw [hnL]; decide) ?_
        refine k_iinc C dX4_wordsBefore_17 rfl rfl (by rw [hnL]; decide) ?_
        refine j_goto C 4 dX4_wordsBefore_20 (by decide) ?_
        rw [nI_add, show nI i + Int32.ofInt 1 = nI (i + 1) from nI_1 i]
        have e : wb s (i + 1) = wb s i + ta s i := by simp only [wb]; rw [if_neg (by omega)]
        rw [← e]
        exact ih (i + 1) (by omega) (by omega)
  refine j_iconst (v := 0) C dX4_wordsBefore_0 (by decide) ?_
  refine k_istore_n C dX4_wordsBefore_1 (by rw [hnL]; decide) ?_
  refine j_iconst (v := 1) C dX4_wordsBefore_2 (by decide) ?_
  refine k_istore_n C dX4_wordsBefore_3 (by rw [hnL]; decide) ?_
  exact loop (max k 1 - 1) 1 (by omega) (Nat.le_refl _)
theorem oI_eq {a b : Nat} (ha : a < 1000) (hb : b < 1000) : oI a = oI b ↔ a = b := by
  unfold oI
  constructor
  · intro q
    have : nI a = nI b := by
      have := congrArg (fun z : Int32 => z + 1) q
      simpa using this
    exact (nI_eq (by omega) (by omega)).mp this
  · intro q; rw [q]
/-- the compiler looks a call's head up -/
theorem lkp_find : ∀ (l : List (Nat × Nat × Nat)) (o m : Nat), (lkp l o m = none ∧ ∀ i (hi : i < l.length), ¬ ((l[i]).1 = o ∧ (l[i]).2.1 = m)) ∨ ∃ i, ∃ hi : i < l.length, ((l[i]).1 = o ∧ (l[i]).2.1 = m) ∧ lkp l o m = some (l[i]).2.2 ∧ ∀ k (hk : k < i), ¬ ((l[k]'(by omega)).1 = o ∧ (l[k]'(by omega)).2.1 = m)
  | [], o, m => Or.inl ⟨rfl, fun i hi => absurd hi (Nat.not_lt_zero _)⟩
  | q :: l, o, m => by
    unfold lkp
    by_cases c : q.1 = o ∧ q.2.1 = m
    · refine Or.inr ⟨0, by simp, by simpa using c, by simp [c], fun k hk => absurd hk (Nat.not_lt_zero _)⟩
    · rw [if_neg c]
      rcases lkp_find l o m with ⟨h1, h2⟩ | ⟨i, hi, h1, h2, h3⟩
      · refine Or.inl ⟨h1, fun i hi => ?_⟩
        cases i with
        | zero => simpa using c
        | succ i => simpa using h2 i (by simpa using hi)
      · refine Or.inr ⟨i + 1, by simpa using hi, by simpa using h1, by simpa using h2, fun k hk => ?_⟩
        cases k with
        | zero => simpa using c
        | succ k => simpa using h3 k (by omega)
theorem t_find (hw : jok w) (hS : cS h0 u t n hs me sg) (hc : cAt h0 h u n a md) {o m : Nat} (ho : o ≤ 6) (hm : m < 26) : jM l w yX3_find cX3_find 4 (some (.object "ModuleLinker$Item")) 0 [.ref (jad w (ub u)), .int (oI o), .int (nI m)] h (fun r h' => h' = h ∧ ((lkp hs o m = none ∧ r = some .null) ∨ ∃ i s, i < 6 ∧ lkp hs o m = some s ∧ s < 256 ∧ h.1 (ub u + 3 + i) 2 = nI s ∧ r = some (.ref (jad w (ub u + 3 + i))))) := by
  obtain ⟨tw, yw, hd, rm, c, F, h1, h2⟩ := cAt_any hc
  obtain ⟨s1, s2, s3, s4, s5, s6, s7, s8, s9, s10⟩ := id hS
  have hb := ub_in s1.1
  have e1 : h.1 (ub u) 1 = nI hs.length := by rw [h2.1.2 (ub u) 1 (by omega) (by omega) (by omega)]; exact s6
  have e2 : ∀ i, i < hs.length → ∀ j, h.1 (ub u + 3 + i) j = h0.1 (ub u + 3 + i) j := fun i hi j => h2.1.2 _ _ (by omega) (by omega) (by omega)
  have e3 : ∀ i (hi : i < hs.length), fitI h u (oI o) (nI m) i ↔ ((hs[i]).1 = o ∧ (hs[i]).2.1 = m) := by
    intro i hi
    obtain ⟨q1, q2, q3, q4, q5, q6⟩ := s8 i hi
    unfold fitI
    rw [e2 i hi, e2 i hi, q1, q2, oI_eq (by omega) (by omega), nI_eq (by omega) (by omega)]
  refine jM_mono (m_find hw (FrUr h2.1 s1) e1 s7 (oI o) (nI m)) ?_
  rintro v h' ⟨rfl, hh⟩
  refine ⟨rfl, ?_⟩
  rcases lkp_find hs o m with ⟨g1, g2⟩ | ⟨i, hi, g1, g2, g3⟩
  · rcases hh with ⟨i, hi, hf, -⟩ | ⟨-, hr⟩
    · exact absurd ((e3 i hi).mp hf) (g2 i hi)
    · exact Or.inl ⟨g1, hr⟩
  · rcases hh with ⟨k, hk, hf, hno, hr⟩ | ⟨hno, hr⟩
    · have hki : k = i := by
        rcases Nat.lt_trichotomy k i with z | z | z
        · exact absurd ((e3 k hk).mp hf) (g3 k z)
        · exact z
        · exact absurd ((e3 i hi).mpr g1) (hno i z)
      subst hki
      obtain ⟨q1, q2, q3, q4, q5, q6⟩ := s8 k hk
      exact Or.inr ⟨k, _, by omega, g2, q6, by rw [e2 k hk, q3], hr⟩
    · exact absurd ((e3 i hi).mpr g1) (hno i hi)
end RD1
end
section
/-! what a reading method of the compiler has done, from place a in mode md, when the text there reads as pr; bs: the number of its first event -/
def cRel (me bs : Nat) (md : cMd) (pr : PR) (a' : Nat) (md' : cMd) (r : Option Value) : Prop := match md, pr with
  | none, _ => md' = none ∧ ∃ x : Int32, r = some (.int x)
  | some _, none => md' = none ∧ ∃ x : Int32, r = some (.int x)
  | some none, some p => a' = p.1 ∧ md' = some none ∧ ∃ x : Int32, r = some (.int x)
  | some (some q), some p => a' = p.1 ∧ match p.2 bs q.2.1 with
    | none => md' = some none ∧ ∃ x : Int32, r = some (.int x)
    | some z => r = some (.int (nI z.1)) ∧ ∃ F' : Nat → Int32, md' = some (some (q.1 + cpos z.2.1, q.2.1, max q.2.2.1 z.2.2, F')) ∧ (∀ p, p < q.1 → F' p = q.2.2.2 p) ∧ ∀ P : Nat → Nat, P bs = q.1 → cmp P bs z.2.1 → Rep F' me P bs z.2.1
/-- the bounds ahead of a reading, and behind it -/
def cBd (a : Nat) (md : cMd) : Prop := ∀ q, md = some (some q) → q.1 ≤ 2 * a ∧ q.2.1 ≤ 2 * a ∧ q.2.2.1 ≤ 2 * a
def cBe (a : Nat) (md : cMd) : Prop := ∀ q, md = some (some q) → q.1 + 1 ≤ 2 * a ∧ q.2.1 + 2 ≤ 2 * a ∧ q.2.2.1 ≤ 2 * a
section REL
variable {l : Launch} {w : jW} {h0 h : jH} {u : Nat} {t : Nat → Nat} {n : Nat} {hs : List (Nat × Nat × Nat)} {me sg bs : Nat} {a a' : Nat} {md md' : cMd} {r : Option Value}
theorem cRel_int {pr : PR} (h : cRel me bs md pr a' md' r) : ∃ x : Int32, r = some (.int x) := by
  unfold cRel at h
  split at h
  · exact h.2
  · exact h.2
  · exact h.2.2
  · split at h
    · exact h.2.2
    · exact ⟨_, h.2.1⟩
theorem cRel_bd {sub : Nat → PR} (hp : pgr n sub) (hz : szs sub) (hb : cBd a md) (h : cRel me bs md (sub a) a' md' r) : cBe a' md' := by
  intro q' hq'
  subst hq'
  unfold cRel at h
  split at h
  · cases h.1
  · cases h.1
  · cases h.2.1
  · next q p e =>
    obtain ⟨a1, f⟩ := p
    obtain ⟨rfl, h⟩ := h
    split at h
    · cases h.1
    · next z ez =>
      obtain ⟨y, ev, m⟩ := z
      obtain ⟨-, F', e1, -⟩ := h
      have h1 := hp _ _ _ e
      obtain ⟨-, h2, -, h3⟩ := hz _ _ _ e _ _ _ _ _ ez
      have h4 := hb q rfl
      simp only [Option.some.injEq] at e1
      subst e1
      dsimp only at h1 h2 h3 ⊢
      omega
theorem oNd_ok {x y : Int32} {q : Nat × Nat × Nat × (Nat → Int32)} (h : oNd x y md = some (some q)) : x = y ∧ md = some (some q) := by
  unfold oNd at h
  split at h
  · cases h
  · split at h
    · next e => exact ⟨e, h⟩
    · cases h
theorem oHo_ok {k : Nat} {q : Nat × Nat × Nat × (Nat → Int32)} (h : oHo k md = some (some q)) : ∃ p, md = some (some p) ∧ q = (emC p.1, p.2.1 + k, max p.2.2.1 (p.2.1 + k), emF p.1 p.2.2.2 (if k = 2 then 4 else 3) 0) := by
  unfold oHo at h
  split at h
  · next p => exact ⟨p, rfl, by simpa using h.symm⟩
  · next m hn => exact absurd h (hn q)
theorem oEm_ok {x y : Int32} {q : Nat × Nat × Nat × (Nat → Int32)} (h : oEm x y md = some (some q)) : ∃ p, md = some (some p) ∧ q = (emC p.1, p.2.1, p.2.2.1, emF p.1 p.2.2.2 x y) := by
  unfold oEm at h
  split at h
  · next p => exact ⟨p, rfl, by simpa using h.symm⟩
  · next m hn => exact absurd h (hn q)
theorem oRl_ok {k : Nat} {q : Nat × Nat × Nat × (Nat → Int32)} (h : oRl k md = some (some q)) : ∃ p, md = some (some p) ∧ q = (p.1, p.2.1 - k, p.2.2.1, p.2.2.2) := by
  unfold oRl at h
  split at h
  · next p => exact ⟨p, rfl, by simpa using h.symm⟩
  · next m hn => exact absurd h (hn q)
theorem oLa_ok {j : Nat} {q : Nat × Nat × Nat × (Nat → Int32)} (h : oLa j md = some (some q)) : ∃ p, md = some (some p) ∧ q = (p.1, p.2.1, p.2.2.1, if j < 240 then va_up p.2.2.2 j (p.2.2.2 j ||| nI p.1 <<< ((4 : Int32) &&& 31)) else p.2.2.2) := by
  unfold oLa at h
  split at h
  · next p => exact ⟨p, rfl, by simpa using h.symm⟩
  · next m hn => exact absurd h (hn q)
theorem oAt_ok {b : Bool} {q : Nat × Nat × Nat × (Nat → Int32)} (h : (oAt b n a a' md).2 = some (some q)) : b = true ∧ md = some (some q) := by
  unfold oAt at h
  split at h
  · next e => exact ⟨e, h⟩
  · cases h
theorem nx_or (a b : Nat) : nI a ||| nI b = nI (a ||| b) := by
  apply Int32.toBitVec_inj.1
  show BitVec.ofNat 32 a ||| BitVec.ofNat 32 b = BitVec.ofNat 32 (a ||| b)
  apply BitVec.eq_of_getLsbD_eq
  intro i hi
  simp [hi]
theorem emv {k o : Nat} (hk : k < 16) (ho : o < 2 ^ 20) : nI k ||| nI o <<< ((4 : Int32) &&& 31) = nI (k + 16 * o) := by
  rw [pk_shlN _ 4 (by decide) (by omega), nx_or]
  have := Nat.two_pow_add_eq_or_of_lt (i := 4) (b := k) (by omega) o
  rw [show o * 2 ^ 4 = 2 ^ 4 * o by omega, Nat.or_comm, ← this]
  congr 1
  omega
theorem emF_low {c p : Nat} {F : Nat → Int32} {x y : Int32} (h : p < c) : emF c F x y p = F p := by
  unfold emF
  split
  · simp [va_up, Nat.ne_of_lt h]
  · rfl
theorem emF_at {c k o : Nat} {F : Nat → Int32} (hc : c < 240) (hk : k < 16) (ho : o < 2 ^ 20) : emF c F (nI k) (nI o) c = nI (k + 16 * o) := by
  unfold emF
  rw [if_pos hc]
  simp only [va_up, if_true]
  exact emv hk ho
theorem rep_emit {c k o : Nat} {F : Nat → Int32} {P : Nat → Nat} {e : Ev} (hc : c < 240) (hk : k < 16) (ho : o < 2 ^ 20) (hP : P bs = c) (he : enc me P e = k + 16 * o) : Rep (emF c F (nI k) (nI o)) me P bs [e] := ⟨fun _ => by rw [hP, emF_at hc hk ho, he], trivial⟩
theorem emC_lt {c : Nat} (h : c < 240) : emC c = c + 1 := by unfold emC; rw [if_pos h]
theorem nmb_v : ∀ (f a v B : Nat), v < B → (nmb t n f a v).2 < B * 10 ^ f
  | 0, a, v, B, h => by simp [nmb]; exact h
  | f + 1, a, v, B, h => by
    unfold nmb
    split
    · next c =>
      have := nmb_v f (a + 1) (10 * v + (pek t n a - 48)) (B * 10) (by omega)
      rw [Nat.pow_succ, Nat.mul_comm (10 ^ f) 10, ← Nat.mul_assoc]
      exact this
    · have : 1 ≤ 10 ^ (f + 1) := Nat.one_le_pow _ _ (by decide)
      calc v < B := h
        _ = B * 1 := by omega
        _ ≤ B * 10 ^ (f + 1) := Nat.mul_le_mul_left _ this
theorem nmbRel {b v : Nat} (hn : n ≤ 120) (hb : cBd a md) (hd9 : 48 ≤ pek t n a ∧ pek t n a ≤ 57) (hv : v < 10000) (e : nmb t n 4 a 0 = (b, v)) : cRel me bs md (pNum t n a) b (oEm (nI 0) (nI v) md) (some (.int 1)) := by
  have hlt := pek_gt (c := 0) (t := t) (n := n) (a := a) (by omega)
  have e1 : (nmb t n 4 a 0).1 = b := by rw [e]
  have e2 : (nmb t n 4 a 0).2 = v := by rw [e]
  unfold pNum
  rcases md with _ | _ | q
  · exact ⟨rfl, _, rfl⟩
  · exact ⟨e1.symm, rfl, _, rfl⟩
  · have h4 := hb q rfl
    refine ⟨e1.symm, rfl, emF q.1 q.2.2.2 (nI 0) (nI v), ?_, fun p hp => emF_low hp, fun P hP hcm => ?_⟩
    · simp only [oEm, cpos, kcl]
      rw [emC_lt (by omega)]
      simp
    · refine rep_emit (by omega) (by omega) (by omega) hP ?_
      show 16 * (nmb t n 4 a 0).2 = _
      rw [e2]; omega
theorem c_readNumber (hw : jok w) (hS : cS h0 u t n hs me sg) (hc : cAt h0 h u n a md) (hb : cBd a md) (hd9 : 48 ≤ pek t n a ∧ pek t n a ≤ 57) : jM l w yX0_readNumber cX0_readNumber 3 (some .int) 2 [.ref (jad w 13)] h (fun r h' => ∃ a' md', cAt h0 h' u n a' md' ∧ cRel me bs md (pNum t n a) a' md' r) := by
  refine jM_of (by decide) hw (Nat.le_of_ble_eq_true rfl) ?_
  intro X C hl hR hnL hrt hE
  subst hl
  have C : jC X w cX0_readNumber RX0 := C
  obtain ⟨k3, k4, k5, k6, k7⟩ := jk_unit u hS.u7
  have hn := cS_n hS
  have hv9 := nmb_v (t := t) (n := n) 4 a 0 1 (by decide)
  show J X w h 0 [(0, .ref (jad w 13))] []
  have fin : ∀ (h : jH) (i b v : Nat), cAt h0 h u n b md → nmb t n 4 a 0 = (b, v) → J X w h 43 [(0, .ref (jad w 13)), (1, .int (nI v)), (2, .int (nI i))] [] := by
    intro h i b v hc e
    have hv : v < 10000 := by rw [e] at hv9; simpa using hv9
    obtain ⟨_, _, _, _, _, _, _, h2⟩ := cAt_any hc
    refine k_aload_n C dX0_readNumber_43 rfl ?_
    refine j_getr C fX0_22 rfl (by first | decide | omega) (by first | assumption | rfl) (by rw [h2.1.1]; exact hS.2.1) dX0_readNumber_44 ?_
    refine j_iconst (v := 0) C dX0_readNumber_47 (by decide) ?_
    refine k_iload_n C dX0_readNumber_48 rfl ?_
    refine k_callV (k := ub u) (ci := 3) (As := [.int (nI 0), .int (nI v)]) C mX0_131 (t_emit hw hS hc (nI 0) (nI v)) jCl3.1 (by first | decide | omega) (by first | assumption | rfl) rfl rfl (Nat.le_of_ble_eq_true rfl) (jroom hR (by first | decide | omega) (by decide)) dX0_readNumber_49 ?_
    rintro v9 h9 ⟨⟨c9, -, rfl, -⟩, hc⟩
    refine j_pop C dX0_readNumber_52 rfl ?_
    refine j_iconst (v := 1) C dX0_readNumber_53 (by decide) ?_
    exact j_iret C hrt hE dX0_readNumber_54 (⟨b, _, hc, nmbRel hn hb hd9 hv e⟩)
  have loop : ∀ (m i b v : Nat) (h : jH), i + m = 4 → cAt h0 h u n b md → nmb t n 4 a 0 = nmb t n m b v → v < 10 ^ i → J X w h 4 [(0, .ref (jad w 13)), (1, .int (nI v)), (2, .int (nI i))] [] := by
    intro m
    induction m with
    | zero =>
      intro i b v h hi hc e hv
      refine k_iload_n C dX0_readNumber_4 rfl ?_
      refine j_iconst (v := 4) C dX0_readNumber_5 (by decide) ?_
      refine j_icmp_ge C 43 dX0_readNumber_6 (by decide) (fun c6 => ?_) (fun c6 => ?_)
      · exact fin h i b v hc (by rw [e]; rfl)
      · exact absurd (nI_le (a := 4) (b := i) (by omega) (by omega)) c6 -- stop
    | succ m ih =>
      intro i b v h hi hc e hv
      obtain ⟨_, _, _, _, _, _, _, h2⟩ := cAt_any hc
      have hpk := pek_lt (FrTx h2.1 hS.u7 hS.2.2.1) b
      refine k_iload_n C dX0_readNumber_4 rfl ?_
      refine j_iconst (v := 4) C dX0_readNumber_5 (by decide) ?_
      refine j_icmp_ge C 43 dX0_readNumber_6 (by decide) (fun c6 => ?_) (fun c6 => ?_)
      · exact absurd c6 (nI_ge (a := i) (b := 4) (by omega) (by omega)) -- stop
      · refine k_aload_n C dX0_readNumber_9 rfl ?_
        refine k_callV (k := 13) (ci := 0) (As := []) C mX0_64 (t_peek hw hS hc) jCl0.1 (by first | decide | omega) (by first | assumption | rfl) rfl rfl (Nat.le_of_ble_eq_true rfl) (jroom hR (by first | decide | omega) (by decide)) dX0_readNumber_10 ?_
        rintro v9 h9 ⟨rfl, rfl⟩
        refine j_bipush (v := 48) C dX0_readNumber_13 (by decide) ?_
        refine j_bipush (v := 57) C dX0_readNumber_15 (by decide) ?_
        refine k_callS (As := [.int (nI (pek t n b)), .int (nI 48), .int (nI 57)]) C mX0_151 (m_isIn hw (x := pek t n b) (y := 48) (z := 57) (by omega) (by omega) (by omega)) rfl rfl (Nat.le_of_ble_eq_true rfl) (jroom hR (by first | decide | omega) (by decide)) dX0_readNumber_17 ?_
        rintro v9 h9 ⟨rfl, rfl⟩
        refine j_if_eq C 43 dX0_readNumber_20 (by decide) (fun c20 => ?_) (fun c20 => ?_)
        · rw [i1z] at c20
          exact fin _ i b v hc (by rw [e]; unfold nmb; rw [if_neg c20])
        · rw [i1z, Classical.not_not] at c20
          refine j_bipush (v := 10) C dX0_readNumber_23 (by decide) ?_
          refine k_iload_n C dX0_readNumber_25 rfl ?_
          refine j_imul C dX0_readNumber_26 ?_
          refine k_aload_n C dX0_readNumber_27 rfl ?_
          refine j_bipush (v := 48) C dX0_readNumber_28 (by decide) ?_
          refine j_bipush (v := 57) C dX0_readNumber_30 (by decide) ?_
          refine k_callV (k := 13) (ci := 0) (As := [.int (nI 48), .int (nI 57)]) C mX0_57 (t_readAmong hw hS hc (lo := 48) (hi := 57) (by omega) (by omega) (by omega)) jCl0.1 (by first | decide | omega) (by first | assumption | rfl) rfl rfl (Nat.le_of_ble_eq_true rfl) (jroom hR (by first | decide | omega) (by decide)) dX0_readNumber_32 ?_
          rintro v9 h9 ⟨rfl, hc⟩
          simp only [oAt, c20, and_self, decide_true, if_true] at hc
          refine j_iadd C dX0_readNumber_35 ?_
          refine k_istore_n C dX0_readNumber_36 (by rw [hnL]; decide) ?_
          refine k_iinc C dX0_readNumber_37 rfl rfl (by rw [hnL]; decide) ?_
          refine j_goto C 4 dX0_readNumber_40 (by decide) ?_
          rw [if_pos c20, show (10 : Int32) = nI 10 from rfl, pk_mul, nI_add, show nI i + Int32.ofInt 1 = nI (i + 1) from nI_1 i]
          have e2 : nmb t n 4 a 0 = nmb t n m (b + 1) (10 * v + (pek t n b - 48)) := by rw [e]; conv => lhs; unfold nmb; rw [if_pos c20]
          refine ih (i + 1) (b + 1) (10 * v + (pek t n b - 48)) _ (by omega) hc e2 ?_
          rw [Nat.pow_succ]; omega
  refine j_iconst (v := 0) C dX0_readNumber_0 (by decide) ?_
  refine k_istore_n C dX0_readNumber_1 (by rw [hnL]; decide) ?_
  refine j_iconst (v := 0) C dX0_readNumber_2 (by decide) ?_
  refine k_istore_n C dX0_readNumber_3 (by rw [hnL]; decide) ?_
  exact loop 4 0 a 0 h (by omega) hc rfl (by omega)
end REL
end
section
def oBad (md : cMd) : cMd := match md with
  | none => none
  | some _ => some none
section RD2
variable {l : Launch} {w : jW} {h0 h : jH} {u : Nat} {t : Nat → Nat} {n : Nat} {hs : List (Nat × Nat × Nat)} {me sg bs : Nat} {a a' : Nat} {md md' : cMd} {r : Option Value}
theorem cAt_sg (hS : cS h0 u t n hs me sg) (hc : cAt h0 h u n a md) : h.1 13 6 = nI sg := by
  obtain ⟨_, _, _, _, _, _, _, h2⟩ := cAt_any hc
  have := ub_in hS.u7
  rw [h2.1.2 13 6 (by omega) (by omega) (by omega)]
  exact hS.2.2.2.2.2.2.2.2.1
theorem cAt_un (hS : cS h0 u t n hs me sg) (hc : cAt h0 h u n a md) : h.2.1 13 3 = some (ub u) := by
  obtain ⟨_, _, _, _, _, _, _, h2⟩ := cAt_any hc
  rw [h2.1.1]; exact hS.2.1
theorem cAt_me (hS : cS h0 u t n hs me sg) (hc : cAt h0 h u n a md) : h.1 (ub u) 0 = nI me := by
  obtain ⟨_, _, _, _, _, _, _, h2⟩ := cAt_any hc
  have := ub_in hS.u7
  rw [h2.1.2 (ub u) 0 (by omega) (by omega) (by omega)]
  exact hS.2.2.2.1
theorem cAt_at (hc : cAt h0 h u n a md) : h.1 13 2 = nI a := by
  obtain ⟨_, _, _, _, _, _, _, h2⟩ := cAt_any hc
  exact h2.2.1
theorem cAt_bad (hS : cS h0 u t n hs me sg) (hc : cAt h0 h u n a md) : cAt h0 (up2 h.1 13 5 1, h.2) u n a (oBad md) := by
  obtain ⟨ha, hm⟩ := hc
  refine ⟨ha, ?_⟩
  rcases md with _ | _ | q
  · obtain ⟨e, yw, hd, rm, c, F, h1, h2⟩ := hm
    exact ⟨e, 1, hd, rm, c, F, h1, cst_yw hS.u7 h2 1⟩
  · obtain ⟨hd, rm, c, F, h1, h2⟩ := hm
    exact ⟨hd, rm, c, F, h1, cst_yw hS.u7 h2 1⟩
  · exact ⟨_, _, _, _, hm.1, cst_yw hS.u7 hm.2 1⟩
theorem cS_sg (hS : cS h0 u t n hs me sg) : sg < 256 := hS.2.2.2.2.2.2.2.2.2
theorem wb_le (s : Nat) : ∀ k, wb s k ≤ 3 * k
  | 0 => by simp [wb]
  | k + 1 => by
    have := wb_le s k
    have := ta_le s k
    simp only [wb]
    split <;> omega
theorem parRel {k : Nat} (hn : n ≤ 120) (hsg3 : ∀ k, ta sg k ≠ 3) (hb : cBd a md) (hp : pek t n a = 36) (hk : k = 1 + (if 49 ≤ pek t n (a + 1) ∧ pek t n (a + 1) ≤ 51 then pek t n (a + 1) - 49 else 0)) :
    (ta sg k = 0 → cRel me bs md (pPar t n sg a) (oAt (decide (49 ≤ pek t n (a + 1) ∧ pek t n (a + 1) ≤ 51)) n (a + 1) (a + 1 + 1) md).1 (oBad (oAt (decide (49 ≤ pek t n (a + 1) ∧ pek t n (a + 1) ≤ 51)) n (a + 1) (a + 1 + 1) md).2) (some (.int 1))) ∧
    (ta sg k ≠ 0 → cRel me bs md (pPar t n sg a) (oAt (decide (49 ≤ pek t n (a + 1) ∧ pek t n (a + 1) ≤ 51)) n (a + 1) (a + 1 + 1) md).1 (oEm (nI (ta sg k)) (nI (wb sg k)) (oAt (decide (49 ≤ pek t n (a + 1) ∧ pek t n (a + 1) ≤ 51)) n (a + 1) (a + 1 + 1) md).2) (some (.int (nI (ta sg k))))) := by
  have hlt := pek_in hp (by decide)
  unfold pPar
  by_cases q : 49 ≤ pek t n (a + 1) ∧ pek t n (a + 1) ≤ 51
  · rw [if_pos q] at hk
    have hk' : pek t n (a + 1) - 48 = k := by omega
    rw [if_pos q]
    simp only [oAt, q, and_self, decide_true, if_true, hk']
    have h3 := ta_le sg k
    have h4 := hsg3 k
    have h5 := wb_le sg k
    constructor
    · intro z
      rcases md with _ | _ | p
      · exact ⟨rfl, _, rfl⟩
      · exact ⟨rfl, rfl, _, rfl⟩
      · refine ⟨rfl, ?_⟩
        simp only [z, if_true]
        exact ⟨rfl, _, rfl⟩
    · intro z
      rcases md with _ | _ | p
      · exact ⟨rfl, _, rfl⟩
      · exact ⟨rfl, rfl, _, rfl⟩
      · have h6 := hb p rfl
        refine ⟨rfl, ?_⟩
        simp only [z, if_false]
        refine ⟨trivial, emF p.1 p.2.2.2 (nI (ta sg k)) (nI (wb sg k)), ?_, fun x hx => emF_low hx, fun P hP hcm => ?_⟩
        · simp only [oEm, cpos, kcl]
          rw [emC_lt (by omega), if_neg (by omega)]
          simp
        · refine rep_emit (by omega) (by omega) (by omega) hP ?_
          rcases (show ta sg k = 1 ∨ ta sg k = 2 by omega) with e | e <;> simp only [enc, e]
  · rw [if_neg q]
    have e : decide (49 ≤ pek t n (a + 1) ∧ pek t n (a + 1) ≤ 51) = false := by simp only [q, decide_false]
    simp only [oAt, e]
    constructor
    · intro z
      rcases md with _ | p
      · exact ⟨rfl, _, rfl⟩
      · exact ⟨rfl, _, rfl⟩
    · intro z
      rcases md with _ | p
      · exact ⟨rfl, _, rfl⟩
      · exact ⟨rfl, _, rfl⟩
theorem c_readParameter (hw : jok w) (hS : cS h0 u t n hs me sg) (hsg3 : ∀ k, ta sg k ≠ 3) (hc : cAt h0 h u n a md) (hb : cBd a md) (hp : pek t n a = 36) : jM l w yX0_readParameter cX0_readParameter 3 (some .int) 3 [.ref (jad w 13)] h (fun r h' => ∃ a' md', cAt h0 h' u n a' md' ∧ cRel me bs md (pPar t n sg a) a' md' r) := by
  refine jM_of (by decide) hw (Nat.le_of_ble_eq_true rfl) ?_
  intro X C hl hR hnL hrt hE
  subst hl
  have C : jC X w cX0_readParameter RX0 := C
  obtain ⟨k3, k4, k5, k6, k7⟩ := jk_unit u hS.u7
  have hn := cS_n hS
  have hsg := cS_sg hS
  obtain ⟨k, hk⟩ : ∃ k, k = 1 + (if 49 ≤ pek t n (a + 1) ∧ pek t n (a + 1) ≤ 51 then pek t n (a + 1) - 49 else 0) := ⟨_, rfl⟩
  have hk9 : k < 100 := by rw [hk]; split <;> omega
  obtain ⟨R1, R2⟩ := parRel (me := me) (bs := bs) hn hsg3 hb hp hk
  have h3 := ta_le sg k
  have h4 := hsg3 k
  show J X w h 0 [(0, .ref (jad w 13))] []
  refine k_aload_n C dX0_readParameter_0 rfl ?_
  refine j_bipush (v := 36) C dX0_readParameter_1 (by decide) ?_
  refine k_callV (k := 13) (ci := 0) (As := [.int (nI 36)]) C mX0_68 (t_take hw hS hc (ch := 36) (by decide) (by decide)) jCl0.1 (by first | decide | omega) (by first | assumption | rfl) rfl rfl (Nat.le_of_ble_eq_true rfl) (jroom hR (by first | decide | omega) (by decide)) dX0_readParameter_3 ?_
  rintro v9 h9 ⟨rfl, hc⟩
  simp only [oAt, hp, beq_self_eq_true, if_true] at hc
  refine j_iconst (v := 1) C dX0_readParameter_6 (by decide) ?_
  refine k_aload_n C dX0_readParameter_7 rfl ?_
  refine j_bipush (v := 49) C dX0_readParameter_8 (by decide) ?_
  refine j_bipush (v := 51) C dX0_readParameter_10 (by decide) ?_
  refine k_callV (k := 13) (ci := 0) (As := [.int (nI 49), .int (nI 51)]) C mX0_57 (t_readAmong hw hS hc (lo := 49) (hi := 51) (by omega) (by omega) (by omega)) jCl0.1 (by first | decide | omega) (by first | assumption | rfl) rfl rfl (Nat.le_of_ble_eq_true rfl) (jroom hR (by first | decide | omega) (by decide)) dX0_readParameter_12 ?_
  rintro v9 h9 ⟨rfl, hc⟩
  refine j_iadd C dX0_readParameter_15 ?_
  rw [show (1 : Int32) = nI 1 from rfl, nI_add, ← hk]
  refine k_istore_n C dX0_readParameter_16 (by rw [hnL]; decide) ?_
  refine k_aload_n C dX0_readParameter_17 rfl ?_
  refine j_geti C fX0_113 rfl (by first | decide | omega) (by first | assumption | rfl) dX0_readParameter_18 ?_
  rw [cAt_sg hS hc]
  refine k_iload_n C dX0_readParameter_21 rfl ?_
  refine k_callS (As := [.int (nI sg), .int (nI k)]) C mX0_120 (m_typeAt hw hsg (k := k) (by omega)) rfl rfl (Nat.le_of_ble_eq_true rfl) (jroom hR (by first | decide | omega) (by decide)) dX0_readParameter_22 ?_
  rintro v9 h9 ⟨rfl, rfl⟩
  refine k_istore_n C dX0_readParameter_25 (by rw [hnL]; decide) ?_
  refine k_iload_n C dX0_readParameter_26 rfl ?_
  refine j_if_ne C 37 dX0_readParameter_27 (by decide) (fun c27 => ?_) (fun c27 => ?_)
  · replace c27 : ta sg k ≠ 0 := fun z => c27 (by rw [z]; rfl)
    refine k_aload_n C dX0_readParameter_37 rfl ?_
    refine j_getr C fX0_22 rfl (by first | decide | omega) (by first | assumption | rfl) (cAt_un hS hc) dX0_readParameter_38 ?_
    refine k_iload_n C dX0_readParameter_41 rfl ?_
    refine j_iconst (v := 2) C dX0_readParameter_42 (by decide) ?_
    refine j_icmp_ne C 50 dX0_readParameter_43 (by decide) (fun c43 => ?_) (fun c43 => ?_)
    · replace c43 : ¬ ta sg k = 2 := fun z => c43 (by rw [z]; rfl)
      refine j_iconst (v := 1) C dX0_readParameter_50 (by decide) ?_
      refine k_aload_n C dX0_readParameter_51 rfl ?_
      refine j_geti C fX0_113 rfl (by decide) rfl dX0_readParameter_52 ?_
      rw [cAt_sg hS hc]
      refine k_iload_n C dX0_readParameter_55 rfl ?_
      refine k_callS (As := [.int (nI sg), .int (nI k)]) C mX0_97 (m_wordsBefore hw hsg (k := k) (by omega)) rfl rfl (Nat.le_of_ble_eq_true rfl) (jroom hR (by first | decide | omega) (by decide)) dX0_readParameter_56 ?_
      rintro v9 h9 ⟨rfl, rfl⟩
      refine k_callV (k := ub u) (ci := 3) (As := [.int (nI (ta sg k)), .int (nI (wb sg k))]) C mX0_131 (t_emit hw hS hc (nI (ta sg k)) (nI (wb sg k))) jCl3.1 (by omega) k3 (by first | (rw [show ta sg k = 2 from c43]; rfl) | (rw [show ta sg k = 1 by omega]; rfl)) rfl (Nat.le_of_ble_eq_true rfl) (jroom hR (by decide) (by decide)) dX0_readParameter_59 ?_
      rintro v9 h9 ⟨⟨c9, -, rfl, -⟩, hc⟩
      refine j_pop C dX0_readParameter_62 rfl ?_
      refine k_iload_n C dX0_readParameter_63 rfl ?_
      exact j_iret C hrt hE dX0_readParameter_64 (⟨_, _, hc, R2 c27⟩)
    · replace c43 : ta sg k = 2 := (nI_eq (a := ta sg k) (b := 2) (by omega) (by omega)).mp c43
      refine j_iconst (v := 2) C dX0_readParameter_46 (by decide) ?_
      refine j_goto C 51 dX0_readParameter_47 (by decide) ?_
      refine k_aload_n C dX0_readParameter_51 rfl ?_
      refine j_geti C fX0_113 rfl (by decide) rfl dX0_readParameter_52 ?_
      rw [cAt_sg hS hc]
      refine k_iload_n C dX0_readParameter_55 rfl ?_
      refine k_callS (As := [.int (nI sg), .int (nI k)]) C mX0_97 (m_wordsBefore hw hsg (k := k) (by omega)) rfl rfl (Nat.le_of_ble_eq_true rfl) (jroom hR (by first | decide | omega) (by decide)) dX0_readParameter_56 ?_
      rintro v9 h9 ⟨rfl, rfl⟩
      refine k_callV (k := ub u) (ci := 3) (As := [.int (nI (ta sg k)), .int (nI (wb sg k))]) C mX0_131 (t_emit hw hS hc (nI (ta sg k)) (nI (wb sg k))) jCl3.1 (by omega) k3 (by first | (rw [show ta sg k = 2 from c43]; rfl) | (rw [show ta sg k = 1 by omega]; rfl)) rfl (Nat.le_of_ble_eq_true rfl) (jroom hR (by decide) (by decide)) dX0_readParameter_59 ?_
      rintro v9 h9 ⟨⟨c9, -, rfl, -⟩, hc⟩
      refine j_pop C dX0_readParameter_62 rfl ?_
      refine k_iload_n C dX0_readParameter_63 rfl ?_
      exact j_iret C hrt hE dX0_readParameter_64 (⟨_, _, hc, R2 c27⟩)
  · replace c27 : ta sg k = 0 := (nI_eq (a := ta sg k) (b := 0) (by omega) (by omega)).mp c27
    refine k_aload_n C dX0_readParameter_30 rfl ?_
    refine j_iconst (v := 1) C dX0_readParameter_31 (by decide) ?_
    refine j_putz C fX0_38 rfl rfl (by first | decide | assumption) (by first | decide | omega) (by first | assumption | rfl) dX0_readParameter_32 ?_
    refine j_iconst (v := 1) C dX0_readParameter_35 (by decide) ?_
    exact j_iret C hrt hE dX0_readParameter_36 ⟨_, _, cAt_bad hS hc, R1 c27⟩
end RD2
end
section
section RD3
variable {l : Launch} {w : jW} {h0 h : jH} {u : Nat} {t : Nat → Nat} {n : Nat} {hs : List (Nat × Nat × Nat)} {me sg bs : Nat} {a a' : Nat} {md md' : cMd} {r : Option Value}
/-- the three ways in which a reading ends -/
theorem cRel_cases {pr : PR} (hm : md ≠ none) (h : cRel me bs md pr a' md' r) :
    (pr = none ∧ md' = none) ∨ (∃ f, pr = some (a', f) ∧ md' = some none ∧ ∀ q, md = some (some q) → f bs q.2.1 = none) ∨
    ∃ f q y e m F', pr = some (a', f) ∧ md = some (some q) ∧ f bs q.2.1 = some (y, e, m) ∧ r = some (.int (nI y)) ∧ md' = some (some (q.1 + cpos e, q.2.1, max q.2.2.1 m, F')) ∧ (∀ p, p < q.1 → F' p = q.2.2.2 p) ∧ ∀ P : Nat → Nat, P bs = q.1 → cmp P bs e → Rep F' me P bs e := by
  unfold cRel at h
  split at h
  · exact absurd rfl hm
  · exact Or.inl ⟨rfl, h.1⟩
  · next p => exact Or.inr (Or.inl ⟨p.2, by rw [h.1], h.2.1, fun q e => by cases e⟩)
  · next q p =>
    obtain ⟨rfl, h⟩ := h
    split at h
    · next e => exact Or.inr (Or.inl ⟨p.2, rfl, h.1, fun q' e' => by cases e'; exact e⟩)
    · next z e =>
      obtain ⟨e1, F', e2, e3, e4⟩ := h
      exact Or.inr (Or.inr ⟨p.2, q, z.1, z.2.1, z.2.2, F', rfl, rfl, e, e1, e2, e3, e4⟩)
theorem cRel_f {x : Int32} {pr : PR} (hm : md' = none) (hp : md ≠ none → pr = none) : cRel me bs md pr a' md' (some (.int x)) := by
  rcases md with _ | q
  · exact ⟨hm, _, rfl⟩
  · rw [hp (by simp)]; exact ⟨hm, _, rfl⟩
theorem cRel_b {x : Int32} {f : Nat → Nat → TI} (hm : md ≠ none) (hm' : md' = some none) (h : ∀ q, md = some (some q) → f bs q.2.1 = none) : cRel me bs md (some (a', f)) a' md' (some (.int x)) := by
  rcases md with _ | _ | q
  · exact absurd rfl hm
  · exact ⟨rfl, hm', _, rfl⟩
  · refine ⟨rfl, ?_⟩
    rw [show (a', f).2 bs q.2.1 = none from h q rfl]
    exact ⟨hm', _, rfl⟩
theorem cRel_o {f : Nat → Nat → TI} {q : Nat × Nat × Nat × (Nat → Int32)} {y m : Nat} {e : List Ev} {F' : Nat → Int32} (hq : md = some (some q)) (hf : f bs q.2.1 = some (y, e, m)) (hm' : md' = some (some (q.1 + cpos e, q.2.1, max q.2.2.1 m, F'))) (hk : ∀ p, p < q.1 → F' p = q.2.2.2 p) (hR : ∀ P : Nat → Nat, P bs = q.1 → cmp P bs e → Rep F' me P bs e) : cRel me bs md (some (a', f)) a' md' (some (.int (nI y))) := by
  subst hq
  refine ⟨rfl, ?_⟩
  rw [show (a', f).2 bs q.2.1 = some (y, e, m) from hf]
  exact ⟨rfl, F', hm', hk, hR⟩
theorem oAt_none {b : Bool} {a a' : Nat} : (oAt b n a a' none).2 = none := by unfold oAt; split <;> rfl
theorem oAt_t {b : Bool} {a a' : Nat} (h : b = true) : oAt b n a a' md = (a', md) := by subst h; rfl
theorem oAt_f {b : Bool} {a a' : Nat} (h : b = false) : oAt b n a a' md = (n, none) := by subst h; rfl
theorem grpRel {sub : Nat → PR} {a1 : Nat} {md1 : cMd} {x : Int32} (hm : md ≠ none) (h : cRel me bs md (sub (a + 1)) a1 md1 (some (.int x))) : cRel me bs md (pGrp t n sub a) (oAt (pek t n a1 == 41) n a1 (a1 + 1) md1).1 (oAt (pek t n a1 == 41) n a1 (a1 + 1) md1).2 (some (.int x)) := by
  unfold pGrp
  rcases cRel_cases hm h with ⟨e1, rfl⟩ | ⟨f, e1, rfl, e2⟩ | ⟨f, q, y, e, m, F', e1, rfl, e3, e4, rfl, e6, e7⟩
  · rw [e1]; exact cRel_f oAt_none (fun _ => rfl)
  · rw [e1]
    by_cases c : pek t n a1 = 41
    · simp only [c, if_true, oAt_t (show (41 == 41) = true from rfl)]
      exact cRel_b hm rfl e2
    · simp only [c, if_false, oAt_f (show (pek t n a1 == 41) = false by simp [c])]
      exact cRel_f rfl (fun _ => rfl)
  · rw [e1]
    by_cases c : pek t n a1 = 41
    · simp only [c, if_true, oAt_t (show (41 == 41) = true from rfl)]
      rw [e4]
      exact cRel_o rfl e3 rfl e6 e7
    · simp only [c, if_false, oAt_f (show (pek t n a1 == 41) = false by simp [c])]
      exact cRel_f rfl (fun _ => rfl)
end RD3
/-- the contract of readExpression at depth dp: the text reads as sub -/
def cSub (l : Launch) (w : jW) (h0 : jH) (u n me : Nat) (dp d : Nat) (sub : Nat → PR) : Prop := pgr n sub ∧ szs sub ∧ ∀ (h : jH) (a bs : Nat) (md : cMd), cAt h0 h u n a md → cBd a md → jM l w yX0_readExpression cX0_readExpression 5 (some .int) d [.ref (jad w 13), .int (nI dp)] h (fun r h' => ∃ a' md', cAt h0 h' u n a' md' ∧ cRel me bs md (sub a) a' md' r)
section RD4
variable {l : Launch} {w : jW} {h0 h : jH} {u : Nat} {t : Nat → Nat} {n : Nat} {hs : List (Nat × Nat × Nat)} {me sg bs : Nat} {a a' : Nat} {md md' : cMd} {r : Option Value} {dp d : Nat} {sub : Nat → PR}
theorem cAt_ne {c : Nat} (hc : cAt h0 h u n a md) (hp : pek t n a = c) (h0c : c ≠ 0) : md ≠ none := by
  intro e; subst e
  have := pek_in hp h0c
  have := hc.2.1
  omega
theorem c_readGroup (hw : jok w) (hS : cS h0 u t n hs me sg) (hd : 2 ≤ d) (hE' : cSub l w h0 u n me dp d sub) (hc : cAt h0 h u n a md) (hb : cBd a md) (hp : pek t n a = 40) : jM l w yX0_readGroup cX0_readGroup 3 (some .int) (d + 1) [.ref (jad w 13), .int (nI dp)] h (fun r h' => ∃ a' md', cAt h0 h' u n a' md' ∧ cRel me bs md (pGrp t n sub a) a' md' r) := by
  refine jM_of (by decide) hw (Nat.le_of_ble_eq_true rfl) ?_
  intro X C hl hR hnL hrt hE
  subst hl
  have C : jC X w cX0_readGroup RX0 := C
  have hm := cAt_ne hc hp (by decide)
  show J X w h 0 [(0, .ref (jad w 13)), (1, .int (nI dp))] []
  refine k_aload_n C dX0_readGroup_0 rfl ?_
  refine j_bipush (v := 40) C dX0_readGroup_1 (by decide) ?_
  refine k_callV (k := 13) (ci := 0) (As := [.int (nI 40)]) C mX0_68 (t_take hw hS hc (ch := 40) (by decide) (by decide)) jCl0.1 (by first | decide | omega) (by first | assumption | rfl) rfl rfl (Nat.le_of_ble_eq_true rfl) (jroom hR (by first | decide | omega) (by decide)) dX0_readGroup_3 ?_
  rintro v9 h9 ⟨rfl, hc⟩
  simp only [oAt, hp, beq_self_eq_true, if_true] at hc
  refine k_aload_n C dX0_readGroup_6 rfl ?_
  refine k_iload_n C dX0_readGroup_7 rfl ?_
  refine k_callV (k := 13) (ci := 0) (As := [.int (nI dp)]) C mX0_123 (hE'.2.2 _ (a + 1) bs md hc (fun q e => by have := hb q e; omega)) jCl0.1 (by first | decide | omega) (by first | assumption | rfl) rfl rfl (Nat.le_of_ble_eq_true rfl) (jroom hR (by first | decide | omega) (by decide)) dX0_readGroup_8 ?_
  rintro v9 h9 ⟨a1, md1, hc, hr1⟩
  obtain ⟨x1, rfl⟩ := cRel_int hr1
  refine k_istore_n C dX0_readGroup_11 (by rw [hnL]; decide) ?_
  refine k_aload_n C dX0_readGroup_12 rfl ?_
  refine j_bipush (v := 41) C dX0_readGroup_13 (by decide) ?_
  refine k_callV (k := 13) (ci := 0) (As := [.int (nI 41)]) C mX0_68 (t_take hw hS hc (ch := 41) (by decide) (by decide)) jCl0.1 (by first | decide | omega) (by first | assumption | rfl) rfl rfl (Nat.le_of_ble_eq_true rfl) (jroom hR (by first | decide | omega) (by decide)) dX0_readGroup_15 ?_
  rintro v9 h9 ⟨rfl, hc⟩
  refine k_iload_n C dX0_readGroup_18 rfl ?_
  exact j_iret C hrt hE dX0_readGroup_19 (⟨_, _, hc, grpRel hm hr1⟩)
end RD4
end
section
section RD5
variable {l : Launch} {w : jW} {h0 h : jH} {u : Nat} {t : Nat → Nat} {n : Nat} {hs : List (Nat × Nat × Nat)} {me sg bs : Nat} {a a' : Nat} {md md' : cMd} {r : Option Value} {dp d : Nat} {sub : Nat → PR}
/-- the number of the event behind one reading and its hold -/
def nxt (bs : Nat) (md : cMd) (pr : PR) : Nat := match md, pr with
  | some (some q), some p => bs + tl (p.2 bs q.2.1) + 1
  | _, _ => 0
theorem cRel_hd {pr : PR} {q' : Nat × Nat × Nat × (Nat → Int32)} (h : cRel me bs md pr a' md' r) (e : md' = some (some q')) : ∃ q, md = some (some q) ∧ q'.2.1 = q.2.1 ∧ q.1 ≤ q'.1 := by
  rcases md with _ | p
  · have := h.1; rw [e] at this; cases this
  · rcases cRel_cases (by simp) h with ⟨-, e2⟩ | ⟨f, -, e2, -⟩ | ⟨f, q, y, ev, m, F', -, e1, -, -, e5, -⟩
    · rw [e] at e2; cases e2
    · rw [e] at e2; cases e2
    · rw [e] at e5
      simp only [Option.some.injEq] at e5
      subst e5
      exact ⟨q, e1, rfl, by simp⟩
theorem Rep_low {F G : Nat → Int32} {P : Nat → Nat} {x : List Ev} {b c : Nat} (hb : P b + cpos x ≤ c) (hc : cmp P b x) (hk : ∀ p, p < c → G p = F p) (h : Rep F me P b x) : Rep G me P b x := Rep_keep x b hc (fun p _ p2 => hk p (by omega)) h
theorem opOk {F F1 F2 : Nat → Int32} {e1 e2 : List Ev} {c k hd : Nat} (hk : k = 5 ∨ k = 6 ∨ k = 7 ∨ k = 8) (l1 : ∀ p, p < c → F1 p = F p) (r1 : ∀ P : Nat → Nat, P bs = c → cmp P bs e1 → Rep F1 me P bs e1) (h1 : c + cpos e1 < 240)
    (l2 : ∀ p, p < c + cpos e1 + 1 → F2 p = emF (c + cpos e1) F1 (nI 3) (nI 0) p) (r2 : ∀ P : Nat → Nat, P (bs + e1.length + 1) = c + cpos e1 + 1 → cmp P (bs + e1.length + 1) e2 → Rep F2 me P (bs + e1.length + 1) e2) (h2 : c + cpos e1 + 1 + cpos e2 < 240) :
    (∀ p, p < c → emF (c + cpos e1 + 1 + cpos e2) F2 (nI k) (nI 0) p = F p) ∧ ∀ P : Nat → Nat, P bs = c → cmp P bs (e1 ++ (3, 0, hd, 1) :: (e2 ++ [(k, 0, hd + 1, 1)])) → Rep (emF (c + cpos e1 + 1 + cpos e2) F2 (nI k) (nI 0)) me P bs (e1 ++ (3, 0, hd, 1) :: (e2 ++ [(k, 0, hd + 1, 1)])) := by
  refine ⟨fun p hp => ?_, fun P hP hc => ?_⟩
  · rw [emF_low (by omega), l2 p (by omega), emF_low (by omega), l1 p hp]
  · rw [cmp_app] at hc
    obtain ⟨c1, c2⟩ := hc
    simp only [cmp] at c2
    obtain ⟨c3, c4⟩ := c2
    rw [cmp_app] at c4
    obtain ⟨c5, c6⟩ := c4
    have p1 := cmp_end e1 bs c1
    have k3 : kcl (3, 0, hd, 1) = 1 := rfl
    rw [k3] at c3
    have p2 := cmp_end e2 _ c5
    rw [Rep_app]
    refine ⟨?_, ?_⟩
    · exact Rep_low (c := c + cpos e1) (by omega) c1 (fun p hp => by rw [emF_low (by omega), l2 p (by omega), emF_low (by omega)]) (r1 P hP c1)
    · simp only [Rep]
      refine ⟨fun _ => ?_, ?_⟩
      · rw [p1, hP, emF_low (by omega), l2 _ (by omega), emF_at h1 (by omega) (by omega)]
        rfl
      · rw [Rep_app]
        refine ⟨?_, ?_⟩
        · exact Rep_low (c := c + cpos e1 + 1 + cpos e2) (by omega) c5 (fun p hp => emF_low (by omega)) (r2 P (by omega) c5)
        · refine rep_emit h2 (by omega) (by omega) (by omega) ?_
          rcases hk with rfl | rfl | rfl | rfl <;> rfl
/-- E op E, once both are read: what the class has done -/
theorem opRel {sub2 : Nat → PR} {k : Nat} {pr : PR} {a1 a2 a3 : Nat} {md1 md3 : cMd} {x1 x2 : Int32} {v : Nat} (hk : k = 5 ∨ k = 6 ∨ k = 7 ∨ k = 8) (hv : v = if k = 8 then 2 else 1) (hn : n ≤ 120) (hb1 : cBe a1 md1) (hb3 : cBe a3 md3) (ha1 : a1 ≤ n) (ha3 : a3 ≤ n) (hm : md ≠ none) (hy1 : ∀ f, pr = some (a1, f) → ∀ hd y e m, f bs hd = some (y, e, m) → y = 1 ∨ y = 2) (hz2 : szs sub2)
    (h1 : cRel me bs md pr a1 md1 (some (.int x1))) (hm1 : md1 ≠ none) (h2 : cRel me (nxt bs md pr) (oHo 1 (oNd 1 x1 md1)) (sub2 a2) a3 md3 (some (.int x2))) :
    (sub2 a2 = none ∧ md3 = none) ∨ ∃ f1 f2, pr = some (a1, f1) ∧ sub2 a2 = some (a3, f2) ∧ md3 ≠ none ∧ cRel me bs md (some (a3, fun bs hd => tOp k hd (f1 bs hd) (f2 (bs + tl (f1 bs hd) + 1) (hd + 1)))) a3 (oEm (nI k) (nI 0) (oRl 1 (oNd 1 x2 md3))) (some (.int (nI v))) := by
  rcases cRel_cases hm h1 with ⟨e1, rfl⟩ | ⟨f1, e1, rfl, e2⟩ | ⟨f1, q, y1, ev1, m1, F1, e1, rfl, e3, e4, rfl, e6, e7⟩
  · exact absurd rfl hm1
  · -- the first is not typed
    have hmd : oHo 1 (oNd 1 x1 (some none)) = some none := by simp only [oNd, ite_self]; rfl
    rw [hmd] at h2
    rcases cRel_cases (by simp) h2 with ⟨g1, rfl⟩ | ⟨f2, g1, rfl, -⟩ | ⟨f2, q2, y2, ev2, m2, F2, g1, g2, -⟩
    · exact Or.inl ⟨g1, rfl⟩
    · refine Or.inr ⟨f1, f2, e1, g1, by simp, ?_⟩
      refine cRel_b hm (by simp only [oNd, ite_self]; rfl) (fun q hq => ?_)
      simp only [tOp, e2 q hq]
    · cases g2
  · have hx1 : x1 = nI y1 := by simpa using e4
    subst hx1
    have hy1' := hy1 f1 e1 _ _ _ _ e3
    have b1 := hb1 _ rfl
    dsimp only at b1
    have hlt : q.1 + cpos ev1 < 240 := by omega
    have hnx : nxt bs (some (some q)) pr = bs + ev1.length + 1 := by
      rw [e1]; simp only [nxt, e3, tl]
    by_cases hy : (1 : Int32) = nI y1
    · have hy0 : y1 = 1 := ((nI_eq (a := 1) (b := y1) (by omega) (by omega)).mp hy).symm
      subst hy0
      have hn1 : oHo 1 (oNd 1 (nI 1) (some (some (q.1 + cpos ev1, q.2.1, max q.2.2.1 m1, F1)))) = some (some (q.1 + cpos ev1 + 1, q.2.1 + 1, max (max q.2.2.1 m1) (q.2.1 + 1), emF (q.1 + cpos ev1) F1 (nI 3) (nI 0))) := by
        have : (1 : Int32) = nI 1 := rfl
        simp only [oNd, ← this, if_true, oHo, emC_lt hlt]
        rfl
      rw [hn1] at h2
      rcases cRel_cases (by simp) h2 with ⟨g1, rfl⟩ | ⟨f2, g1, rfl, g2⟩ | ⟨f2, q2, y2, ev2, m2, F2, g1, g2, g3, g4, rfl, g6, g7⟩
      · exact Or.inl ⟨g1, rfl⟩
      · refine Or.inr ⟨f1, f2, e1, g1, by simp, ?_⟩
        refine cRel_b hm (by simp only [oNd, ite_self]; rfl) (fun q' hq' => ?_)
        cases hq'
        have := g2 _ rfl
        rw [hnx] at this
        simp only [tOp, e3, tl, this]
      · cases g2
        dsimp only at g3 g6 g7
        rw [hnx] at g3 g7
        have hx2 : x2 = nI y2 := by simpa using g4
        subst hx2
        have hy2' := (hz2 _ _ _ g1 _ _ _ _ _ g3).1
        have b3 := hb3 _ rfl
        dsimp only at b3
        refine Or.inr ⟨f1, f2, e1, g1, by simp, ?_⟩
        by_cases hz : (1 : Int32) = nI y2
        · have hz0 : y2 = 1 := ((nI_eq (a := 1) (b := y2) (by omega) (by omega)).mp hz).symm
          subst hz0
          obtain ⟨o1, o2⟩ := opOk (hd := q.2.1) hk e6 e7 hlt g6 g7 (by omega)
          have hv' : nI v = nI (if k = 8 then 2 else 1) := by rw [hv]
          rw [hv']
          refine cRel_o (F' := emF (q.1 + cpos ev1 + 1 + cpos ev2) F2 (nI k) (nI 0)) rfl (y := if k = 8 then 2 else 1) (e := ev1 ++ (3, 0, q.2.1, 1) :: (ev2 ++ [(k, 0, q.2.1 + 1, 1)])) (m := max m1 (max (q.2.1 + 1) m2)) ?_ ?_ o1 o2
          · simp only [tOp, e3, tl, g3]
          · have e9 : (1 : Int32) = nI 1 := rfl
            have k9 : kcl (k, 0, q.2.1 + 1, 1) = 1 := by simp only [kcl]; rw [if_neg (by omega)]
            simp only [oNd, ← e9, if_true, oRl, oEm, Option.some.injEq, Prod.mk.injEq]
            refine ⟨?_, by omega, by omega, trivial⟩
            rw [emC_lt (by omega)]
            simp only [cpos_app, cpos, k9]
            simp only [kcl]
            simp
            omega
        · have hz0 : y2 = 2 := by
            rcases hy2' with e | e
            · rw [e] at hz; exact absurd rfl hz
            · exact e
          subst hz0
          refine cRel_b hm (by simp only [oNd, if_neg hz]; rfl) (fun q' hq' => ?_)
          cases hq'
          simp only [tOp, e3, tl, g3]
    · have hy0 : y1 = 2 := by
        rcases hy1' with e | e
        · rw [e] at hy; exact absurd rfl hy
        · exact e
      subst hy0
      have hn1 : oHo 1 (oNd 1 (nI 2) (some (some (q.1 + cpos ev1, q.2.1, max q.2.2.1 m1, F1)))) = some none := by simp only [oNd, if_neg hy]; rfl
      rw [hn1] at h2
      rcases cRel_cases (by simp) h2 with ⟨g1, rfl⟩ | ⟨f2, g1, rfl, -⟩ | ⟨f2, q2, y2, ev2, m2, F2, g1, g2, -⟩
      · exact Or.inl ⟨g1, rfl⟩
      · refine Or.inr ⟨f1, f2, e1, g1, by simp, ?_⟩
        refine cRel_b hm (by simp only [oNd, ite_self]; rfl) (fun q' hq' => ?_)
        cases hq'
        simp only [tOp, e3]
      · cases g2
end RD5
end
section
section RD6
variable {l : Launch} {w : jW} {h0 h : jH} {u : Nat} {t : Nat → Nat} {n : Nat} {hs : List (Nat × Nat × Nat)} {me sg bs : Nat} {a a' : Nat} {md md' : cMd} {r : Option Value} {dp d : Nat} {sub : Nat → PR}
theorem cRel_shift {f : Nat → Nat → TI} {a1 a2 : Nat} (h : cRel me bs md (some (a1, f)) a1 md' r) : cRel me bs md (some (a2, f)) a2 md' r := by
  rcases md with _ | _ | q
  · exact h
  · exact ⟨rfl, h.2⟩
  · exact ⟨rfl, h.2⟩
theorem cRel_n {pr : PR} {x : Int32} (h : cRel me bs none pr a' md' (some (.int x))) : md' = none := h.1
theorem beq_t {a b : Nat} (h : a = b) : (a == b) = true := by simp [h]
theorem beq_f {a b : Nat} (h : ¬ a = b) : (a == b) = false := by simp [h]
theorem pairRel {a1 a3 : Nat} {md1 md3 : cMd} {x1 x2 : Int32} (hn : n ≤ 120) (hp : pgr n sub) (hz : szs sub) (hm : md ≠ none) (hb1 : cBe a1 md1) (hb3 : cBe a3 md3) (ha1 : a1 ≤ n) (ha3 : a3 ≤ n)
    (h1 : cRel me bs md (sub (a + 1)) a1 md1 (some (.int x1)))
    (h2 : cRel me (nxt bs md (sub (a + 1))) (oAt (pek t n a1 == 44) n a1 (a1 + 1) (oHo 1 (oNd 1 x1 md1))).2 (sub (oAt (pek t n a1 == 44) n a1 (a1 + 1) (oHo 1 (oNd 1 x1 md1))).1) a3 md3 (some (.int x2))) :
    cRel me bs md (pPair t n sub a) (oAt (pek t n a3 == 125) n a3 (a3 + 1) (oRl 1 (oNd 1 x2 md3))).1 (oEm (nI 8) (nI 0) (oAt (pek t n a3 == 125) n a3 (a3 + 1) (oRl 1 (oNd 1 x2 md3))).2) (some (.int 2)) := by
  by_cases hm1 : md1 = none
  · subst hm1
    have e0 : sub (a + 1) = none := by
      rcases cRel_cases hm h1 with ⟨e, -⟩ | ⟨f, -, e, -⟩ | ⟨f, q, y, e, m, F', -, -, -, -, e5, -⟩
      · exact e
      · cases e
      · cases e5
    have : (oAt (pek t n a1 == 44) n a1 (a1 + 1) (oHo 1 (oNd 1 x1 none))).2 = none := oAt_none
    rw [this] at h2
    have e3 := cRel_n h2
    subst e3
    unfold pPair
    rw [e0]
    refine cRel_f ?_ (fun _ => rfl)
    show oEm (nI 8) (nI 0) (oAt (pek t n a3 == 125) n a3 (a3 + 1) none).2 = none
    rw [oAt_none]; rfl
  · by_cases c : pek t n a1 = 44
    · rw [oAt_t (beq_t c)] at h2
      have hy1 : ∀ f, sub (a + 1) = some (a1, f) → ∀ hd y e m, f bs hd = some (y, e, m) → y = 1 ∨ y = 2 := fun f e hd y ev m q => (hz _ _ _ e _ _ _ _ _ q).1
      rcases opRel (k := 8) (v := 2) (by omega) rfl hn hb1 hb3 ha1 ha3 hm hy1 hz h1 hm1 h2 with ⟨g1, rfl⟩ | ⟨f1, f2, g1, g2, g3, g4⟩
      · have : pPair t n sub a = none := by
          unfold pPair
          rcases cRel_cases hm h1 with ⟨e, -⟩ | ⟨f, e, -, -⟩ | ⟨f, q, y, e, m, F', e, -⟩
          · rw [e]
          · rw [e]; simp only [g1, ite_self]
          · rw [e]; simp only [g1, ite_self]
        rw [this]
        refine cRel_f ?_ (fun _ => rfl)
        show oEm (nI 8) (nI 0) (oAt (pek t n a3 == 125) n a3 (a3 + 1) none).2 = none
        rw [oAt_none]; rfl
      · unfold pPair
        rw [g1]
        simp only [c, if_true, g2]
        by_cases c3 : pek t n a3 = 125
        · rw [oAt_t (beq_t c3)]
          simp only [c3, if_true]
          exact cRel_shift g4
        · rw [oAt_f (beq_f c3)]
          simp only [c3, if_false]
          exact cRel_f rfl (fun _ => rfl)
    · rw [oAt_f (beq_f c)] at h2
      have e3 := cRel_n h2
      subst e3
      have e9 : oEm (nI 8) (nI 0) (oAt (pek t n a3 == 125) n a3 (a3 + 1) (oRl 1 (oNd 1 x2 none))).2 = none := by
        show oEm (nI 8) (nI 0) (oAt (pek t n a3 == 125) n a3 (a3 + 1) none).2 = none
        rw [oAt_none]; rfl
      unfold pPair
      rcases cRel_cases hm h1 with ⟨e, -⟩ | ⟨f, e, -, -⟩ | ⟨f, q, y, ev, m, F', e, -⟩
      · rw [e]; exact cRel_f e9 (fun _ => rfl)
      · rw [e]; simp only [c, if_false]; exact cRel_f e9 (fun _ => rfl)
      · rw [e]; simp only [c, if_false]; exact cRel_f e9 (fun _ => rfl)
/-- behind a reading and its hold -/
theorem cBd_hold {a1 : Nat} {md1 : cMd} {x1 : Int32} (h : cBe a1 md1) : cBd a1 (oHo 1 (oNd 1 x1 md1)) := by
  intro q hq
  obtain ⟨p, e1, rfl⟩ := oHo_ok hq
  obtain ⟨-, e2⟩ := oNd_ok e1
  have := h p e2
  have : emC p.1 ≤ p.1 + 1 := by unfold emC; split <;> omega
  dsimp only
  omega
theorem cBd_at {b : Bool} {a1 a2 : Nat} (h : cBd a1 md) (h2 : a1 ≤ a2) : cBd (oAt b n a1 a2 md).1 (oAt b n a1 a2 md).2 := by
  intro q hq
  obtain ⟨rfl, e⟩ := oAt_ok hq
  have := h q e
  simp only [oAt, if_true]
  omega
theorem hold_ok {a1 : Nat} {md1 : cMd} {x1 : Int32} (hn : n ≤ 120) (ha : a1 ≤ n) (h : cBe a1 md1) : ∀ q, oNd 1 x1 md1 = some (some q) → (1 : Int32) = nI 1 ∧ 1 ≤ 2 ∧ q.2.1 ≤ 1000 ∧ q.2.2.1 ≤ 1000 := by
  intro q hq
  obtain ⟨-, e2⟩ := oNd_ok hq
  have := h q e2
  exact ⟨rfl, by decide, by omega, by omega⟩
theorem rel_ok {a3 : Nat} {md3 : cMd} {x1 x2 : Int32} {b : Bool} {a1 a2 bs2 : Nat} {md1 : cMd} {pr : PR} (h2 : cRel me bs2 (oAt b n a1 a2 (oHo 1 (oNd 1 x1 md1))).2 pr a3 md3 (some (.int x2))) : ∀ q, oNd 1 x2 md3 = some (some q) → (1 : Int32) = nI 1 ∧ 1 ≤ q.2.1 := by
  intro q hq
  obtain ⟨-, e2⟩ := oNd_ok hq
  obtain ⟨p, e3, e4, -⟩ := cRel_hd h2 e2
  obtain ⟨-, e5⟩ := oAt_ok e3
  obtain ⟨p2, -, rfl⟩ := oHo_ok e5
  exact ⟨rfl, by rw [e4]; simp⟩
theorem c_readPair (hw : jok w) (hS : cS h0 u t n hs me sg) (hd : 2 ≤ d) (hE' : cSub l w h0 u n me dp d sub) (hc : cAt h0 h u n a md) (hb : cBd a md) (hp : pek t n a = 123) : jM l w yX0_readPair cX0_readPair 2 (some .int) (d + 1) [.ref (jad w 13), .int (nI dp)] h (fun r h' => ∃ a' md', cAt h0 h' u n a' md' ∧ cRel me bs md (pPair t n sub a) a' md' r) := by
  refine jM_of (by decide) hw (Nat.le_of_ble_eq_true rfl) ?_
  intro X C hl hR hnL hrt hE
  subst hl
  have C : jC X w cX0_readPair RX0 := C
  have hm := cAt_ne hc hp (by decide)
  have hn := cS_n hS
  obtain ⟨k3, k4, k5, k6, k7⟩ := jk_unit u hS.u7
  show J X w h 0 [(0, .ref (jad w 13)), (1, .int (nI dp))] []
  refine k_aload_n C dX0_readPair_0 rfl ?_
  refine j_bipush (v := 123) C dX0_readPair_1 (by decide) ?_
  refine k_callV (k := 13) (ci := 0) (As := [.int (nI 123)]) C mX0_68 (t_take hw hS hc (ch := 123) (by decide) (by decide)) jCl0.1 (by first | decide | omega) (by first | assumption | rfl) rfl rfl (Nat.le_of_ble_eq_true rfl) (jroom hR (by first | decide | omega) (by decide)) dX0_readPair_3 ?_
  rintro v9 h9 ⟨rfl, hc⟩
  simp only [oAt, hp, beq_self_eq_true, if_true] at hc
  refine k_aload_n C dX0_readPair_6 rfl ?_
  refine j_iconst (v := 1) C dX0_readPair_7 (by decide) ?_
  refine k_aload_n C dX0_readPair_8 rfl ?_
  refine k_iload_n C dX0_readPair_9 rfl ?_
  refine k_callV (k := 13) (ci := 0) (As := [.int (nI dp)]) C mX0_123 (hE'.2.2 _ (a + 1) bs md hc (fun q e => by have := hb q e; omega)) jCl0.1 (by first | decide | omega) (by first | assumption | rfl) rfl rfl (Nat.le_of_ble_eq_true rfl) (jroom hR (by first | decide | omega) (by decide)) dX0_readPair_10 ?_
  rintro v9 h9 ⟨a1, md1, hc, hr1⟩
  obtain ⟨x1, rfl⟩ := cRel_int hr1
  have hb1 := cRel_bd hE'.1 hE'.2.1 (fun q e => by have := hb q e; omega) hr1
  have ha1 := hc.1
  refine k_callV (k := 13) (ci := 0) (As := [.int 1, .int x1]) C mX0_127 (t_need hw hS hc 1 x1) jCl0.1 (by first | decide | omega) (by first | assumption | rfl) rfl rfl (Nat.le_of_ble_eq_true rfl) (jroom hR (by first | decide | omega) (by decide)) dX0_readPair_13 ?_
  rintro v9 h9 ⟨rfl, hc⟩
  refine k_aload_n C dX0_readPair_16 rfl ?_
  refine j_iconst (v := 1) C dX0_readPair_17 (by decide) ?_
  refine k_callV (k := 13) (ci := 0) (As := [.int 1]) C mX0_138 (t_hold hw hS hc 1 1 (hold_ok hn ha1 hb1)) jCl0.1 (by first | decide | omega) (by first | assumption | rfl) rfl rfl (Nat.le_of_ble_eq_true rfl) (jroom hR (by first | decide | omega) (by decide)) dX0_readPair_18 ?_
  rintro v9 h9 ⟨rfl, hc⟩
  refine k_aload_n C dX0_readPair_21 rfl ?_
  refine j_bipush (v := 44) C dX0_readPair_22 (by decide) ?_
  refine k_callV (k := 13) (ci := 0) (As := [.int (nI 44)]) C mX0_68 (t_take hw hS hc (ch := 44) (by decide) (by decide)) jCl0.1 (by first | decide | omega) (by first | assumption | rfl) rfl rfl (Nat.le_of_ble_eq_true rfl) (jroom hR (by first | decide | omega) (by decide)) dX0_readPair_24 ?_
  rintro v9 h9 ⟨rfl, hc⟩
  refine k_aload_n C dX0_readPair_27 rfl ?_
  refine j_iconst (v := 1) C dX0_readPair_28 (by decide) ?_
  refine k_aload_n C dX0_readPair_29 rfl ?_
  refine k_iload_n C dX0_readPair_30 rfl ?_
  refine k_callV (k := 13) (ci := 0) (As := [.int (nI dp)]) C mX0_123 (hE'.2.2 _ _ (nxt bs md (sub (a + 1))) _ hc (cBd_at (cBd_hold hb1) (by omega))) jCl0.1 (by first | decide | omega) (by first | assumption | rfl) rfl rfl (Nat.le_of_ble_eq_true rfl) (jroom hR (by first | decide | omega) (by decide)) dX0_readPair_31 ?_
  rintro v9 h9 ⟨a3, md3, hc, hr3⟩
  obtain ⟨x2, rfl⟩ := cRel_int hr3
  have hb3 := cRel_bd hE'.1 hE'.2.1 (cBd_at (cBd_hold hb1) (by omega)) hr3
  have ha3 := hc.1
  refine k_callV (k := 13) (ci := 0) (As := [.int 1, .int x2]) C mX0_127 (t_need hw hS hc 1 x2) jCl0.1 (by first | decide | omega) (by first | assumption | rfl) rfl rfl (Nat.le_of_ble_eq_true rfl) (jroom hR (by first | decide | omega) (by decide)) dX0_readPair_34 ?_
  rintro v9 h9 ⟨rfl, hc⟩
  refine k_aload_n C dX0_readPair_37 rfl ?_
  refine j_iconst (v := 1) C dX0_readPair_38 (by decide) ?_
  refine k_callV (k := 13) (ci := 0) (As := [.int 1]) C mX0_142 (t_release hw hS hc 1 1 (rel_ok hr3)) jCl0.1 (by first | decide | omega) (by first | assumption | rfl) rfl rfl (Nat.le_of_ble_eq_true rfl) (jroom hR (by first | decide | omega) (by decide)) dX0_readPair_39 ?_
  rintro v9 h9 ⟨rfl, hc⟩
  refine k_aload_n C dX0_readPair_42 rfl ?_
  refine j_bipush (v := 125) C dX0_readPair_43 (by decide) ?_
  refine k_callV (k := 13) (ci := 0) (As := [.int (nI 125)]) C mX0_68 (t_take hw hS hc (ch := 125) (by decide) (by decide)) jCl0.1 (by first | decide | omega) (by first | assumption | rfl) rfl rfl (Nat.le_of_ble_eq_true rfl) (jroom hR (by first | decide | omega) (by decide)) dX0_readPair_45 ?_
  rintro v9 h9 ⟨rfl, hc⟩
  refine k_aload_n C dX0_readPair_48 rfl ?_
  refine j_getr C fX0_22 rfl (by first | decide | omega) (by first | assumption | rfl) (cAt_un hS hc) dX0_readPair_49 ?_
  refine j_bipush (v := 8) C dX0_readPair_52 (by decide) ?_
  refine j_iconst (v := 0) C dX0_readPair_54 (by decide) ?_
  refine k_callV (k := ub u) (ci := 3) (As := [.int (nI 8), .int (nI 0)]) C mX0_131 (t_emit hw hS hc (nI 8) (nI 0)) jCl3.1 (by first | decide | omega) (by first | assumption | rfl) rfl rfl (Nat.le_of_ble_eq_true rfl) (jroom hR (by first | decide | omega) (by decide)) dX0_readPair_55 ?_
  rintro v9 h9 ⟨⟨c9, -, rfl, -⟩, hc⟩
  refine j_pop C dX0_readPair_58 rfl ?_
  refine j_iconst (v := 2) C dX0_readPair_59 (by decide) ?_
  exact j_iret C hrt hE dX0_readPair_60 (⟨_, _, hc, pairRel hn hE'.1 hE'.2.1 hm hb1 hb3 ha1 ha3 hr1 hr3⟩)
end RD6
end
section
section RD7
variable {l : Launch} {w : jW} {h0 h : jH} {u : Nat} {t : Nat → Nat} {n : Nat} {hs : List (Nat × Nat × Nat)} {me sg bs : Nat} {a a' : Nat} {md md' : cMd} {r : Option Value} {dp d : Nat} {sub : Nat → PR}
theorem cRel_syn {pr : PR} (hm : md ≠ none) (h : cRel me bs md pr a' md' r) : (pr = none ∧ md' = none) ∨ ∃ f, pr = some (a', f) ∧ md' ≠ none := by
  rcases cRel_cases hm h with h | ⟨f, h1, h2, -⟩ | ⟨f, q, y, e, m, F', h1, -, -, -, h2, -⟩
  · exact Or.inl h
  · exact Or.inr ⟨f, h1, by rw [h2]; simp⟩
  · exact Or.inr ⟨f, h1, by rw [h2]; simp⟩
theorem cRel_bad' {pr : PR} {f : Nat → Nat → TI} (h : cRel me bs (some none) pr a' md' r) (hm : md' ≠ none) : md' = some none := by
  rcases cRel_cases (by simp) h with ⟨-, h⟩ | ⟨-, -, h, -⟩ | ⟨f, q, y, e, m, F', -, h, -⟩
  · exact absurd h hm
  · exact h
  · cases h
theorem choOk {F F1 F2 F3 : Nat → Int32} {e1 e2 e3 : List Ev} {c hd y : Nat} (l1 : ∀ p, p < c → F1 p = F p) (r1 : ∀ P : Nat → Nat, P bs = c → cmp P bs e1 → Rep F1 me P bs e1) (h1 : c + cpos e1 < 240)
    (l2 : ∀ p, p < c + cpos e1 + 1 → F2 p = emF (c + cpos e1) F1 (nI 10) (nI 0) p) (r2 : ∀ P : Nat → Nat, P (bs + e1.length + 1) = c + cpos e1 + 1 → cmp P (bs + e1.length + 1) e2 → Rep F2 me P (bs + e1.length + 1) e2) (h2 : c + cpos e1 + 1 + cpos e2 < 240)
    (l3 : ∀ p, p < c + cpos e1 + 1 + cpos e2 + 1 → F3 p = va_up (emF (c + cpos e1 + 1 + cpos e2) F2 (nI 11) (nI 0)) (c + cpos e1) (emF (c + cpos e1 + 1 + cpos e2) F2 (nI 11) (nI 0) (c + cpos e1) ||| nI (c + cpos e1 + 1 + cpos e2 + 1) <<< ((4 : Int32) &&& 31)) p)
    (r3 : ∀ P : Nat → Nat, P (bs + e1.length + 1 + e2.length + 1) = c + cpos e1 + 1 + cpos e2 + 1 → cmp P (bs + e1.length + 1 + e2.length + 1) e3 → Rep F3 me P (bs + e1.length + 1 + e2.length + 1) e3) (h3 : c + cpos e1 + 1 + cpos e2 + 1 + cpos e3 < 1000) :
    (∀ p, p < c → va_up F3 (c + cpos e1 + 1 + cpos e2) (F3 (c + cpos e1 + 1 + cpos e2) ||| nI (c + cpos e1 + 1 + cpos e2 + 1 + cpos e3) <<< ((4 : Int32) &&& 31)) p = F p) ∧
    ∀ P : Nat → Nat, P bs = c → cmp P bs (e1 ++ (11, bs + e1.length + 1 + e2.length + 1, hd, 1) :: (e2 ++ (12, bs + e1.length + 1 + e2.length + 1 + e3.length, hd, y) :: e3)) → Rep (va_up F3 (c + cpos e1 + 1 + cpos e2) (F3 (c + cpos e1 + 1 + cpos e2) ||| nI (c + cpos e1 + 1 + cpos e2 + 1 + cpos e3) <<< ((4 : Int32) &&& 31))) me P bs (e1 ++ (11, bs + e1.length + 1 + e2.length + 1, hd, 1) :: (e2 ++ (12, bs + e1.length + 1 + e2.length + 1 + e3.length, hd, y) :: e3)) := by
  have up_n : ∀ {f : Nat → Int32} {k p : Nat} {v : Int32}, p ≠ k → va_up f k v p = f p := fun h => by simp [va_up, h]
  have up_s : ∀ {f : Nat → Int32} {k : Nat} {v : Int32}, va_up f k v k = v := by simp [va_up]
  have low3 : ∀ p, p < c + cpos e1 → F3 p = F1 p := fun p hp => by rw [l3 p (by omega), up_n (by omega), emF_low (by omega), l2 p (by omega), emF_low hp]
  refine ⟨fun p hp => ?_, fun P hP hc => ?_⟩
  · rw [up_n (by omega), low3 p (by omega), l1 p hp]
  · rw [cmp_app] at hc
    obtain ⟨c1, c2⟩ := hc
    simp only [cmp] at c2
    obtain ⟨c3, c4⟩ := c2
    rw [cmp_app] at c4
    obtain ⟨c5, c6⟩ := c4
    simp only [cmp] at c6
    obtain ⟨c7, c8⟩ := c6
    have p1 := cmp_end e1 bs c1
    have k3 : ∀ T, kcl (11, T, hd, 1) = 1 := fun _ => rfl
    have k4 : ∀ T, kcl (12, T, hd, y) = 1 := fun _ => rfl
    rw [k3] at c3
    rw [k4] at c7
    have p2 := cmp_end e2 _ c5
    have p3 := cmp_end e3 _ c8
    rw [Rep_app]
    refine ⟨?_, ?_⟩
    · exact Rep_low (c := c + cpos e1) (by omega) c1 (fun p hp => by rw [up_n (by omega), low3 p hp]) (r1 P hP c1)
    · simp only [Rep]
      refine ⟨fun _ => ?_, ?_⟩
      · rw [p1, hP, up_n (by omega), l3 _ (by omega), up_s, emF_low (by omega), l2 _ (by omega), emF_at h1 (by omega) (by omega)]
        rw [show (10 : Nat) + 16 * 0 = 10 from rfl, emv (by omega) (by omega)]
        show _ = nI (10 + 16 * P (bs + e1.length + 1 + e2.length + 1))
        congr 3
        omega
      · rw [Rep_app]
        refine ⟨?_, ?_⟩
        · refine Rep_keep e2 _ c5 (fun p q1 q2 => ?_) (r2 P (by omega) c5)
          rw [up_n (by omega), l3 p (by omega), up_n (by omega), emF_low (by omega)]
        · simp only [Rep]
          refine ⟨fun _ => ?_, ?_⟩
          · have e9 : P (bs + e1.length + 1 + e2.length) = c + cpos e1 + 1 + cpos e2 := by omega
            rw [e9, up_s, l3 _ (by omega), up_n (by omega), emF_at h2 (by omega) (by omega)]
            rw [show (11 : Nat) + 16 * 0 = 11 from rfl, emv (by omega) (by omega)]
            show _ = nI (11 + 16 * P (bs + e1.length + 1 + e2.length + 1 + e3.length))
            congr 3
            omega
          · refine Rep_keep e3 _ c8 (fun p q1 q2 => ?_) (r3 P (by omega) c8)
            rw [up_n (by omega)]
end RD7
end
section
section RD8
variable {l : Launch} {w : jW} {h0 h : jH} {u : Nat} {t : Nat → Nat} {n : Nat} {hs : List (Nat × Nat × Nat)} {me sg bs : Nat} {a a' : Nat} {md md' : cMd} {r : Option Value} {dp d : Nat} {sub : Nat → PR}
theorem oEm_none {x y : Int32} : oEm x y none = none := rfl
theorem oLa_none {j : Nat} : oLa j none = none := rfl
theorem oNd_none {x y : Int32} : oNd x y none = none := rfl
theorem oNd_bad {x y : Int32} : oNd x y (some none) = some none := by simp only [oNd, ite_self]
theorem oNd_b2 {x y : Int32} {q : Nat × Nat × Nat × (Nat → Int32)} (h : ¬ x = y) : oNd x y (some (some q)) = some none := by simp only [oNd, if_neg h]
theorem oNd_t {x y : Int32} {m : Option (Nat × Nat × Nat × (Nat → Int32))} (h : x = y) : oNd x y (some m) = some m := by simp only [oNd, if_pos h]
/-- the typed part of a choice, all three having been read -/
theorem choTy {f1 f2 f3 : Nat → Nat → TI} {a1 a2 a3 j1 j2 : Nat} {md1 md3 md5 : cMd} {x1 x2 x3 : Int32} (hn : n ≤ 120) (hz1 : sz (a + 1) a1 f1) (hz2 : sz (a1 + 1) a2 f2) (hz3 : sz (a2 + 1) a3 f3) (hb1 : cBe a1 md1) (hb3 : cBe a2 md3) (hb5 : cBe a3 md5) (ha1 : a1 ≤ n) (ha2 : a2 ≤ n) (ha3 : a3 ≤ n)
    (hj1 : ∀ q, oNd 1 x1 md1 = some (some q) → j1 = q.1) (hj2 : ∀ q, md3 = some (some q) → j2 = q.1) (hm : md ≠ none) (hm1 : md1 ≠ none) (hm3 : md3 ≠ none) (hm5 : md5 ≠ none)
    (h1 : cRel me bs md (some (a1, f1)) a1 md1 (some (.int x1)))
    (h2 : cRel me (nxt bs md (some (a1, f1))) (oEm (nI 10) (nI 0) (oNd 1 x1 md1)) (some (a2, f2)) a2 md3 (some (.int x2)))
    (h3 : cRel me (nxt (nxt bs md (some (a1, f1))) (oEm (nI 10) (nI 0) (oNd 1 x1 md1)) (some (a2, f2))) (oLa j1 (oEm (nI 11) (nI 0) md3)) (some (a3, f3)) a3 md5 (some (.int x3))) :
    cRel me bs md (some (a3, fun bs hd => tCho bs hd (f1 bs hd) (f2 (bs + tl (f1 bs hd) + 1) hd) (f3 (bs + tl (f1 bs hd) + 1 + tl (f2 (bs + tl (f1 bs hd) + 1) hd) + 1) hd))) a3 (oLa j2 (oNd x2 x3 md5)) (some (.int x2)) := by
  have bad : oLa j2 (oNd x2 x3 (some none)) = some none := by rw [oNd_bad]; rfl
  rcases cRel_cases hm h1 with ⟨e1, -⟩ | ⟨f, e1, rfl, e2⟩ | ⟨f, q, y1, ev1, m1, F1, e1, rfl, e3, e4, rfl, e6, e7⟩
  · cases e1
  · cases e1
    rw [oNd_bad] at h2
    have g := cRel_bad' (f := f2) h2 hm3
    subst g
    have g := cRel_bad' (f := f3) h3 hm5
    subst g
    refine cRel_b hm bad (fun q hq => ?_)
    simp only [tCho, e2 q hq]
  · cases e1
    have hx1 : x1 = nI y1 := by simpa using e4
    subst hx1
    have y1' := (hz1 _ _ _ _ _ e3).1
    have b1 := hb1 _ rfl
    dsimp only at b1
    have hnx : nxt bs (some (some q)) (some (a1, f1)) = bs + ev1.length + 1 := by simp only [nxt, e3, tl]
    rw [hnx] at h2 h3
    by_cases hy : (1 : Int32) = nI y1
    · have hy0 : y1 = 1 := ((nI_eq (a := 1) (b := y1) (by omega) (by omega)).mp hy).symm
      subst hy0
      rw [oNd_t (show (1 : Int32) = nI 1 from rfl)] at h2 h3
      have hj1' := hj1 _ (oNd_t rfl)
      dsimp only at hj1'
      subst hj1'
      have hE1 : oEm (nI 10) (nI 0) (some (some (q.1 + cpos ev1, q.2.1, max q.2.2.1 m1, F1))) = some (some (q.1 + cpos ev1 + 1, q.2.1, max q.2.2.1 m1, emF (q.1 + cpos ev1) F1 (nI 10) (nI 0))) := by
        simp only [oEm, emC_lt (show q.1 + cpos ev1 < 240 by omega)]
      rw [hE1] at h2 h3
      rcases cRel_cases (by simp) h2 with ⟨g1, -⟩ | ⟨f, g1, rfl, g2⟩ | ⟨f, q2, y2, ev2, m2, F2, g1, g2, g3, g4, rfl, g6, g7⟩
      · cases g1
      · cases g1
        have g := cRel_bad' (f := f3) h3 hm5
        subst g
        refine cRel_b hm bad (fun q' hq' => ?_)
        cases hq'
        have := g2 _ rfl
        dsimp only at this
        simp only [tCho, e3, tl, this]
      · cases g1
        cases g2
        dsimp only at g3 g6 g7
        have hx2 : x2 = nI y2 := by simpa using g4
        subst hx2
        have y2' := (hz2 _ _ _ _ _ g3).1
        have b3 := hb3 _ rfl
        dsimp only at b3
        have hj2' := hj2 _ rfl
        dsimp only at hj2'
        subst hj2'
        have hnx2 : nxt (bs + ev1.length + 1) (some (some (q.1 + cpos ev1 + 1, q.2.1, max q.2.2.1 m1, emF (q.1 + cpos ev1) F1 (nI 10) (nI 0)))) (some (a2, f2)) = bs + ev1.length + 1 + ev2.length + 1 := by simp only [nxt, g3, tl]
        rw [hnx2] at h3
        have hE2 : oLa (q.1 + cpos ev1) (oEm (nI 11) (nI 0) (some (some (q.1 + cpos ev1 + 1 + cpos ev2, q.2.1, max (max q.2.2.1 m1) m2, F2)))) = some (some (q.1 + cpos ev1 + 1 + cpos ev2 + 1, q.2.1, max (max q.2.2.1 m1) m2, va_up (emF (q.1 + cpos ev1 + 1 + cpos ev2) F2 (nI 11) (nI 0)) (q.1 + cpos ev1) (emF (q.1 + cpos ev1 + 1 + cpos ev2) F2 (nI 11) (nI 0) (q.1 + cpos ev1) ||| nI (q.1 + cpos ev1 + 1 + cpos ev2 + 1) <<< ((4 : Int32) &&& 31)))) := by
          simp only [oEm, oLa, emC_lt (show q.1 + cpos ev1 + 1 + cpos ev2 < 240 by omega)]
          rw [if_pos (by omega)]
        rw [hE2] at h3
        rcases cRel_cases (by simp) h3 with ⟨k1, -⟩ | ⟨f, k1, rfl, k2⟩ | ⟨f, q3, y3, ev3, m3, F3, k1, k2, k3, k4, rfl, k6, k7⟩
        · cases k1
        · cases k1
          refine cRel_b hm bad (fun q' hq' => ?_)
          cases hq'
          have := k2 _ rfl
          dsimp only at this
          simp only [tCho, e3, tl, g3, this]
        · cases k1
          cases k2
          dsimp only at k3 k6 k7
          have hx3 : x3 = nI y3 := by simpa using k4
          subst hx3
          have y3' := (hz3 _ _ _ _ _ k3).1
          have b5 := hb5 _ rfl
          dsimp only at b5
          by_cases hz : nI y2 = nI y3
          · have hz0 : y2 = y3 := (nI_eq (by omega) (by omega)).mp hz
            subst hz0
            obtain ⟨o1, o2⟩ := choOk (hd := q.2.1) (y := y2) e6 e7 (by omega) g6 g7 (by omega) k6 k7 (by omega)
            refine cRel_o (F' := va_up F3 (q.1 + cpos ev1 + 1 + cpos ev2) (F3 (q.1 + cpos ev1 + 1 + cpos ev2) ||| nI (q.1 + cpos ev1 + 1 + cpos ev2 + 1 + cpos ev3) <<< ((4 : Int32) &&& 31))) rfl (m := max m1 (max m2 m3)) ?_ ?_ o1 o2
            · simp only [tCho, e3, tl, g3, k3, if_true]
            · rw [oNd_t rfl]
              simp only [oLa, Option.some.injEq, Prod.mk.injEq]
              refine ⟨?_, trivial, by omega, ?_⟩
              · simp only [cpos_app, cpos, kcl]
                simp
                omega
              · rw [if_pos (by omega)]
          · refine cRel_b hm (by rw [oNd_b2 hz]; rfl) (fun q' hq' => ?_)
            cases hq'
            simp only [tCho, e3, tl, g3, k3]
            rw [if_neg (fun e => hz (by rw [e]))]
    · have hy0 : y1 = 2 := by
        rcases y1' with e | e
        · rw [e] at hy; exact absurd rfl hy
        · exact e
      subst hy0
      rw [oNd_b2 hy] at h2 h3
      have g := cRel_bad' (f := f2) h2 hm3
      subst g
      have g := cRel_bad' (f := f3) h3 hm5
      subst g
      refine cRel_b hm bad (fun q' hq' => ?_)
      cases hq'
      simp only [tCho, e3]
theorem choRel {a1 a2 a3 j1 j2 : Nat} {md1 md3 md5 : cMd} {x1 x2 x3 : Int32} (hn : n ≤ 120) (hz : szs sub) (hm : md ≠ none) (hb1 : cBe a1 md1) (hb3 : cBe a2 md3) (hb5 : cBe a3 md5) (ha1 : a1 ≤ n) (ha2 : a2 ≤ n) (ha3 : a3 ≤ n)
    (hj1 : ∀ q, oNd 1 x1 md1 = some (some q) → j1 = q.1) (hj2 : ∀ q, md3 = some (some q) → j2 = q.1)
    (h1 : cRel me bs md (sub (a + 1)) a1 md1 (some (.int x1)))
    (h2 : cRel me (nxt bs md (sub (a + 1))) (oAt (pek t n a1 == 63) n a1 (a1 + 1) (oEm (nI 10) (nI 0) (oNd 1 x1 md1))).2 (sub (oAt (pek t n a1 == 63) n a1 (a1 + 1) (oEm (nI 10) (nI 0) (oNd 1 x1 md1))).1) a2 md3 (some (.int x2)))
    (h3 : cRel me (nxt (nxt bs md (sub (a + 1))) (oAt (pek t n a1 == 63) n a1 (a1 + 1) (oEm (nI 10) (nI 0) (oNd 1 x1 md1))).2 (sub (oAt (pek t n a1 == 63) n a1 (a1 + 1) (oEm (nI 10) (nI 0) (oNd 1 x1 md1))).1)) (oLa j1 (oAt (pek t n a2 == 58) n a2 (a2 + 1) (oEm (nI 11) (nI 0) md3)).2) (sub (oAt (pek t n a2 == 58) n a2 (a2 + 1) (oEm (nI 11) (nI 0) md3)).1) a3 md5 (some (.int x3))) :
    cRel me bs md (pCho t n sub a) (oAt (pek t n a3 == 93) n a3 (a3 + 1) (oLa j2 (oNd x2 x3 md5))).1 (oAt (pek t n a3 == 93) n a3 (a3 + 1) (oLa j2 (oNd x2 x3 md5))).2 (some (.int x2)) := by
  have key : ∀ {m : cMd}, m = none → (oAt (pek t n a3 == 93) n a3 (a3 + 1) (oLa j2 (oNd x2 x3 m))).2 = none := fun e => by rw [e]; exact oAt_none
  rcases cRel_syn hm h1 with ⟨e1, rfl⟩ | ⟨f1, e1, hm1⟩
  · rw [show (oAt (pek t n a1 == 63) n a1 (a1 + 1) (oEm (nI 10) (nI 0) (oNd 1 x1 none))).2 = none from oAt_none] at h2
    have g := cRel_n h2
    subst g
    rw [show oLa j1 (oAt (pek t n a2 == 58) n a2 (a2 + 1) (oEm (nI 11) (nI 0) none)).2 = none from by rw [oEm_none, oAt_none]; rfl] at h3
    refine cRel_f (key (cRel_n h3)) (fun _ => ?_)
    unfold pCho; rw [e1]
  rw [e1] at h1 h2 h3
  by_cases c1 : ¬ pek t n a1 = 63
  · rw [oAt_f (beq_f c1)] at h2
    have g := cRel_n h2
    subst g
    rw [show oLa j1 (oAt (pek t n a2 == 58) n a2 (a2 + 1) (oEm (nI 11) (nI 0) none)).2 = none from by rw [oEm_none, oAt_none]; rfl] at h3
    refine cRel_f (key (cRel_n h3)) (fun _ => ?_)
    unfold pCho; rw [e1]; simp only [c1, if_false]
  replace c1 := Classical.not_not.mp c1
  rw [oAt_t (beq_t c1)] at h2 h3
  dsimp only at h2 h3
  have hne : oEm (nI 10) (nI 0) (oNd 1 x1 md1) ≠ none := by
    rcases md1 with _ | _ | q
    · exact absurd rfl hm1
    · rw [oNd_bad]; simp [oEm]
    · by_cases z : (1 : Int32) = x1
      · rw [oNd_t z]; simp [oEm]
      · rw [oNd_b2 z]; simp [oEm]
  rcases cRel_syn hne h2 with ⟨e2, rfl⟩ | ⟨f2, e2, hm3⟩
  · rw [show oLa j1 (oAt (pek t n a2 == 58) n a2 (a2 + 1) (oEm (nI 11) (nI 0) none)).2 = none from by rw [oEm_none, oAt_none]; rfl] at h3
    refine cRel_f (key (cRel_n h3)) (fun _ => ?_)
    unfold pCho; rw [e1]; simp only [c1, if_true, e2]
  rw [e2] at h2 h3
  by_cases c2 : ¬ pek t n a2 = 58
  · rw [oAt_f (beq_f c2)] at h3
    refine cRel_f (key (cRel_n h3)) (fun _ => ?_)
    unfold pCho; rw [e1]; simp only [c1, if_true, e2, c2, if_false]
  replace c2 := Classical.not_not.mp c2
  rw [oAt_t (beq_t c2)] at h3
  dsimp only at h3
  have hne2 : oLa j1 (oEm (nI 11) (nI 0) md3) ≠ none := by
    rcases md3 with _ | _ | q
    · exact absurd rfl hm3
    · simp [oEm, oLa]
    · simp [oEm, oLa]
  rcases cRel_syn hne2 h3 with ⟨e3, rfl⟩ | ⟨f3, e3, hm5⟩
  · refine cRel_f (key rfl) (fun _ => ?_)
    unfold pCho; rw [e1]; simp only [c1, if_true, e2, c2, e3]
  rw [e3] at h3
  by_cases c3 : ¬ pek t n a3 = 93
  · rw [oAt_f (beq_f c3)]
    refine cRel_f rfl (fun _ => ?_)
    unfold pCho; rw [e1]; simp only [c1, if_true, e2, c2, e3, c3, if_false]
  replace c3 := Classical.not_not.mp c3
  rw [oAt_t (beq_t c3)]
  unfold pCho
  rw [e1]
  simp only [c1, if_true, e2, c2, e3, c3]
  exact cRel_shift (choTy hn (hz _ _ _ e1) (hz _ _ _ e2) (hz _ _ _ e3) hb1 hb3 hb5 ha1 ha2 ha3 hj1 hj2 hm hm1 hm3 hm5 h1 h2 h3)
theorem cBd_em1 {a1 : Nat} {md1 : cMd} {x1 x y : Int32} (h : cBe a1 md1) : cBd a1 (oEm x y (oNd 1 x1 md1)) := by
  intro q hq
  obtain ⟨p, e1, rfl⟩ := oEm_ok hq
  obtain ⟨-, e2⟩ := oNd_ok e1
  have := h p e2
  have : emC p.1 ≤ p.1 + 1 := by unfold emC; split <;> omega
  dsimp only
  omega
theorem cBd_em2 {a1 : Nat} {md1 : cMd} {x y : Int32} (h : cBe a1 md1) : cBd a1 (oEm x y md1) := by
  intro q hq
  obtain ⟨p, e1, rfl⟩ := oEm_ok hq
  have := h p e1
  have : emC p.1 ≤ p.1 + 1 := by unfold emC; split <;> omega
  dsimp only
  omega
theorem cBd_la {a1 j : Nat} {md1 : cMd} (h : cBd a1 md1) : cBd a1 (oLa j md1) := by
  intro q hq
  obtain ⟨p, e1, rfl⟩ := oLa_ok hq
  exact h p e1
theorem c_readChoice (hw : jok w) (hS : cS h0 u t n hs me sg) (hd : 2 ≤ d) (hE' : cSub l w h0 u n me dp d sub) (hc : cAt h0 h u n a md) (hb : cBd a md) (hp : pek t n a = 91) : jM l w yX0_readChoice cX0_readChoice 5 (some .int) (d + 1) [.ref (jad w 13), .int (nI dp)] h (fun r h' => ∃ a' md', cAt h0 h' u n a' md' ∧ cRel me bs md (pCho t n sub a) a' md' r) := by
  refine jM_of (by decide) hw (Nat.le_of_ble_eq_true rfl) ?_
  intro X C hl hR hnL hrt hE
  subst hl
  have C : jC X w cX0_readChoice RX0 := C
  have hm := cAt_ne hc hp (by decide)
  have hn := cS_n hS
  obtain ⟨k3, k4, k5, k6, k7⟩ := jk_unit u hS.u7
  show J X w h 0 [(0, .ref (jad w 13)), (1, .int (nI dp))] []
  refine k_aload_n C dX0_readChoice_0 rfl ?_
  refine j_bipush (v := 91) C dX0_readChoice_1 (by decide) ?_
  refine k_callV (k := 13) (ci := 0) (As := [.int (nI 91)]) C mX0_68 (t_take hw hS hc (ch := 91) (by decide) (by decide)) jCl0.1 (by first | decide | omega) (by first | assumption | rfl) rfl rfl (Nat.le_of_ble_eq_true rfl) (jroom hR (by first | decide | omega) (by decide)) dX0_readChoice_3 ?_
  rintro v9 h9 ⟨rfl, hc⟩
  simp only [oAt, hp, beq_self_eq_true, if_true] at hc
  refine k_aload_n C dX0_readChoice_6 rfl ?_
  refine j_iconst (v := 1) C dX0_readChoice_7 (by decide) ?_
  refine k_aload_n C dX0_readChoice_8 rfl ?_
  refine k_iload_n C dX0_readChoice_9 rfl ?_
  refine k_callV (k := 13) (ci := 0) (As := [.int (nI dp)]) C mX0_123 (hE'.2.2 _ (a + 1) bs md hc (fun q e => by have := hb q e; omega)) jCl0.1 (by first | decide | omega) (by first | assumption | rfl) rfl rfl (Nat.le_of_ble_eq_true rfl) (jroom hR (by first | decide | omega) (by decide)) dX0_readChoice_10 ?_
  rintro v9 h9 ⟨a1, md1, hc, hr1⟩
  obtain ⟨x1, rfl⟩ := cRel_int hr1
  have hb1 := cRel_bd hE'.1 hE'.2.1 (fun q e => by have := hb q e; omega) hr1
  have ha1 := hc.1
  refine k_callV (k := 13) (ci := 0) (As := [.int 1, .int x1]) C mX0_127 (t_need hw hS hc 1 x1) jCl0.1 (by first | decide | omega) (by first | assumption | rfl) rfl rfl (Nat.le_of_ble_eq_true rfl) (jroom hR (by first | decide | omega) (by decide)) dX0_readChoice_13 ?_
  rintro v9 h9 ⟨rfl, hc⟩
  refine k_aload_n C dX0_readChoice_16 rfl ?_
  refine j_getr C fX0_22 rfl (by first | decide | omega) (by first | assumption | rfl) (cAt_un hS hc) dX0_readChoice_17 ?_
  refine j_bipush (v := 10) C dX0_readChoice_20 (by decide) ?_
  refine j_iconst (v := 0) C dX0_readChoice_22 (by decide) ?_
  refine k_callV (k := ub u) (ci := 3) (As := [.int (nI 10), .int (nI 0)]) C mX0_131 (t_emit hw hS hc (nI 10) (nI 0)) jCl3.1 (by first | decide | omega) (by first | assumption | rfl) rfl rfl (Nat.le_of_ble_eq_true rfl) (jroom hR (by first | decide | omega) (by decide)) dX0_readChoice_23 ?_
  rintro v9 h9 ⟨⟨j1, hj1l, rfl, hj1⟩, hc⟩
  refine k_istore_n C dX0_readChoice_26 (by rw [hnL]; decide) ?_
  refine k_aload_n C dX0_readChoice_27 rfl ?_
  refine j_bipush (v := 63) C dX0_readChoice_28 (by decide) ?_
  refine k_callV (k := 13) (ci := 0) (As := [.int (nI 63)]) C mX0_68 (t_take hw hS hc (ch := 63) (by decide) (by decide)) jCl0.1 (by first | decide | omega) (by first | assumption | rfl) rfl rfl (Nat.le_of_ble_eq_true rfl) (jroom hR (by first | decide | omega) (by decide)) dX0_readChoice_30 ?_
  rintro v9 h9 ⟨rfl, hc⟩
  refine k_aload_n C dX0_readChoice_33 rfl ?_
  refine k_iload_n C dX0_readChoice_34 rfl ?_
  refine k_callV (k := 13) (ci := 0) (As := [.int (nI dp)]) C mX0_123 (hE'.2.2 _ _ (nxt bs md (sub (a + 1))) _ hc (cBd_at (cBd_em1 hb1) (by omega))) jCl0.1 (by first | decide | omega) (by first | assumption | rfl) rfl rfl (Nat.le_of_ble_eq_true rfl) (jroom hR (by first | decide | omega) (by decide)) dX0_readChoice_35 ?_
  rintro v9 h9 ⟨a2, md3, hc, hr2⟩
  obtain ⟨x2, rfl⟩ := cRel_int hr2
  have hb3 := cRel_bd hE'.1 hE'.2.1 (cBd_at (cBd_em1 hb1) (by omega)) hr2
  have ha2 := hc.1
  refine k_istore_n C dX0_readChoice_38 (by rw [hnL]; decide) ?_
  refine k_aload_n C dX0_readChoice_39 rfl ?_
  refine j_getr C fX0_22 rfl (by first | decide | omega) (by first | assumption | rfl) (cAt_un hS hc) dX0_readChoice_40 ?_
  refine j_bipush (v := 11) C dX0_readChoice_43 (by decide) ?_
  refine j_iconst (v := 0) C dX0_readChoice_45 (by decide) ?_
  refine k_callV (k := ub u) (ci := 3) (As := [.int (nI 11), .int (nI 0)]) C mX0_131 (t_emit hw hS hc (nI 11) (nI 0)) jCl3.1 (by first | decide | omega) (by first | assumption | rfl) rfl rfl (Nat.le_of_ble_eq_true rfl) (jroom hR (by first | decide | omega) (by decide)) dX0_readChoice_46 ?_
  rintro v9 h9 ⟨⟨j2, hj2l, rfl, hj2⟩, hc⟩
  refine k_istore C dX0_readChoice_49 (by rw [hnL]; decide) ?_
  refine k_aload_n C dX0_readChoice_51 rfl ?_
  refine j_bipush (v := 58) C dX0_readChoice_52 (by decide) ?_
  refine k_callV (k := 13) (ci := 0) (As := [.int (nI 58)]) C mX0_68 (t_take hw hS hc (ch := 58) (by decide) (by decide)) jCl0.1 (by first | decide | omega) (by first | assumption | rfl) rfl rfl (Nat.le_of_ble_eq_true rfl) (jroom hR (by first | decide | omega) (by decide)) dX0_readChoice_54 ?_
  rintro v9 h9 ⟨rfl, hc⟩
  refine k_aload_n C dX0_readChoice_57 rfl ?_
  refine j_getr C fX0_22 rfl (by first | decide | omega) (by first | assumption | rfl) (cAt_un hS hc) dX0_readChoice_58 ?_
  refine k_iload_n C dX0_readChoice_61 rfl ?_
  refine k_callV (k := ub u) (ci := 3) (As := [.int (nI j1)]) C mX0_173 (t_landHere hw hS hc hj1l) jCl3.1 (by first | decide | omega) (by first | assumption | rfl) rfl rfl (Nat.le_of_ble_eq_true rfl) (jroom hR (by first | decide | omega) (by decide)) dX0_readChoice_62 ?_
  rintro v9 h9 ⟨rfl, hc⟩
  refine k_aload_n C dX0_readChoice_65 rfl ?_
  refine k_iload_n C dX0_readChoice_66 rfl ?_
  refine k_aload_n C dX0_readChoice_67 rfl ?_
  refine k_iload_n C dX0_readChoice_68 rfl ?_
  refine k_callV (k := 13) (ci := 0) (As := [.int (nI dp)]) C mX0_123 (hE'.2.2 _ _ (nxt (nxt bs md (sub (a + 1))) (oAt (pek t n a1 == 63) n a1 (a1 + 1) (oEm (nI 10) (nI 0) (oNd 1 x1 md1))).2 (sub (oAt (pek t n a1 == 63) n a1 (a1 + 1) (oEm (nI 10) (nI 0) (oNd 1 x1 md1))).1)) _ hc (cBd_la (cBd_at (cBd_em2 hb3) (by omega)))) jCl0.1 (by first | decide | omega) (by first | assumption | rfl) rfl rfl (Nat.le_of_ble_eq_true rfl) (jroom hR (by first | decide | omega) (by decide)) dX0_readChoice_69 ?_
  rintro v9 h9 ⟨a3, md5, hc, hr3⟩
  obtain ⟨x3, rfl⟩ := cRel_int hr3
  have hb5 := cRel_bd hE'.1 hE'.2.1 (cBd_la (cBd_at (cBd_em2 hb3) (by omega))) hr3
  have ha3 := hc.1
  refine k_callV (k := 13) (ci := 0) (As := [.int x2, .int x3]) C mX0_127 (t_need hw hS hc x2 x3) jCl0.1 (by first | decide | omega) (by first | assumption | rfl) rfl rfl (Nat.le_of_ble_eq_true rfl) (jroom hR (by first | decide | omega) (by decide)) dX0_readChoice_72 ?_
  rintro v9 h9 ⟨rfl, hc⟩
  refine k_aload_n C dX0_readChoice_75 rfl ?_
  refine j_getr C fX0_22 rfl (by first | decide | omega) (by first | assumption | rfl) (cAt_un hS hc) dX0_readChoice_76 ?_
  refine k_iload C dX0_readChoice_79 rfl ?_
  refine k_callV (k := ub u) (ci := 3) (As := [.int (nI j2)]) C mX0_173 (t_landHere hw hS hc hj2l) jCl3.1 (by first | decide | omega) (by first | assumption | rfl) rfl rfl (Nat.le_of_ble_eq_true rfl) (jroom hR (by first | decide | omega) (by decide)) dX0_readChoice_81 ?_
  rintro v9 h9 ⟨rfl, hc⟩
  refine k_aload_n C dX0_readChoice_84 rfl ?_
  refine j_bipush (v := 93) C dX0_readChoice_85 (by decide) ?_
  refine k_callV (k := 13) (ci := 0) (As := [.int (nI 93)]) C mX0_68 (t_take hw hS hc (ch := 93) (by decide) (by decide)) jCl0.1 (by first | decide | omega) (by first | assumption | rfl) rfl rfl (Nat.le_of_ble_eq_true rfl) (jroom hR (by first | decide | omega) (by decide)) dX0_readChoice_87 ?_
  rintro v9 h9 ⟨rfl, hc⟩
  refine k_iload_n C dX0_readChoice_90 rfl ?_
  exact j_iret C hrt hE dX0_readChoice_91 (⟨_, _, hc, choRel hn hE'.2.1 hm hb1 hb3 hb5 ha1 ha2 ha3 hj1 hj2 hr1 hr2 hr3⟩)
end RD8
end
section
/-- the arguments read so far, in the class: mode and words -/
def aRel (me bs : Nat) (md : cMd) (q : Nat → Nat → TA) (md' : cMd) (wd : Int32) : Prop := match md with
  | none => md' = none
  | some none => md' = some none
  | some (some z) => match q bs z.2.1 with
    | none => md' = some none
    | some v => z.2.1 ≤ v.2.2 ∧ wd = nI (v.2.2 - z.2.1) ∧ ∃ F' : Nat → Int32, md' = some (some (z.1 + cpos v.1, v.2.2, max z.2.2.1 v.2.1, F')) ∧ (∀ p, p < z.1 → F' p = z.2.2.2 p) ∧ ∀ P : Nat → Nat, P bs = z.1 → cmp P bs v.1 → Rep F' me P bs v.1
def bsA (bs : Nat) (md : cMd) (q : Nat → Nat → TA) : Nat := match md with
  | some (some z) => (match q bs z.2.1 with
    | some v => bs + v.1.length
    | none => 0)
  | _ => 0
section RD9
variable {l : Launch} {w : jW} {h0 h : jH} {u : Nat} {t : Nat → Nat} {n : Nat} {hs : List (Nat × Nat × Nat)} {me sg bs : Nat} {a a' : Nat} {md md' : cMd} {r : Option Value} {dp d : Nat} {sub : Nat → PR}
theorem argOk {F F1 F2 : Nat → Int32} {e1 e2 : List Ev} {c y hc : Nat} (hy : y = 1 ∨ y = 2) (l1 : ∀ p, p < c → F1 p = F p) (r1 : ∀ P : Nat → Nat, P bs = c → cmp P bs e1 → Rep F1 me P bs e1)
    (l2 : ∀ p, p < c + cpos e1 → F2 p = F1 p) (r2 : ∀ P : Nat → Nat, P (bs + e1.length) = c + cpos e1 → cmp P (bs + e1.length) e2 → Rep F2 me P (bs + e1.length) e2) (h2 : c + cpos e1 + cpos e2 < 240) :
    (∀ p, p < c → emF (c + cpos e1 + cpos e2) F2 (nI (2 + y)) (nI 0) p = F p) ∧ ∀ P : Nat → Nat, P bs = c → cmp P bs (e1 ++ (e2 ++ [(2 + y, 0, hc, y)])) → Rep (emF (c + cpos e1 + cpos e2) F2 (nI (2 + y)) (nI 0)) me P bs (e1 ++ (e2 ++ [(2 + y, 0, hc, y)])) := by
  refine ⟨fun p hp => ?_, fun P hP hc => ?_⟩
  · rw [emF_low (by omega), l2 p (by omega), l1 p hp]
  · rw [cmp_app] at hc
    obtain ⟨c1, c2⟩ := hc
    rw [cmp_app] at c2
    obtain ⟨c5, c6⟩ := c2
    have p1 := cmp_end e1 bs c1
    have p2 := cmp_end e2 _ c5
    rw [Rep_app]
    refine ⟨?_, ?_⟩
    · exact Rep_low (c := c + cpos e1) (by omega) c1 (fun p hp => by rw [emF_low (by omega), l2 p hp]) (r1 P hP c1)
    · rw [Rep_app]
      refine ⟨?_, ?_⟩
      · exact Rep_low (c := c + cpos e1 + cpos e2) (by omega) c5 (fun p hp => emF_low (by omega)) (r2 P (by omega) c5)
      · refine rep_emit h2 (by omega) (by omega) (by omega) ?_
        rcases hy with rfl | rfl <;> rfl
theorem nd_z {x : Int32} {s k : Nat} (hx : x = nI s) : x = nI s := hx
theorem aStep {cs : Option Nat} {q : Nat → Nat → TA} {g : Nat → Nat → TI} {k ak a1 : Nat} {mk md1 : cMd} {x wd : Int32} (hn : n ≤ 120) (hzg : sz ak a1 g) (hb1 : cBe a1 md1) (ha1 : a1 ≤ n) (hmk : mk ≠ none) (hm1 : md1 ≠ none) (hm : md ≠ none)
    (hA : aRel me bs md q mk wd) (h : cRel me (bsA bs md q) mk (some (a1, g)) a1 md1 (some (.int x))) :
    aRel me bs md (fun bs hd => tArg cs k (q bs hd) g bs) (oHo x.toNatClampNeg (oNd (nI (ta (cs.getD 0) (k + 1))) x md1)) (wd + x) := by
  rcases md with _ | _ | z
  · exact absurd rfl hm
  · have : mk = some none := hA
    subst this
    have := cRel_bad' (f := g) h hm1
    subst this
    show oHo _ (oNd _ _ (some none)) = some none
    rw [oNd_bad]; rfl
  · show (match tArg cs k (q bs z.2.1) g bs with
      | none => _
      | some v => _)
    have hA' : (match q bs z.2.1 with
      | none => mk = some none
      | some v => z.2.1 ≤ v.2.2 ∧ wd = nI (v.2.2 - z.2.1) ∧ ∃ F' : Nat → Int32, mk = some (some (z.1 + cpos v.1, v.2.2, max z.2.2.1 v.2.1, F')) ∧ (∀ p, p < z.1 → F' p = z.2.2.2 p) ∧ ∀ P : Nat → Nat, P bs = z.1 → cmp P bs v.1 → Rep F' me P bs v.1) := hA
    rcases hq : q bs z.2.1 with _ | ⟨e1, m1, hc1⟩
    · rw [hq] at hA'
      have : mk = some none := hA'
      subst this
      have := cRel_bad' (f := g) h hm1
      subst this
      have e : tArg cs k none g bs = none := by unfold tArg; cases cs <;> rfl
      rw [e]
      show oHo _ (oNd _ _ (some none)) = some none
      rw [oNd_bad]; rfl
    · rw [hq] at hA'
      obtain ⟨b1, b2, F1, rfl, l1, r1⟩ := hA'
      dsimp only at b1 b2 l1 r1
      have hbs : bsA bs (some (some z)) q = bs + e1.length := by simp only [bsA, hq]
      rw [hbs] at h
      rcases cRel_cases (by simp) h with ⟨g1, -⟩ | ⟨f, g1, rfl, g2⟩ | ⟨f, q2, y, ev2, m2, F2, g1, g2, g3, g4, rfl, g6, g7⟩
      · cases g1
      · cases g1
        have g2' := g2 _ rfl
        dsimp only at g2'
        have e : tArg cs k (some (e1, m1, hc1)) g bs = none := by unfold tArg; cases cs <;> simp [g2']
        rw [e]
        show oHo _ (oNd _ _ (some none)) = some none
        rw [oNd_bad]; rfl
      · cases g1
        cases g2
        dsimp only at g3 g6 g7
        have hx : x = nI y := by simpa using g4
        subst hx
        have hy := (hzg _ _ _ _ _ g3).1
        have b5 := hb1 _ rfl
        dsimp only at b5
        have ht := ta_le (cs.getD 0) (k + 1)
        rw [nI_clamp (by omega)]
        by_cases hz : nI (ta (cs.getD 0) (k + 1)) = nI y
        · have hz0 : ta (cs.getD 0) (k + 1) = y := (nI_eq (by omega) (by omega)).mp hz
          rcases cs with _ | s
          · exfalso
            have : ta 0 (k + 1) = 0 := by unfold ta; split <;> simp
            simp only [Option.getD] at hz0
            omega
          · simp only [Option.getD] at hz0
            have e : tArg (some s) k (some (e1, m1, hc1)) g bs = some (e1 ++ (ev2 ++ [(2 + y, 0, hc1, y)]), max m1 (max m2 (hc1 + y)), hc1 + y) := by
              simp only [tArg, g3, hz0, if_true]
            rw [e]
            obtain ⟨o1, o2⟩ := argOk (hc := hc1) hy l1 r1 g6 g7 (by omega)
            refine ⟨by dsimp only; omega, by rw [b2, nI_add]; congr 1; dsimp only; omega, emF (z.1 + cpos e1 + cpos ev2) F2 (nI (2 + y)) (nI 0), ?_, o1, o2⟩
            rw [show (some s).getD 0 = s from rfl, hz0, oNd_t rfl]
            have e2 : (if y = 2 then (4 : Int32) else 3) = nI (2 + y) := by rcases hy with rfl | rfl <;> rfl
            have e3 : kcl (2 + y, 0, hc1, y) = 1 := by simp only [kcl]; rw [if_neg (by omega)]
            simp only [oHo, e2, Option.some.injEq, Prod.mk.injEq]
            refine ⟨?_, trivial, by omega, rfl⟩
            rw [emC_lt (by omega)]
            simp only [cpos_app, cpos, e3]
            omega
        · have e : tArg cs k (some (e1, m1, hc1)) g bs = none := by
            rcases cs with _ | s
            · rfl
            · simp only [tArg, g3]
              rw [if_neg (fun e => hz (by rw [show (some s).getD 0 = s from rfl, e]))]
          rw [e]
          show oHo _ (oNd _ _ _) = some none
          rw [oNd_b2 hz]; rfl
theorem aRel_ne {q : Nat → Nat → TA} {mk : cMd} {wd : Int32} (hm : md ≠ none) (hA : aRel me bs md q mk wd) : mk ≠ none := by
  rcases md with _ | _ | z
  · exact absurd rfl hm
  · have : mk = some none := hA
    rw [this]; simp
  · unfold aRel at hA
    split at hA
    · cases ‹some (some z) = none›
    · rw [hA]; simp
    · next z' e =>
      split at hA
      · rw [hA]; simp
      · obtain ⟨-, -, F', e, -⟩ := hA
        rw [e]; simp
end RD9
end
section
/-- what readArguments has done -/
def gRel (me bs : Nat) (md : cMd) (s : Nat) (R : Option (Nat × Nat × (Nat → Nat → TA))) (a' : Nat) (md' : cMd) : Prop := match md, R with
  | none, _ => md' = none
  | some _, none => md' = none
  | some none, some p => a' = p.1 ∧ md' = some none
  | some (some z), some p => a' = p.1 ∧ match p.2.2 bs z.2.1 with
    | none => md' = some none
    | some v => if ta s (p.2.1 + 1) = 0 then ∃ F' : Nat → Int32, md' = some (some (z.1 + cpos v.1, z.2.1, max z.2.2.1 v.2.1, F')) ∧ (∀ p, p < z.1 → F' p = z.2.2.2 p) ∧ ∀ P : Nat → Nat, P bs = z.1 → cmp P bs v.1 → Rep F' me P bs v.1 else md' = some none
theorem j_drop {X : jX} {w : jW} {h : jH} {pc : Nat} {lv ex : List (Nat × Value)} {r : List Value} (k : J X w h pc lv r) : J X w h pc (lv ++ ex) r := j_mono (fun q hq => List.mem_append_left _ hq) k
section RDA
variable {l : Launch} {w : jW} {h0 h : jH} {u : Nat} {t : Nat → Nat} {n : Nat} {hs : List (Nat × Nat × Nat)} {me sg bs : Nat} {a a' : Nat} {md md' : cMd} {r : Option Value} {dp d : Nat} {sub : Nat → PR}
theorem gFin {cs : Option Nat} {q : Nat → Nat → TA} {k a1 : Nat} {mk : cMd} {wd : Int32} (hn : n ≤ 120) (ha1 : a1 ≤ n) (hbk : cBd a1 mk) (hm : md ≠ none) (hA : aRel me bs md q mk wd) : gRel me bs md (cs.getD 0) (some (a1, k, q)) a1 (oRl wd.toNatClampNeg (oNd 0 (nI (ta (cs.getD 0) (k + 1))) mk)) := by
  have ht := ta_le (cs.getD 0) (k + 1)
  rcases md with _ | _ | z
  · exact absurd rfl hm
  · have : mk = some none := hA
    subst this
    exact ⟨rfl, by rw [oNd_bad]; rfl⟩
  · refine ⟨rfl, ?_⟩
    unfold aRel at hA
    simp only at hA
    show (match q bs z.2.1 with
      | none => _
      | some v => _)
    rcases hq : q bs z.2.1 with _ | ⟨e, m, hc⟩
    · rw [hq] at hA
      have : mk = some none := hA
      subst this
      show oRl _ (oNd _ _ (some none)) = some none
      rw [oNd_bad]; rfl
    · rw [hq] at hA
      obtain ⟨b1, b2, F', rfl, l1, r1⟩ := hA
      dsimp only at b1 b2 l1 r1
      show (if ta (cs.getD 0) (k + 1) = 0 then _ else _)
      by_cases hz : ta (cs.getD 0) (k + 1) = 0
      · rw [if_pos hz]
        refine ⟨F', ?_, l1, r1⟩
        rw [hz, oNd_t (show (0 : Int32) = nI 0 from rfl)]
        have b9 := hbk _ rfl
        dsimp only at b9
        rw [b2, nI_clamp (by omega)]
        simp only [oRl, Option.some.injEq, Prod.mk.injEq]
        refine ⟨trivial, by omega, trivial⟩
      · have hz9 : ¬ (0 : Int32) = nI (ta (cs.getD 0) (k + 1)) := fun e => hz ((nI_eq (a := ta (cs.getD 0) (k + 1)) (b := 0) (by omega) (by omega)).mp e.symm)
        rw [if_neg hz, oNd_b2 hz9]
        rfl
theorem aRel_0 {wd : Int32} (hw : wd = 0) : aRel me bs md (fun _ hd => some ([], 0, hd)) md wd := by
  rcases md with _ | _ | z
  · rfl
  · rfl
  · refine ⟨Nat.le_refl _, by rw [hw]; dsimp only; rw [Nat.sub_self]; rfl, z.2.2.2, ?_, fun _ _ => rfl, fun _ _ _ => trivial⟩
    simp [cpos]
theorem hold_ok2 {a1 : Nat} {md1 : cMd} {x y : Int32} {ak : Nat} {mk : cMd} {b9 : Nat} {sub : Nat → PR} (hn : n ≤ 120) (ha : a1 ≤ n) (hz : szs sub) (h : cBe a1 md1) (hr : cRel me b9 mk (sub ak) a1 md1 (some (.int x))) : ∀ q, oNd y x md1 = some (some q) → x = nI x.toNatClampNeg ∧ x.toNatClampNeg ≤ 2 ∧ q.2.1 ≤ 1000 ∧ q.2.2.1 ≤ 1000 := by
  intro q hq
  obtain ⟨-, e2⟩ := oNd_ok hq
  subst e2
  have := h q rfl
  rcases mk with _ | m
  · cases hr.1
  · rcases cRel_cases (by simp) hr with ⟨-, e⟩ | ⟨f, -, e, -⟩ | ⟨f, p, z, e, m2, F', e1, e2, e3, e4, e5, -⟩
    · cases e
    · cases e
    · have hx : x = nI z := by simpa using e4
      have := (hz _ _ _ e1 _ _ _ _ _ e3).1
      subst hx
      rw [nI_clamp (by omega)]
      exact ⟨rfl, by omega, by omega, by omega⟩
theorem cBd_hold2 {a1 : Nat} {md1 : cMd} {x y : Int32} (h : cBe a1 md1) (hx : ∀ q, oNd y x md1 = some (some q) → x.toNatClampNeg ≤ 2) : cBd a1 (oHo x.toNatClampNeg (oNd y x md1)) := by
  intro q hq
  obtain ⟨p, e1, rfl⟩ := oHo_ok hq
  have hx' := hx p e1
  obtain ⟨-, e2⟩ := oNd_ok e1
  have := h p e2
  have : emC p.1 ≤ p.1 + 1 := by unfold emC; split <;> omega
  dsimp only
  omega
theorem cBd_up {a1 a2 : Nat} (h : cBd a1 md) (h2 : a1 ≤ a2) : cBd a2 md := fun q e => by have := h q e; omega
theorem aRel_wd {q : Nat → Nat → TA} {mk : cMd} {wd y z0 : Int32} {a1 : Nat} (hn : n ≤ 120) (ha1 : a1 ≤ n) (hbk : cBd a1 mk) (hA : aRel me bs md q mk wd) : ∀ z, oNd y z0 mk = some (some z) → wd = nI wd.toNatClampNeg ∧ wd.toNatClampNeg ≤ z.2.1 := by
  intro z hz
  obtain ⟨-, e⟩ := oNd_ok hz
  subst e
  have b := hbk z rfl
  rcases md with _ | _ | p
  · cases hA
  · cases hA
  · unfold aRel at hA
    simp only at hA
    split at hA
    · cases hA
    · obtain ⟨b1, b2, F', e, -⟩ := hA
      simp only [Option.some.injEq] at e
      subst e
      dsimp only at b
      rw [b2, nI_clamp (by omega)]
      exact ⟨rfl, by dsimp only; omega⟩
theorem c_readArguments (hw : jok w) (hS : cS h0 u t n hs me sg) (hd : 2 ≤ d) (hE' : cSub l w h0 u n me dp d sub) {cs : Option Nat} (hcs : cs.getD 0 < 256) (h1a : 1 ≤ a ∨ md = none) (hc : cAt h0 h u n a md) (hb : cBd a md) : jM l w yX0_readArguments cX0_readArguments 8 none (d + 1) [.ref (jad w 13), .int (nI (cs.getD 0)), .int (nI dp)] h (fun r h' => r = none ∧ ∃ a' md', cAt h0 h' u n a' md' ∧ gRel me bs md (cs.getD 0) (if pek t n a = 41 then some (a, 0, fun _ hd => some ([], 0, hd)) else pArgs t n sub cs (n - a) 0 a (fun _ hd => some ([], 0, hd))) a' md') := by
  refine jM_of (by decide) hw (Nat.le_of_ble_eq_true rfl) ?_
  intro X C hl hR hnL hrt hE
  subst hl
  have C : jC X w cX0_readArguments RX0 := C
  have hn := cS_n hS
  obtain ⟨s, hs9⟩ : ∃ s, s = cs.getD 0 := ⟨_, rfl⟩
  rw [← hs9] at hcs hE ⊢
  show J X w h 0 [(0, .ref (jad w 13)), (1, .int (nI s)), (2, .int (nI dp))] []
  have fin : ∀ (h : jH) (a1 k : Nat) (mk : cMd) (wd mo i : Int32), k < 900 → cAt h0 h u n a1 mk → (gRel me bs md s (if pek t n a = 41 then some (a, 0, fun _ hd => some ([], 0, hd)) else pArgs t n sub cs (n - a) 0 a (fun _ hd => some ([], 0, hd))) a1 (oRl wd.toNatClampNeg (oNd 0 (nI (ta s (k + 1))) mk)) ∧ ∀ z, oNd 0 (nI (ta s (k + 1))) mk = some (some z) → wd = nI wd.toNatClampNeg ∧ wd.toNatClampNeg ≤ z.2.1) → J X w h 84 [(0, .ref (jad w 13)), (1, .int (nI s)), (2, .int (nI dp)), (3, .int (nI k)), (4, .int wd), (5, .int mo), (6, .int i)] [] := by
    intro h a1 k mk wd mo i hk hc hg
    obtain ⟨hg1, hg2⟩ := hg
    refine k_aload_n C dX0_readArguments_84 rfl ?_
    refine j_iconst (v := 0) C dX0_readArguments_85 (by decide) ?_
    refine k_iload_n C dX0_readArguments_86 rfl ?_
    refine k_iload_n C dX0_readArguments_87 rfl ?_
    refine j_iconst (v := 1) C dX0_readArguments_88 (by decide) ?_
    refine j_iadd C dX0_readArguments_89 ?_
    rw [nI_1]
    refine k_callS (As := [.int (nI s), .int (nI (k + 1))]) C mX0_120 (m_typeAt hw hcs (k := k + 1) (by omega)) rfl rfl (Nat.le_of_ble_eq_true rfl) (jroom hR (by first | decide | omega) (by decide)) dX0_readArguments_90 ?_
    rintro v9 h9 ⟨rfl, rfl⟩
    refine k_callV (k := 13) (ci := 0) (As := [.int 0, .int (nI (ta s (k + 1)))]) C mX0_127 (t_need hw hS hc 0 (nI (ta s (k + 1)))) jCl0.1 (by first | decide | omega) (by first | assumption | rfl) rfl rfl (Nat.le_of_ble_eq_true rfl) (jroom hR (by first | decide | omega) (by decide)) dX0_readArguments_93 ?_
    rintro v9 h9 ⟨rfl, hc⟩
    refine k_aload_n C dX0_readArguments_96 rfl ?_
    refine k_iload C dX0_readArguments_97 rfl ?_
    refine k_callV (k := 13) (ci := 0) (As := [.int wd]) C mX0_142 (t_release hw hS hc wd wd.toNatClampNeg hg2) jCl0.1 (by first | decide | omega) (by first | assumption | rfl) rfl rfl (Nat.le_of_ble_eq_true rfl) (jroom hR (by first | decide | omega) (by decide)) dX0_readArguments_99 ?_
    rintro v9 h9 ⟨rfl, hc⟩
    exact j_vret C hrt hE dX0_readArguments_102 (⟨rfl, _, _, hc, hg1⟩)
  have out : ∀ (h : jH) (a1 k : Nat) (mk : cMd) (wd i : Int32), k < 900 → cAt h0 h u n a1 mk → (gRel me bs md s (if pek t n a = 41 then some (a, 0, fun _ hd => some ([], 0, hd)) else pArgs t n sub cs (n - a) 0 a (fun _ hd => some ([], 0, hd))) a1 (oRl wd.toNatClampNeg (oNd 0 (nI (ta s (k + 1))) mk)) ∧ ∀ z, oNd 0 (nI (ta s (k + 1))) mk = some (some z) → wd = nI wd.toNatClampNeg ∧ wd.toNatClampNeg ≤ z.2.1) → J X w h 24 [(0, .ref (jad w 13)), (1, .int (nI s)), (2, .int (nI dp)), (3, .int (nI k)), (4, .int wd), (5, .int 0), (6, .int i)] [] := by
    intro h a1 k mk wd i hk hc hg
    refine k_iload C dX0_readArguments_24 rfl ?_
    refine j_bipush (v := 120) C dX0_readArguments_26 (by decide) ?_
    refine j_icmp_ge C 84 dX0_readArguments_28 (by decide) (fun c28 => ?_) (fun c28 => ?_)
    · exact fin h a1 k mk wd 0 i hk hc hg
    · refine k_iload C dX0_readArguments_31 rfl ?_
      refine j_if_eq C 84 dX0_readArguments_33 (by decide) (fun c33 => ?_) (fun c33 => ?_)
      · exact fin h a1 k mk wd 0 i hk hc hg
      · exact absurd rfl c33 -- stop
  have iter : ∀ (h : jH) (k ak b9 : Nat) (mk : cMd) (wd : Int32), k < 120 → cAt h0 h u n ak mk → cBd ak mk → (∀ (h' : jH) (a1 : Nat) (md1 : cMd) (x : Int32), a1 ≤ n → (md1 = none → a1 = n) → cBe a1 md1 → cRel me b9 mk (sub ak) a1 md1 (some (.int x)) → cBd a1 (oHo x.toNatClampNeg (oNd (nI (ta s (k + 1))) x md1)) → cAt h0 h' u n (if pek t n a1 = 44 then a1 + 1 else a1) (oHo x.toNatClampNeg (oNd (nI (ta s (k + 1))) x md1)) → J X w h' 24 [(0, .ref (jad w 13)), (1, .int (nI s)), (2, .int (nI dp)), (3, .int (nI (k + 1))), (4, .int (wd + x)), (5, .int (if pek t n a1 = 44 then 1 else 0)), (6, .int (nI (k + 1)))] []) → J X w h 24 [(0, .ref (jad w 13)), (1, .int (nI s)), (2, .int (nI dp)), (3, .int (nI k)), (4, .int wd), (5, .int 1), (6, .int (nI k))] [] := by
    intro h k ak b9 mk wd hk hc hb kk
    refine k_iload C dX0_readArguments_24 rfl ?_
    refine j_bipush (v := 120) C dX0_readArguments_26 (by decide) ?_
    refine j_icmp_ge C 84 dX0_readArguments_28 (by decide) (fun c28 => ?_) (fun c28 => ?_)
    · exact absurd c28 (nI_ge (a := k) (b := 120) (by omega) (by omega)) -- stop
    · refine k_iload C dX0_readArguments_31 rfl ?_
      refine j_if_eq C 84 dX0_readArguments_33 (by decide) (fun c33 => ?_) (fun c33 => ?_)
      · exact absurd c33 (by decide) -- stop
      · refine k_aload_n C dX0_readArguments_36 rfl ?_
        refine k_iload_n C dX0_readArguments_37 rfl ?_
        refine k_callV (k := 13) (ci := 0) (As := [.int (nI dp)]) C mX0_123 (hE'.2.2 _ ak b9 mk hc hb) jCl0.1 (by first | decide | omega) (by first | assumption | rfl) rfl rfl (Nat.le_of_ble_eq_true rfl) (jroom hR (by first | decide | omega) (by decide)) dX0_readArguments_38 ?_
        rintro v9 h9 ⟨a1, md1, hc, hr1⟩
        obtain ⟨x, rfl⟩ := cRel_int hr1
        have hb1 := cRel_bd hE'.1 hE'.2.1 hb hr1
        have ha1 := hc.1
        have hz1 : md1 = none → a1 = n := fun e => by subst e; exact hc.2.1
        refine k_istore C dX0_readArguments_41 (by rw [hnL]; decide) ?_
        refine k_iinc C dX0_readArguments_43 rfl rfl (by rw [hnL]; decide) ?_
        rw [show nI k + Int32.ofInt 1 = nI (k + 1) from nI_1 k]
        refine k_aload_n C dX0_readArguments_46 rfl ?_
        refine k_iload_n C dX0_readArguments_47 rfl ?_
        refine k_iload_n C dX0_readArguments_48 rfl ?_
        refine k_callS (As := [.int (nI s), .int (nI (k + 1))]) C mX0_120 (m_typeAt hw hcs (k := k + 1) (by omega)) rfl rfl (Nat.le_of_ble_eq_true rfl) (jroom hR (by first | decide | omega) (by decide)) dX0_readArguments_49 ?_
        rintro v9 h9 ⟨rfl, rfl⟩
        refine k_iload C dX0_readArguments_52 rfl ?_
        refine k_callV (k := 13) (ci := 0) (As := [.int (nI (ta s (k + 1))), .int x]) C mX0_127 (t_need hw hS hc (nI (ta s (k + 1))) x) jCl0.1 (by first | decide | omega) (by first | assumption | rfl) rfl rfl (Nat.le_of_ble_eq_true rfl) (jroom hR (by first | decide | omega) (by decide)) dX0_readArguments_54 ?_
        rintro v9 h9 ⟨rfl, hc⟩
        refine k_aload_n C dX0_readArguments_57 rfl ?_
        refine k_iload C dX0_readArguments_58 rfl ?_
        refine k_callV (k := 13) (ci := 0) (As := [.int x]) C mX0_138 (t_hold hw hS hc x x.toNatClampNeg (hold_ok2 hn ha1 hE'.2.1 hb1 hr1)) jCl0.1 (by first | decide | omega) (by first | assumption | rfl) rfl rfl (Nat.le_of_ble_eq_true rfl) (jroom hR (by first | decide | omega) (by decide)) dX0_readArguments_60 ?_
        rintro v9 h9 ⟨rfl, hc⟩
        refine k_iload C dX0_readArguments_63 rfl ?_
        refine k_iload C dX0_readArguments_65 rfl ?_
        refine j_iadd C dX0_readArguments_67 ?_
        refine k_istore C dX0_readArguments_68 (by rw [hnL]; decide) ?_
        refine k_aload_n C dX0_readArguments_70 rfl ?_
        refine j_bipush (v := 44) C dX0_readArguments_71 (by decide) ?_
        refine k_callV (k := 13) (ci := 0) (As := [.int (nI 44)]) C mX0_82 (t_takeIf hw hS hc (ch := 44) (by decide) (by decide)) jCl0.1 (by first | decide | omega) (by first | assumption | rfl) rfl rfl (Nat.le_of_ble_eq_true rfl) (jroom hR (by first | decide | omega) (by decide)) dX0_readArguments_73 ?_
        rintro v9 h9 ⟨rfl, hc⟩
        refine k_istore C dX0_readArguments_76 (by rw [hnL]; decide) ?_
        refine k_iinc C dX0_readArguments_78 rfl rfl (by rw [hnL]; decide) ?_
        refine j_goto C 24 dX0_readArguments_81 (by decide) ?_
        rw [show nI k + Int32.ofInt 1 = nI (k + 1) from nI_1 k]
        refine j_drop (lv := [(0, .ref (jad w 13)), (1, .int (nI s)), (2, .int (nI dp)), (3, .int (nI (k + 1))), (4, .int (wd + x)), (5, .int (if pek t n a1 = 44 then 1 else 0)), (6, .int (nI (k + 1)))]) (ex := [(7, .int x)]) ?_
        exact kk _ a1 md1 x ha1 hz1 hb1 hr1 (cBd_hold2 hb1 (fun q e => (hold_ok2 hn ha1 hE'.2.1 hb1 hr1 q e).2.1)) hc
  by_cases h41 : pek t n a = 41
  · have hm := cAt_ne hc h41 (by decide)
    refine j_iconst (v := 0) C dX0_readArguments_0 (by decide) ?_
    refine k_istore_n C dX0_readArguments_1 (by rw [hnL]; decide) ?_
    refine j_iconst (v := 0) C dX0_readArguments_2 (by decide) ?_
    refine k_istore C dX0_readArguments_3 (by rw [hnL]; decide) ?_
    refine k_aload_n C dX0_readArguments_5 rfl ?_
    refine k_callV (k := 13) (ci := 0) (As := []) C mX0_64 (t_peek hw hS hc) jCl0.1 (by first | decide | omega) (by first | assumption | rfl) rfl rfl (Nat.le_of_ble_eq_true rfl) (jroom hR (by first | decide | omega) (by decide)) dX0_readArguments_6 ?_
    rintro v9 h9 ⟨rfl, rfl⟩
    refine j_bipush (v := 41) C dX0_readArguments_9 (by decide) ?_
    refine j_icmp_eq C 18 dX0_readArguments_11 (by decide) (fun c11 => ?_) (fun c11 => ?_)
    · refine j_iconst (v := 0) C dX0_readArguments_18 (by decide) ?_
      refine k_istore C dX0_readArguments_19 (by rw [hnL]; decide) ?_
      refine j_iconst (v := 0) C dX0_readArguments_21 (by decide) ?_
      refine k_istore C dX0_readArguments_22 (by rw [hnL]; decide) ?_
      exact out _ a 0 md 0 0 (by omega) hc ⟨by rw [if_pos h41, hs9]; exact gFin hn hc.1 hb hm (aRel_0 rfl), aRel_wd (me := me) (bs := bs) hn hc.1 hb (aRel_0 rfl)⟩
    · exact absurd (by rw [h41]; rfl) c11 -- stop
  · rw [if_neg h41] at hE
    simp only [if_neg h41] at out
    clear fin
    obtain ⟨R, hRe⟩ : ∃ R, R = pArgs t n sub cs (n - a) 0 a (fun _ hd => some ([], 0, hd)) := ⟨_, rfl⟩
    simp only [← hRe] at out
    have nn : ∀ (wd : Int32) (k : Nat), oRl wd.toNatClampNeg (oNd 0 (nI (ta s (k + 1))) none) = none := fun _ _ => rfl
    have gnone : (md ≠ none → R = none) → ∀ a1 : Nat, gRel me bs md s R a1 none := by
      intro hh a1
      rcases md with _ | m
      · exact rfl
      · rw [hh (by simp)]; exact rfl
    have loop : ∀ (f k ak : Nat) (q : Nat → Nat → TA) (mk : cMd) (h : jH) (wd : Int32), n - ak ≤ f → k < 120 → cAt h0 h u n ak mk → cBd ak mk → ((mk = none ∧ (md ≠ none → R = none)) ∨ (md ≠ none ∧ mk ≠ none ∧ aRel me bs md q mk wd ∧ k + 1 ≤ ak ∧ R = pArgs t n sub cs f k ak q)) → J X w h 24 [(0, .ref (jad w 13)), (1, .int (nI s)), (2, .int (nI dp)), (3, .int (nI k)), (4, .int wd), (5, .int 1), (6, .int (nI k))] [] := by
      intro f
      induction f with
      | zero =>
        intro k ak q mk h wd hf hk hc hb hcase
        refine iter h k ak (bsA bs md q) mk wd hk hc hb ?_
        intro h' a1 md1 x ha1 hz1 hb1 hr hbd hc'
        have hnone : md1 = none ∧ (md ≠ none → R = none) := by
          rcases hcase with ⟨rfl, h2⟩ | ⟨hm, hmk, hA, -, h2⟩
          · exact ⟨cRel_n hr, h2⟩
          · rcases cRel_syn hmk hr with ⟨-, e⟩ | ⟨g, e, -⟩
            · exact ⟨e, fun _ => by rw [h2]; rfl⟩
            · have := hE'.1 _ _ _ e; omega
        obtain ⟨rfl, hR0⟩ := hnone
        have e44 : ¬ pek t n a1 = 44 := by rw [hz1 rfl, pek_ge (Nat.le_refl _)]; decide
        simp only [if_neg e44] at hc' ⊢
        exact out h' a1 (k + 1) none (wd + x) (nI (k + 1)) (by omega) hc' ⟨gnone hR0 a1, fun z e => by cases e⟩
      | succ f ih =>
        intro k ak q mk h wd hf hk hc hb hcase
        refine iter h k ak (bsA bs md q) mk wd hk hc hb ?_
        intro h' a1 md1 x ha1 hz1 hb1 hr hbd hc'
        have hcase2 : (md1 = none ∧ (md ≠ none → R = none)) ∨ (md ≠ none ∧ mk ≠ none ∧ aRel me bs md q mk wd ∧ k + 1 ≤ ak ∧ md1 ≠ none ∧ ∃ g, sub ak = some (a1, g) ∧ R = if pek t n a1 = 44 then pArgs t n sub cs f (k + 1) (a1 + 1) (fun bs hd => tArg cs k (q bs hd) g bs) else some (a1, k + 1, fun bs hd => tArg cs k (q bs hd) g bs)) := by
          rcases hcase with ⟨rfl, h2⟩ | ⟨hm, hmk, hA, hka, h2⟩
          · exact Or.inl ⟨cRel_n hr, h2⟩
          · rcases cRel_syn hmk hr with ⟨e0, e⟩ | ⟨g, e, hm1⟩
            · exact Or.inl ⟨e, fun _ => by rw [h2]; unfold pArgs; rw [e0]⟩
            · exact Or.inr ⟨hm, hmk, hA, hka, hm1, g, e, by rw [h2]; conv => lhs; unfold pArgs; rw [e]⟩
        rcases hcase2 with ⟨rfl, hR0⟩ | ⟨hm, hmk, hA, hka, hm1, g, e, hR1⟩
        · have e44 : ¬ pek t n a1 = 44 := by rw [hz1 rfl, pek_ge (Nat.le_refl _)]; decide
          simp only [if_neg e44] at hc' ⊢
          exact out h' a1 (k + 1) none (wd + x) (nI (k + 1)) (by omega) hc' ⟨gnone hR0 a1, fun z e => by cases e⟩
        · rw [e] at hr
          have hpg := hE'.1 _ _ _ e
          have hA' := aStep (cs := cs) (k := k) hn (hE'.2.1 _ _ _ e) hb1 ha1 hmk hm1 hm hA hr
          rw [← hs9] at hA'
          by_cases e44 : pek t n a1 = 44
          · simp only [if_pos e44] at hc' hR1 ⊢
            have := pek_in e44 (by decide)
            exact ih (k + 1) (a1 + 1) _ _ h' (wd + x) (by omega) (by omega) hc' (cBd_up hbd (by omega)) (Or.inr ⟨hm, aRel_ne hm hA', hA', by omega, hR1⟩)
          · simp only [if_neg e44] at hc' hR1 ⊢
            refine out h' a1 (k + 1) _ (wd + x) (nI (k + 1)) (by omega) hc' ⟨?_, aRel_wd hn ha1 hbd hA'⟩
            rw [hR1, hs9]
            rw [hs9] at hbd hA'
            exact gFin hn ha1 hbd hm hA'
    have hpk := pek_lt (FrTx (cAt_any hc).choose_spec.choose_spec.choose_spec.choose_spec.choose_spec.choose_spec.2.1 hS.u7 hS.2.2.1) a
    refine j_iconst (v := 0) C dX0_readArguments_0 (by decide) ?_
    refine k_istore_n C dX0_readArguments_1 (by rw [hnL]; decide) ?_
    refine j_iconst (v := 0) C dX0_readArguments_2 (by decide) ?_
    refine k_istore C dX0_readArguments_3 (by rw [hnL]; decide) ?_
    refine k_aload_n C dX0_readArguments_5 rfl ?_
    refine k_callV (k := 13) (ci := 0) (As := []) C mX0_64 (t_peek hw hS hc) jCl0.1 (by first | decide | omega) (by first | assumption | rfl) rfl rfl (Nat.le_of_ble_eq_true rfl) (jroom hR (by first | decide | omega) (by decide)) dX0_readArguments_6 ?_
    rintro v9 h9 ⟨rfl, rfl⟩
    refine j_bipush (v := 41) C dX0_readArguments_9 (by decide) ?_
    refine j_icmp_eq C 18 dX0_readArguments_11 (by decide) (fun c11 => ?_) (fun c11 => ?_)
    · exact absurd ((nI_eq (a := pek t n a) (b := 41) (by omega) (by omega)).mp c11) h41 -- stop
    · refine j_iconst (v := 1) C dX0_readArguments_14 (by decide) ?_
      refine j_goto C 19 dX0_readArguments_15 (by decide) ?_
      refine k_istore C dX0_readArguments_19 (by rw [hnL]; decide) ?_
      refine j_iconst (v := 0) C dX0_readArguments_21 (by decide) ?_
      refine k_istore C dX0_readArguments_22 (by rw [hnL]; decide) ?_
      refine loop (n - a) 0 a (fun _ hd => some ([], 0, hd)) md _ 0 (Nat.le_refl _) (by omega) hc hb ?_
      by_cases hm : md = none
      · exact Or.inl ⟨hm, fun z => absurd hm z⟩
      · exact Or.inr ⟨hm, hm, aRel_0 rfl, by rcases h1a with z | z; omega; exact absurd z hm, hRe⟩
end RDA
end
section
section RDB
variable {l : Launch} {w : jW} {h0 h : jH} {u : Nat} {t : Nat → Nat} {n : Nat} {hs : List (Nat × Nat × Nat)} {me sg bs : Nat} {a a' : Nat} {md md' : cMd} {r : Option Value} {dp d : Nat} {sub : Nat → PR}
def argR (t : Nat → Nat) (n : Nat) (sub : Nat → PR) (cs : Option Nat) (a : Nat) : Option (Nat × Nat × (Nat → Nat → TA)) := if pek t n a = 41 then some (a, 0, fun _ hd => some ([], 0, hd)) else pArgs t n sub cs (n - a) 0 a (fun _ hd => some ([], 0, hd))
theorem pCall_eq {o m : Nat} : pCall t n hs sub o m a = match argR t n sub (lkp hs o m) a with
    | none => none
    | some p => if pek t n p.1 = 41 then some (p.1 + 1, fun bs hd => tCall (lkp hs o m) o m p.2.1 (p.2.2 bs hd)) else none := by
  unfold pCall argR
  by_cases c : pek t n a = 41
  · simp only [c, if_true]
  · simp only [c, if_false]
    rcases pArgs t n sub (lkp hs o m) (n - a) 0 a (fun _ hd => some ([], 0, hd)) with _ | ⟨a1, k, q⟩ <;> rfl
theorem argR_sz {cs : Option Nat} (hp : pgr n sub) (hz : szs sub) (ha : a ≤ n) {a1 k : Nat} {q : Nat → Nat → TA} (h : argR t n sub cs a = some (a1, k, q)) : (a ≤ a1 ∧ a1 ≤ n) ∧ ∀ bs hd e m hc, q bs hd = some (e, m, hc) → cpos e ≤ 2 * (a1 - a) ∧ rpos e ≤ a1 - a ∧ hc ≤ hd + 2 * (a1 - a) ∧ m ≤ hd + 2 * (a1 - a) := by
  unfold argR at h
  have q0 : ∀ bs hd e m hc, (fun (_ : Nat) (hd : Nat) => (some ([], 0, hd) : TA)) bs hd = some (e, m, hc) → cpos e ≤ 2 * (a - a) ∧ rpos e ≤ a - a ∧ hc ≤ hd + 2 * (a - a) ∧ m ≤ hd + 2 * (a - a) := by
    intro bs hd e mx hc q
    simp only [Option.some.injEq, Prod.mk.injEq] at q
    obtain ⟨rfl, rfl, rfl⟩ := q
    simp [cpos, rpos]
  split at h
  · next c =>
    simp only [Option.some.injEq, Prod.mk.injEq] at h
    obtain ⟨rfl, rfl, rfl⟩ := h
    exact ⟨⟨Nat.le_refl _, ha⟩, q0⟩
  · have h1 := pgr_Args hp _ _ _ _ _ _ _ _ h
    exact ⟨by omega, sz_Args hp hz _ _ _ _ _ _ _ _ a (Nat.le_refl _) q0 h⟩
/-- the words that a call's operand has in the class -/
def opX (me o m : Nat) : Nat := if o = 0 then me * 26 + m else (o - 1) * 26 + m
theorem callTy {cs : Option Nat} {o m k a2 a3 : Nat} {q : Nat → Nat → TA} {md3 : cMd} (hn : n ≤ 120) (hme : me < 6) (ho : o ≤ 6) (hm26 : m < 26) (ha : a + 2 ≤ a2) (ha2 : a2 ≤ a3) (ha3 : a3 ≤ n) (hb : cBd a md) (hq : ∀ bs hd e m hc, q bs hd = some (e, m, hc) → cpos e ≤ 2 * (a3 - a2) ∧ rpos e ≤ a3 - a2 ∧ hc ≤ hd + 2 * (a3 - a2) ∧ m ≤ hd + 2 * (a3 - a2))
    (hm : md ≠ none) (h : gRel me bs md (cs.getD 0) (some (a3, k, q)) a3 md3) :
    md3 ≠ none ∧ (cs = none → cRel me bs md (some (a3, fun bs hd => tCall cs o m k (q bs hd))) a3 (oBad (oEm (nI 12) (nI (opX me o m)) md3)) (some (.int 1))) ∧
    (∀ s, cs = some s → cRel me bs md (some (a3, fun bs hd => tCall cs o m k (q bs hd))) a3 (oEm (nI 12) (nI (opX me o m)) md3) (some (.int (nI (ta s 0))))) := by
  have hX : opX me o m < 200 := by unfold opX; split <;> omega
  rcases md with _ | _ | z
  · exact absurd rfl hm
  · have e : md3 = some none := h.2
    subst e
    exact ⟨by simp, fun _ => cRel_b (by simp) rfl (fun q e => by cases e), fun s _ => cRel_b (by simp) rfl (fun q e => by cases e)⟩
  · have hh := h.2
    rcases hqv : q bs z.2.1 with _ | ⟨e, mx, hc⟩
    · have e : md3 = some none := by
        have : (match q bs z.2.1 with
          | none => md3 = some none
          | some v => _) := hh
        rw [hqv] at this
        exact this
      subst e
      refine ⟨by simp, fun hc => cRel_b (by simp) rfl (fun q' e => ?_), fun s hs => cRel_b (by simp) rfl (fun q' e => ?_)⟩
      · cases e; rw [hc, hqv]; rfl
      · cases e; rw [hs, hqv]; rfl
    · have h5 : (if ta (cs.getD 0) (k + 1) = 0 then ∃ F' : Nat → Int32, md3 = some (some (z.1 + cpos e, z.2.1, max z.2.2.1 mx, F')) ∧ (∀ p, p < z.1 → F' p = z.2.2.2 p) ∧ ∀ P : Nat → Nat, P bs = z.1 → cmp P bs e → Rep F' me P bs e else md3 = some none) := by
        have : (match q bs z.2.1 with
          | none => md3 = some none
          | some v => if ta (cs.getD 0) (k + 1) = 0 then ∃ F' : Nat → Int32, md3 = some (some (z.1 + cpos v.1, z.2.1, max z.2.2.1 v.2.1, F')) ∧ (∀ p, p < z.1 → F' p = z.2.2.2 p) ∧ ∀ P : Nat → Nat, P bs = z.1 → cmp P bs v.1 → Rep F' me P bs v.1 else md3 = some none) := hh
        rw [hqv] at this
        exact this
      by_cases h0t : ta (cs.getD 0) (k + 1) = 0
      · rw [if_pos h0t] at h5
        obtain ⟨F', rfl, l1, r1⟩ := h5
        have b := hb z rfl
        have sz := hq _ _ _ _ _ hqv
        refine ⟨by simp, fun hcs => cRel_b (by simp) rfl (fun q' e' => ?_), fun s hcs => ?_⟩
        · cases e'; rw [hcs]; rfl
        · subst hcs
          refine cRel_o (F' := emF (z.1 + cpos e) F' (nI 12) (nI (opX me o m))) rfl (e := e ++ [(13, o * 26 + m, hc, 0)]) (m := mx) ?_ ?_ (fun p hp => by rw [emF_low (by omega), l1 p hp]) (fun P hP hcm => ?_)
          · show tCall (some s) o m k (q bs z.2.1) = _
            rw [hqv]
            exact if_pos h0t
          · simp only [oEm, Option.some.injEq, Prod.mk.injEq]
            refine ⟨?_, trivial⟩
            rw [emC_lt (by omega)]
            simp only [cpos_app, cpos, kcl]
            simp
            omega
          · rw [cmp_app] at hcm
            rw [Rep_app]
            have p1 := cmp_end e bs hcm.1
            refine ⟨Rep_low (c := z.1 + cpos e) (by omega) hcm.1 (fun p hp => emF_low hp) (r1 P hP hcm.1), ?_⟩
            refine rep_emit (by omega) (by omega) (by omega) (by omega) ?_
            simp only [enc, opX]
            by_cases z0 : o = 0
            · subst z0; simp [hm26]
            · rw [if_neg z0, if_neg (by omega)]
              congr 2
              omega
      · rw [if_neg h0t] at h5
        subst h5
        refine ⟨by simp, fun hcs => cRel_b (by simp) rfl (fun q' e' => ?_), fun s hcs => cRel_b (by simp) rfl (fun q' e' => ?_)⟩
        · cases e'; rw [hcs]; rfl
        · cases e'
          subst hcs
          show tCall (some s) o m k (q bs z.2.1) = none
          rw [hqv]
          exact if_neg h0t
theorem callRel {cs : Option Nat} {o m a1 a2 a3 : Nat} {md1 md2 md3 : cMd} (hn : n ≤ 120) (hme : me < 6) (ho : o ≤ 6) (hp : pgr n sub) (hz : szs sub) (hb : cBd a md) (hmn : md = none → a = n) (han : a ≤ n) (ha3 : a3 ≤ n)
    (hm9 : m = if 97 ≤ pek t n a ∧ pek t n a ≤ 122 then pek t n a - 97 else 0) (hcs : cs = lkp hs o m)
    (e1 : (a1, md1) = oAt (decide (97 ≤ pek t n a ∧ pek t n a ≤ 122)) n a (a + 1) md) (e2 : (a2, md2) = oAt (pek t n a1 == 40) n a1 (a1 + 1) md1)
    (h : gRel me bs md2 (cs.getD 0) (argR t n sub cs a2) a3 md3) :
    (cs = none → cRel me bs md (if (97 ≤ pek t n a ∧ pek t n a ≤ 122) ∧ pek t n (a + 1) = 40 then pCall t n hs sub o (pek t n a - 97) (a + 2) else none) (oAt (pek t n a3 == 41) n a3 (a3 + 1) md3).1 (oBad (oEm (nI 12) (nI (opX me o m)) (oAt (pek t n a3 == 41) n a3 (a3 + 1) md3).2)) (some (.int 1))) ∧
    (∀ s, cs = some s → cRel me bs md (if (97 ≤ pek t n a ∧ pek t n a ≤ 122) ∧ pek t n (a + 1) = 40 then pCall t n hs sub o (pek t n a - 97) (a + 2) else none) (oAt (pek t n a3 == 41) n a3 (a3 + 1) md3).1 (oEm (nI 12) (nI (opX me o m)) (oAt (pek t n a3 == 41) n a3 (a3 + 1) md3).2) (some (.int (nI (ta s 0))))) := by
  have fail : md3 = none → (md ≠ none → (if (97 ≤ pek t n a ∧ pek t n a ≤ 122) ∧ pek t n (a + 1) = 40 then pCall t n hs sub o (pek t n a - 97) (a + 2) else none) = none) → (cs = none → cRel me bs md (if (97 ≤ pek t n a ∧ pek t n a ≤ 122) ∧ pek t n (a + 1) = 40 then pCall t n hs sub o (pek t n a - 97) (a + 2) else none) (oAt (pek t n a3 == 41) n a3 (a3 + 1) md3).1 (oBad (oEm (nI 12) (nI (opX me o m)) (oAt (pek t n a3 == 41) n a3 (a3 + 1) md3).2)) (some (.int 1))) ∧
    (∀ s, cs = some s → cRel me bs md (if (97 ≤ pek t n a ∧ pek t n a ≤ 122) ∧ pek t n (a + 1) = 40 then pCall t n hs sub o (pek t n a - 97) (a + 2) else none) (oAt (pek t n a3 == 41) n a3 (a3 + 1) md3).1 (oEm (nI 12) (nI (opX me o m)) (oAt (pek t n a3 == 41) n a3 (a3 + 1) md3).2) (some (.int (nI (ta s 0))))) := by
    intro e hh
    subst e
    exact ⟨fun _ => cRel_f (by rw [oAt_none]; rfl) hh, fun s _ => cRel_f (by rw [oAt_none]; rfl) hh⟩
  by_cases c1 : ¬ (97 ≤ pek t n a ∧ pek t n a ≤ 122)
  · have e9 : decide (97 ≤ pek t n a ∧ pek t n a ≤ 122) = false := by simp only [c1, decide_false]
    rw [oAt_f e9] at e1
    cases e1
    have : md2 = none := by
      have := congrArg Prod.snd e2
      simpa [oAt_none] using this
    subst this
    exact fail h (fun _ => if_neg (fun q => c1 q.1))
  replace c1 := Classical.not_not.mp c1
  rw [oAt_t (by simp only [c1, and_self, decide_true])] at e1
  cases e1
  rw [if_pos c1] at hm9
  have hlt := pek_gt (c := 0) (t := t) (n := n) (a := a) (by omega)
  have hm : md ≠ none := fun e => by have := hmn e; omega
  by_cases c2 : ¬ pek t n (a + 1) = 40
  · rw [oAt_f (beq_f c2)] at e2
    cases e2
    exact fail h (fun _ => if_neg (fun q => c2 q.2))
  replace c2 := Classical.not_not.mp c2
  rw [oAt_t (beq_t c2)] at e2
  cases e2
  rw [if_pos ⟨c1, c2⟩] at fail ⊢
  rw [← hm9, pCall_eq, ← hcs] at fail ⊢
  have hlt2 := pek_in c2 (by decide)
  rcases hR : argR t n sub cs (a + 1 + 1) with _ | ⟨b3, k, q⟩
  · rw [hR] at h
    have e3 : md3 = none := by
      rcases md with _ | m'
      · exact absurd rfl hm
      · exact h
    subst e3
    exact ⟨fun _ => cRel_f (by rw [oAt_none]; rfl) (fun _ => rfl), fun s _ => cRel_f (by rw [oAt_none]; rfl) (fun _ => rfl)⟩
  · rw [hR] at h
    obtain ⟨h5, h6⟩ := argR_sz hp hz (by omega) hR
    have e3 : a3 = b3 := by
      rcases md with _ | _ | z
      · exact absurd rfl hm
      · exact h.1
      · exact h.1
    subst e3
    obtain ⟨t1, t2, t3⟩ := callTy (o := o) (m := m) hn hme ho (by omega) (by omega) h5.1 h5.2 hb h6 hm h
    by_cases c3 : ¬ pek t n a3 = 41
    · rw [oAt_f (beq_f c3)]
      simp only [if_neg c3]
      exact ⟨fun _ => cRel_f rfl (fun _ => rfl), fun s _ => cRel_f rfl (fun _ => rfl)⟩
    replace c3 := Classical.not_not.mp c3
    rw [oAt_t (beq_t c3)]
    simp only [if_pos c3]
    exact ⟨fun z => cRel_shift (t2 z), fun s z => cRel_shift (t3 s z)⟩
end RDB
end
section
section RDC
variable {X : jX} {w : jW} {h : jH} {cc : ByteArray} {own : String} {pc : Nat} {lv : List (Nat × Value)} {r : List Value}
theorem k_astoreN (C : jC X w cc own) {i : Nat} (d : decode cc pc = .ok (.astore i, 2)) (hn : i < (jXc X).maxLocals) (k : J X w h (pc + 2) (jsv lv i .null) r) : J X w h pc lv (.null :: r) := j_astoreN C d hn rfl (j_mono (jsv_in _ _ _) k)
theorem k_aloadN (C : jC X w cc own) {i : Nat} (d : decode cc pc = .ok (.aload i, 2)) (hq : jlk lv i = some .null) (k : J X w h (pc + 2) lv (.null :: r)) : J X w h pc lv r := by
  obtain ⟨q, hq⟩ := jlk_at _ _ _ hq
  exact j_aloadN C q d hq k
end RDC
section RDD
variable {l : Launch} {w : jW} {h0 h : jH} {u : Nat} {t : Nat → Nat} {n : Nat} {hs : List (Nat × Nat × Nat)} {me sg bs : Nat} {a a' : Nat} {md md' : cMd} {r : Option Value} {dp d : Nat} {sub : Nat → PR}
theorem oI_0 : oI 0 = -1 := rfl
theorem oI_p {o : Nat} (h : 0 < o) : oI o = nI (o - 1) := by
  unfold oI
  rw [show (1 : Int32) = nI 1 from rfl, pk_sub h]
theorem oAt_mono {b : Bool} {a1 a2 : Nat} (h : (md = none → a1 = n)) (hmd : (oAt b n a1 a2 md).2 = none) (hb : b = true) : md = none := by rw [hb] at hmd; exact hmd
theorem c_readCall (hw : jok w) (hS : cS h0 u t n hs me sg) (hd : 2 ≤ d) (hE' : cSub l w h0 u n me dp d sub) {o : Nat} (ho : o ≤ 6) (hc : cAt h0 h u n a md) (hb : cBd a md) : jM l w yX0_readCall cX0_readCall 6 (some .int) (d + 2) [.ref (jad w 13), .int (oI o), .int (nI dp)] h (fun r h' => ∃ a' md', cAt h0 h' u n a' md' ∧ cRel me bs md (if (97 ≤ pek t n a ∧ pek t n a ≤ 122) ∧ pek t n (a + 1) = 40 then pCall t n hs sub o (pek t n a - 97) (a + 2) else none) a' md' r) := by
  refine jM_of (by decide) hw (Nat.le_of_ble_eq_true rfl) ?_
  intro X C hl hR hnL hrt hE
  subst hl
  have C : jC X w cX0_readCall RX0 := C
  have hn := cS_n hS
  obtain ⟨k3, k4, k5, k6, k7⟩ := jk_unit u hS.u7
  have hme : me < 6 := hS.2.2.2.2.1
  obtain ⟨m, hm9⟩ : ∃ m, m = if 97 ≤ pek t n a ∧ pek t n a ≤ 122 then pek t n a - 97 else 0 := ⟨_, rfl⟩
  have hm26 : m < 26 := by rw [hm9]; split <;> omega
  obtain ⟨⟨a1, md1⟩, e1⟩ : ∃ p : Nat × cMd, p = oAt (decide (97 ≤ pek t n a ∧ pek t n a ≤ 122)) n a (a + 1) md := ⟨_, rfl⟩
  obtain ⟨⟨a2, md2⟩, e2⟩ : ∃ p : Nat × cMd, p = oAt (pek t n a1 == 40) n a1 (a1 + 1) md1 := ⟨_, rfl⟩
  have hb1 : cBd a1 md1 := by have := cBd_at (n := n) (b := decide (97 ≤ pek t n a ∧ pek t n a ≤ 122)) (a2 := a + 1) hb (by omega); rw [← e1] at this; exact this
  have hb2 : cBd a2 md2 := by have := cBd_at (n := n) (b := (pek t n a1 == 40)) (a2 := a1 + 1) hb1 (by omega); rw [← e2] at this; exact this
  have h1a : 1 ≤ a2 ∨ md2 = none := by
    unfold oAt at e2
    split at e2
    · cases e2; exact Or.inl (by omega)
    · cases e2; exact Or.inr rfl
  have hmn : md = none → a = n := fun e => by subst e; exact hc.2.1
  have han := hc.1
  have fin : ∀ {cs : Option Nat} {a3 : Nat} {md3 : cMd}, cs = lkp hs o m → a3 ≤ n → gRel me bs md2 (cs.getD 0) (argR t n sub cs a2) a3 md3 → _ := fun hcs ha3 hg => callRel (me := me) (bs := bs) hn hme ho hE'.1 hE'.2.1 hb hmn han ha3 hm9 hcs e1 e2 hg
  have opN : o = 0 → nI me * 26 + nI m = nI (opX me o m) := fun e => by
    rw [show (26 : Int32) = nI 26 from rfl, pk_mul, nI_add, opX, if_pos e]
  have opP : ¬ o = 0 → oI o * 26 + nI m = nI (opX me o m) := fun e => by
    rw [oI_p (by omega), show (26 : Int32) = nI 26 from rfl, pk_mul, nI_add, opX, if_neg e]
  have o1 : oI o = -1 ↔ o = 0 := by rw [← oI_0]; exact oI_eq (by omega) (by omega)
  have restN : ∀ h : jH, lkp hs o m = none → cAt h0 h u n a1 md1 → J X w h 18 [(0, .ref (jad w 13)), (1, .int (oI o)), (2, .int (nI dp)), (3, .int (nI m))] [.null] := by
    intro h hl0 hc
    refine k_astoreN C dX0_readCall_18 (by rw [hnL]; decide) ?_
    refine k_aloadN C dX0_readCall_20 rfl ?_
    refine j_ifnonnullN C dX0_readCall_22 ?_
    refine j_iconst (v := 0) C dX0_readCall_25 (by decide) ?_
    refine j_goto C 34 dX0_readCall_26 (by decide) ?_
    refine k_istore C dX0_readCall_34 (by rw [hnL]; decide) ?_
    refine k_aload_n C dX0_readCall_36 rfl ?_
    refine j_bipush (v := 40) C dX0_readCall_37 (by decide) ?_
    refine k_callV (k := 13) (ci := 0) (As := [.int (nI 40)]) C mX0_68 (t_take hw hS hc (ch := 40) (by decide) (by decide)) jCl0.1 (by first | decide | omega) (by first | assumption | rfl) rfl rfl (Nat.le_of_ble_eq_true rfl) (jroom hR (by first | decide | omega) (by decide)) dX0_readCall_39 ?_
    rintro v9 h9 ⟨rfl, hc⟩
    rw [← e2] at hc
    refine k_aload_n C dX0_readCall_42 rfl ?_
    refine k_iload C dX0_readCall_43 rfl ?_
    refine k_iload_n C dX0_readCall_45 rfl ?_
    refine k_callV (k := 13) (ci := 0) (As := [.int (nI 0), .int (nI dp)]) C mX0_176 (c_readArguments (bs := bs) (cs := none) hw hS hd hE' (by decide) h1a hc hb2) jCl0.1 (by first | decide | omega) (by first | assumption | rfl) rfl rfl (Nat.le_of_ble_eq_true rfl) (jroom hR (by first | decide | omega) (by decide)) dX0_readCall_46 ?_
    rintro v9 h9 ⟨rfl, a3, md3, hc, hg⟩
    have ha3 := hc.1
    obtain ⟨f1, -⟩ := fin (cs := none) hl0.symm ha3 hg
    refine k_aload_n C dX0_readCall_49 rfl ?_
    refine j_bipush (v := 41) C dX0_readCall_50 (by decide) ?_
    refine k_callV (k := 13) (ci := 0) (As := [.int (nI 41)]) C mX0_68 (t_take hw hS hc (ch := 41) (by decide) (by decide)) jCl0.1 (by first | decide | omega) (by first | assumption | rfl) rfl rfl (Nat.le_of_ble_eq_true rfl) (jroom hR (by first | decide | omega) (by decide)) dX0_readCall_52 ?_
    rintro v9 h9 ⟨rfl, hc⟩
    refine k_aload_n C dX0_readCall_55 rfl ?_
    refine j_getr C fX0_22 rfl (by first | decide | omega) (by first | assumption | rfl) (cAt_un hS hc) dX0_readCall_56 ?_
    refine j_bipush (v := 12) C dX0_readCall_59 (by decide) ?_
    refine k_iload_n C dX0_readCall_61 rfl ?_
    refine j_iconst (v := -1) C dX0_readCall_62 (by decide) ?_
    refine j_icmp_ne C 76 dX0_readCall_63 (by decide) (fun c63 => ?_) (fun c63 => ?_)
    · rw [o1] at c63
      refine k_iload_n C dX0_readCall_76 rfl ?_
      refine j_bipush (v := 26) C dX0_readCall_77 (by decide) ?_
      refine j_imul C dX0_readCall_79 ?_
      refine k_iload_n C dX0_readCall_80 rfl ?_
      refine j_iadd C dX0_readCall_81 ?_
      first | rw [opN c63] | rw [opP c63]
      refine k_callV (k := ub u) (ci := 3) (As := [.int (nI 12), .int (nI (opX me o m))]) C mX0_131 (t_emit hw hS hc (nI 12) (nI (opX me o m))) jCl3.1 (by omega) k3 rfl rfl (Nat.le_of_ble_eq_true rfl) (jroom hR (by omega) (by decide)) dX0_readCall_82 ?_
      rintro v9 h9 ⟨⟨c9, -, rfl, -⟩, hc⟩
      refine j_pop C dX0_readCall_85 rfl ?_
      refine k_aloadN C dX0_readCall_86 rfl ?_
      refine j_ifnonnullN C dX0_readCall_88 ?_
      refine k_aload_n C dX0_readCall_91 rfl ?_
      refine j_iconst (v := 1) C dX0_readCall_92 (by decide) ?_
      refine j_putz C fX0_38 rfl rfl (by first | decide | assumption) (by first | decide | omega) (by first | assumption | rfl) dX0_readCall_93 ?_
      refine j_iconst (v := 1) C dX0_readCall_96 (by decide) ?_
      exact j_iret C hrt hE dX0_readCall_97 ⟨_, _, cAt_bad hS hc, f1 rfl⟩
    · rw [o1] at c63
      refine k_aload_n C dX0_readCall_66 rfl ?_
      refine j_getr C fX0_22 rfl (by first | decide | omega) (by first | assumption | rfl) (cAt_un hS hc) dX0_readCall_67 ?_
      refine j_geti C fX0_61 rfl (by omega) k3 dX0_readCall_70 ?_
      rw [cAt_me hS hc]
      refine j_goto C 77 dX0_readCall_73 (by decide) ?_
      refine j_bipush (v := 26) C dX0_readCall_77 (by decide) ?_
      refine j_imul C dX0_readCall_79 ?_
      refine k_iload_n C dX0_readCall_80 rfl ?_
      refine j_iadd C dX0_readCall_81 ?_
      first | rw [opN c63] | rw [opP c63]
      refine k_callV (k := ub u) (ci := 3) (As := [.int (nI 12), .int (nI (opX me o m))]) C mX0_131 (t_emit hw hS hc (nI 12) (nI (opX me o m))) jCl3.1 (by omega) k3 rfl rfl (Nat.le_of_ble_eq_true rfl) (jroom hR (by omega) (by decide)) dX0_readCall_82 ?_
      rintro v9 h9 ⟨⟨c9, -, rfl, -⟩, hc⟩
      refine j_pop C dX0_readCall_85 rfl ?_
      refine k_aloadN C dX0_readCall_86 rfl ?_
      refine j_ifnonnullN C dX0_readCall_88 ?_
      refine k_aload_n C dX0_readCall_91 rfl ?_
      refine j_iconst (v := 1) C dX0_readCall_92 (by decide) ?_
      refine j_putz C fX0_38 rfl rfl (by first | decide | assumption) (by first | decide | omega) (by first | assumption | rfl) dX0_readCall_93 ?_
      refine j_iconst (v := 1) C dX0_readCall_96 (by decide) ?_
      exact j_iret C hrt hE dX0_readCall_97 ⟨_, _, cAt_bad hS hc, f1 rfl⟩
  have restR : ∀ (h : jH) (i s : Nat), i < 6 → lkp hs o m = some s → s < 256 → h.1 (ub u + 3 + i) 2 = nI s → cAt h0 h u n a1 md1 → J X w h 18 [(0, .ref (jad w 13)), (1, .int (oI o)), (2, .int (nI dp)), (3, .int (nI m))] [.ref (jad w (ub u + 3 + i))] := by
    intro h i s hi hl0 hs9 hsg hc
    have k8 := k7 i hi
    refine k_astore C dX0_readCall_18 (by rw [hnL]; decide) ?_
    refine k_aload C dX0_readCall_20 rfl ?_
    refine j_ifnonnull C 29 dX0_readCall_22 (by decide) ?_
    refine k_aload C dX0_readCall_29 rfl ?_
    refine j_geti C fX0_94 rfl (by first | decide | omega) (by first | assumption | rfl) dX0_readCall_31 ?_
    rw [hsg]
    refine k_istore C dX0_readCall_34 (by rw [hnL]; decide) ?_
    refine k_aload_n C dX0_readCall_36 rfl ?_
    refine j_bipush (v := 40) C dX0_readCall_37 (by decide) ?_
    refine k_callV (k := 13) (ci := 0) (As := [.int (nI 40)]) C mX0_68 (t_take hw hS hc (ch := 40) (by decide) (by decide)) jCl0.1 (by first | decide | omega) (by first | assumption | rfl) rfl rfl (Nat.le_of_ble_eq_true rfl) (jroom hR (by first | decide | omega) (by decide)) dX0_readCall_39 ?_
    rintro v9 h9 ⟨rfl, hc⟩
    rw [← e2] at hc
    refine k_aload_n C dX0_readCall_42 rfl ?_
    refine k_iload C dX0_readCall_43 rfl ?_
    refine k_iload_n C dX0_readCall_45 rfl ?_
    refine k_callV (k := 13) (ci := 0) (As := [.int (nI s), .int (nI dp)]) C mX0_176 (c_readArguments (bs := bs) (cs := some s) hw hS hd hE' hs9 h1a hc hb2) jCl0.1 (by first | decide | omega) (by first | assumption | rfl) rfl rfl (Nat.le_of_ble_eq_true rfl) (jroom hR (by first | decide | omega) (by decide)) dX0_readCall_46 ?_
    rintro v9 h9 ⟨rfl, a3, md3, hc, hg⟩
    have ha3 := hc.1
    obtain ⟨-, f2⟩ := fin (cs := some s) hl0.symm ha3 hg
    refine k_aload_n C dX0_readCall_49 rfl ?_
    refine j_bipush (v := 41) C dX0_readCall_50 (by decide) ?_
    refine k_callV (k := 13) (ci := 0) (As := [.int (nI 41)]) C mX0_68 (t_take hw hS hc (ch := 41) (by decide) (by decide)) jCl0.1 (by first | decide | omega) (by first | assumption | rfl) rfl rfl (Nat.le_of_ble_eq_true rfl) (jroom hR (by first | decide | omega) (by decide)) dX0_readCall_52 ?_
    rintro v9 h9 ⟨rfl, hc⟩
    refine k_aload_n C dX0_readCall_55 rfl ?_
    refine j_getr C fX0_22 rfl (by first | decide | omega) (by first | assumption | rfl) (cAt_un hS hc) dX0_readCall_56 ?_
    refine j_bipush (v := 12) C dX0_readCall_59 (by decide) ?_
    refine k_iload_n C dX0_readCall_61 rfl ?_
    refine j_iconst (v := -1) C dX0_readCall_62 (by decide) ?_
    refine j_icmp_ne C 76 dX0_readCall_63 (by decide) (fun c63 => ?_) (fun c63 => ?_)
    · rw [o1] at c63
      refine k_iload_n C dX0_readCall_76 rfl ?_
      refine j_bipush (v := 26) C dX0_readCall_77 (by decide) ?_
      refine j_imul C dX0_readCall_79 ?_
      refine k_iload_n C dX0_readCall_80 rfl ?_
      refine j_iadd C dX0_readCall_81 ?_
      first | rw [opN c63] | rw [opP c63]
      refine k_callV (k := ub u) (ci := 3) (As := [.int (nI 12), .int (nI (opX me o m))]) C mX0_131 (t_emit hw hS hc (nI 12) (nI (opX me o m))) jCl3.1 (by omega) k3 rfl rfl (Nat.le_of_ble_eq_true rfl) (jroom hR (by omega) (by decide)) dX0_readCall_82 ?_
      rintro v9 h9 ⟨⟨c9, -, rfl, -⟩, hc⟩
      refine j_pop C dX0_readCall_85 rfl ?_
      refine k_aload C dX0_readCall_86 rfl ?_
      refine j_ifnonnull C 98 dX0_readCall_88 (by decide) ?_
      refine k_iload C dX0_readCall_98 rfl ?_
      refine j_iconst (v := 0) C dX0_readCall_100 (by decide) ?_
      refine k_callS (As := [.int (nI s), .int (nI 0)]) C mX0_120 (m_typeAt hw hs9 (k := 0) (by omega)) rfl rfl (Nat.le_of_ble_eq_true rfl) (jroom hR (by first | decide | omega) (by decide)) dX0_readCall_101 ?_
      rintro v9 h9 ⟨rfl, rfl⟩
      exact j_iret C hrt hE dX0_readCall_104 ⟨_, _, hc, f2 s rfl⟩
    · rw [o1] at c63
      refine k_aload_n C dX0_readCall_66 rfl ?_
      refine j_getr C fX0_22 rfl (by first | decide | omega) (by first | assumption | rfl) (cAt_un hS hc) dX0_readCall_67 ?_
      refine j_geti C fX0_61 rfl (by omega) k3 dX0_readCall_70 ?_
      rw [cAt_me hS hc]
      refine j_goto C 77 dX0_readCall_73 (by decide) ?_
      refine j_bipush (v := 26) C dX0_readCall_77 (by decide) ?_
      refine j_imul C dX0_readCall_79 ?_
      refine k_iload_n C dX0_readCall_80 rfl ?_
      refine j_iadd C dX0_readCall_81 ?_
      first | rw [opN c63] | rw [opP c63]
      refine k_callV (k := ub u) (ci := 3) (As := [.int (nI 12), .int (nI (opX me o m))]) C mX0_131 (t_emit hw hS hc (nI 12) (nI (opX me o m))) jCl3.1 (by omega) k3 rfl rfl (Nat.le_of_ble_eq_true rfl) (jroom hR (by omega) (by decide)) dX0_readCall_82 ?_
      rintro v9 h9 ⟨⟨c9, -, rfl, -⟩, hc⟩
      refine j_pop C dX0_readCall_85 rfl ?_
      refine k_aload C dX0_readCall_86 rfl ?_
      refine j_ifnonnull C 98 dX0_readCall_88 (by decide) ?_
      refine k_iload C dX0_readCall_98 rfl ?_
      refine j_iconst (v := 0) C dX0_readCall_100 (by decide) ?_
      refine k_callS (As := [.int (nI s), .int (nI 0)]) C mX0_120 (m_typeAt hw hs9 (k := 0) (by omega)) rfl rfl (Nat.le_of_ble_eq_true rfl) (jroom hR (by first | decide | omega) (by decide)) dX0_readCall_101 ?_
      rintro v9 h9 ⟨rfl, rfl⟩
      exact j_iret C hrt hE dX0_readCall_104 ⟨_, _, hc, f2 s rfl⟩
  show J X w h 0 [(0, .ref (jad w 13)), (1, .int (oI o)), (2, .int (nI dp))] []
  refine k_aload_n C dX0_readCall_0 rfl ?_
  refine j_bipush (v := 97) C dX0_readCall_1 (by decide) ?_
  refine j_bipush (v := 122) C dX0_readCall_3 (by decide) ?_
  refine k_callV (k := 13) (ci := 0) (As := [.int (nI 97), .int (nI 122)]) C mX0_57 (t_readAmong hw hS hc (lo := 97) (hi := 122) (by omega) (by omega) (by omega)) jCl0.1 (by first | decide | omega) (by first | assumption | rfl) rfl rfl (Nat.le_of_ble_eq_true rfl) (jroom hR (by first | decide | omega) (by decide)) dX0_readCall_5 ?_
  rintro v9 h9 ⟨rfl, hc⟩
  rw [← e1] at hc
  rw [← hm9]
  refine k_istore_n C dX0_readCall_8 (by rw [hnL]; decide) ?_
  refine k_aload_n C dX0_readCall_9 rfl ?_
  refine j_getr C fX0_22 rfl (by first | decide | omega) (by first | assumption | rfl) (cAt_un hS hc) dX0_readCall_10 ?_
  refine k_iload_n C dX0_readCall_13 rfl ?_
  refine k_iload_n C dX0_readCall_14 rfl ?_
  refine k_callV (k := ub u) (ci := 3) (As := [.int (oI o), .int (nI m)]) C mX0_87 (t_find hw hS hc ho hm26) jCl3.1 (by omega) k3 rfl rfl (Nat.le_of_ble_eq_true rfl) (jroom hR (by omega) (by decide)) dX0_readCall_15 ?_
  rintro v9 h9 ⟨rfl, (⟨hl0, rfl⟩ | ⟨i, s, hi, hl0, hs9, hsg, rfl⟩)⟩
  · exact restN _ hl0 hc
  · exact restR _ i s hi hl0 hs9 hsg hc
end RDD
end
section
section RDE
variable {l : Launch} {w : jW} {h0 h : jH} {u : Nat} {t : Nat → Nat} {n : Nat} {hs : List (Nat × Nat × Nat)} {me sg bs : Nat} {a a' : Nat} {md md' : cMd} {r : Option Value} {dp d D : Nat} {sub : Nat → PR} {br : Bool}
theorem impRel {x : Int32} {a1 : Nat} {md1 : cMd} (c13 : ¬ (48 ≤ pek t n a ∧ pek t n a ≤ 57)) (c24 : ¬ pek t n a = 36) (c35 : br = true) (c51 : ¬ (97 ≤ pek t n a ∧ pek t n a ≤ 122)) (c71 : 65 ≤ pek t n a ∧ pek t n a ≤ 70)
    (h : cRel me bs (oAt (pek t n (a + 1) == 46) n (a + 1) (a + 1 + 1) md).2 (if (97 ≤ pek t n (oAt (pek t n (a + 1) == 46) n (a + 1) (a + 1 + 1) md).1 ∧ pek t n (oAt (pek t n (a + 1) == 46) n (a + 1) (a + 1 + 1) md).1 ≤ 122) ∧ pek t n ((oAt (pek t n (a + 1) == 46) n (a + 1) (a + 1 + 1) md).1 + 1) = 40 then pCall t n hs sub (pek t n a - 64) (pek t n (oAt (pek t n (a + 1) == 46) n (a + 1) (a + 1 + 1) md).1 - 97) ((oAt (pek t n (a + 1) == 46) n (a + 1) (a + 1 + 1) md).1 + 2) else none) a1 md1 (some (.int x))) : cRel me bs md (pWho t n hs sg br sub a) a1 md1 (some (.int x)) := by
  unfold pWho
  rw [if_neg c13, if_neg c24, if_neg (by rw [c35]; decide), if_neg c51, if_pos c71]
  by_cases c : pek t n (a + 1) = 46
  · rw [oAt_t (beq_t c)] at h
    simp only [c, true_and]
    exact h
  · rw [oAt_f (beq_f c)] at h
    rw [if_neg (fun q => c q.1)]
    exact cRel_f (cRel_n h) (fun _ => rfl)
theorem c_readWhole (hw : jok w) (hS : cS h0 u t n hs me sg) (hsg3 : ∀ k, ta sg k ≠ 3) (hd : 2 ≤ d) (hD : 4 ≤ D) (hbr : br = decide (dp < 8)) (hdp : dp ≤ 8) (hE' : br = true → d + 3 ≤ D ∧ cSub l w h0 u n me (dp + 1) d sub) (hc : cAt h0 h u n a md) (hb : cBd a md) : jM l w yX0_readWhole cX0_readWhole 4 (some .int) D [.ref (jad w 13), .int (nI dp)] h (fun r h' => ∃ a' md', cAt h0 h' u n a' md' ∧ cRel me bs md (pWho t n hs sg br sub a) a' md' r) := by
  refine jM_of (by decide) hw (Nat.le_of_ble_eq_true rfl) ?_
  intro X C hl hR hnL hrt hE
  subst hl
  have C : jC X w cX0_readWhole RX0 := C
  have hn := cS_n hS
  have hpk := pek_lt (FrTx (cAt_any hc).choose_spec.choose_spec.choose_spec.choose_spec.choose_spec.choose_spec.2.1 hS.u7 hS.2.2.1) a
  have hx8 : ∀ k : Nat, k < 2 ^ 31 → (nI (pek t n a) = nI k ↔ pek t n a = k) := fun k hk => nI_eq (by omega) hk
  have C8 : ¬ (48 ≤ pek t n a ∧ pek t n a ≤ 57) → ¬ pek t n a = 36 → br = true → ¬ (97 ≤ pek t n a ∧ pek t n a ≤ 122) → ¬ (65 ≤ pek t n a ∧ pek t n a ≤ 70) → ∀ h : jH, cAt h0 h u n a md → J X w h 99 [(0, .ref (jad w 13)), (1, .int (nI dp)), (2, .int (nI (pek t n a)))] [.int (nI (pek t n a))] := by
    intro q1 q2 q3 q4 q5 h hc
    obtain ⟨hD3, hsub⟩ := hE' q3
    have hpw : pWho t n hs sg br sub a = if pek t n a = 40 then pGrp t n sub a else if pek t n a = 123 then pPair t n sub a else if pek t n a = 91 then pCho t n sub a else none := by
      unfold pWho
      rw [if_neg q1, if_neg q2, if_neg (by rw [q3]; decide), if_neg q4, if_neg q5]
    by_cases c40 : pek t n a = 40
    · rw [if_pos c40] at hpw
      refine j_lookup C 132 dX0_readWhole_99 (by decide) (off := 33) (by rw [c40]; decide) (by decide) ?_
      refine k_aload_n C dX0_readWhole_132 rfl ?_
      refine k_iload_n C dX0_readWhole_133 rfl ?_
      refine j_iconst (v := 1) C dX0_readWhole_134 (by decide) ?_
      refine j_iadd C dX0_readWhole_135 ?_
      rw [nI_1]
      refine k_callV (k := 13) (ci := 0) (As := [.int (nI (dp + 1))]) C mX0_164 (c_readGroup (bs := bs) hw hS hd hsub hc hb c40) jCl0.1 (by first | decide | omega) (by first | assumption | rfl) rfl rfl (Nat.le_of_ble_eq_true rfl) (jroom hR (by first | decide | omega) (by decide)) dX0_readWhole_136 ?_
      rintro v9 h9 ⟨a1, md1, hc, hr1⟩
      obtain ⟨x1, rfl⟩ := cRel_int hr1
      exact j_iret C hrt hE dX0_readWhole_139 (⟨_, _, hc, by rw [hpw]; exact hr1⟩)
    by_cases c123 : pek t n a = 123
    · rw [if_neg c40, if_pos c123] at hpw
      refine j_lookup C 140 dX0_readWhole_99 (by decide) (off := 41) (by rw [c123]; decide) (by decide) ?_
      refine k_aload_n C dX0_readWhole_140 rfl ?_
      refine k_iload_n C dX0_readWhole_141 rfl ?_
      refine j_iconst (v := 1) C dX0_readWhole_142 (by decide) ?_
      refine j_iadd C dX0_readWhole_143 ?_
      rw [nI_1]
      refine k_callV (k := 13) (ci := 0) (As := [.int (nI (dp + 1))]) C mX0_167 (c_readPair (bs := bs) hw hS hd hsub hc hb c123) jCl0.1 (by first | decide | omega) (by first | assumption | rfl) rfl rfl (Nat.le_of_ble_eq_true rfl) (jroom hR (by first | decide | omega) (by decide)) dX0_readWhole_144 ?_
      rintro v9 h9 ⟨a1, md1, hc, hr1⟩
      obtain ⟨x1, rfl⟩ := cRel_int hr1
      exact j_iret C hrt hE dX0_readWhole_147 (⟨_, _, hc, by rw [hpw]; exact hr1⟩)
    by_cases c91 : pek t n a = 91
    · rw [if_neg c40, if_neg c123, if_pos c91] at hpw
      refine j_lookup C 148 dX0_readWhole_99 (by decide) (off := 49) (by rw [c91]; decide) (by decide) ?_
      refine k_aload_n C dX0_readWhole_148 rfl ?_
      refine k_iload_n C dX0_readWhole_149 rfl ?_
      refine j_iconst (v := 1) C dX0_readWhole_150 (by decide) ?_
      refine j_iadd C dX0_readWhole_151 ?_
      rw [nI_1]
      refine k_callV (k := 13) (ci := 0) (As := [.int (nI (dp + 1))]) C mX0_170 (c_readChoice (bs := bs) hw hS hd hsub hc hb c91) jCl0.1 (by first | decide | omega) (by first | assumption | rfl) rfl rfl (Nat.le_of_ble_eq_true rfl) (jroom hR (by first | decide | omega) (by decide)) dX0_readWhole_152 ?_
      rintro v9 h9 ⟨a1, md1, hc, hr1⟩
      obtain ⟨x1, rfl⟩ := cRel_int hr1
      exact j_iret C hrt hE dX0_readWhole_155 (⟨_, _, hc, by rw [hpw]; exact hr1⟩)
    · rw [if_neg c40, if_neg c123, if_neg c91] at hpw
      refine j_lookup C 156 dX0_readWhole_99 (by decide) (off := 57) (by
        rw [lv_osw (k := 40) (fun e => c40 ((hx8 40 (by decide)).mp e)) (by decide), lv_osw (k := 91) (fun e => c91 ((hx8 91 (by decide)).mp e)) (by decide), lv_osw (k := 123) (fun e => c123 ((hx8 123 (by decide)).mp e)) (by decide)]
        rfl) (by decide) ?_
      refine k_aload_n C dX0_readWhole_156 rfl ?_
      refine k_callV (k := 13) (ci := 0) (As := []) C mX0_75 (t_refuse hw hS hc) jCl0.1 (by first | decide | omega) (by first | assumption | rfl) rfl rfl (Nat.le_of_ble_eq_true rfl) (jroom hR (by first | decide | omega) (by decide)) dX0_readWhole_157 ?_
      rintro v9 h9 ⟨rfl, hc⟩
      exact j_iret C hrt hE dX0_readWhole_160 (⟨_, _, hc, cRel_f rfl (fun _ => hpw)⟩)
  show J X w h 0 [(0, .ref (jad w 13)), (1, .int (nI dp))] []
  refine k_aload_n C dX0_readWhole_0 rfl ?_
  refine k_callV (k := 13) (ci := 0) (As := []) C mX0_64 (t_peek hw hS hc) jCl0.1 (by first | decide | omega) (by first | assumption | rfl) rfl rfl (Nat.le_of_ble_eq_true rfl) (jroom hR (by first | decide | omega) (by decide)) dX0_readWhole_1 ?_
  rintro v9 h9 ⟨rfl, rfl⟩
  refine k_istore_n C dX0_readWhole_4 (by rw [hnL]; decide) ?_
  refine k_iload_n C dX0_readWhole_5 rfl ?_
  refine j_bipush (v := 48) C dX0_readWhole_6 (by decide) ?_
  refine j_bipush (v := 57) C dX0_readWhole_8 (by decide) ?_
  refine k_callS (As := [.int (nI (pek t n a)), .int (nI 48), .int (nI 57)]) C mX0_151 (m_isIn hw (x := pek t n a) (y := 48) (z := 57) (by omega) (by omega) (by omega)) rfl rfl (Nat.le_of_ble_eq_true rfl) (jroom hR (by first | decide | omega) (by decide)) dX0_readWhole_10 ?_
  rintro v9 h9 ⟨rfl, rfl⟩
  refine j_if_eq C 21 dX0_readWhole_13 (by decide) (fun c13 => ?_) (fun c13 => ?_)
  · rw [i1z] at c13
    refine k_iload_n C dX0_readWhole_21 rfl ?_
    refine j_bipush (v := 36) C dX0_readWhole_22 (by decide) ?_
    refine j_icmp_ne C 32 dX0_readWhole_24 (by decide) (fun c24 => ?_) (fun c24 => ?_)
    · replace c24 := fun e => c24 ((hx8 36 (by decide)).mpr e)
      refine k_iload_n C dX0_readWhole_32 rfl ?_
      refine j_bipush (v := 8) C dX0_readWhole_33 (by decide) ?_
      refine j_icmp_lt C 43 dX0_readWhole_35 (by decide) (fun c35 => ?_) (fun c35 => ?_)
      · replace c35 : br = true := by rw [hbr]; simpa using (nI_ltI (a := dp) (b := 8) (by omega) (by omega)).mp c35
        refine k_iload_n C dX0_readWhole_43 rfl ?_
        refine j_bipush (v := 97) C dX0_readWhole_44 (by decide) ?_
        refine j_bipush (v := 122) C dX0_readWhole_46 (by decide) ?_
        refine k_callS (As := [.int (nI (pek t n a)), .int (nI 97), .int (nI 122)]) C mX0_151 (m_isIn hw (x := pek t n a) (y := 97) (z := 122) (by omega) (by omega) (by omega)) rfl rfl (Nat.le_of_ble_eq_true rfl) (jroom hR (by first | decide | omega) (by decide)) dX0_readWhole_48 ?_
        rintro v9 h9 ⟨rfl, rfl⟩
        refine j_if_eq C 63 dX0_readWhole_51 (by decide) (fun c51 => ?_) (fun c51 => ?_)
        · rw [i1z] at c51
          refine k_iload_n C dX0_readWhole_63 rfl ?_
          refine j_bipush (v := 65) C dX0_readWhole_64 (by decide) ?_
          refine j_bipush (v := 70) C dX0_readWhole_66 (by decide) ?_
          refine k_callS (As := [.int (nI (pek t n a)), .int (nI 65), .int (nI 70)]) C mX0_151 (m_isIn hw (x := pek t n a) (y := 65) (z := 70) (by omega) (by omega) (by omega)) rfl rfl (Nat.le_of_ble_eq_true rfl) (jroom hR (by first | decide | omega) (by decide)) dX0_readWhole_68 ?_
          rintro v9 h9 ⟨rfl, rfl⟩
          refine j_if_eq C 98 dX0_readWhole_71 (by decide) (fun c71 => ?_) (fun c71 => ?_)
          · rw [i1z] at c71
            refine k_iload_n C dX0_readWhole_98 rfl ?_
            exact C8 c13 c24 c35 c51 c71 _ hc
          · rw [i1z, Classical.not_not] at c71; obtain ⟨hD3, hsub⟩ := hE' c35
            refine k_aload_n C dX0_readWhole_74 rfl ?_
            refine j_bipush (v := 65) C dX0_readWhole_75 (by decide) ?_
            refine j_bipush (v := 70) C dX0_readWhole_77 (by decide) ?_
            refine k_callV (k := 13) (ci := 0) (As := [.int (nI 65), .int (nI 70)]) C mX0_57 (t_readAmong hw hS hc (lo := 65) (hi := 70) (by omega) (by omega) (by omega)) jCl0.1 (by first | decide | omega) (by first | assumption | rfl) rfl rfl (Nat.le_of_ble_eq_true rfl) (jroom hR (by first | decide | omega) (by decide)) dX0_readWhole_79 ?_
            rintro v9 h9 ⟨rfl, hc⟩
            simp only [oAt, c71, and_self, decide_true, if_true] at hc
            have eo : nI (if 65 ≤ pek t n a ∧ pek t n a ≤ 70 then pek t n a - 65 else 0) = oI (pek t n a - 64) := by rw [if_pos c71, oI_p (by omega)]; congr 1
            rw [eo]
            refine k_istore_n C dX0_readWhole_82 (by rw [hnL]; decide) ?_
            refine k_aload_n C dX0_readWhole_83 rfl ?_
            refine j_bipush (v := 46) C dX0_readWhole_84 (by decide) ?_
            refine k_callV (k := 13) (ci := 0) (As := [.int (nI 46)]) C mX0_68 (t_take hw hS hc (ch := 46) (by decide) (by decide)) jCl0.1 (by first | decide | omega) (by first | assumption | rfl) rfl rfl (Nat.le_of_ble_eq_true rfl) (jroom hR (by first | decide | omega) (by decide)) dX0_readWhole_86 ?_
            rintro v9 h9 ⟨rfl, hc⟩
            refine k_aload_n C dX0_readWhole_89 rfl ?_
            refine k_iload_n C dX0_readWhole_90 rfl ?_
            refine k_iload_n C dX0_readWhole_91 rfl ?_
            refine j_iconst (v := 1) C dX0_readWhole_92 (by decide) ?_
            refine j_iadd C dX0_readWhole_93 ?_
            rw [nI_1]
            refine k_callV (k := 13) (ci := 0) (As := [.int (oI (pek t n a - 64)), .int (nI (dp + 1))]) C mX0_161 (c_readCall (bs := bs) (o := pek t n a - 64) hw hS hd hsub (by omega) hc (cBd_at (cBd_up hb (by omega)) (by omega))) jCl0.1 (by first | decide | omega) (by first | assumption | rfl) rfl rfl (Nat.le_of_ble_eq_true rfl) (jroom hR (by first | decide | omega) (by decide)) dX0_readWhole_94 ?_
            rintro v9 h9 ⟨a1, md1, hc, hr1⟩
            obtain ⟨x1, rfl⟩ := cRel_int hr1
            exact j_iret C hrt hE dX0_readWhole_97 ⟨_, _, hc, impRel c13 c24 c35 c51 c71 hr1⟩
        · rw [i1z, Classical.not_not] at c51; obtain ⟨hD3, hsub⟩ := hE' c35
          refine k_aload_n C dX0_readWhole_54 rfl ?_
          refine j_iconst (v := -1) C dX0_readWhole_55 (by decide) ?_
          refine k_iload_n C dX0_readWhole_56 rfl ?_
          refine j_iconst (v := 1) C dX0_readWhole_57 (by decide) ?_
          refine j_iadd C dX0_readWhole_58 ?_
          rw [nI_1]
          refine k_callV (k := 13) (ci := 0) (As := [.int (oI 0), .int (nI (dp + 1))]) C mX0_161 (c_readCall (bs := bs) (o := 0) hw hS hd hsub (by omega) hc hb) jCl0.1 (by first | decide | omega) (by first | assumption | rfl) rfl rfl (Nat.le_of_ble_eq_true rfl) (jroom hR (by first | decide | omega) (by decide)) dX0_readWhole_59 ?_
          rintro v9 h9 ⟨a1, md1, hc, hr1⟩
          obtain ⟨x1, rfl⟩ := cRel_int hr1
          exact j_iret C hrt hE dX0_readWhole_62 ⟨_, _, hc, by unfold pWho; rw [if_neg c13, if_neg c24, if_neg (by rw [c35]; decide), if_pos c51]; simp only [c51, and_self, true_and] at hr1; exact hr1⟩
      · replace c35 : br = false := by rw [hbr]; simpa using fun e => c35 (nI_lt (a := dp) (b := 8) e (by omega))
        refine k_aload_n C dX0_readWhole_38 rfl ?_
        refine k_callV (k := 13) (ci := 0) (As := []) C mX0_75 (t_refuse hw hS hc) jCl0.1 (by first | decide | omega) (by first | assumption | rfl) rfl rfl (Nat.le_of_ble_eq_true rfl) (jroom hR (by first | decide | omega) (by decide)) dX0_readWhole_39 ?_
        rintro v9 h9 ⟨rfl, hc⟩
        exact j_iret C hrt hE dX0_readWhole_42 ⟨_, _, hc, cRel_f rfl (fun _ => by unfold pWho; rw [if_neg c13, if_neg c24, if_pos c35])⟩
    · replace c24 := (hx8 36 (by decide)).mp c24
      refine k_aload_n C dX0_readWhole_27 rfl ?_
      refine k_callV (k := 13) (ci := 0) (As := []) C mX0_158 (c_readParameter (bs := bs) hw hS hsg3 hc hb c24) jCl0.1 (by first | decide | omega) (by first | assumption | rfl) rfl rfl (Nat.le_of_ble_eq_true rfl) (jroom hR (by first | decide | omega) (by decide)) dX0_readWhole_28 ?_
      rintro v9 h9 ⟨a1, md1, hc, hr1⟩
      obtain ⟨x1, rfl⟩ := cRel_int hr1
      exact j_iret C hrt hE dX0_readWhole_31 ⟨_, _, hc, by unfold pWho; rw [if_neg c13, if_pos c24]; exact hr1⟩
  · rw [i1z, Classical.not_not] at c13
    refine k_aload_n C dX0_readWhole_16 rfl ?_
    refine k_callV (k := 13) (ci := 0) (As := []) C mX0_155 (c_readNumber (bs := bs) hw hS hc hb c13) jCl0.1 (by first | decide | omega) (by first | assumption | rfl) rfl rfl (Nat.le_of_ble_eq_true rfl) (jroom hR (by first | decide | omega) (by decide)) dX0_readWhole_17 ?_
    rintro v9 h9 ⟨a1, md1, hc, hr1⟩
    obtain ⟨x1, rfl⟩ := cRel_int hr1
    exact j_iret C hrt hE dX0_readWhole_20 ⟨_, _, hc, by unfold pWho; rw [if_pos c13]; exact hr1⟩
end RDE
end
