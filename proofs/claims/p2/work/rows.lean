section
-- ===== PART A: goes FIRST, ahead of the names: the tables' words, and 'selects' of the private methods out of them =====
/-- a private method of a class that the tables say can be made, by its rows of tables_1 -/
def lw_okq (q : MethodName × Nat) : Prop := (q.1.cls ≠ "java/lang/invoke/MethodHandle" ∧ q.1.cls ≠ "java/lang/invoke/VarHandle") ∧ Cond.instantiable q.1.cls q.2 ∈ tables_1 ∧ Cond.privateMethod q.1 ∈ tables_1 ∧ Cond.instanceMethod q.1 ∈ tables_1
theorem lw_p0 : lw_okq (⟨"LabelNet", "isRouter", "(I)Z"⟩, 7) := ⟨⟨by decide +kernel, by decide +kernel⟩, List.mem_of_getElem? (i := 16) (by decide +kernel), List.mem_of_getElem? (i := 245) (by decide +kernel), List.mem_of_getElem? (i := 246) (by decide +kernel)⟩
theorem lw_p1 : lw_okq (⟨"LabelNet", "hop", "(LLabelNet$Router;I)I"⟩, 7) := ⟨⟨by decide +kernel, by decide +kernel⟩, List.mem_of_getElem? (i := 16) (by decide +kernel), List.mem_of_getElem? (i := 254) (by decide +kernel), List.mem_of_getElem? (i := 255) (by decide +kernel)⟩
theorem lw_p2 : lw_okq (⟨"LabelNet", "ofMapping", "(LLabelNet$Router;II[[I)I"⟩, 7) := ⟨⟨by decide +kernel, by decide +kernel⟩, List.mem_of_getElem? (i := 16) (by decide +kernel), List.mem_of_getElem? (i := 281) (by decide +kernel), List.mem_of_getElem? (i := 282) (by decide +kernel)⟩
theorem lw_p3 : lw_okq (⟨"LabelNet", "hopToEgress", "(LLabelNet$Router;I)I"⟩, 7) := ⟨⟨by decide +kernel, by decide +kernel⟩, List.mem_of_getElem? (i := 16) (by decide +kernel), List.mem_of_getElem? (i := 285) (by decide +kernel), List.mem_of_getElem? (i := 286) (by decide +kernel)⟩
theorem lw_p4 : lw_okq (⟨"LabelNet", "packetsUnderWay", "()I"⟩, 7) := ⟨⟨by decide +kernel, by decide +kernel⟩, List.mem_of_getElem? (i := 16) (by decide +kernel), List.mem_of_getElem? (i := 297) (by decide +kernel), List.mem_of_getElem? (i := 298) (by decide +kernel)⟩
theorem lw_p5 : lw_okq (⟨"LabelNet", "linksUp", "()I"⟩, 7) := ⟨⟨by decide +kernel, by decide +kernel⟩, List.mem_of_getElem? (i := 16) (by decide +kernel), List.mem_of_getElem? (i := 301) (by decide +kernel), List.mem_of_getElem? (i := 302) (by decide +kernel)⟩
theorem lw_p6 : lw_okq (⟨"java/lang/Throwable", "fillInStackTrace", "(I)Ljava/lang/Throwable;"⟩, 6) := ⟨⟨by decide +kernel, by decide +kernel⟩, List.mem_of_getElem? (i := 354) (by decide +kernel), List.mem_of_getElem? (i := 352) (by decide +kernel), List.mem_of_getElem? (i := 353) (by decide +kernel)⟩
theorem lw_p7 : lw_okq (⟨"LabelNet", "comesUp", "(I)V"⟩, 7) := ⟨⟨by decide +kernel, by decide +kernel⟩, List.mem_of_getElem? (i := 16) (by decide +kernel), List.mem_of_getElem? (i := 409) (by decide +kernel), List.mem_of_getElem? (i := 410) (by decide +kernel)⟩
theorem lw_p8 : lw_okq (⟨"LabelNet", "tell", "(LLabelNet$Router;)V"⟩, 7) := ⟨⟨by decide +kernel, by decide +kernel⟩, List.mem_of_getElem? (i := 16) (by decide +kernel), List.mem_of_getElem? (i := 413) (by decide +kernel), List.mem_of_getElem? (i := 414) (by decide +kernel)⟩
theorem lw_p9 : lw_okq (⟨"LabelNet", "linksUpAt", "(I)I"⟩, 7) := ⟨⟨by decide +kernel, by decide +kernel⟩, List.mem_of_getElem? (i := 16) (by decide +kernel), List.mem_of_getElem? (i := 418) (by decide +kernel), List.mem_of_getElem? (i := 419) (by decide +kernel)⟩
theorem lw_p10 : lw_okq (⟨"LabelNet", "prefixesAt", "(I)I"⟩, 7) := ⟨⟨by decide +kernel, by decide +kernel⟩, List.mem_of_getElem? (i := 16) (by decide +kernel), List.mem_of_getElem? (i := 422) (by decide +kernel), List.mem_of_getElem? (i := 423) (by decide +kernel)⟩
theorem lw_p11 : lw_okq (⟨"LabelNet", "learn", "(LLabelNet$Router;LLabelNet$RouterRecord;)V"⟩, 7) := ⟨⟨by decide +kernel, by decide +kernel⟩, List.mem_of_getElem? (i := 16) (by decide +kernel), List.mem_of_getElem? (i := 427) (by decide +kernel), List.mem_of_getElem? (i := 428) (by decide +kernel)⟩
theorem lw_p12 : lw_okq (⟨"LabelNet", "sendOnAll", "(LLabelNet$Router;LLabelNet$Message;I)V"⟩, 7) := ⟨⟨by decide +kernel, by decide +kernel⟩, List.mem_of_getElem? (i := 16) (by decide +kernel), List.mem_of_getElem? (i := 453) (by decide +kernel), List.mem_of_getElem? (i := 454) (by decide +kernel)⟩
theorem lw_p13 : lw_okq (⟨"LabelNet", "put", "(LLabelNet$Router;ILLabelNet$Message;)Z"⟩, 7) := ⟨⟨by decide +kernel, by decide +kernel⟩, List.mem_of_getElem? (i := 16) (by decide +kernel), List.mem_of_getElem? (i := 457) (by decide +kernel), List.mem_of_getElem? (i := 458) (by decide +kernel)⟩
theorem lw_p14 : lw_okq (⟨"LabelNet", "putKnownNotes", "(LLabelNet$Router;I)V"⟩, 7) := ⟨⟨by decide +kernel, by decide +kernel⟩, List.mem_of_getElem? (i := 16) (by decide +kernel), List.mem_of_getElem? (i := 476) (by decide +kernel), List.mem_of_getElem? (i := 477) (by decide +kernel)⟩
theorem lw_p15 : lw_okq (⟨"LabelNet", "putMappings", "(LLabelNet$Router;I)V"⟩, 7) := ⟨⟨by decide +kernel, by decide +kernel⟩, List.mem_of_getElem? (i := 16) (by decide +kernel), List.mem_of_getElem? (i := 480) (by decide +kernel), List.mem_of_getElem? (i := 481) (by decide +kernel)⟩
def lw_privs_1 : List (MethodName × Nat) := [(⟨"LabelNet", "isRouter", "(I)Z"⟩, 7), (⟨"LabelNet", "hop", "(LLabelNet$Router;I)I"⟩, 7), (⟨"LabelNet", "ofMapping", "(LLabelNet$Router;II[[I)I"⟩, 7), (⟨"LabelNet", "hopToEgress", "(LLabelNet$Router;I)I"⟩, 7), (⟨"LabelNet", "packetsUnderWay", "()I"⟩, 7), (⟨"LabelNet", "linksUp", "()I"⟩, 7), (⟨"java/lang/Throwable", "fillInStackTrace", "(I)Ljava/lang/Throwable;"⟩, 6), (⟨"LabelNet", "comesUp", "(I)V"⟩, 7), (⟨"LabelNet", "tell", "(LLabelNet$Router;)V"⟩, 7), (⟨"LabelNet", "linksUpAt", "(I)I"⟩, 7), (⟨"LabelNet", "prefixesAt", "(I)I"⟩, 7), (⟨"LabelNet", "learn", "(LLabelNet$Router;LLabelNet$RouterRecord;)V"⟩, 7), (⟨"LabelNet", "sendOnAll", "(LLabelNet$Router;LLabelNet$Message;I)V"⟩, 7), (⟨"LabelNet", "put", "(LLabelNet$Router;ILLabelNet$Message;)Z"⟩, 7), (⟨"LabelNet", "putKnownNotes", "(LLabelNet$Router;I)V"⟩, 7), (⟨"LabelNet", "putMappings", "(LLabelNet$Router;I)V"⟩, 7)]
theorem lw_r1 : ∀ q ∈ lw_privs_1, lw_okq q := List.forall_mem_cons.mpr ⟨lw_p0, List.forall_mem_cons.mpr ⟨lw_p1, List.forall_mem_cons.mpr ⟨lw_p2, List.forall_mem_cons.mpr ⟨lw_p3, List.forall_mem_cons.mpr ⟨lw_p4, List.forall_mem_cons.mpr ⟨lw_p5, List.forall_mem_cons.mpr ⟨lw_p6, List.forall_mem_cons.mpr ⟨lw_p7, List.forall_mem_cons.mpr ⟨lw_p8, List.forall_mem_cons.mpr ⟨lw_p9, List.forall_mem_cons.mpr ⟨lw_p10, List.forall_mem_cons.mpr ⟨lw_p11, List.forall_mem_cons.mpr ⟨lw_p12, List.forall_mem_cons.mpr ⟨lw_p13, List.forall_mem_cons.mpr ⟨lw_p14, List.forall_mem_cons.mpr ⟨lw_p15, fun _ h => absurd h List.not_mem_nil⟩⟩⟩⟩⟩⟩⟩⟩⟩⟩⟩⟩⟩⟩⟩⟩
theorem lw_p16 : lw_okq (⟨"LabelNet", "check", "(LLabelNet$Router;)V"⟩, 7) := ⟨⟨by decide +kernel, by decide +kernel⟩, List.mem_of_getElem? (i := 16) (by decide +kernel), List.mem_of_getElem? (i := 485) (by decide +kernel), List.mem_of_getElem? (i := 486) (by decide +kernel)⟩
theorem lw_p17 : lw_okq (⟨"LabelNet", "checkPrefix", "(LLabelNet$Router;I)V"⟩, 7) := ⟨⟨by decide +kernel, by decide +kernel⟩, List.mem_of_getElem? (i := 16) (by decide +kernel), List.mem_of_getElem? (i := 489) (by decide +kernel), List.mem_of_getElem? (i := 490) (by decide +kernel)⟩
theorem lw_p18 : lw_okq (⟨"LabelNet", "pathNow", "(LLabelNet$Router;I)I"⟩, 7) := ⟨⟨by decide +kernel, by decide +kernel⟩, List.mem_of_getElem? (i := 16) (by decide +kernel), List.mem_of_getElem? (i := 493) (by decide +kernel), List.mem_of_getElem? (i := 494) (by decide +kernel)⟩
theorem lw_p19 : lw_okq (⟨"LabelNet", "goesDown", "(I)V"⟩, 7) := ⟨⟨by decide +kernel, by decide +kernel⟩, List.mem_of_getElem? (i := 16) (by decide +kernel), List.mem_of_getElem? (i := 514) (by decide +kernel), List.mem_of_getElem? (i := 515) (by decide +kernel)⟩
theorem lw_p20 : lw_okq (⟨"LabelNet", "cut", "(LLabelNet$MessageQueue;)V"⟩, 7) := ⟨⟨by decide +kernel, by decide +kernel⟩, List.mem_of_getElem? (i := 16) (by decide +kernel), List.mem_of_getElem? (i := 518) (by decide +kernel), List.mem_of_getElem? (i := 519) (by decide +kernel)⟩
theorem lw_p21 : lw_okq (⟨"LabelNet", "handOver", "(II)I"⟩, 7) := ⟨⟨by decide +kernel, by decide +kernel⟩, List.mem_of_getElem? (i := 16) (by decide +kernel), List.mem_of_getElem? (i := 544) (by decide +kernel), List.mem_of_getElem? (i := 545) (by decide +kernel)⟩
theorem lw_p22 : lw_okq (⟨"LabelNet", "noteComes", "(LLabelNet$Router;ILLabelNet$RouterRecord;)Z"⟩, 7) := ⟨⟨by decide +kernel, by decide +kernel⟩, List.mem_of_getElem? (i := 16) (by decide +kernel), List.mem_of_getElem? (i := 552) (by decide +kernel), List.mem_of_getElem? (i := 553) (by decide +kernel)⟩
theorem lw_p23 : lw_okq (⟨"LabelNet", "mappingComes", "(LLabelNet$Router;ILLabelNet$Message;)V"⟩, 7) := ⟨⟨by decide +kernel, by decide +kernel⟩, List.mem_of_getElem? (i := 16) (by decide +kernel), List.mem_of_getElem? (i := 556) (by decide +kernel), List.mem_of_getElem? (i := 557) (by decide +kernel)⟩
theorem lw_p24 : lw_okq (⟨"LabelNet", "withdrawComes", "(LLabelNet$Router;ILLabelNet$Message;)V"⟩, 7) := ⟨⟨by decide +kernel, by decide +kernel⟩, List.mem_of_getElem? (i := 16) (by decide +kernel), List.mem_of_getElem? (i := 561) (by decide +kernel), List.mem_of_getElem? (i := 562) (by decide +kernel)⟩
theorem lw_p25 : lw_okq (⟨"LabelNet", "packetComes", "(LLabelNet$Router;II)V"⟩, 7) := ⟨⟨by decide +kernel, by decide +kernel⟩, List.mem_of_getElem? (i := 16) (by decide +kernel), List.mem_of_getElem? (i := 569) (by decide +kernel), List.mem_of_getElem? (i := 570) (by decide +kernel)⟩
theorem lw_p26 : lw_okq (⟨"LabelNet", "go", "(LLabelNet$Router;II)V"⟩, 7) := ⟨⟨by decide +kernel, by decide +kernel⟩, List.mem_of_getElem? (i := 16) (by decide +kernel), List.mem_of_getElem? (i := 577) (by decide +kernel), List.mem_of_getElem? (i := 578) (by decide +kernel)⟩
theorem lw_p27 : lw_okq (⟨"LabelNet", "firstThatWaits", "()I"⟩, 7) := ⟨⟨by decide +kernel, by decide +kernel⟩, List.mem_of_getElem? (i := 16) (by decide +kernel), List.mem_of_getElem? (i := 589) (by decide +kernel), List.mem_of_getElem? (i := 590) (by decide +kernel)⟩
theorem lw_p28 : lw_okq (⟨"LabelNetModel", "isRouter", "(I)Z"⟩, 31) := ⟨⟨by decide +kernel, by decide +kernel⟩, List.mem_of_getElem? (i := 635) (by decide +kernel), List.mem_of_getElem? (i := 747) (by decide +kernel), List.mem_of_getElem? (i := 748) (by decide +kernel)⟩
theorem lw_p29 : lw_okq (⟨"LabelNetModel", "goes", "(ZZ)Z"⟩, 31) := ⟨⟨by decide +kernel, by decide +kernel⟩, List.mem_of_getElem? (i := 635) (by decide +kernel), List.mem_of_getElem? (i := 751) (by decide +kernel), List.mem_of_getElem? (i := 752) (by decide +kernel)⟩
theorem lw_p30 : lw_okq (⟨"LabelNetModel", "empty", "(I)V"⟩, 31) := ⟨⟨by decide +kernel, by decide +kernel⟩, List.mem_of_getElem? (i := 635) (by decide +kernel), List.mem_of_getElem? (i := 759) (by decide +kernel), List.mem_of_getElem? (i := 760) (by decide +kernel)⟩
theorem lw_p31 : lw_okq (⟨"LabelNetModel", "tell", "(I)V"⟩, 31) := ⟨⟨by decide +kernel, by decide +kernel⟩, List.mem_of_getElem? (i := 635) (by decide +kernel), List.mem_of_getElem? (i := 763) (by decide +kernel), List.mem_of_getElem? (i := 764) (by decide +kernel)⟩
def lw_privs_2 : List (MethodName × Nat) := [(⟨"LabelNet", "check", "(LLabelNet$Router;)V"⟩, 7), (⟨"LabelNet", "checkPrefix", "(LLabelNet$Router;I)V"⟩, 7), (⟨"LabelNet", "pathNow", "(LLabelNet$Router;I)I"⟩, 7), (⟨"LabelNet", "goesDown", "(I)V"⟩, 7), (⟨"LabelNet", "cut", "(LLabelNet$MessageQueue;)V"⟩, 7), (⟨"LabelNet", "handOver", "(II)I"⟩, 7), (⟨"LabelNet", "noteComes", "(LLabelNet$Router;ILLabelNet$RouterRecord;)Z"⟩, 7), (⟨"LabelNet", "mappingComes", "(LLabelNet$Router;ILLabelNet$Message;)V"⟩, 7), (⟨"LabelNet", "withdrawComes", "(LLabelNet$Router;ILLabelNet$Message;)V"⟩, 7), (⟨"LabelNet", "packetComes", "(LLabelNet$Router;II)V"⟩, 7), (⟨"LabelNet", "go", "(LLabelNet$Router;II)V"⟩, 7), (⟨"LabelNet", "firstThatWaits", "()I"⟩, 7), (⟨"LabelNetModel", "isRouter", "(I)Z"⟩, 31), (⟨"LabelNetModel", "goes", "(ZZ)Z"⟩, 31), (⟨"LabelNetModel", "empty", "(I)V"⟩, 31), (⟨"LabelNetModel", "tell", "(I)V"⟩, 31)]
theorem lw_r2 : ∀ q ∈ lw_privs_2, lw_okq q := List.forall_mem_cons.mpr ⟨lw_p16, List.forall_mem_cons.mpr ⟨lw_p17, List.forall_mem_cons.mpr ⟨lw_p18, List.forall_mem_cons.mpr ⟨lw_p19, List.forall_mem_cons.mpr ⟨lw_p20, List.forall_mem_cons.mpr ⟨lw_p21, List.forall_mem_cons.mpr ⟨lw_p22, List.forall_mem_cons.mpr ⟨lw_p23, List.forall_mem_cons.mpr ⟨lw_p24, List.forall_mem_cons.mpr ⟨lw_p25, List.forall_mem_cons.mpr ⟨lw_p26, List.forall_mem_cons.mpr ⟨lw_p27, List.forall_mem_cons.mpr ⟨lw_p28, List.forall_mem_cons.mpr ⟨lw_p29, List.forall_mem_cons.mpr ⟨lw_p30, List.forall_mem_cons.mpr ⟨lw_p31, fun _ h => absurd h List.not_mem_nil⟩⟩⟩⟩⟩⟩⟩⟩⟩⟩⟩⟩⟩⟩⟩⟩
theorem lw_p32 : lw_okq (⟨"LabelNetModel", "isUp", "(II)Z"⟩, 31) := ⟨⟨by decide +kernel, by decide +kernel⟩, List.mem_of_getElem? (i := 635) (by decide +kernel), List.mem_of_getElem? (i := 767) (by decide +kernel), List.mem_of_getElem? (i := 768) (by decide +kernel)⟩
theorem lw_p33 : lw_okq (⟨"LabelNetModel", "bodyOf", "(II)I"⟩, 31) := ⟨⟨by decide +kernel, by decide +kernel⟩, List.mem_of_getElem? (i := 635) (by decide +kernel), List.mem_of_getElem? (i := 771) (by decide +kernel), List.mem_of_getElem? (i := 772) (by decide +kernel)⟩
theorem lw_p34 : lw_okq (⟨"LabelNetModel", "sendAll", "(IIIIII)V"⟩, 31) := ⟨⟨by decide +kernel, by decide +kernel⟩, List.mem_of_getElem? (i := 635) (by decide +kernel), List.mem_of_getElem? (i := 775) (by decide +kernel), List.mem_of_getElem? (i := 776) (by decide +kernel)⟩
theorem lw_p35 : lw_okq (⟨"LabelNetModel", "send", "(IIIIII)V"⟩, 31) := ⟨⟨by decide +kernel, by decide +kernel⟩, List.mem_of_getElem? (i := 635) (by decide +kernel), List.mem_of_getElem? (i := 779) (by decide +kernel), List.mem_of_getElem? (i := 780) (by decide +kernel)⟩
theorem lw_p36 : lw_okq (⟨"LabelNetModel", "put", "(IIIIII)Z"⟩, 31) := ⟨⟨by decide +kernel, by decide +kernel⟩, List.mem_of_getElem? (i := 635) (by decide +kernel), List.mem_of_getElem? (i := 783) (by decide +kernel), List.mem_of_getElem? (i := 784) (by decide +kernel)⟩
theorem lw_p37 : lw_okq (⟨"LabelNetModel", "showNotes", "(II)V"⟩, 31) := ⟨⟨by decide +kernel, by decide +kernel⟩, List.mem_of_getElem? (i := 635) (by decide +kernel), List.mem_of_getElem? (i := 787) (by decide +kernel), List.mem_of_getElem? (i := 788) (by decide +kernel)⟩
theorem lw_p38 : lw_okq (⟨"LabelNetModel", "showMappings", "(II)V"⟩, 31) := ⟨⟨by decide +kernel, by decide +kernel⟩, List.mem_of_getElem? (i := 635) (by decide +kernel), List.mem_of_getElem? (i := 791) (by decide +kernel), List.mem_of_getElem? (i := 792) (by decide +kernel)⟩
theorem lw_p39 : lw_okq (⟨"LabelNetModel", "sever", "(II)V"⟩, 31) := ⟨⟨by decide +kernel, by decide +kernel⟩, List.mem_of_getElem? (i := 635) (by decide +kernel), List.mem_of_getElem? (i := 795) (by decide +kernel), List.mem_of_getElem? (i := 796) (by decide +kernel)⟩
theorem lw_p40 : lw_okq (⟨"LabelNetModel", "slot", "(III)I"⟩, 31) := ⟨⟨by decide +kernel, by decide +kernel⟩, List.mem_of_getElem? (i := 635) (by decide +kernel), List.mem_of_getElem? (i := 799) (by decide +kernel), List.mem_of_getElem? (i := 800) (by decide +kernel)⟩
theorem lw_p41 : lw_okq (⟨"LabelNetModel", "settle", "(II)V"⟩, 31) := ⟨⟨by decide +kernel, by decide +kernel⟩, List.mem_of_getElem? (i := 635) (by decide +kernel), List.mem_of_getElem? (i := 803) (by decide +kernel), List.mem_of_getElem? (i := 804) (by decide +kernel)⟩
theorem lw_p42 : lw_okq (⟨"LabelNetModel", "check", "(I)V"⟩, 31) := ⟨⟨by decide +kernel, by decide +kernel⟩, List.mem_of_getElem? (i := 635) (by decide +kernel), List.mem_of_getElem? (i := 807) (by decide +kernel), List.mem_of_getElem? (i := 808) (by decide +kernel)⟩
theorem lw_p43 : lw_okq (⟨"LabelNetModel", "measure", "(I)V"⟩, 31) := ⟨⟨by decide +kernel, by decide +kernel⟩, List.mem_of_getElem? (i := 635) (by decide +kernel), List.mem_of_getElem? (i := 811) (by decide +kernel), List.mem_of_getElem? (i := 812) (by decide +kernel)⟩
theorem lw_p44 : lw_okq (⟨"LabelNetModel", "isStep", "(II)Z"⟩, 31) := ⟨⟨by decide +kernel, by decide +kernel⟩, List.mem_of_getElem? (i := 635) (by decide +kernel), List.mem_of_getElem? (i := 816) (by decide +kernel), List.mem_of_getElem? (i := 817) (by decide +kernel)⟩
theorem lw_p45 : lw_okq (⟨"LabelNetModel", "shorten", "(III)V"⟩, 31) := ⟨⟨by decide +kernel, by decide +kernel⟩, List.mem_of_getElem? (i := 635) (by decide +kernel), List.mem_of_getElem? (i := 820) (by decide +kernel), List.mem_of_getElem? (i := 821) (by decide +kernel)⟩
theorem lw_p46 : lw_okq (⟨"LabelNetModel", "checkOne", "(II)V"⟩, 31) := ⟨⟨by decide +kernel, by decide +kernel⟩, List.mem_of_getElem? (i := 635) (by decide +kernel), List.mem_of_getElem? (i := 824) (by decide +kernel), List.mem_of_getElem? (i := 825) (by decide +kernel)⟩
theorem lw_p47 : lw_okq (⟨"LabelNetModel", "byHop", "(II)I"⟩, 31) := ⟨⟨by decide +kernel, by decide +kernel⟩, List.mem_of_getElem? (i := 635) (by decide +kernel), List.mem_of_getElem? (i := 828) (by decide +kernel), List.mem_of_getElem? (i := 829) (by decide +kernel)⟩
def lw_privs_3 : List (MethodName × Nat) := [(⟨"LabelNetModel", "isUp", "(II)Z"⟩, 31), (⟨"LabelNetModel", "bodyOf", "(II)I"⟩, 31), (⟨"LabelNetModel", "sendAll", "(IIIIII)V"⟩, 31), (⟨"LabelNetModel", "send", "(IIIIII)V"⟩, 31), (⟨"LabelNetModel", "put", "(IIIIII)Z"⟩, 31), (⟨"LabelNetModel", "showNotes", "(II)V"⟩, 31), (⟨"LabelNetModel", "showMappings", "(II)V"⟩, 31), (⟨"LabelNetModel", "sever", "(II)V"⟩, 31), (⟨"LabelNetModel", "slot", "(III)I"⟩, 31), (⟨"LabelNetModel", "settle", "(II)V"⟩, 31), (⟨"LabelNetModel", "check", "(I)V"⟩, 31), (⟨"LabelNetModel", "measure", "(I)V"⟩, 31), (⟨"LabelNetModel", "isStep", "(II)Z"⟩, 31), (⟨"LabelNetModel", "shorten", "(III)V"⟩, 31), (⟨"LabelNetModel", "checkOne", "(II)V"⟩, 31), (⟨"LabelNetModel", "byHop", "(II)I"⟩, 31)]
theorem lw_r3 : ∀ q ∈ lw_privs_3, lw_okq q := List.forall_mem_cons.mpr ⟨lw_p32, List.forall_mem_cons.mpr ⟨lw_p33, List.forall_mem_cons.mpr ⟨lw_p34, List.forall_mem_cons.mpr ⟨lw_p35, List.forall_mem_cons.mpr ⟨lw_p36, List.forall_mem_cons.mpr ⟨lw_p37, List.forall_mem_cons.mpr ⟨lw_p38, List.forall_mem_cons.mpr ⟨lw_p39, List.forall_mem_cons.mpr ⟨lw_p40, List.forall_mem_cons.mpr ⟨lw_p41, List.forall_mem_cons.mpr ⟨lw_p42, List.forall_mem_cons.mpr ⟨lw_p43, List.forall_mem_cons.mpr ⟨lw_p44, List.forall_mem_cons.mpr ⟨lw_p45, List.forall_mem_cons.mpr ⟨lw_p46, List.forall_mem_cons.mpr ⟨lw_p47, fun _ h => absurd h List.not_mem_nil⟩⟩⟩⟩⟩⟩⟩⟩⟩⟩⟩⟩⟩⟩⟩⟩
theorem lw_p48 : lw_okq (⟨"LabelNetModel", "egress", "(II)I"⟩, 31) := ⟨⟨by decide +kernel, by decide +kernel⟩, List.mem_of_getElem? (i := 635) (by decide +kernel), List.mem_of_getElem? (i := 832) (by decide +kernel), List.mem_of_getElem? (i := 833) (by decide +kernel)⟩
theorem lw_p49 : lw_okq (⟨"LabelNetModel", "hop", "(II)I"⟩, 31) := ⟨⟨by decide +kernel, by decide +kernel⟩, List.mem_of_getElem? (i := 635) (by decide +kernel), List.mem_of_getElem? (i := 836) (by decide +kernel), List.mem_of_getElem? (i := 837) (by decide +kernel)⟩
theorem lw_p50 : lw_okq (⟨"LabelNetModel", "other", "(II)I"⟩, 31) := ⟨⟨by decide +kernel, by decide +kernel⟩, List.mem_of_getElem? (i := 635) (by decide +kernel), List.mem_of_getElem? (i := 840) (by decide +kernel), List.mem_of_getElem? (i := 841) (by decide +kernel)⟩
theorem lw_p51 : lw_okq (⟨"LabelNetModel", "withdraw", "(II)V"⟩, 31) := ⟨⟨by decide +kernel, by decide +kernel⟩, List.mem_of_getElem? (i := 635) (by decide +kernel), List.mem_of_getElem? (i := 844) (by decide +kernel), List.mem_of_getElem? (i := 845) (by decide +kernel)⟩
theorem lw_p52 : lw_okq (⟨"LabelNetModel", "become", "(IIII)V"⟩, 31) := ⟨⟨by decide +kernel, by decide +kernel⟩, List.mem_of_getElem? (i := 635) (by decide +kernel), List.mem_of_getElem? (i := 848) (by decide +kernel), List.mem_of_getElem? (i := 849) (by decide +kernel)⟩
theorem lw_p53 : lw_okq (⟨"LabelNetModel", "free", "(I)I"⟩, 31) := ⟨⟨by decide +kernel, by decide +kernel⟩, List.mem_of_getElem? (i := 635) (by decide +kernel), List.mem_of_getElem? (i := 852) (by decide +kernel), List.mem_of_getElem? (i := 853) (by decide +kernel)⟩
theorem lw_p54 : lw_okq (⟨"LabelNetModel", "come", "(I)I"⟩, 31) := ⟨⟨by decide +kernel, by decide +kernel⟩, List.mem_of_getElem? (i := 635) (by decide +kernel), List.mem_of_getElem? (i := 867) (by decide +kernel), List.mem_of_getElem? (i := 868) (by decide +kernel)⟩
theorem lw_p55 : lw_okq (⟨"LabelNetModel", "noted", "(IIIII)V"⟩, 31) := ⟨⟨by decide +kernel, by decide +kernel⟩, List.mem_of_getElem? (i := 635) (by decide +kernel), List.mem_of_getElem? (i := 871) (by decide +kernel), List.mem_of_getElem? (i := 872) (by decide +kernel)⟩
theorem lw_p56 : lw_okq (⟨"LabelNetModel", "mapped", "(IIIII)V"⟩, 31) := ⟨⟨by decide +kernel, by decide +kernel⟩, List.mem_of_getElem? (i := 635) (by decide +kernel), List.mem_of_getElem? (i := 875) (by decide +kernel), List.mem_of_getElem? (i := 876) (by decide +kernel)⟩
theorem lw_p57 : lw_okq (⟨"LabelNetModel", "withdrawn", "(IIII)V"⟩, 31) := ⟨⟨by decide +kernel, by decide +kernel⟩, List.mem_of_getElem? (i := 635) (by decide +kernel), List.mem_of_getElem? (i := 879) (by decide +kernel), List.mem_of_getElem? (i := 880) (by decide +kernel)⟩
theorem lw_p58 : lw_okq (⟨"LabelNetModel", "released", "(IIII)V"⟩, 31) := ⟨⟨by decide +kernel, by decide +kernel⟩, List.mem_of_getElem? (i := 635) (by decide +kernel), List.mem_of_getElem? (i := 883) (by decide +kernel), List.mem_of_getElem? (i := 884) (by decide +kernel)⟩
theorem lw_p59 : lw_okq (⟨"LabelNetModel", "go", "(III)V"⟩, 31) := ⟨⟨by decide +kernel, by decide +kernel⟩, List.mem_of_getElem? (i := 635) (by decide +kernel), List.mem_of_getElem? (i := 887) (by decide +kernel), List.mem_of_getElem? (i := 888) (by decide +kernel)⟩
theorem lw_p60 : lw_okq (⟨"LabelNetModel", "asked", "(III)I"⟩, 31) := ⟨⟨by decide +kernel, by decide +kernel⟩, List.mem_of_getElem? (i := 635) (by decide +kernel), List.mem_of_getElem? (i := 923) (by decide +kernel), List.mem_of_getElem? (i := 924) (by decide +kernel)⟩
def lw_privs_4 : List (MethodName × Nat) := [(⟨"LabelNetModel", "egress", "(II)I"⟩, 31), (⟨"LabelNetModel", "hop", "(II)I"⟩, 31), (⟨"LabelNetModel", "other", "(II)I"⟩, 31), (⟨"LabelNetModel", "withdraw", "(II)V"⟩, 31), (⟨"LabelNetModel", "become", "(IIII)V"⟩, 31), (⟨"LabelNetModel", "free", "(I)I"⟩, 31), (⟨"LabelNetModel", "come", "(I)I"⟩, 31), (⟨"LabelNetModel", "noted", "(IIIII)V"⟩, 31), (⟨"LabelNetModel", "mapped", "(IIIII)V"⟩, 31), (⟨"LabelNetModel", "withdrawn", "(IIII)V"⟩, 31), (⟨"LabelNetModel", "released", "(IIII)V"⟩, 31), (⟨"LabelNetModel", "go", "(III)V"⟩, 31), (⟨"LabelNetModel", "asked", "(III)I"⟩, 31)]
theorem lw_r4 : ∀ q ∈ lw_privs_4, lw_okq q := List.forall_mem_cons.mpr ⟨lw_p48, List.forall_mem_cons.mpr ⟨lw_p49, List.forall_mem_cons.mpr ⟨lw_p50, List.forall_mem_cons.mpr ⟨lw_p51, List.forall_mem_cons.mpr ⟨lw_p52, List.forall_mem_cons.mpr ⟨lw_p53, List.forall_mem_cons.mpr ⟨lw_p54, List.forall_mem_cons.mpr ⟨lw_p55, List.forall_mem_cons.mpr ⟨lw_p56, List.forall_mem_cons.mpr ⟨lw_p57, List.forall_mem_cons.mpr ⟨lw_p58, List.forall_mem_cons.mpr ⟨lw_p59, List.forall_mem_cons.mpr ⟨lw_p60, fun _ h => absurd h List.not_mem_nil⟩⟩⟩⟩⟩⟩⟩⟩⟩⟩⟩⟩⟩
def lw_privs : List (MethodName × Nat) := lw_privs_1 ++ (lw_privs_2 ++ (lw_privs_3 ++ (lw_privs_4)))
def lw_tbl : List Cond := k2_sels lw_privs ++ tables_1
theorem lw_privs_ok : ∀ q ∈ lw_privs, lw_okq q := by
  show ∀ q ∈ lw_privs_1 ++ (lw_privs_2 ++ (lw_privs_3 ++ (lw_privs_4))), lw_okq q
  exact List.forall_mem_append.mpr ⟨lw_r1, List.forall_mem_append.mpr ⟨lw_r2, List.forall_mem_append.mpr ⟨lw_r3, lw_r4⟩⟩⟩
-- ===== end of PART A; then your names; then what follows =====
end
section
/-! ===== BEGIN words of one list among another's, by their places ===== -/
theorem goodIn_r {big : List Cond} (ws : List Cond) (ps : List Nat) (hp : ws = ps.filterMap (fun i => big[i]?)) (h : ws.all goodWord = true) : GoodIn big ws := by
  intro w hw
  have h1 := List.all_eq_true.mp h w hw
  rw [hp] at hw
  obtain ⟨i, -, hi⟩ := List.mem_filterMap.mp hw
  have hm : w ∈ big := by first | exact List.mem_of_getElem? hi | exact List.getElem?_mem hi
  exact ⟨hm, good_of_word h1⟩
theorem goodIn_app {big a b : List Cond} (ha : GoodIn big a) (hb : GoodIn big b) : GoodIn big (a ++ b) := fun w h => (List.mem_append.mp h).elim (ha w) (hb w)
theorem goodIn_ca {big a b : List Cond} {c : Cond} (ha : GoodIn big (c :: a)) (hb : GoodIn big b) : GoodIn big (c :: (a ++ b)) := fun w h => (List.mem_cons.mp h).elim (fun e => ha w (List.mem_cons.mpr (Or.inl e))) (fun h => (List.mem_append.mp h).elim (fun h => ha w (List.mem_cons.mpr (Or.inr h))) (hb w))
theorem goodIn_sub {big ws : List Cond} (hm : ∀ w ∈ ws, w ∈ big) (h : ws.all goodWord = true) : GoodIn big ws := fun w hw => ⟨hm w hw, good_of_word (List.all_eq_true.mp h w hw)⟩
/-! ===== END ===== -/

/-- own: the array over arrays of ty, as va_AO is for objects -/
def va_AOA (ty : FieldType) (U : State) : Prop := (Cond.arrayOver (.array ty)).before #[] U = true
theorem va_AOA.use {ty : FieldType} {A : Array Value} {U : State} (h : va_AOA ty U) : (Cond.arrayOver (.array ty)).before A U = true := h
/-! ===== BEGIN new T[n][m]: the outer array a place, the inner ones among the pooled ===== -/
/-- f, but v at every address of l -/
def vr_up {α : Type} (f : Nat → α) (l : List Nat) (v : α) : Nat → α := fun a => if a ∈ l then v else f a
theorem vr_up_in {α : Type} {f : Nat → α} {l : List Nat} {v : α} {a : Nat} (h : a ∈ l) : vr_up f l v a = v := if_pos h
theorem vr_up_ne {α : Type} {f : Nat → α} {l : List Nat} {v : α} {a : Nat} (h : a ∉ l) : vr_up f l v a = f a := if_neg h
theorem vr_rows {L l : List Nat} {f : Nat → va_E} {e : va_E} (h : ∀ a, a ∈ l → a ∉ L) : va_pl L f ++ l.map (fun a => (a, e)) = va_pl (L ++ l) (vr_up f l e) := by
  unfold va_pl
  rw [List.map_append]
  congr 1
  · apply List.map_congr_left
    intro a ha
    rw [vr_up_ne (fun q => h a q ha)]
  · apply List.map_congr_left
    intro a ha
    rw [vr_up_in ha]
theorem vr_lay {X rows : va_W} {x : Nat × va_E} {pl : va_W} {D : va_G} {cl : List vw_C} {H : Heap} (hP : va_P D cl (((X ++ pl) ++ [x]) ++ rows) H) : va_P D cl ((X ++ [x]) ++ (pl ++ rows)) H := by
  rw [List.append_assoc (X ++ pl)] at hP
  have h := va_P.swap hP
  rw [← List.append_assoc X] at h
  have h2 := va_P.swap h
  rw [List.append_assoc (X ++ [x])] at h2
  exact h2
theorem vr_layD {X rows : va_W} {x : Nat × va_E} {pl : va_W} {A : Nat → Prop} (hD : va_D A (((X ++ pl) ++ [x]) ++ rows)) : va_D A ((X ++ [x]) ++ (pl ++ rows)) := by
  rw [List.append_assoc (X ++ pl)] at hD
  have h := va_D.swap hD
  rw [← List.append_assoc X] at h
  have h2 := va_D.swap h
  rw [List.append_assoc (X ++ [x])] at h2
  exact h2
theorem vr_outer (c : ClassId) (N h0 : Nat) : ∀ i : Nat, Jvm.Free.Multi.outerC c N h0 i = arrV c N (fun j => va_rf (if j < i then some (h0 + 1 + j) else none))
  | 0 => by
    show ({ cls := c, slots := Array.replicate N .null, vm := .none } : Cell) = _
    rw [arrV_new]
    refine congrArg (arrV c N) (funext fun j => ?_)
    simp [va_rf]
  | i + 1 => by
    show (Jvm.Free.Multi.outerC c N h0 i).setSlot i (.ref (h0 + 1 + i)) = _
    rw [vr_outer c N h0 i, arrV_store]
    refine congrArg (arrV c N) (funext fun j => ?_)
    by_cases e : j = i
    · subst e
      simp [updV, va_rf]
    · by_cases h : j < i
      · simp [updV, e, h, Nat.lt_succ_of_lt h]
      · simp [updV, e, h, show ¬ j < i + 1 by omega]
section VGM
variable {p : Program} {l : Launch} {e : Env} {R : Room} {s : State} {m : MethodId} {args : Array Value} {below : List Frame} {meth : Method} {c : Code} {H : Heap} {locs : List Loc} {cells slots : Nat} {Q : State → Prop}
variable {cc : ByteArray} {pc : Nat} {ls : Array Slot} {rest : List Value} {D : va_G} {cl : List vw_C} {A : Nat → Prop} {a : Nat} {tys : List (ClassId × FieldType)} {ws : va_W} {H0 : Heap}
theorem va_mna {X : va_W} {L : List Nat} {f : Nat → va_E} {cc : ByteArray} (hexec : p.tables.exec = Jvm.exec) (hb : c.code = cc) {own : String} {index : Nat} {ty : FieldType} {cy : ClassId} (hown : s.vm.findClass own = some m.cls) (hclink : (Cond.classLink own index ("[" ++ (FieldType.array ty).toString)).before args s = true) (hover : va_AOA ty s) (harr : (Cond.arrayClass ty).before args s = true) (hcy : s.vm.findClass (FieldType.array ty).toString = some cy)
    (hK : va_K D cl tys s) (hP : va_P D cl (X ++ va_pl L f) H) (hD : va_D A (X ++ va_pl L f)) (hS : va_S A H0 H locs) (hA : ∀ q, H0.size ≤ q → A q) {n k : Int32} {N' K' : Nat} {z : vp_A} (hn : ¬ n < 0) (hk : ¬ k < 0) (hN : n.toNatClampNeg = N') (hM : k.toNatClampNeg = K')
    (hb1 : N' * 4 ≤ 536870912) (hb2 : K' * componentBytes ty ≤ 536870912) (hb3 : K' ≤ 536870912) (hdf : fits ty (defaultValue ty) = true) (hdd : (defaultValue ty).isDefault = true) (hcells : cells + (1 + N') ≤ R.cells) (hslots : slots + (N' + N' * K') ≤ R.slots) (hz : ∀ c : ClassId, Jvm.Free.Multi.innerC c K' (defaultValue ty) = vp_cell c z) (hdg : decode cc pc = .ok (.multianewarray index 2, 4))
    (kk : ∀ (q : Nat) (r : Nat → Nat) (cA : ClassId) (H1 : Heap), (∀ i j : Nat, i < N' → j < N' → r i = r j → i = j) → (∀ i : Nat, i < N' → r i ∉ L) → va_K D cl (tys ++ [(cA, .array ty)]) s →
      va_P D cl ((X ++ [(q, .inl (cA, N', .inr (.inr (.inr (.inr (fun i => if i < N' then some (r i) else none))))))]) ++ va_pl (L ++ (List.range N').map r) (vr_up f ((List.range N').map r) (.inl (cy, z)))) H1 → va_D A ((X ++ [(q, .inl (cA, N', .inr (.inr (.inr (.inr (fun i => if i < N' then some (r i) else none))))))]) ++ va_pl (L ++ (List.range N').map r) (vr_up f ((List.range N').map r) (.inl (cy, z)))) → va_S A H0 H1 locs →
      W p l e R s m args below meth c H1 locs (cells + 1 + N') (slots + N' + N' * K') Q (F0 m (pc + 4) ls (.ref q :: rest))) : W p l e R s m args below meth c H locs cells slots Q (F0 m pc ls (.int k :: .int n :: rest)) := by
  subst hN
  subst hM
  intro T hT Xs
  obtain ⟨vm₁, cA, comp, -, fA, fC, hO, -, X', step⟩ := Xs.multianewarray2F hexec hown hclink (va_AOA.use hover) harr (g := F0 m pc ls (.int k :: .int n :: rest)) rfl (by rw [hb]; exact hdg) rfl hn hk hb1 hb2 hb3 hdf hdd hcells hslots
  have ec : some cy = some comp := hcy.symm.trans fC
  cases ec
  generalize hF : Jvm.Free.Multi.fill (T.setVm vm₁) cA cy n.toNatClampNeg k.toNatClampNeg (defaultValue ty) n.toNatClampNeg = F at X' step
  have hTh : (T.setVm vm₁).heap = H := hT
  obtain ⟨f1, f2, -, -⟩ := Jvm.Free.Multi.fill_facts (T.setVm vm₁) cA cy n.toNatClampNeg k.toNatClampNeg (defaultValue ty) n.toNatClampNeg
  rw [hF, hTh] at f1 f2
  have hold : ∀ x : Nat, x < H.size → F.heap[x]? = H[x]? := fun x hx => by
    have := Jvm.Free.Multi.fill_old (T.setVm vm₁) cA cy n.toNatClampNeg k.toNatClampNeg (defaultValue ty) (a := x) (by rw [hTh]; exact hx) n.toNatClampNeg
    rw [hF, hTh] at this
    exact this
  have hrow : ∀ j : Nat, j < n.toNatClampNeg → F.heap[H.size + 1 + j]? = some (vp_cell cy z) := fun j hj => by
    have := Jvm.Free.Multi.fill_inner (T.setVm vm₁) cA cy n.toNatClampNeg k.toNatClampNeg (defaultValue ty) n.toNatClampNeg j hj
    rw [hF, hTh, hz] at this
    exact this
  have hout : Jvm.Free.Multi.outerC cA n.toNatClampNeg H.size n.toNatClampNeg = vp_cell cA (n.toNatClampNeg, .inr (.inr (.inr (.inr (fun i => if i < n.toNatClampNeg then some (H.size + 1 + i) else none))))) := by
    rw [vp_cell_q]
    exact vr_outer cA n.toNatClampNeg H.size n.toNatClampNeg
  rw [hout] at f2
  have hlt : ∀ a, a ∈ L → a < H.size := fun a ha => by
    obtain ⟨k9, hk9⟩ := va_pl_get (X := X) (f := f) ha
    exact (hP k9 _ hk9).lt
  have hnl : ∀ i : Nat, i < n.toNatClampNeg → H.size + 1 + i ∉ L := fun i _ h => by
    have := hlt _ h
    omega
  have hnm : ∀ a, a ∈ (List.range n.toNatClampNeg).map (fun i => H.size + 1 + i) → a ∉ L := fun a ha h => by
    obtain ⟨i, -, rfl⟩ := List.mem_map.mp ha
    have := hlt _ h
    omega
  have hP0 : va_P D cl (X ++ va_pl L f) F.heap := hP.kept (fun k9 x hx => hold x.1 ((hP k9 x hx).lt))
  have hP1 : va_P D cl ((X ++ va_pl L f) ++ [(H.size, .inl (cA, n.toNatClampNeg, .inr (.inr (.inr (.inr (fun i => if i < n.toNatClampNeg then some (H.size + 1 + i) else none))))))]) F.heap := hP0.app (fun k9 x hx => by
    have h0 : k9 < 1 := (List.getElem?_eq_some_iff.mp hx).1
    rw [show k9 = 0 by omega] at hx
    cases hx
    exact f2)
  have hP2 : va_P D cl (((X ++ va_pl L f) ++ [(H.size, .inl (cA, n.toNatClampNeg, .inr (.inr (.inr (.inr (fun i => if i < n.toNatClampNeg then some (H.size + 1 + i) else none))))))]) ++ ((List.range n.toNatClampNeg).map (fun i => H.size + 1 + i)).map (fun a => (a, .inl (cy, z)))) F.heap := hP1.app (fun k9 x hx => by
    obtain ⟨a, ha, rfl⟩ := List.mem_map.mp (List.mem_of_getElem? hx)
    obtain ⟨i, hi, rfl⟩ := List.mem_map.mp ha
    exact hrow i (List.mem_range.mp hi))
  have hD2 : va_D A (((X ++ va_pl L f) ++ [(H.size, .inl (cA, n.toNatClampNeg, .inr (.inr (.inr (.inr (fun i => if i < n.toNatClampNeg then some (H.size + 1 + i) else none))))))]) ++ ((List.range n.toNatClampNeg).map (fun i => H.size + 1 + i)).map (fun a => (a, .inl (cy, z)))) := by
    have hD1 := hD.push (e := .inl (cA, n.toNatClampNeg, .inr (.inr (.inr (.inr (fun i => if i < n.toNatClampNeg then some (H.size + 1 + i) else none)))))) hP rfl (hA _ hS.1)
    generalize hW1 : (X ++ va_pl L f) ++ [(H.size, .inl (cA, n.toNatClampNeg, .inr (.inr (.inr (.inr (fun i => if i < n.toNatClampNeg then some (H.size + 1 + i) else none))))))] = W1 at hD1 hP1 ⊢
    have hle : ∀ (k9 : Nat) (x : Nat × va_E), W1[k9]? = some x → x.1 ≤ H.size := fun k9 x hx => by
      rw [← hW1] at hx
      by_cases hl : k9 < (X ++ va_pl L f).length
      · rw [List.getElem?_append_left hl] at hx
        exact Nat.le_of_lt ((hP k9 x hx).lt)
      · rw [List.getElem?_append_right (by omega)] at hx
        have h0 : k9 - (X ++ va_pl L f).length < 1 := (List.getElem?_eq_some_iff.mp hx).1
        rw [show k9 - (X ++ va_pl L f).length = 0 by omega] at hx
        cases hx
        exact Nat.le_refl _
    have hr : ∀ (k9 : Nat) (x : Nat × va_E), (((List.range n.toNatClampNeg).map (fun i => H.size + 1 + i)).map (fun a => ((a, .inl (cy, z)) : Nat × va_E)))[k9]? = some x → x.1 = H.size + 1 + k9 := fun k9 x hx => by
      rw [List.getElem?_map, List.getElem?_map] at hx
      by_cases h9 : k9 < n.toNatClampNeg
      · rw [List.getElem?_range h9] at hx
        cases hx
        rfl
      · have hn0 : (List.range n.toNatClampNeg)[k9]? = none := List.getElem?_eq_none (by rw [List.length_range]; omega)
        rw [hn0] at hx
        cases hx
    refine ⟨fun i j x y hi hj hxy => ?_, fun k9 x hx => ?_⟩
    · by_cases h1 : i < W1.length <;> by_cases h2 : j < W1.length
      · rw [List.getElem?_append_left h1] at hi
        rw [List.getElem?_append_left h2] at hj
        exact hD1.1 i j x y hi hj hxy
      · rw [List.getElem?_append_left h1] at hi
        rw [List.getElem?_append_right (by omega)] at hj
        have := hle _ _ hi
        have := hr _ _ hj
        omega
      · rw [List.getElem?_append_right (by omega)] at hi
        rw [List.getElem?_append_left h2] at hj
        have := hle _ _ hj
        have := hr _ _ hi
        omega
      · rw [List.getElem?_append_right (by omega)] at hi hj
        have := hr _ _ hi
        have := hr _ _ hj
        omega
    · by_cases h1 : k9 < W1.length
      · rw [List.getElem?_append_left h1] at hx
        exact hD1.2 k9 x hx
      · rw [List.getElem?_append_right (by omega)] at hx
        have := hr _ _ hx
        exact hA _ (by have := hS.1; omega)
  have hAr : ArrOfT s cA (.array ty) := fun N9 z9 => by
    obtain ⟨-, k9, hk9, cm9, hkk9⟩ := (hO 0 0 0).1
    exact ⟨(fun q hq => by cases hq), k9, hk9, cm9, hkk9⟩
  have hK2 : va_K D cl (tys ++ [(cA, .array ty)]) s := ⟨hK.1, fun k9 x hx => by
    by_cases hl : k9 < tys.length
    · rw [List.getElem?_append_left hl] at hx
      exact hK.2 k9 x hx
    · rw [List.getElem?_append_right (by omega)] at hx
      have h0 : k9 - tys.length < 1 := (List.getElem?_eq_some_iff.mp hx).1
      rw [show k9 - tys.length = 0 by omega] at hx
      cases hx
      exact ⟨hAr, fA⟩⟩
  obtain ⟨t, a1, b1⟩ := kk H.size (fun i => H.size + 1 + i) cA F.heap (fun i j _ _ h => by have h9 : H.size + 1 + i = H.size + 1 + j := h; omega) hnl hK2 (by rw [← vr_rows hnm]; exact vr_lay hP2) (by rw [← vr_rows hnm]; exact vr_layD hD2) ⟨by rw [f1]; have := hS.1; omega, fun x h1 h2 => (hold x (Nat.lt_of_lt_of_le h1 hS.1)).trans (hS.2.1 x h1 h2), hS.2.2⟩ F rfl X'
  refine ⟨t, step t ?_, b1⟩
  have e : T.heap.size = H.size := by rw [hT]
  rw [e]
  exact a1
end VGM
/-! ===== END ===== -/

/-! ===== BEGIN exceptions that leave a method, and their catching by the caller (launches without stack traces) ===== -/
section VXA
/-! The laws vx_back, vx_callV, vx_callS, vx_callSW, vx_throw0, vx_throwS follow proofs of the library, with one case more: JvmDerived/Free/Laws.lean (Back.of_free), Shelf42/LK1.lean (callV, callS), Shelf/KitTraced.lean (throwNew0V, throwNewS). -/
/-- where a method has thrown q: the class by its name, the cell, what was written, the world -/
def vx_T (XC : String → State → State → Prop) (st : State) (q : Addr) (t : State) (mc ms : Nat) (free : Addr → Prop) : Prop :=
  ∃ (E : String) (ce : Cell) (L : List Loc), XC E st t ∧ t.heap[q]? = some ce ∧ ce.vm = .none ∧ st.vm.findClass E = some ce.cls ∧ st.WarmedH t.vm ∧ st.sameButNew ({ t with vm := st.vm } : State) L mc ms ∧ ∀ z ∈ L, free z.base
def vx_Q (Qc : Array Value → State → Outcome → State → Prop) (XC : String → State → State → Prop) (mc ms : Nat) (free : Addr → Prop) : Array Value → State → Outcome → State → Prop := fun a st o t =>
  (Qc a st o t ∧ ∃ L, FrameEnd st o t L mc ms ∧ ∀ q ∈ L, free q.base) ∨ ∃ q, o = .threw q ∧ vx_T XC st q t mc ms free
/-- a callee that returns or throws -/
def vx_Met (l : Launch) (y : MethodName) (ws : List Cond) (rm : Room) (Pc : Array Value → State → Prop) (Qc : Array Value → State → Outcome → State → Prop) (XC : String → State → State → Prop) (mc ms : Nat) (free : Addr → Prop) : Prop :=
  MetFree l y (headSpec ws rm) Pc (fun _ _ _ _ _ => True) (vx_Q Qc XC mc ms free)
def vx_Post (XC : String → State → State → Prop) (mc ms : Nat) (free : Addr → Prop) : Pt → Array Value → Addr → Pt → Prop := fun A a q B =>
  ∃ (g : JFrame) (mk : MethodId) (t : State) (L : List Loc) (E : String) (ce : Cell), B.U.heap = t.heap ∧ B.U.vm = t.vm ∧ XC E (A.U.calling g mk a) t ∧ t.heap[q]? = some ce ∧ ce.vm = .none ∧ A.U.vm.findClass E = some ce.cls ∧ B.locs = A.locs ++ L ∧ (∀ z ∈ L, free z.base) ∧ B.cells = A.cells + mc ∧ B.slots = A.slots + ms
def vx_Back (l : Launch) (R : Room) (p : Program) (e : Env) (below : List Frame) (s : State) (sargs : Array Value) (y : MethodName) (len W9 : Nat)
    (Pre : Pt → Array Value → Prop) (Post : Pt → Array Value → Option Value → Pt → Prop) (PostX : Pt → Array Value → Addr → Pt → Prop) : Prop :=
  ∀ (m : MethodId) (meth : Method) (c : Code) (A : Pt) (g : JFrame) (ig : Instr) (mk : MethodId) (a : Array Value),
    Stand p l e R s m sargs below meth c A.U A.locs A.cells A.slots → g.method = m → g.locals.size = c.maxLocals → decode c.code g.pc = .ok (ig, len) →
    2 * g.monitorRoom + (g.stack.map fun v => v.category).sum ≤ W9 → A.U.methodNamed? y = some mk → Pre A a →
    (∃ (v : Option Value) (B : Pt), Stand p l e R s m sargs below meth c B.U B.locs B.cells B.slots ∧ Post A a v B ∧
      Steps p.tables e below (doInvoke e (A.U.setTop g) [] mk a).1 (B.U.setTop { g with pc := g.pc + len, stack := v.toList ++ g.stack })) ∨
    (∃ (q : Addr) (B : Pt), Stand p l e R s m sargs below meth c B.U B.locs B.cells B.slots ∧ PostX A a q B ∧
      Steps p.tables e below (doInvoke e (A.U.setTop g) [] mk a).1 ((B.U.setTop g).pushFrame (.throwing q)))
section Payer
variable {l : Launch} {R : Room} {p : Program} {e : Env} {below : List Frame} {s : State} {sargs : Array Value} {y : MethodName} {len W9 : Nat}
theorem vx_back {ws : List Cond} {rm : Room} {Pc : Array Value → State → Prop} {Qc : Array Value → State → Outcome → State → Prop} {XC : String → State → State → Prop} {mc ms : Nat} {free : Addr → Prop} {bytes : ByteArray} {maxL : Nat} {ret : Option FieldType}
    (hM : vx_Met l y ws rm Pc Qc XC mc ms free) (hblind : FrameBlind Pc) (hrc : rm.cells = mc) (hrs : rm.slots = ms)
    (hframes : rm.frames + 1 ≤ R.frames) (hlocals : W9 + (maxL + 11) + rm.locals ≤ R.locals)
    (hws : ∀ w ∈ ws, ∀ a' U, s.WarmedH U.vm → w.before a' U = true) (hcode : Cond.code y bytes maxL ret ∈ ws) (hinit : ∀ a' U, s.WarmedH U.vm → (Cond.initialized y.cls).before a' U = true) :
    vx_Back l R p e below s sargs y len W9 (PreOf R mc ms Pc) (PostOf Qc mc ms free) (vx_Post XC mc ms free) := by
  intro m meth c A g ig mk a X hg hsize hdg hW hn hp
  have h1 : (headSpec ws rm).pre.before a A.U = true := atoms_intro fun w hw => hws w hw _ _ X.warmed
  have h2 : (Cond.code y bytes maxL ret).before a A.U = true := hws _ hcode _ _ X.warmed
  have h3 : (Cond.initialized y.cls).before a A.U = true := hinit _ _ X.warmed
  have h4 : A.cells + (headSpec ws rm).room.cells ≤ R.cells := by rw [show (headSpec ws rm).room.cells = mc from hrc]; exact hp.1
  have h5 : A.slots + (headSpec ws rm).room.slots ≤ R.slots := by rw [show (headSpec ws rm).room.slots = ms from hrs]; exact hp.2.1
  have hPc : Pc a (A.U.calling g mk a) := hblind _ _ _ _ hp.2.2
  obtain ⟨U, Ls, c0, s0⟩ := A
  dsimp only [Pt.U, Pt.locs, Pt.cells, Pt.slots] at h1 h2 h3 h4 h5 X hn hPc ⊢
  obtain ⟨methY, cY, hmY, hcY, -, hlY, -, -, -, -⟩ := Cond.code_spec hn h2
  obtain ⟨kY, hkY, -⟩ := className_of_methodNamed hn
  have hinitY : kY.init = .initialized := Cond.initialized_spec (findClass_of_methodNamed hn) hkY h3
  have h : At U g.method c below := by rw [hg]; exact X.here
  have hlocals9 : W9 + (maxL + 11) + (headSpec ws rm).room.locals ≤ R.locals := hlocals
  have happ : (headSpec ws rm).appliesLoose y e.platform (U.calling g mk a) = true :=
    Spec.appliesLoose_calling (g := g) h hdg hn hkY hinitY
      (X.room_calling (g := g) (R' := (headSpec ws rm).room) hsize hmY hcY hframes (by rw [hlY]; omega) h4 h5) h1
  obtain ⟨mid, hmid⟩ := h.above
  have hfr : (U.setTop g).frames = (.java g :: mid) ++ below := by rw [State.frames_setTop' g h.top, hmid]; rfl
  obtain ⟨o, s₂, hsteps, -, hend, hq⟩ := Steps.callFree hM p X.admits X.cas X.clock (acts := []) hfr happ hPc trivial
  have hq' : vx_Q Qc XC mc ms free a (U.calling g mk a) o s₂ := hq
  rw [State.frames_setTop' g h.top] at hend
  obtain ⟨g₀, hg0⟩ := Option.isSome_iff_exists.mp h.top
  obtain ⟨r, hr⟩ := State.topJava?_eq_some.mp hg0
  have hr' : (({ U with heap := s₂.heap, slotsUsed := s₂.slotsUsed } : State).setVm s₂.vm).frames = .java g₀ :: r := hr
  rcases hq' with ⟨hqc, L, hfe, hL⟩ | ⟨q, rfl, E, ce, L, hx, hce, hcv, hcl, hW₂, hsm, hL⟩
  · obtain ⟨⟨v, rfl⟩, hW₂, e2, q2, q3, q4, q5, q6⟩ := id hfe
    have e3 : s₂ = ({ (U.calling g mk a).setFrames s₂.frames with heap := s₂.heap, slotsUsed := s₂.slotsUsed } : State).setVm s₂.vm := by
      have : s₂ = ({ s₂ with vm := (U.calling g mk a).vm } : State).setVm s₂.vm := rfl
      rw [e2] at this
      exact this
    obtain ⟨c₂, i₂, len₂, hc₂, hd₂, hf₂⟩ := hend
    have hW' : U.WarmedH s₂.vm := hW₂
    have hcc : c₂ = c := by
      have h1 : s₂.code? g.method = U.code? g.method := by
        rw [State.code?_eq, State.code?_eq, hW'.alike.method?]
      exact Option.some.inj (hc₂.symm.trans (h1.trans h.code))
    subst hcc
    have hlen : len₂ = len := by rw [hdg] at hd₂; cases hd₂; rfl
    subst hlen
    have hs₂ : s₂ = (({ U with heap := s₂.heap, slotsUsed := s₂.slotsUsed } : State).setVm s₂.vm).setTop { g with pc := g.pc + len₂, stack := v.toList ++ g.stack } := by
      refine e3.trans ?_
      rw [hf₂, State.calling_eq h.top, State.setFrames_setFrames, State.setTop_of_frames _ hr', hr]
      rfl
    have hsame : U.sameButNew ({ U with heap := s₂.heap, slotsUsed := s₂.slotsUsed } : State) L mc ms := by
      refine ⟨?_, q2, q3, q4, q5, q6⟩
      obtain ⟨t, ht, -⟩ := State.frames_cons hr
      show ({ U with heap := s₂.heap, slotsUsed := s₂.slotsUsed } : State) = { U.setFrames U.frames with heap := s₂.heap, slotsUsed := s₂.slotsUsed }
      rw [State.setFrames_self ht]
    subst hg
    refine Or.inl ⟨v, ⟨(({ U with heap := s₂.heap, slotsUsed := s₂.slotsUsed } : State).setVm s₂.vm), Ls ++ L, c0 + mc, s0 + ms⟩,
      ⟨X.admits, X.cas, X.clock, X.frames, X.room, X.hears, X.method, X.code, (X.here.setHeapUsed s₂.heap s₂.slotsUsed).setVm hW'.alike, X.tail, State.WarmedH.trans X.warmed hW', X.limits, X.bytes, X.same.trans (hsame.setVm s.vm)⟩,
      ⟨g, mk, s₂, L, rfl, rfl, hqc, rfl, hL, rfl, rfl⟩, ?_⟩
    show Steps p.tables e below _ ((({ U with heap := s₂.heap, slotsUsed := s₂.slotsUsed } : State).setVm s₂.vm).setTop { g with pc := g.pc + len₂, stack := v.toList ++ g.stack })
    rw [← hs₂]
    exact hsteps
  · obtain ⟨e2, q2, q3, q4, q5, q6⟩ := id hsm
    have e3 : s₂ = ({ (U.calling g mk a).setFrames s₂.frames with heap := s₂.heap, slotsUsed := s₂.slotsUsed } : State).setVm s₂.vm := by
      have : s₂ = ({ s₂ with vm := (U.calling g mk a).vm } : State).setVm s₂.vm := rfl
      rw [e2] at this
      exact this
    have hf₂ : s₂.frames = .throwing q :: .java g :: U.frames.tail := hend
    have hW' : U.WarmedH s₂.vm := hW₂
    have hs₂ : s₂ = ((({ U with heap := s₂.heap, slotsUsed := s₂.slotsUsed } : State).setVm s₂.vm).setTop g).pushFrame (.throwing q) := by
      refine e3.trans ?_
      rw [hf₂, State.calling_eq h.top, State.setFrames_setFrames, State.pushFrame, State.frames_setTop _ hr', State.setTop_of_frames _ hr', State.setFrames_setFrames, hr]
      rfl
    have hsame : U.sameButNew ({ U with heap := s₂.heap, slotsUsed := s₂.slotsUsed } : State) L mc ms := by
      refine ⟨?_, q2, q3, q4, q5, q6⟩
      obtain ⟨t, ht, -⟩ := State.frames_cons hr
      show ({ U with heap := s₂.heap, slotsUsed := s₂.slotsUsed } : State) = { U.setFrames U.frames with heap := s₂.heap, slotsUsed := s₂.slotsUsed }
      rw [State.setFrames_self ht]
    subst hg
    refine Or.inr ⟨q, ⟨(({ U with heap := s₂.heap, slotsUsed := s₂.slotsUsed } : State).setVm s₂.vm), Ls ++ L, c0 + mc, s0 + ms⟩,
      ⟨X.admits, X.cas, X.clock, X.frames, X.room, X.hears, X.method, X.code, (X.here.setHeapUsed s₂.heap s₂.slotsUsed).setVm hW'.alike, X.tail, State.WarmedH.trans X.warmed hW', X.limits, X.bytes, X.same.trans (hsame.setVm s.vm)⟩,
      ⟨g, mk, s₂, L, E, ce, rfl, rfl, hx, hce, hcv, hcl, rfl, hL, rfl, rfl⟩, ?_⟩
    show Steps p.tables e below _ (((({ U with heap := s₂.heap, slotsUsed := s₂.slotsUsed } : State).setVm s₂.vm).setTop g).pushFrame (.throwing q))
    rw [← hs₂]
    exact hsteps
end Payer
section Calls
variable {p : Program} {l : Launch} {e : Env} {R : Room} {s : State} {m : MethodId} {args : Array Value} {below : List Frame} {meth : Method} {c : Code} {T : State} {locs : List Loc} {cells slots : Nat}
theorem vx_callV (X : Stand p l e R s m args below meth c T locs cells slots) (hexec : p.tables.exec = Jvm.exec) {own C : String} {index : Nat} {y : MethodName} {bytes : ByteArray} {maxL : Nat} {ret : Option FieldType}
    (hown : s.vm.findClass own = some m.cls) (hlink : (Cond.methodLink own index y).before args s = true) (hinst : (Cond.instanceMethod y).before args s = true) (hsel : (Cond.selects C y y).before args s = true)
    (hcode : (Cond.code y bytes maxL ret).before args s = true) (hy : y.cls ≠ "java/lang/invoke/MethodHandle" ∧ y.cls ≠ "java/lang/invoke/VarHandle")
    {W9 : Nat} {Pre : Pt → Array Value → Prop} {Post : Pt → Array Value → Option Value → Pt → Prop} {PostX : Pt → Array Value → Addr → Pt → Prop} (hK : vx_Back l R p e below s args y 3 W9 Pre Post PostX)
    {b : Addr} {cellB : Cell} (hcell : T.heap[b]? = some cellB) (hobj : cellB.vm.isStatics = false) (hcls : s.vm.findClass C = some cellB.cls)
    {g : JFrame} (hg : g.method = m) (hsize : g.locals.size = c.maxLocals) {argsL rest : List Value} (hlen : ∀ sig, parseMethodDescriptor y.desc = some sig → argsL.length = sig.parameters.length)
    (hstack : g.stack = argsL.reverse ++ .ref b :: rest) (hW : 2 * g.monitorRoom + (rest.map fun v => v.category).sum ≤ W9) (hdg : decode c.code g.pc = .ok (.invokevirtual index, 3))
    (hpre : ∀ vm₁, s.WarmedH vm₁ → Pre ⟨T.setVm vm₁, locs, cells, slots⟩ (Value.ref b :: argsL).toArray) :
    (∃ (v : Option Value) (vm₁ : Vm) (B : Pt), s.WarmedH vm₁ ∧ Stand p l e R s m args below meth c B.U B.locs B.cells B.slots ∧ Post ⟨T.setVm vm₁, locs, cells, slots⟩ (Value.ref b :: argsL).toArray v B ∧
      ∀ target, Steps p.tables e below (B.U.setTop { g with pc := g.pc + 3, stack := v.toList ++ rest }) target → Steps p.tables e below (T.setTop g) target) ∨
    (∃ (q : Addr) (vm₁ : Vm) (B : Pt), s.WarmedH vm₁ ∧ Stand p l e R s m args below meth c B.U B.locs B.cells B.slots ∧ PostX ⟨T.setVm vm₁, locs, cells, slots⟩ (Value.ref b :: argsL).toArray q B ∧
      Steps p.tables e below (T.setTop g) ((B.U.setTop { g with stack := rest }).pushFrame (.throwing q))) := by
  obtain ⟨mk, methM, hnamed, hmethM, hstM, habM⟩ := Cond.instanceMethod_spec hinst
  obtain ⟨methM', cM, hmethM', -, -, -, -, -, -, hsigM⟩ := Cond.code_spec hnamed hcode
  cases hmethM.symm.trans hmethM'
  obtain ⟨c2, r2, m2, q1, q2, q3, q4, kP, hkP, hkPi⟩ := Cond.selects_spec hsel
  cases hcls.symm.trans q1
  cases (State.methodFound?_of_named hnamed hy).symm.trans q2
  cases hnamed.symm.trans q3
  have hselP : selectMethod e.platform s.vm cellB.cls mk = .method mk := by rw [Launch.admits_selectMethod X.admits]; exact q4
  obtain ⟨vm₁, X₁, hstep₁⟩ := X.invokevirtual hexec hown hlink hnamed hmethM hstM hkP hkPi hy (a := b) (cell := cellB) hcell
    (fun z h => by rw [h] at hobj; cases hobj) hselP hmethM habM hkP hkPi (g := g) hg (argsL := argsL) (rest := rest) (hlen _ hsigM) hstack hdg
  rcases hK m meth c ⟨T.setVm vm₁, locs, cells, slots⟩ { g with stack := rest } (.invokevirtual index) mk (Value.ref b :: argsL).toArray X₁ hg hsize hdg hW (X₁.named hnamed) (hpre vm₁ X₁.warmed) with ⟨v, B, X', hpost, hsteps⟩ | ⟨q, B, X', hpost, hsteps⟩
  · exact Or.inl ⟨v, vm₁, B, X₁.warmed, X', hpost, fun target h => hstep₁ _ fun acts => by rw [doInvoke_state]; exact hsteps.trans h⟩
  · exact Or.inr ⟨q, vm₁, B, X₁.warmed, X', hpost, hstep₁ _ fun acts => by rw [doInvoke_state]; exact hsteps⟩
theorem vx_callS (X : Stand p l e R s m args below meth c T locs cells slots) (hexec : p.tables.exec = Jvm.exec) {own : String} {index : Nat} {y : MethodName} {bytes : ByteArray} {maxL : Nat} {ret : Option FieldType}
    (hown : s.vm.findClass own = some m.cls) (hlink : (Cond.methodLink own index y).before args s = true) (hstat : (Cond.static y).before args s = true) (hinit : (Cond.initialized y.cls).before args s = true)
    (hcode : (Cond.code y bytes maxL ret).before args s = true) (hy : y.cls ≠ "java/lang/invoke/MethodHandle" ∧ y.cls ≠ "java/lang/invoke/VarHandle")
    {W9 : Nat} {Pre : Pt → Array Value → Prop} {Post : Pt → Array Value → Option Value → Pt → Prop} {PostX : Pt → Array Value → Addr → Pt → Prop} (hK : vx_Back l R p e below s args y 3 W9 Pre Post PostX)
    {g : JFrame} (hg : g.method = m) (hsize : g.locals.size = c.maxLocals) {argsL rest : List Value} (hlen : ∀ sig, parseMethodDescriptor y.desc = some sig → argsL.length = sig.parameters.length)
    (hstack : g.stack = argsL.reverse ++ rest) (hW : 2 * g.monitorRoom + (rest.map fun v => v.category).sum ≤ W9) (hdg : decode c.code g.pc = .ok (.invokestatic index, 3))
    (hpre : ∀ vm₁, s.WarmedH vm₁ → Pre ⟨T.setVm vm₁, locs, cells, slots⟩ argsL.toArray) :
    (∃ (v : Option Value) (vm₁ : Vm) (B : Pt), s.WarmedH vm₁ ∧ Stand p l e R s m args below meth c B.U B.locs B.cells B.slots ∧ Post ⟨T.setVm vm₁, locs, cells, slots⟩ argsL.toArray v B ∧
      ∀ target, Steps p.tables e below (B.U.setTop { g with pc := g.pc + 3, stack := v.toList ++ rest }) target → Steps p.tables e below (T.setTop g) target) ∨
    (∃ (q : Addr) (vm₁ : Vm) (B : Pt), s.WarmedH vm₁ ∧ Stand p l e R s m args below meth c B.U B.locs B.cells B.slots ∧ PostX ⟨T.setVm vm₁, locs, cells, slots⟩ argsL.toArray q B ∧
      Steps p.tables e below (T.setTop g) ((B.U.setTop { g with stack := rest }).pushFrame (.throwing q))) := by
  obtain ⟨mk, hnamed⟩ := Cond.code_named hcode
  obtain ⟨methM, cM, hmethM, -, -, -, -, -, -, hsigM⟩ := Cond.code_spec hnamed hcode
  have hstatic : methM.isStatic = true := Cond.static_spec hnamed hmethM hstat
  obtain ⟨kP, hkP, -⟩ := className_of_methodNamed hnamed
  have hinitP : kP.init = .initialized := Cond.initialized_spec (findClass_of_methodNamed hnamed) hkP hinit
  obtain ⟨vm₁, X₁, hstep₁⟩ := X.invokestatic hexec hown hlink hnamed hmethM hstatic hkP hinitP hy (g := g) hg (argsL := argsL) (rest := rest) (hlen _ hsigM) hstack hdg
  rcases hK m meth c ⟨T.setVm vm₁, locs, cells, slots⟩ { g with stack := rest } (.invokestatic index) mk argsL.toArray X₁ hg hsize hdg hW (X₁.named hnamed) (hpre vm₁ X₁.warmed) with ⟨v, B, X', hpost, hsteps⟩ | ⟨q, B, X', hpost, hsteps⟩
  · exact Or.inl ⟨v, vm₁, B, X₁.warmed, X', hpost, fun target h => hstep₁ _ fun acts => by rw [doInvoke_state]; exact hsteps.trans h⟩
  · exact Or.inr ⟨q, vm₁, B, X₁.warmed, X', hpost, hstep₁ _ fun acts => by rw [doInvoke_state]; exact hsteps⟩
end Calls
theorem vx_cls {s : State} {T : State} {vm₁ : Vm} {E : String} {k : ClassId} (hW : s.WarmedH vm₁) (h : (T.setVm vm₁).vm.findClass E = some k) : s.vm.findClass E = some k := by
  have h1 : vm₁.findClass E = some k := h
  rw [hW.alike.findClass] at h1
  exact h1
/-- the method's frame g, with q thrown over it -/
def vx_W (p : Program) (l : Launch) (e : Env) (R : Room) (s : State) (m : MethodId) (args : Array Value) (below : List Frame) (meth : Method) (c : Code) (H : Heap) (locs : List Loc) (cells slots : Nat) (Q : State → Prop) (g : JFrame) (q : Addr) : Prop :=
  ∀ T : State, T.heap = H → Stand p l e R s m args below meth c T locs cells slots → ∃ t, Steps p.tables e below ((T.setTop g).pushFrame (.throwing q)) t ∧ Q t
def vx_Run (p : Program) (l : Launch) (e : Env) (R : Room) (s : State) (m : MethodId) (args : Array Value) (below : List Frame) (meth : Method) (c : Code) (H : Heap) (locs : List Loc) (cells slots mc ms : Nat) (g : JFrame) (rest : List Value) (Qa : State → Outcome → State → Prop) (XC : String → State → State → Prop) (free : Addr → Prop) : Prop :=
  ∀ T : State, T.heap = H → Stand p l e R s m args below meth c T locs cells slots →
    (∃ (v : Option Value) (st₀ t T' : State) (L : List Loc), st₀.heap = H ∧ Stand p l e R s m args below meth c T' (locs ++ L) (cells + mc) (slots + ms) ∧ (∀ q ∈ L, free q.base) ∧ T'.heap = t.heap ∧ T'.vm = t.vm ∧ Qa st₀ (.returned v) t ∧
      Goes p e below T g T' { g with pc := g.pc + 3, stack := v.toList ++ rest }) ∨
    (∃ (q : Addr) (st₀ t T' : State) (L : List Loc) (E : String) (ce : Cell), st₀.heap = H ∧ Stand p l e R s m args below meth c T' (locs ++ L) (cells + mc) (slots + ms) ∧ (∀ z ∈ L, free z.base) ∧ T'.heap = t.heap ∧ T'.vm = t.vm ∧ XC E st₀ t ∧ t.heap[q]? = some ce ∧ ce.vm = .none ∧ s.vm.findClass E = some ce.cls ∧
      Steps p.tables e below (T.setTop g) ((T'.setTop { g with stack := rest }).pushFrame (.throwing q)))
def vx_X {S : Type} (px : S → Prop) (B : String → S → State → Prop) (A : Nat → Prop) : String → State → State → Prop := fun E st t => ∃ u : S, px u ∧ B E u t ∧ va_F A st t
section Runs
variable {p : Program} {l : Launch} {e : Env} {R : Room} {s : State} {m : MethodId} {args : Array Value} {below : List Frame} {meth : Method} {c : Code} {H : Heap} {locs : List Loc} {cells slots : Nat}
variable {y : MethodName} {bytes cc : ByteArray} {maxL nL mc ms n index : Nat} {ret : Option FieldType} {ws : List Cond} {rm : Room} {Pc : Array Value → State → Prop} {Qc : Array Value → State → Outcome → State → Prop} {XC : String → State → State → Prop} {free : Addr → Prop} {Ts : List Cond} {own C : String} {b : Addr} {As rest : List Value} {g : JFrame}
theorem vx_callBack (cb : CallB R s args own index y bytes maxL ret ws rm mc ms n) (hM : vx_Met l y ws rm Pc Qc XC mc ms free) (hbl : FrameBlind Pc) : vx_Back l R p e below s args y 3 8 (PreOf R mc ms Pc) (PostOf Qc mc ms free) (vx_Post XC mc ms free) := by
  obtain ⟨hrc, hrs, hfr, hlo, hws, hcw, -, hini, -⟩ := cb
  exact vx_back (bytes := bytes) (maxL := maxL) (ret := ret) hM hbl hrc hrs hfr hlo hws hcw (fun a' U hW => word_at hW (Or.inl (by first | rfl | simp [Cond.onTables, Cond.keeps, Cond.steady])) hini)
theorem vx_runV (S : CallFix p m c cc nL s args Ts own) (hM : vx_Met l y ws rm Pc Qc XC mc ms free) (cw : CallW R s args own C index y bytes maxL ret ws rm mc ms n) (hp : PreV s H C b Pc As)
    (hg : g.method = m) (hn : As.length = n) (hsize : g.locals.size = nL) (hstack : g.stack = As.reverse ++ .ref b :: rest) (hW : 2 * g.monitorRoom + (rest.map fun v => v.category).sum ≤ 8) (hdg : decode cc g.pc = .ok (.invokevirtual index, 3)) (hf : cells + mc ≤ R.cells ∧ slots + ms ≤ R.slots) :
    vx_Run p l e R s m args below meth c H locs cells slots mc ms g rest (Qc (Value.ref b :: As).toArray) XC free := by
  have hK : vx_Back l R p e below s args y 3 8 (PreOf R mc ms Pc) (PostOf Qc mc ms free) (vx_Post XC mc ms free) := vx_callBack cw.1 hM hp.1
  obtain ⟨⟨-, -, -, -, -, -, hcode, -, hy, hlen, hl⟩, hin, hse⟩ := cw
  obtain ⟨hx, hb, hml, ho, -⟩ := S
  obtain ⟨-, ⟨cellB, hcB, hoB, hclB⟩, hPc⟩ := hp
  intro T hT X
  rcases vx_callV X hx (C := C) (bytes := bytes) (maxL := maxL) (ret := ret) ho hl hin hse hcode hy hK (by rw [hT]; exact hcB) hoB hclB hg (hsize.trans hml.symm) (argsL := As) (rest := rest) (fun sig h => hn.trans (hlen sig h)) hstack hW (by rw [hb]; exact hdg)
    (fun vm₁ hW₁ => ⟨hf.1, hf.2, hPc (T.setVm vm₁) hT hW₁⟩) with ⟨v, vm₁, ⟨U', l2, c2, s2⟩, hW₁, X', ⟨g', mk, t, L, e1, e2, hq, h1, hL, h2, h3⟩, st⟩ | ⟨q, vm₁, ⟨U', l2, c2, s2⟩, hW₁, X', ⟨g', mk, t, L, E, ce, e1, e2, hq, hce, hcv, hcl, h1, hL, h2, h3⟩, st⟩
  · dsimp only [Pt.U, Pt.locs, Pt.cells, Pt.slots] at X' e1 e2 h1 h2 h3 st
    subst h1; subst h2; subst h3
    exact Or.inl ⟨v, (T.setVm vm₁).calling g' mk (Value.ref b :: As).toArray, t, U', L, hT, X', hL, e1, e2, hq, st⟩
  · dsimp only [Pt.U, Pt.locs, Pt.cells, Pt.slots] at X' e1 e2 h1 h2 h3 st hcl
    subst h1; subst h2; subst h3
    exact Or.inr ⟨q, (T.setVm vm₁).calling g' mk (Value.ref b :: As).toArray, t, U', L, E, ce, hT, X', hL, e1, e2, hq, hce, hcv, vx_cls hW₁ hcl, st⟩
theorem vx_runS (S : CallFix p m c cc nL s args Ts own) (hM : vx_Met l y ws rm Pc Qc XC mc ms free) (cw : CallB R s args own index y bytes maxL ret ws rm mc ms n ∧ (Cond.static y).before args s = true) (hp : PreS s H Pc As)
    (hg : g.method = m) (hn : As.length = n) (hsize : g.locals.size = nL) (hstack : g.stack = As.reverse ++ rest) (hW : 2 * g.monitorRoom + (rest.map fun v => v.category).sum ≤ 8) (hdg : decode cc g.pc = .ok (.invokestatic index, 3)) (hf : cells + mc ≤ R.cells ∧ slots + ms ≤ R.slots) :
    vx_Run p l e R s m args below meth c H locs cells slots mc ms g rest (Qc As.toArray) XC free := by
  have hK : vx_Back l R p e below s args y 3 8 (PreOf R mc ms Pc) (PostOf Qc mc ms free) (vx_Post XC mc ms free) := vx_callBack cw.1 hM hp.1
  obtain ⟨⟨-, -, -, -, -, -, hcode, hini, hy, hlen, hl⟩, hstt⟩ := cw
  obtain ⟨hx, hb, hml, ho, -⟩ := S
  intro T hT X
  rcases vx_callS X hx (bytes := bytes) (maxL := maxL) (ret := ret) ho hl hstt hini hcode hy hK hg (hsize.trans hml.symm) (argsL := As) (rest := rest) (fun sig h => hn.trans (hlen sig h)) hstack hW (by rw [hb]; exact hdg)
    (fun vm₁ hW₁ => ⟨hf.1, hf.2, hp.2 (T.setVm vm₁) hT hW₁⟩) with ⟨v, vm₁, ⟨U', l2, c2, s2⟩, hW₁, X', ⟨g', mk, t, L, e1, e2, hq, h1, hL, h2, h3⟩, st⟩ | ⟨q, vm₁, ⟨U', l2, c2, s2⟩, hW₁, X', ⟨g', mk, t, L, E, ce, e1, e2, hq, hce, hcv, hcl, h1, hL, h2, h3⟩, st⟩
  · dsimp only [Pt.U, Pt.locs, Pt.cells, Pt.slots] at X' e1 e2 h1 h2 h3 st
    subst h1; subst h2; subst h3
    exact Or.inl ⟨v, (T.setVm vm₁).calling g' mk As.toArray, t, U', L, hT, X', hL, e1, e2, hq, st⟩
  · dsimp only [Pt.U, Pt.locs, Pt.cells, Pt.slots] at X' e1 e2 h1 h2 h3 st hcl
    subst h1; subst h2; subst h3
    exact Or.inr ⟨q, (T.setVm vm₁).calling g' mk As.toArray, t, U', L, E, ce, hT, X', hL, e1, e2, hq, hce, hcv, vx_cls hW₁ hcl, st⟩
end Runs
section Rows
variable {p : Program} {l : Launch} {e : Env} {R : Room} {s : State} {m : MethodId} {args : Array Value} {below : List Frame} {meth : Method} {c : Code} {H : Heap} {locs : List Loc} {cells slots : Nat} {Q : State → Prop}
variable {mc ms : Nat} {free : Addr → Prop} {A0 A1 : Nat → Prop} {H0 : Heap} {a : Array Value} {pc : Nat} {ls : Array Slot} {st0 rest : List Value}
theorem vx_keep {st₀ t T' : State} {L : List Loc} (h0 : st₀.heap = H) (e1 : T'.heap = t.heap) (hS : va_S A0 H0 H locs) (hA : ∀ q, q < H.size → A1 q → A0 q) (hf : ∀ q, free q → A0 q) (hL : ∀ q ∈ L, free q.base) (hF : va_F A1 st₀ t) :
    H.size ≤ T'.heap.size ∧ (∀ q : Nat, q < H.size → ¬ A1 q → T'.heap[q]? = H[q]?) ∧ va_S A0 H0 T'.heap (locs ++ L) := by
  obtain ⟨hz, hk⟩ := hF
  rw [h0] at hz hk
  exact ⟨by rw [e1]; exact hz, fun q h1 h2 => by rw [e1]; exact hk q h1 h2,
    ⟨Nat.le_trans hS.1 (by rw [e1]; exact hz), fun q h1 h2 => by rw [e1, hk q (Nat.lt_of_lt_of_le h1 hS.1) (fun z => h2 (hA q (Nat.lt_of_lt_of_le h1 hS.1) z))]; exact hS.2.1 q h1 h2, fun q hq => by
      rcases List.mem_append.mp hq with h | h
      · exact hS.2.2 q h
      · exact hf _ (hL q h)⟩⟩
theorem vx_calli {S SX : Type} {post : Int32 → S → Prop} {px : SX → Prop} {B : S → State → Prop} {BX : String → SX → State → Prop} {AX : Nat → Prop} (hr : vx_Run p l e R s m args below meth c H locs cells slots mc ms (F0 m pc ls st0) rest (va_Qi post B A1 a) (vx_X px BX AX) free) (hS : va_S A0 H0 H locs) (hA : ∀ q, q < H.size → A1 q → A0 q) (hf : ∀ q, free q → A0 q) (hAX : ∀ q, q < H.size → AX q → A0 q)
    (kx : ∀ (E : String) (ce : Cell) (q9 : Addr) (u : SX) (t : State) (H1 : Heap) (locs1 : List Loc), t.heap = H1 → s.vm.Alike t.vm → px u → BX E u t → H.size ≤ H1.size → (∀ q : Nat, q < H.size → ¬ AX q → H1[q]? = H[q]?) → va_S A0 H0 H1 locs1 → H1[q9]? = some ce → ce.vm = .none → s.vm.findClass E = some ce.cls → vx_W p l e R s m args below meth c H1 locs1 (cells + mc) (slots + ms) Q (F0 m pc ls rest) q9)
    (kk : ∀ (r : Int32) (u : S) (t : State) (H1 : Heap) (locs1 : List Loc), t.heap = H1 → s.vm.Alike t.vm → post r u → B u t → H.size ≤ H1.size → (∀ q : Nat, q < H.size → ¬ A1 q → H1[q]? = H[q]?) → va_S A0 H0 H1 locs1 → W p l e R s m args below meth c H1 locs1 (cells + mc) (slots + ms) Q (F0 m (pc + 3) ls (.int r :: rest))) : W p l e R s m args below meth c H locs cells slots Q (F0 m pc ls st0) := by
  intro T hT X
  rcases hr T hT X with ⟨v, st₀, t, T', L, h0, X', hL, e1, e2, ⟨⟨r, u, hv, hp, hb⟩, hF⟩, st⟩ | ⟨q, st₀, t, T', L, E, ce, h0, X', hL, e1, e2, ⟨u, hp, hb, hF⟩, hce, hcv, hcl, st⟩
  · cases hv
    obtain ⟨k1, k2, k3⟩ := vx_keep h0 e1 hS hA hf hL hF
    obtain ⟨t2, a1, b1⟩ := kk r u t T'.heap (locs ++ L) e1.symm (by rw [← e2]; exact X'.warmed.alike) hp hb k1 k2 k3 T' rfl X'
    exact ⟨t2, st t2 a1, b1⟩
  · obtain ⟨k1, k2, k3⟩ := vx_keep h0 e1 hS hAX hf hL hF
    obtain ⟨t2, a1, b1⟩ := kx E ce q u t T'.heap (locs ++ L) e1.symm (by rw [← e2]; exact X'.warmed.alike) hp hb k1 k2 k3 (by rw [e1]; exact hce) hcv hcl T' rfl X'
    exact ⟨t2, st.trans a1, b1⟩
theorem vx_calll {S SX : Type} {post : Int64 → S → Prop} {px : SX → Prop} {B : S → State → Prop} {BX : String → SX → State → Prop} {AX : Nat → Prop} (hr : vx_Run p l e R s m args below meth c H locs cells slots mc ms (F0 m pc ls st0) rest (va_Ql post B A1 a) (vx_X px BX AX) free) (hS : va_S A0 H0 H locs) (hA : ∀ q, q < H.size → A1 q → A0 q) (hf : ∀ q, free q → A0 q) (hAX : ∀ q, q < H.size → AX q → A0 q)
    (kx : ∀ (E : String) (ce : Cell) (q9 : Addr) (u : SX) (t : State) (H1 : Heap) (locs1 : List Loc), t.heap = H1 → s.vm.Alike t.vm → px u → BX E u t → H.size ≤ H1.size → (∀ q : Nat, q < H.size → ¬ AX q → H1[q]? = H[q]?) → va_S A0 H0 H1 locs1 → H1[q9]? = some ce → ce.vm = .none → s.vm.findClass E = some ce.cls → vx_W p l e R s m args below meth c H1 locs1 (cells + mc) (slots + ms) Q (F0 m pc ls rest) q9)
    (kk : ∀ (r : Int64) (u : S) (t : State) (H1 : Heap) (locs1 : List Loc), t.heap = H1 → s.vm.Alike t.vm → post r u → B u t → H.size ≤ H1.size → (∀ q : Nat, q < H.size → ¬ A1 q → H1[q]? = H[q]?) → va_S A0 H0 H1 locs1 → W p l e R s m args below meth c H1 locs1 (cells + mc) (slots + ms) Q (F0 m (pc + 3) ls (.long r :: rest))) : W p l e R s m args below meth c H locs cells slots Q (F0 m pc ls st0) := by
  intro T hT X
  rcases hr T hT X with ⟨v, st₀, t, T', L, h0, X', hL, e1, e2, ⟨⟨r, u, hv, hp, hb⟩, hF⟩, st⟩ | ⟨q, st₀, t, T', L, E, ce, h0, X', hL, e1, e2, ⟨u, hp, hb, hF⟩, hce, hcv, hcl, st⟩
  · cases hv
    obtain ⟨k1, k2, k3⟩ := vx_keep h0 e1 hS hA hf hL hF
    obtain ⟨t2, a1, b1⟩ := kk r u t T'.heap (locs ++ L) e1.symm (by rw [← e2]; exact X'.warmed.alike) hp hb k1 k2 k3 T' rfl X'
    exact ⟨t2, st t2 a1, b1⟩
  · obtain ⟨k1, k2, k3⟩ := vx_keep h0 e1 hS hAX hf hL hF
    obtain ⟨t2, a1, b1⟩ := kx E ce q u t T'.heap (locs ++ L) e1.symm (by rw [← e2]; exact X'.warmed.alike) hp hb k1 k2 k3 (by rw [e1]; exact hce) hcv hcl T' rfl X'
    exact ⟨t2, st.trans a1, b1⟩
theorem vx_callf {S SX : Type} {post : UInt32 → S → Prop} {px : SX → Prop} {B : S → State → Prop} {BX : String → SX → State → Prop} {AX : Nat → Prop} (hr : vx_Run p l e R s m args below meth c H locs cells slots mc ms (F0 m pc ls st0) rest (va_Qf post B A1 a) (vx_X px BX AX) free) (hS : va_S A0 H0 H locs) (hA : ∀ q, q < H.size → A1 q → A0 q) (hf : ∀ q, free q → A0 q) (hAX : ∀ q, q < H.size → AX q → A0 q)
    (kx : ∀ (E : String) (ce : Cell) (q9 : Addr) (u : SX) (t : State) (H1 : Heap) (locs1 : List Loc), t.heap = H1 → s.vm.Alike t.vm → px u → BX E u t → H.size ≤ H1.size → (∀ q : Nat, q < H.size → ¬ AX q → H1[q]? = H[q]?) → va_S A0 H0 H1 locs1 → H1[q9]? = some ce → ce.vm = .none → s.vm.findClass E = some ce.cls → vx_W p l e R s m args below meth c H1 locs1 (cells + mc) (slots + ms) Q (F0 m pc ls rest) q9)
    (kk : ∀ (r : UInt32) (u : S) (t : State) (H1 : Heap) (locs1 : List Loc), t.heap = H1 → s.vm.Alike t.vm → post r u → B u t → H.size ≤ H1.size → (∀ q : Nat, q < H.size → ¬ A1 q → H1[q]? = H[q]?) → va_S A0 H0 H1 locs1 → W p l e R s m args below meth c H1 locs1 (cells + mc) (slots + ms) Q (F0 m (pc + 3) ls (.float r :: rest))) : W p l e R s m args below meth c H locs cells slots Q (F0 m pc ls st0) := by
  intro T hT X
  rcases hr T hT X with ⟨v, st₀, t, T', L, h0, X', hL, e1, e2, ⟨⟨r, u, hv, hp, hb⟩, hF⟩, st⟩ | ⟨q, st₀, t, T', L, E, ce, h0, X', hL, e1, e2, ⟨u, hp, hb, hF⟩, hce, hcv, hcl, st⟩
  · cases hv
    obtain ⟨k1, k2, k3⟩ := vx_keep h0 e1 hS hA hf hL hF
    obtain ⟨t2, a1, b1⟩ := kk r u t T'.heap (locs ++ L) e1.symm (by rw [← e2]; exact X'.warmed.alike) hp hb k1 k2 k3 T' rfl X'
    exact ⟨t2, st t2 a1, b1⟩
  · obtain ⟨k1, k2, k3⟩ := vx_keep h0 e1 hS hAX hf hL hF
    obtain ⟨t2, a1, b1⟩ := kx E ce q u t T'.heap (locs ++ L) e1.symm (by rw [← e2]; exact X'.warmed.alike) hp hb k1 k2 k3 (by rw [e1]; exact hce) hcv hcl T' rfl X'
    exact ⟨t2, st.trans a1, b1⟩
theorem vx_calld {S SX : Type} {post : UInt64 → S → Prop} {px : SX → Prop} {B : S → State → Prop} {BX : String → SX → State → Prop} {AX : Nat → Prop} (hr : vx_Run p l e R s m args below meth c H locs cells slots mc ms (F0 m pc ls st0) rest (va_Qd post B A1 a) (vx_X px BX AX) free) (hS : va_S A0 H0 H locs) (hA : ∀ q, q < H.size → A1 q → A0 q) (hf : ∀ q, free q → A0 q) (hAX : ∀ q, q < H.size → AX q → A0 q)
    (kx : ∀ (E : String) (ce : Cell) (q9 : Addr) (u : SX) (t : State) (H1 : Heap) (locs1 : List Loc), t.heap = H1 → s.vm.Alike t.vm → px u → BX E u t → H.size ≤ H1.size → (∀ q : Nat, q < H.size → ¬ AX q → H1[q]? = H[q]?) → va_S A0 H0 H1 locs1 → H1[q9]? = some ce → ce.vm = .none → s.vm.findClass E = some ce.cls → vx_W p l e R s m args below meth c H1 locs1 (cells + mc) (slots + ms) Q (F0 m pc ls rest) q9)
    (kk : ∀ (r : UInt64) (u : S) (t : State) (H1 : Heap) (locs1 : List Loc), t.heap = H1 → s.vm.Alike t.vm → post r u → B u t → H.size ≤ H1.size → (∀ q : Nat, q < H.size → ¬ A1 q → H1[q]? = H[q]?) → va_S A0 H0 H1 locs1 → W p l e R s m args below meth c H1 locs1 (cells + mc) (slots + ms) Q (F0 m (pc + 3) ls (.double r :: rest))) : W p l e R s m args below meth c H locs cells slots Q (F0 m pc ls st0) := by
  intro T hT X
  rcases hr T hT X with ⟨v, st₀, t, T', L, h0, X', hL, e1, e2, ⟨⟨r, u, hv, hp, hb⟩, hF⟩, st⟩ | ⟨q, st₀, t, T', L, E, ce, h0, X', hL, e1, e2, ⟨u, hp, hb, hF⟩, hce, hcv, hcl, st⟩
  · cases hv
    obtain ⟨k1, k2, k3⟩ := vx_keep h0 e1 hS hA hf hL hF
    obtain ⟨t2, a1, b1⟩ := kk r u t T'.heap (locs ++ L) e1.symm (by rw [← e2]; exact X'.warmed.alike) hp hb k1 k2 k3 T' rfl X'
    exact ⟨t2, st t2 a1, b1⟩
  · obtain ⟨k1, k2, k3⟩ := vx_keep h0 e1 hS hAX hf hL hF
    obtain ⟨t2, a1, b1⟩ := kx E ce q u t T'.heap (locs ++ L) e1.symm (by rw [← e2]; exact X'.warmed.alike) hp hb k1 k2 k3 (by rw [e1]; exact hce) hcv hcl T' rfl X'
    exact ⟨t2, st.trans a1, b1⟩
theorem vx_callv {S SX : Type} {post : S → Prop} {px : SX → Prop} {B : S → State → Prop} {BX : String → SX → State → Prop} {AX : Nat → Prop} (hr : vx_Run p l e R s m args below meth c H locs cells slots mc ms (F0 m pc ls st0) rest (va_Qv post B A1 a) (vx_X px BX AX) free) (hS : va_S A0 H0 H locs) (hA : ∀ q, q < H.size → A1 q → A0 q) (hf : ∀ q, free q → A0 q) (hAX : ∀ q, q < H.size → AX q → A0 q)
    (kx : ∀ (E : String) (ce : Cell) (q9 : Addr) (u : SX) (t : State) (H1 : Heap) (locs1 : List Loc), t.heap = H1 → s.vm.Alike t.vm → px u → BX E u t → H.size ≤ H1.size → (∀ q : Nat, q < H.size → ¬ AX q → H1[q]? = H[q]?) → va_S A0 H0 H1 locs1 → H1[q9]? = some ce → ce.vm = .none → s.vm.findClass E = some ce.cls → vx_W p l e R s m args below meth c H1 locs1 (cells + mc) (slots + ms) Q (F0 m pc ls rest) q9)
    (kk : ∀ (u : S) (t : State) (H1 : Heap) (locs1 : List Loc), t.heap = H1 → s.vm.Alike t.vm → post u → B u t → H.size ≤ H1.size → (∀ q : Nat, q < H.size → ¬ A1 q → H1[q]? = H[q]?) → va_S A0 H0 H1 locs1 → W p l e R s m args below meth c H1 locs1 (cells + mc) (slots + ms) Q (F0 m (pc + 3) ls (rest))) : W p l e R s m args below meth c H locs cells slots Q (F0 m pc ls st0) := by
  intro T hT X
  rcases hr T hT X with ⟨v, st₀, t, T', L, h0, X', hL, e1, e2, ⟨⟨u, hv, hp, hb⟩, hF⟩, st⟩ | ⟨q, st₀, t, T', L, E, ce, h0, X', hL, e1, e2, ⟨u, hp, hb, hF⟩, hce, hcv, hcl, st⟩
  · cases hv
    obtain ⟨k1, k2, k3⟩ := vx_keep h0 e1 hS hA hf hL hF
    obtain ⟨t2, a1, b1⟩ := kk u t T'.heap (locs ++ L) e1.symm (by rw [← e2]; exact X'.warmed.alike) hp hb k1 k2 k3 T' rfl X'
    exact ⟨t2, st t2 a1, b1⟩
  · obtain ⟨k1, k2, k3⟩ := vx_keep h0 e1 hS hAX hf hL hF
    obtain ⟨t2, a1, b1⟩ := kx E ce q u t T'.heap (locs ++ L) e1.symm (by rw [← e2]; exact X'.warmed.alike) hp hb k1 k2 k3 (by rw [e1]; exact hce) hcv hcl T' rfl X'
    exact ⟨t2, st.trans a1, b1⟩
/-- caught by the row x of this method's table; the rows ahead don't take it -/
theorem vx_catch {own name : String} {E : String} {ce : Cell} {q : Addr} (hown : s.vm.findClass own = some m.cls) (pre : List ExceptionTableEntry) (x : ExceptionTableEntry) (suf : List ExceptionTableEntry) (hsplit : c.exceptionTable.toList = pre ++ x :: suf)
    (hpass : ∀ z ∈ pre, covers z pc = false ∨ (z.catchType ≠ 0 ∧ ∃ nm : String, (Cond.classLink own z.catchType nm).before args s = true ∧ va_Nc E nm s)) (hx : covers x pc = true) (h0 : x.catchType ≠ 0)
    (hlink : (Cond.classLink own x.catchType name).before args s = true) (hcast : (Cond.castable E name).before args s = true) (hcell : H[q]? = some ce) (hv : ce.vm = .none) (hcl : s.vm.findClass E = some ce.cls)
    (kk : W p l e R s m args below meth c H locs cells slots Q (F0 m x.handlerPc ls [.ref q])) : vx_W p l e R s m args below meth c H locs cells slots Q (F0 m pc ls rest) q := by
  intro T hT X
  have hpl : e.platform.magicAccessors = ({} : Platform).magicAccessors := by rw [X.admits.platform]
  obtain ⟨c3, c4, hc3, hc4, hasg⟩ := Cond.castable_spec hcast
  cases Option.some.inj (hc3.symm.trans hcl)
  obtain ⟨c5, hc5, hcl5⟩ := Cond.classLink_spec hown hlink e.platform hpl
  cases Option.some.inj (hc4.symm.trans hc5)
  obtain ⟨vm', X', st⟩ := X.thenCaughtThrough q (g := F0 m pc ls rest) rfl (Steps.refl _) (by rw [hT]; exact hcell) (by rw [hv]; rfl) (by obtain ⟨k9, h9, -⟩ := Vm.findClass_spec hcl; exact ⟨k9, h9⟩) pre x suf hsplit
    (fun z hz => by
      rcases hpass z hz with h | ⟨hz0, nm, hl1, hn1⟩
      · exact Or.inl h
      · obtain ⟨c6, hc6, hcl6⟩ := Cond.classLink_spec hown hl1 e.platform hpl
        obtain ⟨a8, b8, h1, h2, h3⟩ := hn1
        cases Option.some.inj (h1.symm.trans hcl)
        cases Option.some.inj (h2.symm.trans hc6)
        exact Or.inr ⟨hz0, _, hcl6, h3⟩) hx (Or.inr ⟨h0, c4, hcl5, hasg⟩)
  obtain ⟨t, a1, b1⟩ := kk (T.setVm vm') hT X'
  exact ⟨t, st.trans a1, b1⟩
end Rows
section Ends
variable {p : Program} {l : Launch} {e : Env} {R : Room} {s : State} {m : MethodId} {args : Array Value} {below : List Frame} {meth : Method} {c : Code} {H : Heap} {locs : List Loc} {cells slots : Nat} {Q : State → Prop}
variable {mc ms : Nat} {free : Addr → Prop} {A0 A1 : Nat → Prop} {H0 : Heap} {a : Array Value} {ls : Array Slot} {st0 rest : List Value}
variable {Qc : Array Value → State → Outcome → State → Prop} {XC : String → State → State → Prop}
/-- what a body that may throw owes at its end -/
def vx_MQ (below : List Frame) (Qc : Array Value → State → Outcome → State → Prop) (XC : String → State → State → Prop) (a : Array Value) (s : State) (mc ms : Nat) (free : Addr → Prop) : State → Prop := fun t =>
  ∃ o, t.status = .running ∧ Ended t below o ∧ vx_Q Qc XC mc ms free a s o t
theorem vx_ret {g : JFrame} {mc ms : Nat} (k : W p l e R s m args below meth c H locs cells slots (MQ below Qc args s mc ms free) g) : W p l e R s m args below meth c H locs cells slots (vx_MQ below Qc XC args s mc ms free) g := by
  intro T hT X
  obtain ⟨t, a1, o, b1, b2, b3, b4⟩ := k T hT X
  exact ⟨t, a1, o, b1, b2, Or.inl ⟨b3, b4⟩⟩
/-- not caught here: it goes on to the caller -/
theorem vx_widen {g : JFrame} {q : Addr} {k n : Nat} (h1 : cells ≤ k) (h2 : slots ≤ n) (kk : vx_W p l e R s m args below meth c H locs k n Q g q) : vx_W p l e R s m args below meth c H locs cells slots Q g q := fun T hT X => kk T hT (stand_widen X h1 h2)
theorem vx_out {pc : Nat} {E : String} {ce : Cell} {q : Addr} {mc ms : Nat} (hout : ∀ x ∈ c.exceptionTable.toList, covers x pc = false) (hlocks : meth.locks = false) (hcell : H[q]? = some ce) (hv : ce.vm = .none) (hcl : s.vm.findClass E = some ce.cls)
    (hx : ∀ t : State, t.heap = H → s.vm.Alike t.vm → XC E s t) (hf : ∀ z ∈ locs, free z.base) (hc : cells ≤ mc) (hs : slots ≤ ms) :
    vx_W p l e R s m args below meth c H locs cells slots (vx_MQ below Qc XC args s mc ms free) (F0 m pc ls rest) q := by
  intro T hT X
  obtain ⟨st1, hrun, hend, hW, hsm⟩ := X.leaveThrown q (g := F0 m pc ls rest) rfl rfl rfl hout hlocks
  have hcell9 : (T.setFrames (.throwing q :: below)).heap[q]? = some ce := by
    show T.heap[q]? = some ce
    rw [hT]; exact hcell
  exact ⟨_, st1, .threw q, hrun, hend, Or.inr ⟨q, rfl, E, ce, locs, hx _ hT hW.alike, hcell9, hv, hcl, hW, hsm.mono hc hs, hf⟩⟩
theorem vx_frame {U : State} {k n : Nat} (h : s.sameButNew ({ U with vm := s.vm } : State) locs k n) : s.heap.size ≤ U.heap.size ∧ ∀ q : Nat, q < s.heap.size → (∀ z ∈ locs, z.base ≠ q) → U.heap[q]? = s.heap[q]? := by
  obtain ⟨-, h2, -, -, -, h6⟩ := h
  refine ⟨h2, fun q hq hz => ?_⟩
  obtain ⟨c9, e1, e2, e3, e4⟩ := h6 q _ (Array.getElem?_eq_getElem hq)
  have hs : c9.slots = (s.heap[q]).slots := Array.ext_getElem? fun i => e4 i fun hm => hz _ hm rfl
  have h9 : c9 = s.heap[q] := by
    rw [hs] at e2
    exact e2
  have e5 : U.heap[q]? = some c9 := e1
  rw [e5, h9, Array.getElem?_eq_getElem hq]
/-- the words of a throw but the four that speak of the heap -/
def vx_no (w : Cond) : Bool := decide (w ≠ .isRef (.static Bundle.tN "UNASSIGNED_STACK" Bundle.steD)) && decide (w ≠ .isRef (.static Bundle.tN "SUPPRESSED_SENTINEL" Bundle.listD)) && decide (w ≠ .laysStatic Bundle.tN "UNASSIGNED_STACK" Bundle.steD) && decide (w ≠ .laysStatic Bundle.tN "SUPPRESSED_SENTINEL" Bundle.listD)
def vx_at0 (own : String) (ic : Nat) (X : String) (names : List String) : List Cond := (Bundle.ownAtoms0 own ic X names).filter vx_no
def vx_atS (own : String) (ic : Nat) (X : String) (names : List String) : List Cond := (Bundle.ownAtoms own ic X names).filter vx_no
/-- a word that the tables alone decide, or a good one -/
def vx_ot (w : Cond) : Bool := w.onTables || goodWord w
theorem vx_ot_at {args a' : Array Value} {s U : State} {w : Cond} (hW : s.WarmedH U.vm) (hvm : s.vm = U.vm) (hg : vx_ot w = true) (h : w.before args s = true) : w.before a' U = true := by
  simp only [vx_ot, Bool.or_eq_true] at hg
  rcases hg with hg | hg
  · exact va_tabs hg hvm h
  · exact word_at hW (good_of_word hg) h
/-- a list's words: the good ones out of the method's own list, the others by premises of their own -/
theorem vx_hat {args : Array Value} {s : State} {L B : List Cond} (h1 : ∀ w ∈ L.filter goodWord, w.before args s = true) (h2 : ∀ w ∈ L.filter (fun w => !goodWord w), w ∈ B) (h3 : ∀ w ∈ B, w.before args s = true) : ∀ w ∈ L, w.before args s = true := by
  intro w hw
  by_cases g : goodWord w = true
  · exact h1 w (List.mem_filter.mpr ⟨hw, g⟩)
  · refine h3 w (h2 w (List.mem_filter.mpr ⟨hw, ?_⟩))
    show (!goodWord w) = true
    cases hgw : goodWord w
    · rfl
    · exact absurd hgw g
theorem vx_c {args : Array Value} {s : State} {w : Cond} {B : List Cond} (h : w.before args s = true) (t : ∀ w ∈ B, w.before args s = true) : ∀ w' ∈ w :: B, w'.before args s = true := fun w' h' => (List.mem_cons.mp h').elim (fun e => by rw [e]; exact h) (t w')
theorem vx_n {args : Array Value} {s : State} : ∀ w ∈ ([] : List Cond), w.before args s = true := fun _ h => nomatch h
theorem vx_own {args : Array Value} {s : State} {L : List Cond} (h1 : ∀ w ∈ L.filter vx_no, w.before args s = true)
    (hU : (Cond.isRef (.static Bundle.tN "UNASSIGNED_STACK" Bundle.steD)).before args s = true) (hN : (Cond.isRef (.static Bundle.tN "SUPPRESSED_SENTINEL" Bundle.listD)).before args s = true)
    (lU : (Cond.laysStatic Bundle.tN "UNASSIGNED_STACK" Bundle.steD).before args s = true) (lN : (Cond.laysStatic Bundle.tN "SUPPRESSED_SENTINEL" Bundle.listD).before args s = true) : ∀ w ∈ L, w.before args s = true := by
  intro w hw
  by_cases e1 : w = .isRef (.static Bundle.tN "UNASSIGNED_STACK" Bundle.steD)
  · rw [e1]; exact hU
  · by_cases e2 : w = .isRef (.static Bundle.tN "SUPPRESSED_SENTINEL" Bundle.listD)
    · rw [e2]; exact hN
    · by_cases e3 : w = .laysStatic Bundle.tN "UNASSIGNED_STACK" Bundle.steD
      · rw [e3]; exact lU
      · by_cases e4 : w = .laysStatic Bundle.tN "SUPPRESSED_SENTINEL" Bundle.listD
        · rw [e4]; exact lN
        · exact h1 w (List.mem_filter.mpr ⟨hw, by unfold vx_no; rw [decide_eq_true e1, decide_eq_true e2, decide_eq_true e3, decide_eq_true e4]; rfl⟩)
/-- where a static field lies, its class's statics cell in H -/
def vx_L (C n d : String) (A : Nat → Prop) (U : State) (H : Heap) : Prop := ∃ (c : ClassId) (k : Class) (i : Nat) (f : Field) (a : Nat) (cell : Cell), U.vm.findClass C = some c ∧ U.fieldFound? C n d = some (c, k, i, f) ∧ f.isStatic = true ∧ k.statics = some a ∧ H[a]? = some cell ∧ cell.vm.isStatics = true ∧ cell.cls = c ∧ f.slot < cell.slots.size ∧ k.staticTypes[f.slot]? = some f.type ∧ ¬ A a
theorem vx_L.moved {C n d : String} {A : Nat → Prop} {u U : State} {H : Heap} (hvm : u.vm.Alike U.vm) (h : vx_L C n d A u H) : vx_L C n d A U H := by
  obtain ⟨c, k, i, f, a, cell, h1, h2, h3, h4, h5, h6, h7, h8, h9, h10⟩ := h
  obtain ⟨k', hi', he⟩ := State.fieldFound?_setVm hvm h2
  exact ⟨c, k', i, f, a, cell, by rw [hvm.findClass]; exact h1, hi', h3, by rw [he]; exact h4, h5, h6, h7, h8, by rw [he]; exact h9, h10⟩
theorem vx_L.kept {C n d : String} {A : Nat → Prop} {U : State} {H H1 : Heap} (h : vx_L C n d A U H) (hq : ∀ a : Nat, a < H.size → ¬ A a → H1[a]? = H[a]?) : vx_L C n d A U H1 := by
  obtain ⟨c, k, i, f, a, cell, h1, h2, h3, h4, h5, h6, h7, h8, h9, h10⟩ := h
  exact ⟨c, k, i, f, a, cell, h1, h2, h3, h4, by rw [hq a (Array.getElem?_eq_some_iff.mp h5).1 h10]; exact h5, h6, h7, h8, h9, h10⟩
theorem vx_L.narrow {C n d : String} {A B : Nat → Prop} {U : State} {H : Heap} (h : vx_L C n d A U H) (hAB : ∀ q, B q → A q) : vx_L C n d B U H := by
  obtain ⟨c, k, i, f, a, cell, h1, h2, h3, h4, h5, h6, h7, h8, h9, h10⟩ := h
  exact ⟨c, k, i, f, a, cell, h1, h2, h3, h4, h5, h6, h7, h8, h9, fun z => h10 (hAB _ z)⟩
theorem vx_L.word {C n d : String} {A : Nat → Prop} {s : State} {args : Array Value} (h : vx_L C n d A s s.heap) : (Cond.laysStatic C n d).before args s = true := by
  obtain ⟨c, k, i, f, a, cell, h1, h2, h3, h4, h5, h6, h7, h8, h9, -⟩ := h
  show (Cond.laysStatic C n d).holds args s none s [] = true
  exact Cond.laysStatic_of h1 h2 h3 h4 h5 h6 h7 h8 h9
/-- .. and what it holds: null or some reference -/
def vx_Zq (C n d : String) (A : Nat → Prop) (U : State) (H : Heap) : Prop := va_Zq C n d A U H ∧ vx_L C n d A U H
theorem vx_Zq.moved {C n d : String} {A : Nat → Prop} {u U : State} {H : Heap} (hvm : u.vm.Alike U.vm) (h : vx_Zq C n d A u H) : vx_Zq C n d A U H := ⟨va_Zq.moved hvm h.1, vx_L.moved hvm h.2⟩
theorem vx_Zq.kept {C n d : String} {A : Nat → Prop} {U : State} {H H1 : Heap} (h : vx_Zq C n d A U H) (hq : ∀ a : Nat, a < H.size → ¬ A a → H1[a]? = H[a]?) : vx_Zq C n d A U H1 := ⟨va_Zq.kept h.1 hq, vx_L.kept h.2 hq⟩
theorem vx_Zq.narrow {C n d : String} {A B : Nat → Prop} {U : State} {H : Heap} (h : vx_Zq C n d A U H) (hAB : ∀ q, B q → A q) : vx_Zq C n d B U H := ⟨va_Zq.narrow h.1 hAB, vx_L.narrow h.2 hAB⟩
theorem vx_Zqof {args : Array Value} {s : State} {C n d : String} {A : Nat → Prop} (hl : (Cond.laysStatic C n d).before args s = true) (hini : (Cond.initialized C).before args s = true) (h : (Cond.isRef (.static C n d)).before args s = true) (hA : ∀ a : Nat, a < s.heap.size → ¬ A a) : vx_Zq C n d A s s.heap := by
  refine ⟨va_Zqof hl hini h hA, ?_⟩
  obtain ⟨c, k, i, f, a, cell, h1, h2, h3, h4, h5, h6, h7, h8, h9⟩ := Cond.laysStatic_spec hl
  exact ⟨c, k, i, f, a, cell, h1, h2, h3, h4, h5, h6, h7, h8, h9, hA a (Array.getElem?_eq_some_iff.mp h5).1⟩
theorem vx_isRef {C n d : String} {v : Value} {A : Nat → Prop} {s : State} {args : Array Value} (h : va_Z C n d v A s s.heap) (hv : v.isRef = true) : (Cond.isRef (.static C n d)).before args s = true := by
  obtain ⟨cf, kf, fi, f, a, cell, h1, h2, h3, h4, h5, h6, h7, -⟩ := h
  have he : (Term.static C n d).eval args s none [] s = some v := by
    simp [Term.eval, State.fieldNamed?, h1, h2, h4, h5, h6, h7]
  simp only [Cond.before, Cond.holds, Cond.value, he]
  cases v <;> simp_all [Value.isRef]
theorem vx_isRefq {C n d : String} {A : Nat → Prop} {s : State} {args : Array Value} (h : va_Zq C n d A s s.heap) : (Cond.isRef (.static C n d)).before args s = true := by
  rcases h with h | ⟨t, h⟩
  · exact vx_isRef h rfl
  · exact vx_isRef h rfl
/-- the same frame, seen from here: as if the method were called anew in this heap -/
theorem vx_rebase {T : State} (X : Stand p l e R s m args below meth c T locs cells slots) {R' : Room} (hf : R'.frames ≤ R.frames) (hl : R'.locals ≤ R.locals) (hc : cells + R'.cells ≤ R.cells) (hs : slots + R'.slots ≤ R.slots) :
    Stand p l e R' ((T.setVm s.vm).setFrames (.invoking m args :: below)) m args below meth c T [] 0 0 := by
  have htop : (T.setVm s.vm).topJava?.isSome := X.here.top
  have hF : ((T.setVm s.vm).setFrames (.invoking m args :: below)).frames = .invoking m args :: below := State.frames_setFrames _ (State.cur_lt_of_top htop)
  obtain ⟨g₀, hg0⟩ := Option.isSome_iff_exists.mp htop
  obtain ⟨r, hr⟩ := State.topJava?_eq_some.mp hg0
  have hl9 : e.platform.stackLimits (T.setVm s.vm).me = e.platform.stackLimits s.me := X.limits
  have hb9 : (T.setVm s.vm).me.stackBytes = s.me.stackBytes := X.bytes
  refine ⟨X.admits, X.cas, X.clock, hF, ?_, X.hears, X.method, X.code, X.here, X.tail, X.warmed, ?_, ?_, ?_⟩
  · have h := X.room
    have hU : ((T.setVm s.vm).setFrames (.invoking m args :: below)).localsInUse = s.localsInUse := by
      rw [State.localsInUse_invoking hF (meth := meth) (c := c) X.method X.code, State.localsInUse_invoking X.frames X.method X.code]
    simp only [State.hasRoom, Bool.and_eq_true, decide_eq_true_eq] at h ⊢
    obtain ⟨⟨⟨⟨h1, h2, h3, h4, h5, h6⟩, h7⟩, h8⟩, h9⟩ := h
    rw [X.frames, List.length_cons] at h2 h3
    have q1 := X.heapSize
    have q2 := X.used
    simp only [hF, hU, List.length_cons, State.stackLimits_setFrames, State.stackBytes_setFrames, hl9, hb9]
    refine ⟨⟨⟨⟨by omega, by omega, by omega, by omega, by omega, h6⟩, ?_⟩, ?_⟩, X.book⟩
    · show T.heap.size + R'.cells ≤ e.platform.maxCells
      omega
    · show T.slotsUsed + R'.slots ≤ e.platform.maxSlots
      omega
  · rw [State.stackLimits_setFrames]; rfl
  · rw [State.stackBytes_setFrames]; rfl
  · refine ⟨?_, Nat.le_refl _, Nat.le_refl _, ?_, ?_, fun a c9 h9 => ⟨c9, h9, rfl, rfl, fun _ _ => rfl⟩⟩
    · obtain ⟨t, ht, -⟩ := State.frames_cons hr
      show T.setVm s.vm = { ((T.setVm s.vm).setFrames (.invoking m args :: below)).setFrames (T.setVm s.vm).frames with heap := T.heap, slotsUsed := T.slotsUsed }
      rw [State.setFrames_setFrames, State.setFrames_self ht]
      rfl
    · show T.slotsUsed = T.slotsUsed + ((T.heap.toList.drop T.heap.size).map (·.slots.size)).sum
      rw [List.drop_eq_nil_of_le (Nat.le_of_eq Array.length_toList)]
      rfl
    · show ((T.heap.toList.drop T.heap.size).map (·.slots.size)).sum ≤ 0
      rw [List.drop_eq_nil_of_le (Nat.le_of_eq Array.length_toList)]
      exact Nat.le_refl _
/-- 'throw new E()': new; dup; invokespecial; athrow -/
theorem vx_throw0 {cc : ByteArray} {pc : Nat} (hexec : p.tables.exec = Jvm.exec) (hb : c.code = cc) (hl : l.stackTraces = false) {own cls : String} {names : List String} {ik ic mc ms : Nat} {A : Nat → Prop}
    (hown : s.vm.findClass own = some m.cls) (hcls : Bundle.fit cls = true) (hnames : ∀ n ∈ names, Bundle.fit n = true)
    (hk : (Cond.classLink own ik cls).before args s = true) (hini : (Cond.initialized cls).before args s = true) (hat : ∀ w ∈ vx_at0 own ic cls names, w.before args s = true)
    (hgood : ∀ w ∈ Cond.classLink own ik cls :: Cond.initialized cls :: vx_at0 own ic cls names, vx_ot w = true)
    (hU : vx_Zq Bundle.tN "UNASSIGNED_STACK" Bundle.steD A s s.heap) (hN : vx_Zq Bundle.tN "SUPPRESSED_SENTINEL" Bundle.listD A s s.heap) (hS : va_S A s.heap H locs) (hsize : ls.size = c.maxLocals)
    (d0 : decode cc pc = .ok (.new ik, 3)) (d3 : decode cc (pc + 3) = .ok (.dup, 1)) (d4 : decode cc (pc + 4) = .ok (.invokespecial ic, 3)) (d7 : decode cc (pc + 7) = .ok (.athrow, 1))
    (hout : ∀ x ∈ c.exceptionTable.toList, covers x (pc + 7) = false)
    (hRframes : names.length + 3 < R.frames) (hRlocals : (rest.map fun v => v.category).sum + (13 * (names.length + 1) + 42) ≤ R.locals) (hRcells : cells + 1 ≤ R.cells) (hRslots : slots + 6 ≤ R.slots) (hlocks : meth.locks = false)
    (hx : ∀ t : State, s.vm.Alike t.vm → H.size ≤ t.heap.size → (∀ q : Nat, q < H.size → t.heap[q]? = H[q]?) → XC cls s t)
    (hf : ∀ z ∈ locs, free z.base) (hc : cells + 1 ≤ mc) (hs : slots + 6 ≤ ms) :
    W p l e R s m args below meth c H locs cells slots (vx_MQ below Qc XC args s mc ms free) (F0 m pc ls rest) := by
  intro T hT X
  have htr : e.platform.stackTraces = false := (show e.platform.stackTraces = l.stackTraces by rw [X.admits.platform]).trans hl
  have Y := vx_rebase X (R' := { frames := R.frames, locals := R.locals, cells := 1, slots := 6 }) (Nat.le_refl _) (Nat.le_refl _) hRcells hRslots
  obtain ⟨s', hA⟩ : ∃ z, z = (T.setVm s.vm).setFrames (.invoking m args :: below) := ⟨_, rfl⟩
  rw [← hA] at Y
  have hvm : s'.vm = s.vm := by rw [hA]; rfl
  have hhp : s'.heap = H := by rw [hA]; exact hT
  have hW0 : s.WarmedH s'.vm := by rw [hvm]; exact State.WarmedH.refl s
  have hat' : ∀ w ∈ vx_at0 own ic cls names, w.before args s' = true := fun w hw => vx_ot_at hW0 hvm.symm (hgood w (List.mem_cons_of_mem _ (List.mem_cons_of_mem _ hw))) (hat w hw)
  have hk' : (Cond.classLink own ik cls).before args s' = true := vx_ot_at hW0 hvm.symm (hgood _ List.mem_cons_self) hk
  have hini' : (Cond.initialized cls).before args s' = true := vx_ot_at hW0 hvm.symm (hgood _ (List.mem_cons_of_mem _ List.mem_cons_self)) hini
  have hU' : vx_Zq Bundle.tN "UNASSIGNED_STACK" Bundle.steD A s' s'.heap := by rw [hhp]; exact vx_Zq.moved hW0.alike (hU.kept hS.2.1)
  have hN' : vx_Zq Bundle.tN "SUPPRESSED_SENTINEL" Bundle.listD A s' s'.heap := by rw [hhp]; exact vx_Zq.moved hW0.alike (hN.kept hS.2.1)
  have h : ∀ w ∈ Bundle.ownAtoms0 own ic cls names, w.before args s' = true := vx_own hat' (vx_isRefq hU'.1) (vx_isRefq hN'.1) hU'.2.word hN'.2.word
  have hown' : s'.vm.findClass own = some m.cls := by rw [hvm]; exact hown
  have hins : (Cond.instantiable cls 6).before args s' = true := h _ (by simp [Bundle.ownAtoms0])
  obtain ⟨vm₁, cX, kX, hfX, hkX, -, -, X₁, st1⟩ := Y.newCold hexec (own := own) (C := cls) (index := ik) (n := 6) hown' hk' hins hini'
    (g := F0 m pc ls rest) rfl (by rw [hb]; exact d0) (Nat.le_refl _) (Nat.le_refl _)
  generalize hT1 : (T.setVm vm₁).pushCell { cls := cX, slots := kX.instanceTypes.map defaultValue, vm := .none } = T1 at X₁ st1
  have hcat : (Value.ref T.heap.size).category = 1 := rfl
  have hcellA : T1.heap[T.heap.size]? = some (freshCell cX kX) := by rw [← hT1]; exact State.heap_pushCell_size _ _
  have d3' : decode c.code (pc + 3) = .ok (.dup, 1) := by rw [hb]; exact d3
  obtain ⟨U, hsteps, hrun, hend, hW, hsame, ce, hce, hO⟩ := X₁.ctorThrow0 hexec htr (own := own) (cls := cls) (names := names) (ic := ic) hown' hcls hnames h (fun x hx => nomatch hx) hfX hkX hcellA (by rw [hhp, hT]; exact Nat.le_refl _)
    (g := { method := m, pc := pc + 4, locals := ls, stack := .ref T.heap.size :: .ref T.heap.size :: rest, locked := none }) rfl hsize rfl rfl (rest := rest) rfl
    (by rw [hb]; exact d4) (by rw [hb]; exact d7) hout hRframes (by simp only [List.map_cons, List.sum_cons, hcat]; omega) hlocks
  obtain ⟨f1, f2⟩ := vx_frame hsame
  rw [hhp] at f1 f2
  have hWs : s.WarmedH U.vm := State.WarmedH.trans hW0 hW
  have hcl : s.vm.findClass cls = some ce.cls := by
    have h9 := hO.cls
    rw [hvm] at h9
    exact h9
  have hall : s.sameButNew ({ U with vm := s.vm } : State) locs mc ms := by
    subst hA
    obtain ⟨e1, e2⟩ := hsame
    rw [State.setFrames_setFrames] at e1
    have h2 : (T.setVm s.vm).sameButNew ({ U with vm := s.vm } : State) [] (0 + 1) (0 + 6) := ⟨e1, e2⟩
    have h3 := X.same.trans h2
    rw [List.append_nil] at h3
    exact h3.mono hc hs
  refine ⟨U, ?_, .threw T.heap.size, hrun, hend, Or.inr ⟨T.heap.size, rfl, cls, ce, locs, hx U hWs.alike f1 (fun q hq => f2 q hq (fun z hz => nomatch hz)), hce, hO.vm, hcl, hWs, hall, hf⟩⟩
  refine st1 _ ?_
  show Steps p.tables e below (T1.setTop { method := m, pc := pc + 3, locals := ls, stack := .ref T.heap.size :: rest, locked := none }) _
  jvm_step X₁.here [X₁.here.top, hexec, d3', Value.category]
  exact hsteps
/-- 'throw new E("text")': new; dup; ldc; invokespecial; athrow -/
theorem vx_throwS {cc : ByteArray} {pc : Nat} (hexec : p.tables.exec = Jvm.exec) (hb : c.code = cc) (hl : l.stackTraces = false) {own cls text : String} {names : List String} {ik is ic mc ms sa : Nat} {A : Nat → Prop}
    (hown : s.vm.findClass own = some m.cls) (hcls : Bundle.fit cls = true) (hnames : ∀ n ∈ names, Bundle.fit n = true)
    (hk : (Cond.classLink own ik cls).before args s = true) (hini : (Cond.initialized cls).before args s = true) (hstr : vk_R own is text sa s) (hat : ∀ w ∈ vx_atS own ic cls names, w.before args s = true)
    (hgood : ∀ w ∈ Cond.classLink own ik cls :: Cond.initialized cls :: vx_atS own ic cls names, vx_ot w = true)
    (hU : vx_Zq Bundle.tN "UNASSIGNED_STACK" Bundle.steD A s s.heap) (hN : vx_Zq Bundle.tN "SUPPRESSED_SENTINEL" Bundle.listD A s s.heap) (hS : va_S A s.heap H locs) (hsize : ls.size = c.maxLocals)
    (d0 : decode cc pc = .ok (.new ik, 3)) (d3 : decode cc (pc + 3) = .ok (.dup, 1)) (d4 : decode cc (pc + 4) = .ok (.ldc is, 2)) (d6 : decode cc (pc + 6) = .ok (.invokespecial ic, 3)) (d9 : decode cc (pc + 9) = .ok (.athrow, 1))
    (hout : ∀ x ∈ c.exceptionTable.toList, covers x (pc + 9) = false)
    (hRframes : names.length + 3 < R.frames) (hRlocals : (rest.map fun v => v.category).sum + (13 * (names.length + 1) + 43) ≤ R.locals) (hRcells : cells + 1 ≤ R.cells) (hRslots : slots + 6 ≤ R.slots) (hlocks : meth.locks = false)
    (hx : ∀ t : State, s.vm.Alike t.vm → H.size ≤ t.heap.size → (∀ q : Nat, q < H.size → t.heap[q]? = H[q]?) → XC cls s t)
    (hf : ∀ z ∈ locs, free z.base) (hc : cells + 1 ≤ mc) (hs : slots + 6 ≤ ms) :
    W p l e R s m args below meth c H locs cells slots (vx_MQ below Qc XC args s mc ms free) (F0 m pc ls rest) := by
  intro T hT X
  have htr : e.platform.stackTraces = false := (show e.platform.stackTraces = l.stackTraces by rw [X.admits.platform]).trans hl
  have Y := vx_rebase X (R' := { frames := R.frames, locals := R.locals, cells := 1, slots := 6 }) (Nat.le_refl _) (Nat.le_refl _) hRcells hRslots
  obtain ⟨s', hA⟩ : ∃ z, z = (T.setVm s.vm).setFrames (.invoking m args :: below) := ⟨_, rfl⟩
  rw [← hA] at Y
  have hvm : s'.vm = s.vm := by rw [hA]; rfl
  have hhp : s'.heap = H := by rw [hA]; exact hT
  have hW0 : s.WarmedH s'.vm := by rw [hvm]; exact State.WarmedH.refl s
  have hat' : ∀ w ∈ vx_atS own ic cls names, w.before args s' = true := fun w hw => vx_ot_at hW0 hvm.symm (hgood w (List.mem_cons_of_mem _ (List.mem_cons_of_mem _ hw))) (hat w hw)
  have hk' : (Cond.classLink own ik cls).before args s' = true := vx_ot_at hW0 hvm.symm (hgood _ List.mem_cons_self) hk
  have hini' : (Cond.initialized cls).before args s' = true := vx_ot_at hW0 hvm.symm (hgood _ (List.mem_cons_of_mem _ List.mem_cons_self)) hini
  have hU' : vx_Zq Bundle.tN "UNASSIGNED_STACK" Bundle.steD A s' s'.heap := by rw [hhp]; exact vx_Zq.moved hW0.alike (hU.kept hS.2.1)
  have hN' : vx_Zq Bundle.tN "SUPPRESSED_SENTINEL" Bundle.listD A s' s'.heap := by rw [hhp]; exact vx_Zq.moved hW0.alike (hN.kept hS.2.1)
  have h : ∀ w ∈ Bundle.ownAtoms own ic cls names, w.before args s' = true := vx_own hat' (vx_isRefq hU'.1) (vx_isRefq hN'.1) hU'.2.word hN'.2.word
  have hown' : s'.vm.findClass own = some m.cls := by rw [hvm]; exact hown
  have hins : (Cond.instantiable cls 6).before args s' = true := h _ (by simp [Bundle.ownAtoms])
  obtain ⟨vm₁, cX, kX, hfX, hkX, -, -, X₁, st1⟩ := Y.newCold hexec (own := own) (C := cls) (index := ik) (n := 6) hown' hk' hins hini'
    (g := F0 m pc ls rest) rfl (by rw [hb]; exact d0) (Nat.le_refl _) (Nat.le_refl _)
  generalize hT1 : (T.setVm vm₁).pushCell { cls := cX, slots := kX.instanceTypes.map defaultValue, vm := .none } = T1 at X₁ st1
  have hcat : (Value.ref T.heap.size).category = 1 := rfl
  have hcellA : T1.heap[T.heap.size]? = some (freshCell cX kX) := by rw [← hT1]; exact State.heap_pushCell_size _ _
  have d3' : decode c.code (pc + 3) = .ok (.dup, 1) := by rw [hb]; exact d3
  have d4' : decode c.code (pc + 4) = .ok (.ldc is, 2) := by rw [hb]; exact d4
  have hstr' : vk_R own is text sa s' := vk_R.warm hW0 hstr
  obtain ⟨U, hsteps, hrun, hend, hW, hsame, ce, hce, hO⟩ := X₁.ctorThrowS hexec htr (own := own) (cls := cls) (names := names) (ic := ic) hown' hcls hnames h (fun x hx => nomatch hx) hfX hkX hcellA (by rw [hhp, hT]; exact Nat.le_refl _) (msg := .ref sa) rfl
    (g := { method := m, pc := pc + 6, locals := ls, stack := .ref sa :: .ref T.heap.size :: .ref T.heap.size :: rest, locked := none }) rfl hsize rfl rfl (rest := rest) rfl
    (by rw [hb]; exact d6) (by rw [hb]; exact d9) hout hRframes (by simp only [List.map_cons, List.sum_cons, hcat]; omega) hlocks
  obtain ⟨f1, f2⟩ := vx_frame hsame
  rw [hhp] at f1 f2
  have hWs : s.WarmedH U.vm := State.WarmedH.trans hW0 hW
  have hcl : s.vm.findClass cls = some ce.cls := by
    have h9 := hO.cls
    rw [hvm] at h9
    exact h9
  have hall : s.sameButNew ({ U with vm := s.vm } : State) locs mc ms := by
    subst hA
    obtain ⟨e1, e2⟩ := hsame
    rw [State.setFrames_setFrames] at e1
    have h2 : (T.setVm s.vm).sameButNew ({ U with vm := s.vm } : State) [] (0 + 1) (0 + 6) := ⟨e1, e2⟩
    have h3 := X.same.trans h2
    rw [List.append_nil] at h3
    exact h3.mono hc hs
  refine ⟨U, ?_, .threw T.heap.size, hrun, hend, Or.inr ⟨T.heap.size, rfl, cls, ce, locs, hx U hWs.alike f1 (fun q hq => f2 q hq (fun z hz => nomatch hz)), hce, hO.vm, hcl, hWs, hall, hf⟩⟩
  refine st1 _ ?_
  show Steps p.tables e below (T1.setTop { method := m, pc := pc + 3, locals := ls, stack := .ref T.heap.size :: rest, locked := none }) _
  jvm_step X₁.here [X₁.here.top, hexec, d3', Value.category]
  exact X₁.ldcString hexec (own := own) (text := text) (index := is) (a := sa) hown' hstr'.1 hstr'.2
    (g := { method := m, pc := pc + 4, locals := ls, stack := .ref T.heap.size :: .ref T.heap.size :: rest, locked := none }) rfl d4' _ hsteps
/-- 'throw new E("text")', the text by a wide index -/
theorem vx_throwSW {cc : ByteArray} {pc : Nat} (hexec : p.tables.exec = Jvm.exec) (hb : c.code = cc) (hl : l.stackTraces = false) {own cls text : String} {names : List String} {ik is ic mc ms sa : Nat} {A : Nat → Prop}
    (hown : s.vm.findClass own = some m.cls) (hcls : Bundle.fit cls = true) (hnames : ∀ n ∈ names, Bundle.fit n = true)
    (hk : (Cond.classLink own ik cls).before args s = true) (hini : (Cond.initialized cls).before args s = true) (hstr : vk_R own is text sa s) (hat : ∀ w ∈ vx_atS own ic cls names, w.before args s = true)
    (hgood : ∀ w ∈ Cond.classLink own ik cls :: Cond.initialized cls :: vx_atS own ic cls names, vx_ot w = true)
    (hU : vx_Zq Bundle.tN "UNASSIGNED_STACK" Bundle.steD A s s.heap) (hN : vx_Zq Bundle.tN "SUPPRESSED_SENTINEL" Bundle.listD A s s.heap) (hS : va_S A s.heap H locs) (hsize : ls.size = c.maxLocals)
    (d0 : decode cc pc = .ok (.new ik, 3)) (d3 : decode cc (pc + 3) = .ok (.dup, 1)) (d4 : decode cc (pc + 4) = .ok (.ldc_w is, 3)) (d7 : decode cc (pc + 7) = .ok (.invokespecial ic, 3)) (d10 : decode cc (pc + 10) = .ok (.athrow, 1))
    (hout : ∀ x ∈ c.exceptionTable.toList, covers x (pc + 10) = false)
    (hRframes : names.length + 3 < R.frames) (hRlocals : (rest.map fun v => v.category).sum + (13 * (names.length + 1) + 43) ≤ R.locals) (hRcells : cells + 1 ≤ R.cells) (hRslots : slots + 6 ≤ R.slots) (hlocks : meth.locks = false)
    (hx : ∀ t : State, s.vm.Alike t.vm → H.size ≤ t.heap.size → (∀ q : Nat, q < H.size → t.heap[q]? = H[q]?) → XC cls s t)
    (hf : ∀ z ∈ locs, free z.base) (hc : cells + 1 ≤ mc) (hs : slots + 6 ≤ ms) :
    W p l e R s m args below meth c H locs cells slots (vx_MQ below Qc XC args s mc ms free) (F0 m pc ls rest) := by
  intro T hT X
  have htr : e.platform.stackTraces = false := (show e.platform.stackTraces = l.stackTraces by rw [X.admits.platform]).trans hl
  have Y := vx_rebase X (R' := { frames := R.frames, locals := R.locals, cells := 1, slots := 6 }) (Nat.le_refl _) (Nat.le_refl _) hRcells hRslots
  obtain ⟨s', hA⟩ : ∃ z, z = (T.setVm s.vm).setFrames (.invoking m args :: below) := ⟨_, rfl⟩
  rw [← hA] at Y
  have hvm : s'.vm = s.vm := by rw [hA]; rfl
  have hhp : s'.heap = H := by rw [hA]; exact hT
  have hW0 : s.WarmedH s'.vm := by rw [hvm]; exact State.WarmedH.refl s
  have hat' : ∀ w ∈ vx_atS own ic cls names, w.before args s' = true := fun w hw => vx_ot_at hW0 hvm.symm (hgood w (List.mem_cons_of_mem _ (List.mem_cons_of_mem _ hw))) (hat w hw)
  have hk' : (Cond.classLink own ik cls).before args s' = true := vx_ot_at hW0 hvm.symm (hgood _ List.mem_cons_self) hk
  have hini' : (Cond.initialized cls).before args s' = true := vx_ot_at hW0 hvm.symm (hgood _ (List.mem_cons_of_mem _ List.mem_cons_self)) hini
  have hU' : vx_Zq Bundle.tN "UNASSIGNED_STACK" Bundle.steD A s' s'.heap := by rw [hhp]; exact vx_Zq.moved hW0.alike (hU.kept hS.2.1)
  have hN' : vx_Zq Bundle.tN "SUPPRESSED_SENTINEL" Bundle.listD A s' s'.heap := by rw [hhp]; exact vx_Zq.moved hW0.alike (hN.kept hS.2.1)
  have h : ∀ w ∈ Bundle.ownAtoms own ic cls names, w.before args s' = true := vx_own hat' (vx_isRefq hU'.1) (vx_isRefq hN'.1) hU'.2.word hN'.2.word
  have hown' : s'.vm.findClass own = some m.cls := by rw [hvm]; exact hown
  have hins : (Cond.instantiable cls 6).before args s' = true := h _ (by simp [Bundle.ownAtoms])
  obtain ⟨vm₁, cX, kX, hfX, hkX, -, -, X₁, st1⟩ := Y.newCold hexec (own := own) (C := cls) (index := ik) (n := 6) hown' hk' hins hini'
    (g := F0 m pc ls rest) rfl (by rw [hb]; exact d0) (Nat.le_refl _) (Nat.le_refl _)
  generalize hT1 : (T.setVm vm₁).pushCell { cls := cX, slots := kX.instanceTypes.map defaultValue, vm := .none } = T1 at X₁ st1
  have hcat : (Value.ref T.heap.size).category = 1 := rfl
  have hcellA : T1.heap[T.heap.size]? = some (freshCell cX kX) := by rw [← hT1]; exact State.heap_pushCell_size _ _
  have d3' : decode c.code (pc + 3) = .ok (.dup, 1) := by rw [hb]; exact d3
  have d4' : decode c.code (pc + 4) = .ok (.ldc_w is, 3) := by rw [hb]; exact d4
  have hstr' : vk_R own is text sa s' := vk_R.warm hW0 hstr
  obtain ⟨U, hsteps, hrun, hend, hW, hsame, ce, hce, hO⟩ := X₁.ctorThrowS hexec htr (own := own) (cls := cls) (names := names) (ic := ic) hown' hcls hnames h (fun x hx => nomatch hx) hfX hkX hcellA (by rw [hhp, hT]; exact Nat.le_refl _) (msg := .ref sa) rfl
    (g := { method := m, pc := pc + 7, locals := ls, stack := .ref sa :: .ref T.heap.size :: .ref T.heap.size :: rest, locked := none }) rfl hsize rfl rfl (rest := rest) rfl
    (by rw [hb]; exact d7) (by rw [hb]; exact d10) hout hRframes (by simp only [List.map_cons, List.sum_cons, hcat]; omega) hlocks
  obtain ⟨f1, f2⟩ := vx_frame hsame
  rw [hhp] at f1 f2
  have hWs : s.WarmedH U.vm := State.WarmedH.trans hW0 hW
  have hcl : s.vm.findClass cls = some ce.cls := by
    have h9 := hO.cls
    rw [hvm] at h9
    exact h9
  have hall : s.sameButNew ({ U with vm := s.vm } : State) locs mc ms := by
    subst hA
    obtain ⟨e1, e2⟩ := hsame
    rw [State.setFrames_setFrames] at e1
    have h2 : (T.setVm s.vm).sameButNew ({ U with vm := s.vm } : State) [] (0 + 1) (0 + 6) := ⟨e1, e2⟩
    have h3 := X.same.trans h2
    rw [List.append_nil] at h3
    exact h3.mono hc hs
  refine ⟨U, ?_, .threw T.heap.size, hrun, hend, Or.inr ⟨T.heap.size, rfl, cls, ce, locs, hx U hWs.alike f1 (fun q hq => f2 q hq (fun z hz => nomatch hz)), hce, hO.vm, hcl, hWs, hall, hf⟩⟩
  refine st1 _ ?_
  show Steps p.tables e below (T1.setTop { method := m, pc := pc + 3, locals := ls, stack := .ref T.heap.size :: rest, locked := none }) _
  jvm_step X₁.here [X₁.here.top, hexec, d3', Value.category]
  exact X₁.ldcStringW hexec (own := own) (text := text) (index := is) (a := sa) hown' hstr'.1 hstr'.2
    (g := { method := m, pc := pc + 4, locals := ls, stack := .ref T.heap.size :: .ref T.heap.size :: rest, locked := none }) rfl d4' _ hsteps
end Ends
section Bodies
variable {l : Launch}
theorem vx_ofW {y : MethodName} {ws ws' : List Cond} {rm : Room} {Pc : Array Value → State → Prop} {Qc : Array Value → State → Outcome → State → Prop} {XC : String → State → State → Prop} {mc ms : Nat} {free : Addr → Prop} {cc : ByteArray} {maxL : Nat} {ret : Option FieldType}
    (hy : plainName y.cls = true) (hw : ws = Cond.code y cc maxL ret :: ws')
    (body : ∀ p e s m args below meth c s₁, BodyLoose p l y (headSpec ws rm) cc maxL ret e s m args below meth c s₁ → c.maxLocals = maxL → (∀ x ∈ c.exceptionTable.toList, False) → Pc args s →
      W p l e (headSpec ws rm).room s m args below meth c s.heap [] 0 0 (vx_MQ below Qc XC args s mc ms free) (entryFrame m args maxL)) : vx_Met l y ws rm Pc Qc XC mc ms free := by
  refine MetFree.of_bodyS (code := cc) (maxLocals := maxL) (ret := ret) hy ?_ ?_
  · intro args s m h hn
    obtain ⟨meth, c, h1, h2, h3, h4, h5, h6, -, -⟩ := Cond.code_spec hn (atoms_spec (ws := ws) h _ (by rw [hw]; exact List.mem_cons_self))
    exact ⟨meth, c, h1, h2, h3, h4, h5, h6⟩
  · intro p e s m args below meth c s₁ B hml hP _
    have hh0 : s₁.heap = s.heap := by rw [B.state]; rfl
    have ht : ∀ x ∈ c.exceptionTable.toList, False := by
      obtain ⟨meth9, c9, h1, h2, -, -, -, -, h7, -⟩ := Cond.code_spec B.named (atoms_spec (ws := ws) B.pre _ (by rw [hw]; exact List.mem_cons_self))
      cases Option.some.inj (h1.symm.trans B.method)
      cases Option.some.inj (h2.symm.trans (Stand.of_body B).code)
      intro x hx
      rw [Array.isEmpty_iff.mp h7] at hx
      cases hx
    obtain ⟨t, a1, o, b1, b2, b3⟩ := body p e s m args below meth c s₁ B hml ht hP s₁ hh0 (Stand.of_body B)
    exact ⟨t, o, a1, b1, b2, b3⟩
/-- the table of a body with handlers -/
theorem vx_table {p : Program} {x y : MethodName} {S : Spec} {cc bytes : ByteArray} {maxL maxL' : Nat} {ret ret' : Option FieldType} {e : Env} {s s₁ : State} {m : MethodId} {args : Array Value} {below : List Frame} {meth : Method} {c : Code} {hh : List (Nat × Nat × Nat × Nat)}
    (B : BodyLoose p l y S cc maxL ret e s m args below meth c s₁) (h : (Cond.codeWith y bytes maxL' ret' hh).before args s = true) : c.exceptionTable.toList = tableOf hh := by
  obtain ⟨m9, meth9, c9, hn9, h1, h2, -, -, h6, -⟩ := Cond.codeWith_spec h
  cases Option.some.inj (hn9.symm.trans B.named)
  cases Option.some.inj (h1.symm.trans B.method)
  cases Option.some.inj (h2.symm.trans (Stand.of_body B).code)
  rw [← h6, table_eq]
end Bodies
end VXA
/-! ===== END ===== -/
/-! ===== BEGIN a static call of a method with an exception table ===== -/
section VXS
variable {p : Program} {l : Launch} {e : Env} {R : Room} {s : State} {m : MethodId} {args : Array Value} {below : List Frame} {meth : Method} {c : Code} {T : State} {H : Heap} {locs : List Loc} {cells slots : Nat}
abbrev vx_CSW (R : Room) (s : State) (args : Array Value) (own : String) (index : Nat) (y : MethodName) (bytes : ByteArray) (maxL : Nat) (ret : Option FieldType) (hh : List (Nat × Nat × Nat × Nat)) (ws : List Cond) (rm : Room) (mc ms n : Nat) : Prop :=
  (rm.cells = mc ∧ rm.slots = ms ∧ rm.frames + 1 ≤ R.frames ∧ 8 + (maxL + 11) + rm.locals ≤ R.locals ∧ (∀ w ∈ ws, ∀ (a' : Array Value) (U : State), s.WarmedH U.vm → w.before a' U = true) ∧ Cond.codeWith y bytes maxL ret hh ∈ ws) ∧
  (Cond.codeWith y bytes maxL ret hh).before args s = true ∧ (Cond.initialized y.cls).before args s = true ∧ (y.cls ≠ "java/lang/invoke/MethodHandle" ∧ y.cls ≠ "java/lang/invoke/VarHandle") ∧
  (∀ sig, parseMethodDescriptor y.desc = some sig → n = sig.parameters.length) ∧ (Cond.methodLink own index y).before args s = true ∧ (Cond.static y).before args s = true
theorem vx_cwSW {own : String} {index maxL mc ms : Nat} {y : MethodName} {bytes : ByteArray} {ret : Option FieldType} {hh : List (Nat × Nat × Nat × Nat)} {Ts ws ws' : List Cond} {rm : Room} (n : Nat) (ht : ∀ w ∈ Ts, w.before args s = true) (hT : GoodIn Ts (va_wsS own index y ws)) (hw : ws = Cond.codeWith y bytes maxL ret hh :: ws') (hrc : rm.cells = mc) (hrs : rm.slots = ms)
    (hd : y.cls ≠ "java/lang/invoke/MethodHandle" ∧ y.cls ≠ "java/lang/invoke/VarHandle" ∧ (parseMethodDescriptor y.desc).map (fun d => d.parameters.length) = some n) (hR : rm.frames + 1 ≤ R.frames ∧ 8 + (maxL + 11) + rm.locals ≤ R.locals) :
    vx_CSW R s args own index y bytes maxL ret hh ws rm mc ms n := by
  have ok : ∀ w ∈ va_wsS own index y ws, w.before args s = true := fun w h => ht w (hT w h).1
  have hG : GoodIn Ts ws := fun w h => hT w (by unfold va_wsS; exact List.mem_append_right _ h)
  have hc : Cond.codeWith y bytes maxL ret hh ∈ ws := by rw [hw]; exact List.mem_cons_self
  refine ⟨⟨hrc, hrs, hR.1, hR.2, pay_in ht hG, hc⟩, ht _ (hG _ hc).1, ok _ (by simp [va_wsS]), ⟨hd.1, hd.2.1⟩, fun sig h => ?_, ok _ (by simp [va_wsS]), ok _ (by simp [va_wsS])⟩
  have h2 := hd.2.2
  rw [h] at h2
  exact (Option.some.inj h2).symm
theorem vx_callSW (X : Stand p l e R s m args below meth c T locs cells slots) (hexec : p.tables.exec = Jvm.exec) {own : String} {index : Nat} {y : MethodName} {bytes : ByteArray} {maxL : Nat} {ret : Option FieldType} {hh : List (Nat × Nat × Nat × Nat)}
    (hown : s.vm.findClass own = some m.cls) (hlink : (Cond.methodLink own index y).before args s = true) (hstat : (Cond.static y).before args s = true) (hinit : (Cond.initialized y.cls).before args s = true)
    (hcode : (Cond.codeWith y bytes maxL ret hh).before args s = true) (hy : y.cls ≠ "java/lang/invoke/MethodHandle" ∧ y.cls ≠ "java/lang/invoke/VarHandle")
    {W9 : Nat} {Pre : Pt → Array Value → Prop} {Post : Pt → Array Value → Option Value → Pt → Prop} (hK : Back l R p e below s args y 3 W9 Pre Post)
    {g : JFrame} (hg : g.method = m) (hsize : g.locals.size = c.maxLocals) {argsL rest : List Value} (hlen : ∀ sig, parseMethodDescriptor y.desc = some sig → argsL.length = sig.parameters.length)
    (hstack : g.stack = argsL.reverse ++ rest) (hW : 2 * g.monitorRoom + (rest.map fun v => v.category).sum ≤ W9) (hdg : decode c.code g.pc = .ok (.invokestatic index, 3))
    (hpre : ∀ vm₁, s.WarmedH vm₁ → Pre ⟨T.setVm vm₁, locs, cells, slots⟩ argsL.toArray) :
    ∃ (v : Option Value) (vm₁ : Vm) (B : Pt), s.WarmedH vm₁ ∧ Stand p l e R s m args below meth c B.U B.locs B.cells B.slots ∧ Post ⟨T.setVm vm₁, locs, cells, slots⟩ argsL.toArray v B ∧
      ∀ target, Steps p.tables e below (B.U.setTop { g with pc := g.pc + 3, stack := v.toList ++ rest }) target → Steps p.tables e below (T.setTop g) target := by
  obtain ⟨mk, methM, cM, hnamed, hmethM, -, -, -, -, -, -, hsigM⟩ := Cond.codeWith_spec hcode
  have hstatic : methM.isStatic = true := Cond.static_spec hnamed hmethM hstat
  obtain ⟨kP, hkP, -⟩ := className_of_methodNamed hnamed
  have hinitP : kP.init = .initialized := Cond.initialized_spec (findClass_of_methodNamed hnamed) hkP hinit
  obtain ⟨vm₁, X₁, hstep₁⟩ := X.invokestatic hexec hown hlink hnamed hmethM hstatic hkP hinitP hy (g := g) hg (argsL := argsL) (rest := rest) (hlen _ hsigM) hstack hdg
  obtain ⟨v, B, X', hpost, hsteps⟩ := hK m meth c ⟨T.setVm vm₁, locs, cells, slots⟩ { g with stack := rest } (.invokestatic index) mk argsL.toArray X₁ hg hsize hdg hW (X₁.named hnamed) (hpre vm₁ X₁.warmed)
  exact ⟨v, vm₁, B, X₁.warmed, X', hpost, fun target h => hstep₁ _ fun acts => by rw [doInvoke_state]; exact hsteps.trans h⟩
theorem vx_runSW {y : MethodName} {bytes cc : ByteArray} {maxL nL mc ms n index : Nat} {ret : Option FieldType} {hh : List (Nat × Nat × Nat × Nat)} {ws : List Cond} {rm : Room} {Pc : Array Value → State → Prop} {Qc : Array Value → State → Outcome → State → Prop} {free : Addr → Prop} {Ts : List Cond} {own : String} {As rest : List Value} {g : JFrame}
    (S : CallFix p m c cc nL s args Ts own) (hM : Met l y ws rm Pc Qc mc ms free) (cw : vx_CSW R s args own index y bytes maxL ret hh ws rm mc ms n) (hp : PreS s H Pc As)
    (hg : g.method = m) (hn : As.length = n) (hsize : g.locals.size = nL) (hstack : g.stack = As.reverse ++ rest) (hW : 2 * g.monitorRoom + (rest.map fun v => v.category).sum ≤ 8) (hdg : decode cc g.pc = .ok (.invokestatic index, 3)) (hf : cells + mc ≤ R.cells ∧ slots + ms ≤ R.slots) :
    va_Run p l e R s m args below meth c H locs cells slots mc ms g rest (Qc As.toArray) (free) := by
  obtain ⟨⟨hrc, hrs, hfr, hlo, hws, hcw⟩, hcode, hini, hy, hlen, hl, hstt⟩ := cw
  have hK : Back l R p e below s args y 3 8 (PreOf R mc ms Pc) (PostOf Qc mc ms free) := va_backW (hh := hh) (bytes := bytes) (maxL := maxL) (ret := ret) hM hp.1 hrc hrs hfr hlo hws hcw (fun a' U hW => word_at hW (Or.inl (by first | rfl | simp [Cond.onTables, Cond.keeps, Cond.steady])) hini)
  obtain ⟨hx, hb, hml, ho, -⟩ := S
  intro T hT X
  obtain ⟨v, vm₁, ⟨U', l2, c2, s2⟩, hW₁, X', ⟨g', mk, t, L, e1, e2, hq, h1, hL, h2, h3⟩, st⟩ := vx_callSW X hx (hh := hh) (bytes := bytes) (maxL := maxL) (ret := ret) ho hl hstt hini hcode hy hK hg (hsize.trans hml.symm) (argsL := As) (rest := rest) (fun sig h => hn.trans (hlen sig h)) hstack hW (by rw [hb]; exact hdg)
    (fun vm₁ hW₁ => ⟨hf.1, hf.2, hp.2 (T.setVm vm₁) hT hW₁⟩)
  dsimp only [Pt.U, Pt.locs, Pt.cells, Pt.slots] at X' e1 e2 h1 h2 h3 st
  subst h1; subst h2; subst h3
  exact ⟨v, (T.setVm vm₁).calling g' mk As.toArray, t, U', L, hT, X', hL, e1, e2, hq, st⟩
/-- not caught here, past rows that name other classes: it goes on to the caller -/
theorem vx_outP {p : Program} {l : Launch} {e : Env} {R : Room} {s : State} {m : MethodId} {args : Array Value} {below : List Frame} {meth : Method} {c : Code} {H : Heap} {locs : List Loc} {cells slots : Nat} {free : Addr → Prop} {ls : Array Slot} {rest : List Value} {Qc : Array Value → State → Outcome → State → Prop} {XC : String → State → State → Prop}
    {pc : Nat} {own E : String} {ce : Cell} {q : Addr} {mc ms : Nat} (hown : s.vm.findClass own = some m.cls) (hlocks : meth.locks = false)
    (hpass : ∀ z ∈ c.exceptionTable.toList, covers z pc = false ∨ (z.catchType ≠ 0 ∧ ∃ nm : String, (Cond.classLink own z.catchType nm).before args s = true ∧ va_Nc E nm s)) (hcell : H[q]? = some ce) (hv : ce.vm = .none) (hcl : s.vm.findClass E = some ce.cls)
    (hx : ∀ t : State, t.heap = H → s.vm.Alike t.vm → XC E s t) (hf : ∀ z ∈ locs, free z.base) (hc : cells ≤ mc) (hs : slots ≤ ms) :
    vx_W p l e R s m args below meth c H locs cells slots (vx_MQ below Qc XC args s mc ms free) (F0 m pc ls rest) q := by
  intro T hT X
  have hpl : e.platform.magicAccessors = ({} : Platform).magicAccessors := by rw [X.admits.platform]
  obtain ⟨vm', hW', X', st⟩ := X.outThrough hlocks q (g := F0 m pc ls rest) rfl rfl rfl (cell := ce) (by rw [hT]; exact hcell) (by rw [hv]; rfl)
    (by obtain ⟨k9, h9, -⟩ := Vm.findClass_spec hcl; exact ⟨k9, h9⟩) (fun z hz => by
      rcases hpass z hz with h | ⟨hz0, nm, hl1, hn1⟩
      · exact Or.inl h
      · obtain ⟨c6, hc6, hcl6⟩ := Cond.classLink_spec hown hl1 e.platform hpl
        obtain ⟨a8, b8, h1, h2, h3⟩ := hn1
        cases Option.some.inj (h1.symm.trans hcl)
        cases Option.some.inj (h2.symm.trans hc6)
        exact Or.inr ⟨hz0, _, hcl6, h3⟩)
  obtain ⟨g₀, hfr⟩ := X'.frames_eq
  have hcell9 : ((T.setVm vm').setFrames (.throwing q :: below)).heap[q]? = some ce := by
    show T.heap[q]? = some ce
    rw [hT]; exact hcell
  have hend : Ended ((T.setVm vm').setFrames (.throwing q :: below)) below (.threw q) := State.frames_setFrames _ (State.cur_lt_of_frames hfr)
  refine ⟨(T.setVm vm').setFrames (.throwing q :: below), ?_, .threw q, X'.here.running, hend, Or.inr ⟨q, rfl, E, ce, locs, hx _ hT (X'.ends _).1.alike, hcell9, hv, hcl, (X'.ends _).1, (X'.ends _).2.mono hc hs, hf⟩⟩
  rw [X.pushThrowing_eq]
  exact st
/-- a thing of a world lies in the heap -/
theorem vx_lt {D : va_G} {cl : List vw_C} {ws : va_W} {H1 : Heap} (h : va_P D cl ws H1) {k : Nat} {q : Nat × va_E} (hk : ws[k]? = some q) : q.1 < H1.size := (h k q hk).lt
end VXS
/-! ===== END ===== -/
/-! ===== BEGIN methods with a table of their own: called by a name, returning or throwing ===== -/
section VXH
/-! vx_backW, vx_callVX, vx_callSX, vx_callVW, vx_runVW, vx_runVX, vx_runSX, vx_ofWH follow the same proofs as their sisters above (Free/Laws.lean, Shelf42/LK1.lean); vx_outP calls Shelf42/NT130.lean (outThrough). -/
section
variable {l : Launch} {R : Room} {p : Program} {e : Env} {below : List Frame} {s : State} {sargs : Array Value} {y : MethodName} {len W9 : Nat}
theorem vx_backW {ws : List Cond} {rm : Room} {Pc : Array Value → State → Prop} {Qc : Array Value → State → Outcome → State → Prop} {XC : String → State → State → Prop} {mc ms : Nat} {free : Addr → Prop} {bytes : ByteArray} {maxL : Nat} {ret : Option FieldType} {hh : List (Nat × Nat × Nat × Nat)}
    (hM : vx_Met l y ws rm Pc Qc XC mc ms free) (hblind : FrameBlind Pc) (hrc : rm.cells = mc) (hrs : rm.slots = ms)
    (hframes : rm.frames + 1 ≤ R.frames) (hlocals : W9 + (maxL + 11) + rm.locals ≤ R.locals)
    (hws : ∀ w ∈ ws, ∀ a' U, s.WarmedH U.vm → w.before a' U = true) (hcode : Cond.codeWith y bytes maxL ret hh ∈ ws) (hinit : ∀ a' U, s.WarmedH U.vm → (Cond.initialized y.cls).before a' U = true) :
    vx_Back l R p e below s sargs y len W9 (PreOf R mc ms Pc) (PostOf Qc mc ms free) (vx_Post XC mc ms free) := by
  intro m meth c A g ig mk a X hg hsize hdg hW hn hp
  have h1 : (headSpec ws rm).pre.before a A.U = true := atoms_intro fun w hw => hws w hw _ _ X.warmed
  have h2 : (Cond.codeWith y bytes maxL ret hh).before a A.U = true := hws _ hcode _ _ X.warmed
  have h3 : (Cond.initialized y.cls).before a A.U = true := hinit _ _ X.warmed
  have h4 : A.cells + (headSpec ws rm).room.cells ≤ R.cells := by rw [show (headSpec ws rm).room.cells = mc from hrc]; exact hp.1
  have h5 : A.slots + (headSpec ws rm).room.slots ≤ R.slots := by rw [show (headSpec ws rm).room.slots = ms from hrs]; exact hp.2.1
  have hPc : Pc a (A.U.calling g mk a) := hblind _ _ _ _ hp.2.2
  obtain ⟨U, Ls, c0, s0⟩ := A
  dsimp only [Pt.U, Pt.locs, Pt.cells, Pt.slots] at h1 h2 h3 h4 h5 X hn hPc ⊢
  obtain ⟨m9, methY, cY, hn9, hmY, hcY, -, hlY, -⟩ := Cond.codeWith_spec h2
  cases Option.some.inj (hn9.symm.trans hn)
  obtain ⟨kY, hkY, -⟩ := className_of_methodNamed hn
  have hinitY : kY.init = .initialized := Cond.initialized_spec (findClass_of_methodNamed hn) hkY h3
  have h : At U g.method c below := by rw [hg]; exact X.here
  have hlocals9 : W9 + (maxL + 11) + (headSpec ws rm).room.locals ≤ R.locals := hlocals
  have happ : (headSpec ws rm).appliesLoose y e.platform (U.calling g mk a) = true :=
    Spec.appliesLoose_calling (g := g) h hdg hn hkY hinitY
      (X.room_calling (g := g) (R' := (headSpec ws rm).room) hsize hmY hcY hframes (by rw [hlY]; omega) h4 h5) h1
  obtain ⟨mid, hmid⟩ := h.above
  have hfr : (U.setTop g).frames = (.java g :: mid) ++ below := by rw [State.frames_setTop' g h.top, hmid]; rfl
  obtain ⟨o, s₂, hsteps, -, hend, hq⟩ := Steps.callFree hM p X.admits X.cas X.clock (acts := []) hfr happ hPc trivial
  have hq' : vx_Q Qc XC mc ms free a (U.calling g mk a) o s₂ := hq
  rw [State.frames_setTop' g h.top] at hend
  obtain ⟨g₀, hg0⟩ := Option.isSome_iff_exists.mp h.top
  obtain ⟨r, hr⟩ := State.topJava?_eq_some.mp hg0
  have hr' : (({ U with heap := s₂.heap, slotsUsed := s₂.slotsUsed } : State).setVm s₂.vm).frames = .java g₀ :: r := hr
  rcases hq' with ⟨hqc, L, hfe, hL⟩ | ⟨q, rfl, E, ce, L, hx, hce, hcv, hcl, hW₂, hsm, hL⟩
  · obtain ⟨⟨v, rfl⟩, hW₂, e2, q2, q3, q4, q5, q6⟩ := id hfe
    have e3 : s₂ = ({ (U.calling g mk a).setFrames s₂.frames with heap := s₂.heap, slotsUsed := s₂.slotsUsed } : State).setVm s₂.vm := by
      have : s₂ = ({ s₂ with vm := (U.calling g mk a).vm } : State).setVm s₂.vm := rfl
      rw [e2] at this
      exact this
    obtain ⟨c₂, i₂, len₂, hc₂, hd₂, hf₂⟩ := hend
    have hW' : U.WarmedH s₂.vm := hW₂
    have hcc : c₂ = c := by
      have h1 : s₂.code? g.method = U.code? g.method := by
        rw [State.code?_eq, State.code?_eq, hW'.alike.method?]
      exact Option.some.inj (hc₂.symm.trans (h1.trans h.code))
    subst hcc
    have hlen : len₂ = len := by rw [hdg] at hd₂; cases hd₂; rfl
    subst hlen
    have hs₂ : s₂ = (({ U with heap := s₂.heap, slotsUsed := s₂.slotsUsed } : State).setVm s₂.vm).setTop { g with pc := g.pc + len₂, stack := v.toList ++ g.stack } := by
      refine e3.trans ?_
      rw [hf₂, State.calling_eq h.top, State.setFrames_setFrames, State.setTop_of_frames _ hr', hr]
      rfl
    have hsame : U.sameButNew ({ U with heap := s₂.heap, slotsUsed := s₂.slotsUsed } : State) L mc ms := by
      refine ⟨?_, q2, q3, q4, q5, q6⟩
      obtain ⟨t, ht, -⟩ := State.frames_cons hr
      show ({ U with heap := s₂.heap, slotsUsed := s₂.slotsUsed } : State) = { U.setFrames U.frames with heap := s₂.heap, slotsUsed := s₂.slotsUsed }
      rw [State.setFrames_self ht]
    subst hg
    refine Or.inl ⟨v, ⟨(({ U with heap := s₂.heap, slotsUsed := s₂.slotsUsed } : State).setVm s₂.vm), Ls ++ L, c0 + mc, s0 + ms⟩,
      ⟨X.admits, X.cas, X.clock, X.frames, X.room, X.hears, X.method, X.code, (X.here.setHeapUsed s₂.heap s₂.slotsUsed).setVm hW'.alike, X.tail, State.WarmedH.trans X.warmed hW', X.limits, X.bytes, X.same.trans (hsame.setVm s.vm)⟩,
      ⟨g, mk, s₂, L, rfl, rfl, hqc, rfl, hL, rfl, rfl⟩, ?_⟩
    show Steps p.tables e below _ ((({ U with heap := s₂.heap, slotsUsed := s₂.slotsUsed } : State).setVm s₂.vm).setTop { g with pc := g.pc + len₂, stack := v.toList ++ g.stack })
    rw [← hs₂]
    exact hsteps
  · obtain ⟨e2, q2, q3, q4, q5, q6⟩ := id hsm
    have e3 : s₂ = ({ (U.calling g mk a).setFrames s₂.frames with heap := s₂.heap, slotsUsed := s₂.slotsUsed } : State).setVm s₂.vm := by
      have : s₂ = ({ s₂ with vm := (U.calling g mk a).vm } : State).setVm s₂.vm := rfl
      rw [e2] at this
      exact this
    have hf₂ : s₂.frames = .throwing q :: .java g :: U.frames.tail := hend
    have hW' : U.WarmedH s₂.vm := hW₂
    have hs₂ : s₂ = ((({ U with heap := s₂.heap, slotsUsed := s₂.slotsUsed } : State).setVm s₂.vm).setTop g).pushFrame (.throwing q) := by
      refine e3.trans ?_
      rw [hf₂, State.calling_eq h.top, State.setFrames_setFrames, State.pushFrame, State.frames_setTop _ hr', State.setTop_of_frames _ hr', State.setFrames_setFrames, hr]
      rfl
    have hsame : U.sameButNew ({ U with heap := s₂.heap, slotsUsed := s₂.slotsUsed } : State) L mc ms := by
      refine ⟨?_, q2, q3, q4, q5, q6⟩
      obtain ⟨t, ht, -⟩ := State.frames_cons hr
      show ({ U with heap := s₂.heap, slotsUsed := s₂.slotsUsed } : State) = { U.setFrames U.frames with heap := s₂.heap, slotsUsed := s₂.slotsUsed }
      rw [State.setFrames_self ht]
    subst hg
    refine Or.inr ⟨q, ⟨(({ U with heap := s₂.heap, slotsUsed := s₂.slotsUsed } : State).setVm s₂.vm), Ls ++ L, c0 + mc, s0 + ms⟩,
      ⟨X.admits, X.cas, X.clock, X.frames, X.room, X.hears, X.method, X.code, (X.here.setHeapUsed s₂.heap s₂.slotsUsed).setVm hW'.alike, X.tail, State.WarmedH.trans X.warmed hW', X.limits, X.bytes, X.same.trans (hsame.setVm s.vm)⟩,
      ⟨g, mk, s₂, L, E, ce, rfl, rfl, hx, hce, hcv, hcl, rfl, hL, rfl, rfl⟩, ?_⟩
    show Steps p.tables e below _ (((({ U with heap := s₂.heap, slotsUsed := s₂.slotsUsed } : State).setVm s₂.vm).setTop g).pushFrame (.throwing q))
    rw [← hs₂]
    exact hsteps
end
variable {p : Program} {l : Launch} {e : Env} {R : Room} {s : State} {m : MethodId} {args : Array Value} {below : List Frame} {meth : Method} {c : Code} {T : State} {H : Heap} {locs : List Loc} {cells slots : Nat}
theorem vx_callVX (X : Stand p l e R s m args below meth c T locs cells slots) (hexec : p.tables.exec = Jvm.exec) {own C : String} {index : Nat} {y : MethodName} {bytes : ByteArray} {maxL : Nat} {ret : Option FieldType} {hh : List (Nat × Nat × Nat × Nat)}
    (hown : s.vm.findClass own = some m.cls) (hlink : (Cond.methodLink own index y).before args s = true) (hinst : (Cond.instanceMethod y).before args s = true) (hsel : (Cond.selects C y y).before args s = true)
    (hcode : (Cond.codeWith y bytes maxL ret hh).before args s = true) (hy : y.cls ≠ "java/lang/invoke/MethodHandle" ∧ y.cls ≠ "java/lang/invoke/VarHandle")
    {W9 : Nat} {Pre : Pt → Array Value → Prop} {Post : Pt → Array Value → Option Value → Pt → Prop} {PostX : Pt → Array Value → Addr → Pt → Prop} (hK : vx_Back l R p e below s args y 3 W9 Pre Post PostX)
    {b : Addr} {cellB : Cell} (hcell : T.heap[b]? = some cellB) (hobj : cellB.vm.isStatics = false) (hcls : s.vm.findClass C = some cellB.cls)
    {g : JFrame} (hg : g.method = m) (hsize : g.locals.size = c.maxLocals) {argsL rest : List Value} (hlen : ∀ sig, parseMethodDescriptor y.desc = some sig → argsL.length = sig.parameters.length)
    (hstack : g.stack = argsL.reverse ++ .ref b :: rest) (hW : 2 * g.monitorRoom + (rest.map fun v => v.category).sum ≤ W9) (hdg : decode c.code g.pc = .ok (.invokevirtual index, 3))
    (hpre : ∀ vm₁, s.WarmedH vm₁ → Pre ⟨T.setVm vm₁, locs, cells, slots⟩ (Value.ref b :: argsL).toArray) :
    (∃ (v : Option Value) (vm₁ : Vm) (B : Pt), s.WarmedH vm₁ ∧ Stand p l e R s m args below meth c B.U B.locs B.cells B.slots ∧ Post ⟨T.setVm vm₁, locs, cells, slots⟩ (Value.ref b :: argsL).toArray v B ∧
      ∀ target, Steps p.tables e below (B.U.setTop { g with pc := g.pc + 3, stack := v.toList ++ rest }) target → Steps p.tables e below (T.setTop g) target) ∨
    (∃ (q : Addr) (vm₁ : Vm) (B : Pt), s.WarmedH vm₁ ∧ Stand p l e R s m args below meth c B.U B.locs B.cells B.slots ∧ PostX ⟨T.setVm vm₁, locs, cells, slots⟩ (Value.ref b :: argsL).toArray q B ∧
      Steps p.tables e below (T.setTop g) ((B.U.setTop { g with stack := rest }).pushFrame (.throwing q))) := by
  obtain ⟨mk, methM, hnamed, hmethM, hstM, habM⟩ := Cond.instanceMethod_spec hinst
  obtain ⟨m8, methM', cM, hn8, hmethM', -, -, -, -, -, -, hsigM⟩ := Cond.codeWith_spec hcode
  cases Option.some.inj (hn8.symm.trans hnamed)
  cases hmethM.symm.trans hmethM'
  obtain ⟨c2, r2, m2, q1, q2, q3, q4, kP, hkP, hkPi⟩ := Cond.selects_spec hsel
  cases hcls.symm.trans q1
  cases (State.methodFound?_of_named hnamed hy).symm.trans q2
  cases hnamed.symm.trans q3
  have hselP : selectMethod e.platform s.vm cellB.cls mk = .method mk := by rw [Launch.admits_selectMethod X.admits]; exact q4
  obtain ⟨vm₁, X₁, hstep₁⟩ := X.invokevirtual hexec hown hlink hnamed hmethM hstM hkP hkPi hy (a := b) (cell := cellB) hcell
    (fun z h => by rw [h] at hobj; cases hobj) hselP hmethM habM hkP hkPi (g := g) hg (argsL := argsL) (rest := rest) (hlen _ hsigM) hstack hdg
  rcases hK m meth c ⟨T.setVm vm₁, locs, cells, slots⟩ { g with stack := rest } (.invokevirtual index) mk (Value.ref b :: argsL).toArray X₁ hg hsize hdg hW (X₁.named hnamed) (hpre vm₁ X₁.warmed) with ⟨v, B, X', hpost, hsteps⟩ | ⟨q, B, X', hpost, hsteps⟩
  · exact Or.inl ⟨v, vm₁, B, X₁.warmed, X', hpost, fun target h => hstep₁ _ fun acts => by rw [doInvoke_state]; exact hsteps.trans h⟩
  · exact Or.inr ⟨q, vm₁, B, X₁.warmed, X', hpost, hstep₁ _ fun acts => by rw [doInvoke_state]; exact hsteps⟩
theorem vx_callSX (X : Stand p l e R s m args below meth c T locs cells slots) (hexec : p.tables.exec = Jvm.exec) {own : String} {index : Nat} {y : MethodName} {bytes : ByteArray} {maxL : Nat} {ret : Option FieldType} {hh : List (Nat × Nat × Nat × Nat)}
    (hown : s.vm.findClass own = some m.cls) (hlink : (Cond.methodLink own index y).before args s = true) (hstat : (Cond.static y).before args s = true) (hinit : (Cond.initialized y.cls).before args s = true)
    (hcode : (Cond.codeWith y bytes maxL ret hh).before args s = true) (hy : y.cls ≠ "java/lang/invoke/MethodHandle" ∧ y.cls ≠ "java/lang/invoke/VarHandle")
    {W9 : Nat} {Pre : Pt → Array Value → Prop} {Post : Pt → Array Value → Option Value → Pt → Prop} {PostX : Pt → Array Value → Addr → Pt → Prop} (hK : vx_Back l R p e below s args y 3 W9 Pre Post PostX)
    {g : JFrame} (hg : g.method = m) (hsize : g.locals.size = c.maxLocals) {argsL rest : List Value} (hlen : ∀ sig, parseMethodDescriptor y.desc = some sig → argsL.length = sig.parameters.length)
    (hstack : g.stack = argsL.reverse ++ rest) (hW : 2 * g.monitorRoom + (rest.map fun v => v.category).sum ≤ W9) (hdg : decode c.code g.pc = .ok (.invokestatic index, 3))
    (hpre : ∀ vm₁, s.WarmedH vm₁ → Pre ⟨T.setVm vm₁, locs, cells, slots⟩ argsL.toArray) :
    (∃ (v : Option Value) (vm₁ : Vm) (B : Pt), s.WarmedH vm₁ ∧ Stand p l e R s m args below meth c B.U B.locs B.cells B.slots ∧ Post ⟨T.setVm vm₁, locs, cells, slots⟩ argsL.toArray v B ∧
      ∀ target, Steps p.tables e below (B.U.setTop { g with pc := g.pc + 3, stack := v.toList ++ rest }) target → Steps p.tables e below (T.setTop g) target) ∨
    (∃ (q : Addr) (vm₁ : Vm) (B : Pt), s.WarmedH vm₁ ∧ Stand p l e R s m args below meth c B.U B.locs B.cells B.slots ∧ PostX ⟨T.setVm vm₁, locs, cells, slots⟩ argsL.toArray q B ∧
      Steps p.tables e below (T.setTop g) ((B.U.setTop { g with stack := rest }).pushFrame (.throwing q))) := by
  obtain ⟨mk, methM, cM, hnamed, hmethM, -, -, -, -, -, -, hsigM⟩ := Cond.codeWith_spec hcode
  have hstatic : methM.isStatic = true := Cond.static_spec hnamed hmethM hstat
  obtain ⟨kP, hkP, -⟩ := className_of_methodNamed hnamed
  have hinitP : kP.init = .initialized := Cond.initialized_spec (findClass_of_methodNamed hnamed) hkP hinit
  obtain ⟨vm₁, X₁, hstep₁⟩ := X.invokestatic hexec hown hlink hnamed hmethM hstatic hkP hinitP hy (g := g) hg (argsL := argsL) (rest := rest) (hlen _ hsigM) hstack hdg
  rcases hK m meth c ⟨T.setVm vm₁, locs, cells, slots⟩ { g with stack := rest } (.invokestatic index) mk argsL.toArray X₁ hg hsize hdg hW (X₁.named hnamed) (hpre vm₁ X₁.warmed) with ⟨v, B, X', hpost, hsteps⟩ | ⟨q, B, X', hpost, hsteps⟩
  · exact Or.inl ⟨v, vm₁, B, X₁.warmed, X', hpost, fun target h => hstep₁ _ fun acts => by rw [doInvoke_state]; exact hsteps.trans h⟩
  · exact Or.inr ⟨q, vm₁, B, X₁.warmed, X', hpost, hstep₁ _ fun acts => by rw [doInvoke_state]; exact hsteps⟩
theorem vx_callVW (X : Stand p l e R s m args below meth c T locs cells slots) (hexec : p.tables.exec = Jvm.exec) {own C : String} {index : Nat} {y : MethodName} {bytes : ByteArray} {maxL : Nat} {ret : Option FieldType} {hh : List (Nat × Nat × Nat × Nat)}
    (hown : s.vm.findClass own = some m.cls) (hlink : (Cond.methodLink own index y).before args s = true) (hinst : (Cond.instanceMethod y).before args s = true) (hsel : (Cond.selects C y y).before args s = true)
    (hcode : (Cond.codeWith y bytes maxL ret hh).before args s = true) (hy : y.cls ≠ "java/lang/invoke/MethodHandle" ∧ y.cls ≠ "java/lang/invoke/VarHandle")
    {W9 : Nat} {Pre : Pt → Array Value → Prop} {Post : Pt → Array Value → Option Value → Pt → Prop} (hK : Back l R p e below s args y 3 W9 Pre Post)
    {b : Addr} {cellB : Cell} (hcell : T.heap[b]? = some cellB) (hobj : cellB.vm.isStatics = false) (hcls : s.vm.findClass C = some cellB.cls)
    {g : JFrame} (hg : g.method = m) (hsize : g.locals.size = c.maxLocals) {argsL rest : List Value} (hlen : ∀ sig, parseMethodDescriptor y.desc = some sig → argsL.length = sig.parameters.length)
    (hstack : g.stack = argsL.reverse ++ .ref b :: rest) (hW : 2 * g.monitorRoom + (rest.map fun v => v.category).sum ≤ W9) (hdg : decode c.code g.pc = .ok (.invokevirtual index, 3))
    (hpre : ∀ vm₁, s.WarmedH vm₁ → Pre ⟨T.setVm vm₁, locs, cells, slots⟩ (Value.ref b :: argsL).toArray) :
    ∃ (v : Option Value) (vm₁ : Vm) (B : Pt), s.WarmedH vm₁ ∧ Stand p l e R s m args below meth c B.U B.locs B.cells B.slots ∧ Post ⟨T.setVm vm₁, locs, cells, slots⟩ (Value.ref b :: argsL).toArray v B ∧
      ∀ target, Steps p.tables e below (B.U.setTop { g with pc := g.pc + 3, stack := v.toList ++ rest }) target → Steps p.tables e below (T.setTop g) target := by
  obtain ⟨mk, methM, hnamed, hmethM, hstM, habM⟩ := Cond.instanceMethod_spec hinst
  obtain ⟨m8, methM', cM, hn8, hmethM', -, -, -, -, -, -, hsigM⟩ := Cond.codeWith_spec hcode
  cases Option.some.inj (hn8.symm.trans hnamed)
  cases hmethM.symm.trans hmethM'
  obtain ⟨c2, r2, m2, q1, q2, q3, q4, kP, hkP, hkPi⟩ := Cond.selects_spec hsel
  cases hcls.symm.trans q1
  cases (State.methodFound?_of_named hnamed hy).symm.trans q2
  cases hnamed.symm.trans q3
  have hselP : selectMethod e.platform s.vm cellB.cls mk = .method mk := by rw [Launch.admits_selectMethod X.admits]; exact q4
  obtain ⟨vm₁, X₁, hstep₁⟩ := X.invokevirtual hexec hown hlink hnamed hmethM hstM hkP hkPi hy (a := b) (cell := cellB) hcell
    (fun z h => by rw [h] at hobj; cases hobj) hselP hmethM habM hkP hkPi (g := g) hg (argsL := argsL) (rest := rest) (hlen _ hsigM) hstack hdg
  obtain ⟨v, B, X', hpost, hsteps⟩ := hK m meth c ⟨T.setVm vm₁, locs, cells, slots⟩ { g with stack := rest } (.invokevirtual index) mk (Value.ref b :: argsL).toArray X₁ hg hsize hdg hW (X₁.named hnamed) (hpre vm₁ X₁.warmed)
  exact ⟨v, vm₁, B, X₁.warmed, X', hpost, fun target h => hstep₁ _ fun acts => by rw [doInvoke_state]; exact hsteps.trans h⟩
abbrev vx_CVW (R : Room) (s : State) (args : Array Value) (own C : String) (index : Nat) (y : MethodName) (bytes : ByteArray) (maxL : Nat) (ret : Option FieldType) (hh : List (Nat × Nat × Nat × Nat)) (ws : List Cond) (rm : Room) (mc ms n : Nat) : Prop :=
  (rm.cells = mc ∧ rm.slots = ms ∧ rm.frames + 1 ≤ R.frames ∧ 8 + (maxL + 11) + rm.locals ≤ R.locals ∧ (∀ w ∈ ws, ∀ (a' : Array Value) (U : State), s.WarmedH U.vm → w.before a' U = true) ∧ Cond.codeWith y bytes maxL ret hh ∈ ws) ∧
  (Cond.codeWith y bytes maxL ret hh).before args s = true ∧ (Cond.initialized y.cls).before args s = true ∧ (y.cls ≠ "java/lang/invoke/MethodHandle" ∧ y.cls ≠ "java/lang/invoke/VarHandle") ∧
  (∀ sig, parseMethodDescriptor y.desc = some sig → n = sig.parameters.length) ∧ (Cond.methodLink own index y).before args s = true ∧ (Cond.instanceMethod y).before args s = true ∧ (Cond.selects C y y).before args s = true
theorem vx_cwVW {own C : String} {index maxL mc ms : Nat} {y : MethodName} {bytes : ByteArray} {ret : Option FieldType} {hh : List (Nat × Nat × Nat × Nat)} {Ts ws ws' : List Cond} {rm : Room} (n : Nat) (ht : ∀ w ∈ Ts, w.before args s = true) (hT : GoodIn Ts (wsV own index C y ws)) (hw : ws = Cond.codeWith y bytes maxL ret hh :: ws') (hrc : rm.cells = mc) (hrs : rm.slots = ms)
    (hd : y.cls = C ∧ y.cls ≠ "java/lang/invoke/MethodHandle" ∧ y.cls ≠ "java/lang/invoke/VarHandle" ∧ (parseMethodDescriptor y.desc).map (fun d => d.parameters.length) = some n) (hR : rm.frames + 1 ≤ R.frames ∧ 8 + (maxL + 11) + rm.locals ≤ R.locals) :
    vx_CVW R s args own C index y bytes maxL ret hh ws rm mc ms n := by
  obtain ⟨hC, hd⟩ := hd
  subst hC
  have ok : ∀ w ∈ wsV own index y.cls y ws, w.before args s = true := fun w h => ht w (hT w h).1
  have hG : GoodIn Ts ws := fun w h => hT w (by unfold wsV; exact List.mem_append_right _ h)
  have hc : Cond.codeWith y bytes maxL ret hh ∈ ws := by rw [hw]; exact List.mem_cons_self
  refine ⟨⟨hrc, hrs, hR.1, hR.2, pay_in ht hG, hc⟩, ht _ (hG _ hc).1, ok _ (by simp [wsV]), ⟨hd.1, hd.2.1⟩, fun sig h => ?_, ok _ (by simp [wsV]), ok _ (by simp [wsV]), ok _ (by simp [wsV])⟩
  have h2 := hd.2.2
  rw [h] at h2
  exact (Option.some.inj h2).symm
theorem vx_runVW {y : MethodName} {bytes cc : ByteArray} {maxL nL mc ms n index : Nat} {ret : Option FieldType} {hh : List (Nat × Nat × Nat × Nat)} {ws : List Cond} {rm : Room} {Pc : Array Value → State → Prop} {Qc : Array Value → State → Outcome → State → Prop} {free : Addr → Prop} {Ts : List Cond} {own C : String} {b : Addr} {As rest : List Value} {g : JFrame}
    (S : CallFix p m c cc nL s args Ts own) (hM : Met l y ws rm Pc Qc mc ms free) (cw : vx_CVW R s args own C index y bytes maxL ret hh ws rm mc ms n) (hp : PreV s H C b Pc As)
    (hg : g.method = m) (hn : As.length = n) (hsize : g.locals.size = nL) (hstack : g.stack = As.reverse ++ .ref b :: rest) (hW : 2 * g.monitorRoom + (rest.map fun v => v.category).sum ≤ 8) (hdg : decode cc g.pc = .ok (.invokevirtual index, 3)) (hf : cells + mc ≤ R.cells ∧ slots + ms ≤ R.slots) :
    va_Run p l e R s m args below meth c H locs cells slots mc ms g rest (Qc (Value.ref b :: As).toArray) free := by
  obtain ⟨⟨hrc, hrs, hfr, hlo, hws, hcw⟩, hcode, hini, hy, hlen, hl, hin, hse⟩ := cw
  have hK : Back l R p e below s args y 3 8 (PreOf R mc ms Pc) (PostOf Qc mc ms free) := va_backW (hh := hh) (bytes := bytes) (maxL := maxL) (ret := ret) hM hp.1 hrc hrs hfr hlo hws hcw (fun a' U hW => word_at hW (Or.inl (by first | rfl | simp [Cond.onTables, Cond.keeps, Cond.steady])) hini)
  obtain ⟨hx, hb, hml, ho, -⟩ := S
  obtain ⟨-, ⟨cellB, hcB, hoB, hclB⟩, hPc⟩ := hp
  intro T hT X
  obtain ⟨v, vm₁, ⟨U', l2, c2, s2⟩, hW₁, X', ⟨g', mk, t, L, e1, e2, hq, h1, hL, h2, h3⟩, st⟩ := vx_callVW X hx (C := C) (hh := hh) (bytes := bytes) (maxL := maxL) (ret := ret) ho hl hin hse hcode hy hK (by rw [hT]; exact hcB) hoB hclB hg (hsize.trans hml.symm) (argsL := As) (rest := rest) (fun sig h => hn.trans (hlen sig h)) hstack hW (by rw [hb]; exact hdg)
    (fun vm₁ hW₁ => ⟨hf.1, hf.2, hPc (T.setVm vm₁) hT hW₁⟩)
  dsimp only [Pt.U, Pt.locs, Pt.cells, Pt.slots] at X' e1 e2 h1 h2 h3 st
  subst h1; subst h2; subst h3
  exact ⟨v, (T.setVm vm₁).calling g' mk (Value.ref b :: As).toArray, t, U', L, hT, X', hL, e1, e2, hq, st⟩
section
variable {y : MethodName} {bytes cc : ByteArray} {maxL nL mc ms n index : Nat} {ret : Option FieldType} {ws : List Cond} {rm : Room} {Pc : Array Value → State → Prop} {Qc : Array Value → State → Outcome → State → Prop} {XC : String → State → State → Prop} {free : Addr → Prop} {Ts : List Cond} {own C : String} {b : Addr} {As rest : List Value} {g : JFrame}
theorem vx_runVX {hh : List (Nat × Nat × Nat × Nat)} (S : CallFix p m c cc nL s args Ts own) (hM : vx_Met l y ws rm Pc Qc XC mc ms free) (cw : vx_CVW R s args own C index y bytes maxL ret hh ws rm mc ms n) (hp : PreV s H C b Pc As)
    (hg : g.method = m) (hn : As.length = n) (hsize : g.locals.size = nL) (hstack : g.stack = As.reverse ++ .ref b :: rest) (hW : 2 * g.monitorRoom + (rest.map fun v => v.category).sum ≤ 8) (hdg : decode cc g.pc = .ok (.invokevirtual index, 3)) (hf : cells + mc ≤ R.cells ∧ slots + ms ≤ R.slots) :
    vx_Run p l e R s m args below meth c H locs cells slots mc ms g rest (Qc (Value.ref b :: As).toArray) XC free := by
  obtain ⟨⟨hrc, hrs, hfr, hlo, hws, hcw⟩, hcode, hini, hy, hlen, hl, hin, hse⟩ := cw
  have hK : vx_Back l R p e below s args y 3 8 (PreOf R mc ms Pc) (PostOf Qc mc ms free) (vx_Post XC mc ms free) := vx_backW (hh := hh) (bytes := bytes) (maxL := maxL) (ret := ret) hM hp.1 hrc hrs hfr hlo hws hcw (fun a' U hW => word_at hW (Or.inl (by first | rfl | simp [Cond.onTables, Cond.keeps, Cond.steady])) hini)
  obtain ⟨hx, hb, hml, ho, -⟩ := S
  obtain ⟨-, ⟨cellB, hcB, hoB, hclB⟩, hPc⟩ := hp
  intro T hT X
  rcases vx_callVX X hx (C := C) (hh := hh) (bytes := bytes) (maxL := maxL) (ret := ret) ho hl hin hse hcode hy hK (by rw [hT]; exact hcB) hoB hclB hg (hsize.trans hml.symm) (argsL := As) (rest := rest) (fun sig h => hn.trans (hlen sig h)) hstack hW (by rw [hb]; exact hdg)
    (fun vm₁ hW₁ => ⟨hf.1, hf.2, hPc (T.setVm vm₁) hT hW₁⟩) with ⟨v, vm₁, ⟨U', l2, c2, s2⟩, hW₁, X', ⟨g', mk, t, L, e1, e2, hq, h1, hL, h2, h3⟩, st⟩ | ⟨q, vm₁, ⟨U', l2, c2, s2⟩, hW₁, X', ⟨g', mk, t, L, E, ce, e1, e2, hq, hce, hcv, hcl, h1, hL, h2, h3⟩, st⟩
  · dsimp only [Pt.U, Pt.locs, Pt.cells, Pt.slots] at X' e1 e2 h1 h2 h3 st
    subst h1; subst h2; subst h3
    exact Or.inl ⟨v, (T.setVm vm₁).calling g' mk (Value.ref b :: As).toArray, t, U', L, hT, X', hL, e1, e2, hq, st⟩
  · dsimp only [Pt.U, Pt.locs, Pt.cells, Pt.slots] at X' e1 e2 h1 h2 h3 st hcl
    subst h1; subst h2; subst h3
    exact Or.inr ⟨q, (T.setVm vm₁).calling g' mk (Value.ref b :: As).toArray, t, U', L, E, ce, hT, X', hL, e1, e2, hq, hce, hcv, vx_cls hW₁ hcl, st⟩
theorem vx_runSX {hh : List (Nat × Nat × Nat × Nat)} (S : CallFix p m c cc nL s args Ts own) (hM : vx_Met l y ws rm Pc Qc XC mc ms free) (cw : vx_CSW R s args own index y bytes maxL ret hh ws rm mc ms n) (hp : PreS s H Pc As)
    (hg : g.method = m) (hn : As.length = n) (hsize : g.locals.size = nL) (hstack : g.stack = As.reverse ++ rest) (hW : 2 * g.monitorRoom + (rest.map fun v => v.category).sum ≤ 8) (hdg : decode cc g.pc = .ok (.invokestatic index, 3)) (hf : cells + mc ≤ R.cells ∧ slots + ms ≤ R.slots) :
    vx_Run p l e R s m args below meth c H locs cells slots mc ms g rest (Qc As.toArray) XC free := by
  obtain ⟨⟨hrc, hrs, hfr, hlo, hws, hcw⟩, hcode, hini, hy, hlen, hl, hstt⟩ := cw
  have hK : vx_Back l R p e below s args y 3 8 (PreOf R mc ms Pc) (PostOf Qc mc ms free) (vx_Post XC mc ms free) := vx_backW (hh := hh) (bytes := bytes) (maxL := maxL) (ret := ret) hM hp.1 hrc hrs hfr hlo hws hcw (fun a' U hW => word_at hW (Or.inl (by first | rfl | simp [Cond.onTables, Cond.keeps, Cond.steady])) hini)
  obtain ⟨hx, hb, hml, ho, -⟩ := S
  intro T hT X
  rcases vx_callSX X hx (hh := hh) (bytes := bytes) (maxL := maxL) (ret := ret) ho hl hstt hini hcode hy hK hg (hsize.trans hml.symm) (argsL := As) (rest := rest) (fun sig h => hn.trans (hlen sig h)) hstack hW (by rw [hb]; exact hdg)
    (fun vm₁ hW₁ => ⟨hf.1, hf.2, hp.2 (T.setVm vm₁) hT hW₁⟩) with ⟨v, vm₁, ⟨U', l2, c2, s2⟩, hW₁, X', ⟨g', mk, t, L, e1, e2, hq, h1, hL, h2, h3⟩, st⟩ | ⟨q, vm₁, ⟨U', l2, c2, s2⟩, hW₁, X', ⟨g', mk, t, L, E, ce, e1, e2, hq, hce, hcv, hcl, h1, hL, h2, h3⟩, st⟩
  · dsimp only [Pt.U, Pt.locs, Pt.cells, Pt.slots] at X' e1 e2 h1 h2 h3 st
    subst h1; subst h2; subst h3
    exact Or.inl ⟨v, (T.setVm vm₁).calling g' mk As.toArray, t, U', L, hT, X', hL, e1, e2, hq, st⟩
  · dsimp only [Pt.U, Pt.locs, Pt.cells, Pt.slots] at X' e1 e2 h1 h2 h3 st hcl
    subst h1; subst h2; subst h3
    exact Or.inr ⟨q, (T.setVm vm₁).calling g' mk As.toArray, t, U', L, E, ce, hT, X', hL, e1, e2, hq, hce, hcv, vx_cls hW₁ hcl, st⟩
end
end VXH
theorem vx_ofWH {l : Launch} {y : MethodName} {ws ws' : List Cond} {rm : Room} {Pc : Array Value → State → Prop} {Qc : Array Value → State → Outcome → State → Prop} {XC : String → State → State → Prop} {mc ms : Nat} {free : Addr → Prop} {cc : ByteArray} {maxL : Nat} {ret : Option FieldType} {hh : List (Nat × Nat × Nat × Nat)}
    (hy : plainName y.cls = true) (hw : ws = Cond.codeWith y cc maxL ret hh :: ws')
    (body : ∀ p e s m args below meth c s₁, BodyLoose p l y (headSpec ws rm) cc maxL ret e s m args below meth c s₁ → c.maxLocals = maxL → Pc args s →
      W p l e (headSpec ws rm).room s m args below meth c s.heap [] 0 0 (vx_MQ below Qc XC args s mc ms free) (entryFrame m args maxL)) : vx_Met l y ws rm Pc Qc XC mc ms free := by
  refine MetFree.of_bodyS (code := cc) (maxLocals := maxL) (ret := ret) hy ?_ ?_
  · intro args s m h hn
    obtain ⟨m9, meth, c, hn9, h1, h2, h3, h4, -, h5, h6, -⟩ := Cond.codeWith_spec (atoms_spec (ws := ws) h _ (by rw [hw]; exact List.mem_cons_self))
    cases hn.symm.trans hn9
    exact ⟨meth, c, h1, h2, h3, h4, h5, h6⟩
  · intro p e s m args below meth c s₁ B hml hP _
    have hh0 : s₁.heap = s.heap := by rw [B.state]; rfl
    obtain ⟨t, a1, o, b1, b2, b3⟩ := body p e s m args below meth c s₁ B hml hP s₁ hh0 (Stand.of_body B)
    exact ⟨t, o, a1, b1, b2, b3⟩
/-! ===== END ===== -/
end
section
/-! ===== BEGIN printed: names, fields, word lists, decode rows ===== -/
def RX0 : String := "LabelNet$Link"
def TX0 : u_T := fun k => match k with
  | 0 => ("LabelNet$Link", "laid", "Z", false)
  | 1 => ("LabelNet$Link", "up", "Z", false)
  | 2 => ("LabelNet$Link", "lower", "I", false)
  | 3 => ("LabelNet$Link", "greater", "I", false)
  | 4 => ("LabelNet$Link", "cost", "I", false)
  | _ => ("LabelNet$Link", "queues", "[LLabelNet$MessageQueue;", true)
def tyX0 : Nat → FieldType := fun k => match k with
  | 0 => .boolean
  | 1 => .boolean
  | 2 => .int
  | 3 => .int
  | 4 => .int
  | _ => .array (.object "LabelNet$MessageQueue")
abbrev wsX00 : List Cond := u_ws RX0 TX0 6
theorem nmX0 : ∀ a, a < 6 → ∀ b, b < 6 → a ≠ b → (TX0 a).2.1 ≠ (TX0 b).2.1 := by decide +kernel
theorem tyX0_ok : ∀ k, k < 6 → parseFieldDescriptor (TX0 k).2.2.1 = some (tyX0 k) := by decide +kernel
abbrev cX0_init : ByteArray := prog_2_method_1_code
def yX0_init : MethodName := ⟨RX0, "<init>", "()V"⟩
abbrev cX0_isUpAt : ByteArray := prog_2_method_2_code
def yX0_isUpAt : MethodName := ⟨RX0, "isUpAt", "(I)Z"⟩
abbrev cX0_otherEnd : ByteArray := prog_2_method_3_code
def yX0_otherEnd : MethodName := ⟨RX0, "otherEnd", "(I)I"⟩
abbrev cX0_queueOf : ByteArray := prog_2_method_4_code
def yX0_queueOf : MethodName := ⟨RX0, "queueOf", "(I)LLabelNet$MessageQueue;"⟩
def RX1 : String := "LabelNet$Message"
def TX1 : u_T := fun k => match k with
  | 0 => ("LabelNet$Message", "kind", "I", false)
  | 1 => ("LabelNet$Message", "subject", "I", false)
  | 2 => ("LabelNet$Message", "value", "I", false)
  | 3 => ("LabelNet$Message", "path", "I", false)
  | 4 => ("LabelNet$Message", "record", "LLabelNet$RouterRecord;", false)
  | _ => ("LabelNet$Message", "spoiled", "Z", false)
def tyX1 : Nat → FieldType := fun k => match k with
  | 0 => .int
  | 1 => .int
  | 2 => .int
  | 3 => .int
  | 4 => .object "LabelNet$RouterRecord"
  | _ => .boolean
abbrev wsX10 : List Cond := u_ws RX1 TX1 6
theorem nmX1 : ∀ a, a < 6 → ∀ b, b < 6 → a ≠ b → (TX1 a).2.1 ≠ (TX1 b).2.1 := by decide +kernel
theorem tyX1_ok : ∀ k, k < 6 → parseFieldDescriptor (TX1 k).2.2.1 = some (tyX1 k) := by decide +kernel
abbrev cX1_init : ByteArray := prog_3_method_1_code
def yX1_init : MethodName := ⟨RX1, "<init>", "()V"⟩
abbrev cX1_as : ByteArray := prog_3_method_2_code
def yX1_as : MethodName := ⟨RX1, "as", "(IIII)LLabelNet$Message;"⟩
abbrev cX1_asNote : ByteArray := prog_3_method_3_code
def yX1_asNote : MethodName := ⟨RX1, "asNote", "(LLabelNet$RouterRecord;)LLabelNet$Message;"⟩
abbrev cX1_copy : ByteArray := prog_3_method_4_code
def yX1_copy : MethodName := ⟨RX1, "copy", "(LLabelNet$Message;)V"⟩
abbrev cX1_shownKind : ByteArray := prog_3_method_5_code
def yX1_shownKind : MethodName := ⟨RX1, "shownKind", "()I"⟩
def RX2 : String := "LabelNet$MessageQueue"
def TX2 : u_T := fun k => match k with
  | 0 => ("LabelNet$MessageQueue", "slots", "[LLabelNet$Message;", true)
  | 1 => ("LabelNet$MessageQueue", "first", "I", false)
  | _ => ("LabelNet$MessageQueue", "size", "I", false)
def tyX2 : Nat → FieldType := fun k => match k with
  | 0 => .array (.object "LabelNet$Message")
  | 1 => .int
  | _ => .int
abbrev wsX20 : List Cond := u_ws RX2 TX2 3
theorem nmX2 : ∀ a, a < 3 → ∀ b, b < 3 → a ≠ b → (TX2 a).2.1 ≠ (TX2 b).2.1 := by decide +kernel
theorem tyX2_ok : ∀ k, k < 3 → parseFieldDescriptor (TX2 k).2.2.1 = some (tyX2 k) := by decide +kernel
abbrev cX2_init : ByteArray := prog_4_method_1_code
def yX2_init : MethodName := ⟨RX2, "<init>", "()V"⟩
abbrev cX2_at : ByteArray := prog_4_method_2_code
def yX2_at : MethodName := ⟨RX2, "at", "(I)LLabelNet$Message;"⟩
abbrev cX2_nextFree : ByteArray := prog_4_method_3_code
def yX2_nextFree : MethodName := ⟨RX2, "nextFree", "()LLabelNet$Message;"⟩
abbrev cX2_dropFirst : ByteArray := prog_4_method_4_code
def yX2_dropFirst : MethodName := ⟨RX2, "dropFirst", "()V"⟩
def RX3 : String := "LabelNet$Packet"
def TX3 : u_T := fun k => match k with
  | 0 => ("LabelNet$Packet", "prefix", "I", true)
  | 1 => ("LabelNet$Packet", "ttl", "I", false)
  | 2 => ("LabelNet$Packet", "router", "I", false)
  | 3 => ("LabelNet$Packet", "label", "I", false)
  | _ => ("LabelNet$Packet", "fate", "I", false)
def tyX3 : Nat → FieldType := fun k => match k with
  | 0 => .int
  | 1 => .int
  | 2 => .int
  | 3 => .int
  | _ => .int
abbrev wsX30 : List Cond := u_ws RX3 TX3 5
theorem nmX3 : ∀ a, a < 5 → ∀ b, b < 5 → a ≠ b → (TX3 a).2.1 ≠ (TX3 b).2.1 := by decide +kernel
theorem tyX3_ok : ∀ k, k < 5 → parseFieldDescriptor (TX3 k).2.2.1 = some (tyX3 k) := by decide +kernel
abbrev cX3_init : ByteArray := prog_5_method_1_code
def yX3_init : MethodName := ⟨RX3, "<init>", "(II)V"⟩
def RX4 : String := "LabelNet$Router"
def TX4 : u_T := fun k => match k with
  | 0 => ("LabelNet$Router", "id", "I", true)
  | 1 => ("LabelNet$Router", "known", "[LLabelNet$RouterRecord;", true)
  | 2 => ("LabelNet$Router", "distances", "[[I", true)
  | 3 => ("LabelNet$Router", "mappedLabels", "[[I", true)
  | 4 => ("LabelNet$Router", "mappedPaths", "[[I", true)
  | 5 => ("LabelNet$Router", "labels", "[I", true)
  | 6 => ("LabelNet$Router", "paths", "[I", true)
  | 7 => ("LabelNet$Router", "users", "[I", true)
  | _ => ("LabelNet$Router", "unreleased", "[I", true)
def tyX4 : Nat → FieldType := fun k => match k with
  | 0 => .int
  | 1 => .array (.object "LabelNet$RouterRecord")
  | 2 => .array (.array .int)
  | 3 => .array (.array .int)
  | 4 => .array (.array .int)
  | 5 => .array .int
  | 6 => .array .int
  | 7 => .array .int
  | _ => .array .int
abbrev wsX40 : List Cond := u_ws RX4 TX4 9
theorem nmX4 : ∀ a, a < 9 → ∀ b, b < 9 → a ≠ b → (TX4 a).2.1 ≠ (TX4 b).2.1 := by decide +kernel
theorem tyX4_ok : ∀ k, k < 9 → parseFieldDescriptor (TX4 k).2.2.1 = some (tyX4 k) := by decide +kernel
abbrev cX4_init : ByteArray := prog_6_method_1_code
def yX4_init : MethodName := ⟨RX4, "<init>", "(I)V"⟩
abbrev cX4_knowsUp : ByteArray := prog_6_method_2_code
def yX4_knowsUp : MethodName := ⟨RX4, "knowsUp", "(II)Z"⟩
abbrev cX4_forgetDistances : ByteArray := prog_6_method_3_code
def yX4_forgetDistances : MethodName := ⟨RX4, "forgetDistances", "()V"⟩
abbrev cX4_takeStep : ByteArray := prog_6_method_4_code
def yX4_takeStep : MethodName := ⟨RX4, "takeStep", "(III)V"⟩
abbrev cX4_joinSteps : ByteArray := prog_6_method_5_code
def yX4_joinSteps : MethodName := ⟨RX4, "joinSteps", "()V"⟩
abbrev cX4_joinAt : ByteArray := prog_6_method_6_code
def yX4_joinAt : MethodName := ⟨RX4, "joinAt", "(II)V"⟩
abbrev cX4_egress : ByteArray := prog_6_method_7_code
def yX4_egress : MethodName := ⟨RX4, "egress", "(I)I"⟩
abbrev cX4_forgetMapping : ByteArray := prog_6_method_8_code
def yX4_forgetMapping : MethodName := ⟨RX4, "forgetMapping", "(II)V"⟩
abbrev cX4_forgetLink : ByteArray := prog_6_method_9_code
def yX4_forgetLink : MethodName := ⟨RX4, "forgetLink", "(I)V"⟩
abbrev cX4_labelFor : ByteArray := prog_6_method_10_code
def yX4_labelFor : MethodName := ⟨RX4, "labelFor", "(II)I"⟩
abbrev cX4_leastFreeLabel : ByteArray := prog_6_method_11_code
def yX4_leastFreeLabel : MethodName := ⟨RX4, "leastFreeLabel", "()I"⟩
abbrev cX4_bind : ByteArray := prog_6_method_12_code
def yX4_bind : MethodName := ⟨RX4, "bind", "(III)V"⟩
abbrev cX4_isOwnLabel : ByteArray := prog_6_method_13_code
def yX4_isOwnLabel : MethodName := ⟨RX4, "isOwnLabel", "(I)Z"⟩
abbrev cX4_releaseCounts : ByteArray := prog_6_method_14_code
def yX4_releaseCounts : MethodName := ⟨RX4, "releaseCounts", "(III)Z"⟩
abbrev cX4_freeIfReleased : ByteArray := prog_6_method_15_code
def yX4_freeIfReleased : MethodName := ⟨RX4, "freeIfReleased", "(I)V"⟩
abbrev cX4_prefixOfLabel : ByteArray := prog_6_method_16_code
def yX4_prefixOfLabel : MethodName := ⟨RX4, "prefixOfLabel", "(I)I"⟩
abbrev cX4_labelsInUse : ByteArray := prog_6_method_17_code
def yX4_labelsInUse : MethodName := ⟨RX4, "labelsInUse", "()I"⟩
def RX5 : String := "LabelNet$RouterRecord"
def TX5 : u_T := fun k => match k with
  | 0 => ("LabelNet$RouterRecord", "router", "I", true)
  | 1 => ("LabelNet$RouterRecord", "number", "I", true)
  | 2 => ("LabelNet$RouterRecord", "linkBits", "I", true)
  | _ => ("LabelNet$RouterRecord", "prefixBits", "I", true)
def tyX5 : Nat → FieldType := fun k => match k with
  | 0 => .int
  | 1 => .int
  | 2 => .int
  | _ => .int
abbrev wsX50 : List Cond := u_ws RX5 TX5 4
theorem nmX5 : ∀ a, a < 4 → ∀ b, b < 4 → a ≠ b → (TX5 a).2.1 ≠ (TX5 b).2.1 := by decide +kernel
theorem tyX5_ok : ∀ k, k < 4 → parseFieldDescriptor (TX5 k).2.2.1 = some (tyX5 k) := by decide +kernel
abbrev cX5_init : ByteArray := prog_7_method_1_code
def yX5_init : MethodName := ⟨RX5, "<init>", "(IIII)V"⟩
def RX6 : String := "LabelNet"
def TX6 : u_T := fun k => match k with
  | 0 => ("LabelNet", "routers", "[LLabelNet$Router;", true)
  | 1 => ("LabelNet", "links", "[LLabelNet$Link;", true)
  | 2 => ("LabelNet", "attachedTo", "[I", true)
  | 3 => ("LabelNet", "packets", "[LLabelNet$Packet;", true)
  | 4 => ("LabelNet", "packetCount", "I", false)
  | 5 => ("LabelNet", "lostMessages", "I", false)
  | _ => ("LabelNet", "draft", "LLabelNet$Message;", true)
def tyX6 : Nat → FieldType := fun k => match k with
  | 0 => .array (.object "LabelNet$Router")
  | 1 => .array (.object "LabelNet$Link")
  | 2 => .array .int
  | 3 => .array (.object "LabelNet$Packet")
  | 4 => .int
  | 5 => .int
  | _ => .object "LabelNet$Message"
abbrev wsX60 : List Cond := u_ws RX6 TX6 7
theorem nmX6 : ∀ a, a < 7 → ∀ b, b < 7 → a ≠ b → (TX6 a).2.1 ≠ (TX6 b).2.1 := by decide +kernel
theorem tyX6_ok : ∀ k, k < 7 → parseFieldDescriptor (TX6 k).2.2.1 = some (tyX6 k) := by decide +kernel
abbrev cX6_init : ByteArray := prog_1_method_1_code
def yX6_init : MethodName := ⟨RX6, "<init>", "(I)V"⟩
abbrev cX6_lay : ByteArray := prog_1_method_2_code
def yX6_lay : MethodName := ⟨RX6, "lay", "(IIII)V"⟩
abbrev cX6_turn : ByteArray := prog_1_method_3_code
def yX6_turn : MethodName := ⟨RX6, "turn", "(IZ)V"⟩
abbrev cX6_attach : ByteArray := prog_1_method_4_code
def yX6_attach : MethodName := ⟨RX6, "attach", "(II)V"⟩
abbrev cX6_deliver : ByteArray := prog_1_method_5_code
def yX6_deliver : MethodName := ⟨RX6, "deliver", "(II)I"⟩
abbrev cX6_run : ByteArray := prog_1_method_6_code
def yX6_run : MethodName := ⟨RX6, "run", "(I)I"⟩
abbrev cX6_spoil : ByteArray := prog_1_method_7_code
def yX6_spoil : MethodName := ⟨RX6, "spoil", "(III)Z"⟩
abbrev cX6_inject : ByteArray := prog_1_method_8_code
def yX6_inject : MethodName := ⟨RX6, "inject", "(III)I"⟩
abbrev cX6_packet : ByteArray := prog_1_method_9_code
def yX6_packet : MethodName := ⟨RX6, "packet", "(II)I"⟩
abbrev cX6_queue : ByteArray := prog_1_method_10_code
def yX6_queue : MethodName := ⟨RX6, "queue", "(III)I"⟩
abbrev cX6_knows : ByteArray := prog_1_method_11_code
def yX6_knows : MethodName := ⟨RX6, "knows", "(II)I"⟩
abbrev cX6_way : ByteArray := prog_1_method_12_code
def yX6_way : MethodName := ⟨RX6, "way", "(III)I"⟩
abbrev cX6_label : ByteArray := prog_1_method_13_code
def yX6_label : MethodName := ⟨RX6, "label", "(IIII)I"⟩
abbrev cX6_count : ByteArray := prog_1_method_14_code
def yX6_count : MethodName := ⟨RX6, "count", "(II)I"⟩
abbrev cX6_isLink : ByteArray := prog_1_method_15_code
def yX6_isLink : MethodName := ⟨RX6, "isLink", "(I)Z"⟩
abbrev cX6_isEnd : ByteArray := prog_1_method_16_code
def yX6_isEnd : MethodName := ⟨RX6, "isEnd", "(I)Z"⟩
abbrev cX6_isPrefix : ByteArray := prog_1_method_17_code
def yX6_isPrefix : MethodName := ⟨RX6, "isPrefix", "(I)Z"⟩
abbrev cX6_isRouter : ByteArray := prog_1_method_18_code
def yX6_isRouter : MethodName := ⟨RX6, "isRouter", "(I)Z"⟩
abbrev cX6_packetsUnderWay : ByteArray := prog_1_method_19_code
def yX6_packetsUnderWay : MethodName := ⟨RX6, "packetsUnderWay", "()I"⟩
abbrev cX6_linksUp : ByteArray := prog_1_method_20_code
def yX6_linksUp : MethodName := ⟨RX6, "linksUp", "()I"⟩
abbrev cX6_comesUp : ByteArray := prog_1_method_21_code
def yX6_comesUp : MethodName := ⟨RX6, "comesUp", "(I)V"⟩
abbrev cX6_goesDown : ByteArray := prog_1_method_22_code
def yX6_goesDown : MethodName := ⟨RX6, "goesDown", "(I)V"⟩
abbrev cX6_cut : ByteArray := prog_1_method_23_code
def yX6_cut : MethodName := ⟨RX6, "cut", "(LLabelNet$MessageQueue;)V"⟩
abbrev cX6_tell : ByteArray := prog_1_method_24_code
def yX6_tell : MethodName := ⟨RX6, "tell", "(LLabelNet$Router;)V"⟩
abbrev cX6_linksUpAt : ByteArray := prog_1_method_25_code
def yX6_linksUpAt : MethodName := ⟨RX6, "linksUpAt", "(I)I"⟩
abbrev cX6_prefixesAt : ByteArray := prog_1_method_26_code
def yX6_prefixesAt : MethodName := ⟨RX6, "prefixesAt", "(I)I"⟩
abbrev cX6_putKnownNotes : ByteArray := prog_1_method_27_code
def yX6_putKnownNotes : MethodName := ⟨RX6, "putKnownNotes", "(LLabelNet$Router;I)V"⟩
abbrev cX6_putMappings : ByteArray := prog_1_method_28_code
def yX6_putMappings : MethodName := ⟨RX6, "putMappings", "(LLabelNet$Router;I)V"⟩
abbrev cX6_learn : ByteArray := prog_1_method_29_code
def yX6_learn : MethodName := ⟨RX6, "learn", "(LLabelNet$Router;LLabelNet$RouterRecord;)V"⟩
abbrev cX6_hop : ByteArray := prog_1_method_30_code
def yX6_hop : MethodName := ⟨RX6, "hop", "(LLabelNet$Router;I)I"⟩
abbrev cX6_hopToEgress : ByteArray := prog_1_method_31_code
def yX6_hopToEgress : MethodName := ⟨RX6, "hopToEgress", "(LLabelNet$Router;I)I"⟩
abbrev cX6_sendOnAll : ByteArray := prog_1_method_32_code
def yX6_sendOnAll : MethodName := ⟨RX6, "sendOnAll", "(LLabelNet$Router;LLabelNet$Message;I)V"⟩
abbrev cX6_put : ByteArray := prog_1_method_33_code
def yX6_put : MethodName := ⟨RX6, "put", "(LLabelNet$Router;ILLabelNet$Message;)Z"⟩
abbrev cX6_firstThatWaits : ByteArray := prog_1_method_34_code
def yX6_firstThatWaits : MethodName := ⟨RX6, "firstThatWaits", "()I"⟩
abbrev cX6_handOver : ByteArray := prog_1_method_35_code
def yX6_handOver : MethodName := ⟨RX6, "handOver", "(II)I"⟩
abbrev cX6_noteComes : ByteArray := prog_1_method_36_code
def yX6_noteComes : MethodName := ⟨RX6, "noteComes", "(LLabelNet$Router;ILLabelNet$RouterRecord;)Z"⟩
abbrev cX6_mappingComes : ByteArray := prog_1_method_37_code
def yX6_mappingComes : MethodName := ⟨RX6, "mappingComes", "(LLabelNet$Router;ILLabelNet$Message;)V"⟩
abbrev cX6_withdrawComes : ByteArray := prog_1_method_38_code
def yX6_withdrawComes : MethodName := ⟨RX6, "withdrawComes", "(LLabelNet$Router;ILLabelNet$Message;)V"⟩
abbrev cX6_check : ByteArray := prog_1_method_39_code
def yX6_check : MethodName := ⟨RX6, "check", "(LLabelNet$Router;)V"⟩
abbrev cX6_checkPrefix : ByteArray := prog_1_method_40_code
def yX6_checkPrefix : MethodName := ⟨RX6, "checkPrefix", "(LLabelNet$Router;I)V"⟩
abbrev cX6_pathNow : ByteArray := prog_1_method_41_code
def yX6_pathNow : MethodName := ⟨RX6, "pathNow", "(LLabelNet$Router;I)I"⟩
abbrev cX6_ofMapping : ByteArray := prog_1_method_42_code
def yX6_ofMapping : MethodName := ⟨RX6, "ofMapping", "(LLabelNet$Router;II[[I)I"⟩
abbrev cX6_packetComes : ByteArray := prog_1_method_43_code
def yX6_packetComes : MethodName := ⟨RX6, "packetComes", "(LLabelNet$Router;II)V"⟩
abbrev cX6_go : ByteArray := prog_1_method_44_code
def yX6_go : MethodName := ⟨RX6, "go", "(LLabelNet$Router;II)V"⟩
def RX7 : String := "LabelNetModel"
def TX7 : u_T := fun k => match k with
  | 0 => ("LabelNetModel", "thrown", "I", false)
  | 1 => ("LabelNetModel", "routers", "I", true)
  | 2 => ("LabelNetModel", "laid", "[Z", true)
  | 3 => ("LabelNetModel", "up", "[Z", true)
  | 4 => ("LabelNetModel", "low", "[I", true)
  | 5 => ("LabelNetModel", "high", "[I", true)
  | 6 => ("LabelNetModel", "cost", "[I", true)
  | 7 => ("LabelNetModel", "attached", "[I", true)
  | 8 => ("LabelNetModel", "number", "[I", true)
  | 9 => ("LabelNetModel", "knownLinks", "[I", true)
  | 10 => ("LabelNetModel", "knownPrefixes", "[I", true)
  | 11 => ("LabelNetModel", "waiting", "[I", true)
  | 12 => ("LabelNetModel", "kinds", "[I", true)
  | 13 => ("LabelNetModel", "whose", "[I", true)
  | 14 => ("LabelNetModel", "what", "[I", true)
  | 15 => ("LabelNetModel", "body", "[I", true)
  | 16 => ("LabelNetModel", "spoiled", "[Z", true)
  | 17 => ("LabelNetModel", "lost", "I", false)
  | 18 => ("LabelNetModel", "brought", "[I", true)
  | 19 => ("LabelNetModel", "broughtPath", "[I", true)
  | 20 => ("LabelNetModel", "label", "[I", true)
  | 21 => ("LabelNetModel", "path", "[I", true)
  | 22 => ("LabelNetModel", "use", "[I", true)
  | 23 => ("LabelNetModel", "owed", "[I", true)
  | 24 => ("LabelNetModel", "packets", "I", false)
  | 25 => ("LabelNetModel", "prefixOf", "[I", true)
  | 26 => ("LabelNetModel", "ttl", "[I", true)
  | 27 => ("LabelNetModel", "at", "[I", true)
  | 28 => ("LabelNetModel", "fate", "[I", true)
  | 29 => ("LabelNetModel", "labelOf", "[I", true)
  | _ => ("LabelNetModel", "far", "[I", true)
def tyX7 : Nat → FieldType := fun k => match k with
  | 0 => .int
  | 1 => .int
  | 2 => .array .boolean
  | 3 => .array .boolean
  | 4 => .array .int
  | 5 => .array .int
  | 6 => .array .int
  | 7 => .array .int
  | 8 => .array .int
  | 9 => .array .int
  | 10 => .array .int
  | 11 => .array .int
  | 12 => .array .int
  | 13 => .array .int
  | 14 => .array .int
  | 15 => .array .int
  | 16 => .array .boolean
  | 17 => .int
  | 18 => .array .int
  | 19 => .array .int
  | 20 => .array .int
  | 21 => .array .int
  | 22 => .array .int
  | 23 => .array .int
  | 24 => .int
  | 25 => .array .int
  | 26 => .array .int
  | 27 => .array .int
  | 28 => .array .int
  | 29 => .array .int
  | _ => .array .int
abbrev wsX70 : List Cond := u_ws RX7 TX7 31
theorem nmX7 : ∀ a, a < 31 → ∀ b, b < 31 → a ≠ b → (TX7 a).2.1 ≠ (TX7 b).2.1 := by decide +kernel
theorem tyX7_ok : ∀ k, k < 31 → parseFieldDescriptor (TX7 k).2.2.1 = some (tyX7 k) := by decide +kernel
abbrev cX7_init : ByteArray := prog_9_method_1_code
def yX7_init : MethodName := ⟨RX7, "<init>", "(I)V"⟩
abbrev cX7_thrown : ByteArray := prog_9_method_2_code
def yX7_thrown : MethodName := ⟨RX7, "thrown", "()I"⟩
abbrev cX7_goes : ByteArray := prog_9_method_3_code
def yX7_goes : MethodName := ⟨RX7, "goes", "(ZZ)Z"⟩
abbrev cX7_in : ByteArray := prog_9_method_4_code
def yX7_in : MethodName := ⟨RX7, "in", "(II)Z"⟩
abbrev cX7_isRouter : ByteArray := prog_9_method_5_code
def yX7_isRouter : MethodName := ⟨RX7, "isRouter", "(I)Z"⟩
abbrev cX7_isUp : ByteArray := prog_9_method_6_code
def yX7_isUp : MethodName := ⟨RX7, "isUp", "(II)Z"⟩
abbrev cX7_other : ByteArray := prog_9_method_7_code
def yX7_other : MethodName := ⟨RX7, "other", "(II)I"⟩
abbrev cX7_put : ByteArray := prog_9_method_8_code
def yX7_put : MethodName := ⟨RX7, "put", "(IIIIII)Z"⟩
abbrev cX7_send : ByteArray := prog_9_method_9_code
def yX7_send : MethodName := ⟨RX7, "send", "(IIIIII)V"⟩
abbrev cX7_sendAll : ByteArray := prog_9_method_10_code
def yX7_sendAll : MethodName := ⟨RX7, "sendAll", "(IIIIII)V"⟩
abbrev cX7_bodyOf : ByteArray := prog_9_method_11_code
def yX7_bodyOf : MethodName := ⟨RX7, "bodyOf", "(II)I"⟩
abbrev cX7_tell : ByteArray := prog_9_method_12_code
def yX7_tell : MethodName := ⟨RX7, "tell", "(I)V"⟩
abbrev cX7_isStep : ByteArray := prog_9_method_13_code
def yX7_isStep : MethodName := ⟨RX7, "isStep", "(II)Z"⟩
abbrev cX7_shorten : ByteArray := prog_9_method_14_code
def yX7_shorten : MethodName := ⟨RX7, "shorten", "(III)V"⟩
abbrev cX7_measure : ByteArray := prog_9_method_15_code
def yX7_measure : MethodName := ⟨RX7, "measure", "(I)V"⟩
abbrev cX7_hop : ByteArray := prog_9_method_16_code
def yX7_hop : MethodName := ⟨RX7, "hop", "(II)I"⟩
abbrev cX7_egress : ByteArray := prog_9_method_17_code
def yX7_egress : MethodName := ⟨RX7, "egress", "(II)I"⟩
abbrev cX7_slot : ByteArray := prog_9_method_18_code
def yX7_slot : MethodName := ⟨RX7, "slot", "(III)I"⟩
abbrev cX7_settle : ByteArray := prog_9_method_19_code
def yX7_settle : MethodName := ⟨RX7, "settle", "(II)V"⟩
abbrev cX7_withdraw : ByteArray := prog_9_method_20_code
def yX7_withdraw : MethodName := ⟨RX7, "withdraw", "(II)V"⟩
abbrev cX7_free : ByteArray := prog_9_method_21_code
def yX7_free : MethodName := ⟨RX7, "free", "(I)I"⟩
abbrev cX7_become : ByteArray := prog_9_method_22_code
def yX7_become : MethodName := ⟨RX7, "become", "(IIII)V"⟩
abbrev cX7_byHop : ByteArray := prog_9_method_23_code
def yX7_byHop : MethodName := ⟨RX7, "byHop", "(II)I"⟩
abbrev cX7_checkOne : ByteArray := prog_9_method_24_code
def yX7_checkOne : MethodName := ⟨RX7, "checkOne", "(II)V"⟩
abbrev cX7_check : ByteArray := prog_9_method_25_code
def yX7_check : MethodName := ⟨RX7, "check", "(I)V"⟩
abbrev cX7_noted : ByteArray := prog_9_method_26_code
def yX7_noted : MethodName := ⟨RX7, "noted", "(IIIII)V"⟩
abbrev cX7_mapped : ByteArray := prog_9_method_27_code
def yX7_mapped : MethodName := ⟨RX7, "mapped", "(IIIII)V"⟩
abbrev cX7_withdrawn : ByteArray := prog_9_method_28_code
def yX7_withdrawn : MethodName := ⟨RX7, "withdrawn", "(IIII)V"⟩
abbrev cX7_released : ByteArray := prog_9_method_29_code
def yX7_released : MethodName := ⟨RX7, "released", "(IIII)V"⟩
abbrev cX7_go : ByteArray := prog_9_method_30_code
def yX7_go : MethodName := ⟨RX7, "go", "(III)V"⟩
abbrev cX7_come : ByteArray := prog_9_method_31_code
def yX7_come : MethodName := ⟨RX7, "come", "(I)I"⟩
abbrev cX7_lay : ByteArray := prog_9_method_32_code
def yX7_lay : MethodName := ⟨RX7, "lay", "(IIII)V"⟩
abbrev cX7_showNotes : ByteArray := prog_9_method_33_code
def yX7_showNotes : MethodName := ⟨RX7, "showNotes", "(II)V"⟩
abbrev cX7_showMappings : ByteArray := prog_9_method_34_code
def yX7_showMappings : MethodName := ⟨RX7, "showMappings", "(II)V"⟩
abbrev cX7_empty : ByteArray := prog_9_method_35_code
def yX7_empty : MethodName := ⟨RX7, "empty", "(I)V"⟩
abbrev cX7_sever : ByteArray := prog_9_method_36_code
def yX7_sever : MethodName := ⟨RX7, "sever", "(II)V"⟩
abbrev cX7_turn : ByteArray := prog_9_method_37_code
def yX7_turn : MethodName := ⟨RX7, "turn", "(IZ)V"⟩
abbrev cX7_attach : ByteArray := prog_9_method_38_code
def yX7_attach : MethodName := ⟨RX7, "attach", "(II)V"⟩
abbrev cX7_isEnd : ByteArray := prog_9_method_39_code
def yX7_isEnd : MethodName := ⟨RX7, "isEnd", "(II)Z"⟩
abbrev cX7_deliver : ByteArray := prog_9_method_40_code
def yX7_deliver : MethodName := ⟨RX7, "deliver", "(II)I"⟩
abbrev cX7_run : ByteArray := prog_9_method_41_code
def yX7_run : MethodName := ⟨RX7, "run", "(I)I"⟩
abbrev cX7_spoil : ByteArray := prog_9_method_42_code
def yX7_spoil : MethodName := ⟨RX7, "spoil", "(III)Z"⟩
abbrev cX7_inject : ByteArray := prog_9_method_43_code
def yX7_inject : MethodName := ⟨RX7, "inject", "(III)I"⟩
abbrev cX7_packet : ByteArray := prog_9_method_44_code
def yX7_packet : MethodName := ⟨RX7, "packet", "(II)I"⟩
abbrev cX7_queue : ByteArray := prog_9_method_45_code
def yX7_queue : MethodName := ⟨RX7, "queue", "(III)I"⟩
abbrev cX7_knows : ByteArray := prog_9_method_46_code
def yX7_knows : MethodName := ⟨RX7, "knows", "(II)I"⟩
abbrev cX7_way : ByteArray := prog_9_method_47_code
def yX7_way : MethodName := ⟨RX7, "way", "(III)I"⟩
abbrev cX7_asked : ByteArray := prog_9_method_48_code
def yX7_asked : MethodName := ⟨RX7, "asked", "(III)I"⟩
abbrev cX7_label : ByteArray := prog_9_method_49_code
def yX7_label : MethodName := ⟨RX7, "label", "(IIII)I"⟩
abbrev cX7_count : ByteArray := prog_9_method_50_code
def yX7_count : MethodName := ⟨RX7, "count", "(II)I"⟩
def RJ9 : String := "java/lang/Math"
def TJ9 : u_T := fun k => match k with
  | _ => ("", "", "", false)
def tyJ9 : Nat → FieldType := fun k => match k with
  | _ => .int
abbrev wsJ90 : List Cond := u_ws RJ9 TJ9 0
theorem nmJ9 : ∀ a, a < 0 → ∀ b, b < 0 → a ≠ b → (TJ9 a).2.1 ≠ (TJ9 b).2.1 := by decide +kernel
theorem tyJ9_ok : ∀ k, k < 0 → parseFieldDescriptor (TJ9 k).2.2.1 = some (tyJ9 k) := by decide +kernel
abbrev cJ9_max_7cf53 : ByteArray := prog_13_method_65_code
def yJ9_max_7cf53 : MethodName := ⟨RJ9, "max", "(II)I"⟩
abbrev cJ9_min_7cf53 : ByteArray := prog_13_method_69_code
def yJ9_min_7cf53 : MethodName := ⟨RJ9, "min", "(II)I"⟩
def RJ0 : String := "java/lang/String"
def TJ0 : u_T := fun k => match k with
  | _ => ("", "", "", false)
def tyJ0 : Nat → FieldType := fun k => match k with
  | _ => .int
abbrev wsJ00 : List Cond := u_ws RJ0 TJ0 0
theorem nmJ0 : ∀ a, a < 0 → ∀ b, b < 0 → a ≠ b → (TJ0 a).2.1 ≠ (TJ0 b).2.1 := by decide +kernel
theorem tyJ0_ok : ∀ k, k < 0 → parseFieldDescriptor (TJ0 k).2.2.1 = some (tyJ0 k) := by decide +kernel
def RL : String := "LabelNetLaw"
abbrev cL_cell : ByteArray := method_2_code
def yL_cell : MethodName := ⟨RL, "cell", "([II)I"⟩
abbrev cL_lay : ByteArray := method_3_code
def yL_lay : MethodName := ⟨RL, "lay", "(LLabelNet;IIII)I"⟩
abbrev cL_turn : ByteArray := method_4_code
def yL_turn : MethodName := ⟨RL, "turn", "(LLabelNet;IZ)I"⟩
abbrev cL_attach : ByteArray := method_5_code
def yL_attach : MethodName := ⟨RL, "attach", "(LLabelNet;II)I"⟩
abbrev cL_deliver : ByteArray := method_6_code
def yL_deliver : MethodName := ⟨RL, "deliver", "(LLabelNet;II[J)I"⟩
abbrev cL_run : ByteArray := method_7_code
def yL_run : MethodName := ⟨RL, "run", "(LLabelNet;I[J)I"⟩
abbrev cL_spoil : ByteArray := method_8_code
def yL_spoil : MethodName := ⟨RL, "spoil", "(LLabelNet;III[J)I"⟩
abbrev cL_inject : ByteArray := method_9_code
def yL_inject : MethodName := ⟨RL, "inject", "(LLabelNet;III[J)I"⟩
abbrev cL_law : ByteArray := code
def yL_law : MethodName := ⟨RL, "law", "([I)Z"⟩
abbrev vwCl : List vw_C := [(RX0, TX0, 6), (RX1, TX1, 6), (RX2, TX2, 3), (RX3, TX3, 5), (RX4, TX4, 9), (RX5, TX5, 4), (RX6, TX6, 7), (RX7, TX7, 31)]
-- the good words of the tables: one list for every method
def lw_good : List Cond := lw_tbl.filter goodWord
theorem lw_good_of {w : Cond} (i : Nat) (h : lw_tbl[i]? = some w) (hg : goodWord w = true) : w ∈ lw_good := List.mem_filter.mpr ⟨List.mem_of_getElem? h, hg⟩
theorem lw_good_in {w : Cond} (h : w ∈ lw_good) : w ∈ lw_tbl := (List.mem_filter.mp h).1
theorem lw_good_ok {w : Cond} (h : w ∈ lw_good) : (w.onTables && w.keeps) = true ∨ ∃ ty, w = .arrayClass ty := good_of_word (List.mem_filter.mp h).2
def tWS (y : MethodName) (b : ByteArray) (n : Nat) (r : Option FieldType) : List Cond := .code y b n r :: lw_good
theorem tGood {y y' : MethodName} {b b' : ByteArray} {n n' : Nat} {r r' : Option FieldType} (h : Cond.code y' b' n' r' ∈ lw_good) : GoodIn (tWS y b n r) (tWS y' b' n' r') := by
  intro w hw
  have hw' : w ∈ lw_good := (List.mem_cons.mp hw).elim (fun e => by rw [e]; exact h) id
  exact ⟨List.mem_cons_of_mem _ hw', lw_good_ok hw'⟩
end
section
/-! A SMALL MACHINE over the kit's: values are ints or places of a list of cells; TT is what a frame comes to, for every real state that the small one pictures. -/
abbrev tV : Type := Int32 ⊕ Option Nat
abbrev tC : Type := (Nat × List Int32) ⊕ ((Nat × List (Option Nat)) ⊕ (Nat × List tV))
abbrev tL : Type := List (Nat × tV)
def tAty : Nat → FieldType
  | 0 => .int
  | 1 => .boolean
  | 2 => .object RX4
  | 3 => .object RX0
  | 4 => .object RX3
  | 5 => .object RX5
  | 6 => .object RX2
  | 7 => .object RX1
  | _ => .array .int
def tvr (as : List Nat) (v : tV) (w : Value) : Prop := match v with
  | .inl x => w = .int x
  | .inr none => w = .null
  | .inr (some k) => ∃ a : Nat, as[k]? = some a ∧ w = .ref a
def tsr (as : List Nat) : List tV → List Value → Prop
  | [], vs => vs = []
  | v :: st, vs => ∃ (w : Value) (ws : List Value), vs = w :: ws ∧ tvr as v w ∧ tsr as st ws
def tcr (as : List Nat) (tys : List (ClassId × FieldType)) (c : tC) (e : va_E) : Prop := match c with
  | .inl (t, xs) => ∃ (cA : ClassId) (f : Nat → Int32) (t0 : Nat), e = .inl (cA, xs.length, .inl f) ∧ (∀ (j : Nat) (x : Int32), xs[j]? = some x → f j = x) ∧ tys[t0]? = some (cA, tAty t)
  | .inr (.inl (t, rs)) => ∃ (cA : ClassId) (f : Nat → Option Nat) (t0 : Nat), e = .inl (cA, rs.length, .inr (.inr (.inr (.inr f)))) ∧ (∀ (j : Nat) (r : Option Nat), rs[j]? = some r → tvr as (.inr r) (va_rf (f j))) ∧ tys[t0]? = some (cA, tAty t)
  | .inr (.inr (k, fs)) => ∃ vs : List Value, e = .inr (k, vs) ∧ tsr as fs vs
def tHR (h : List tC) (ws : va_W) (tys : List (ClassId × FieldType)) : Prop := ws.length = h.length ∧ ∀ (k : Nat) (c : tC), h[k]? = some c → ∃ (a : Nat) (e : va_E), ws[k]? = some (a, e) ∧ tcr (ws.map Prod.fst) tys c e
def tWd (D : va_G) (A : Nat → Prop) (H0 : Heap) (s : State) (h : List tC) (ws : va_W) (tys : List (ClassId × FieldType)) (H : Heap) (locs : List Loc) : Prop :=
  tHR h ws tys ∧ va_P D vwCl ws H ∧ va_D A ws ∧ va_K D vwCl tys s ∧ va_S A H0 H locs
def tLc (as : List Nat) (loc : tL) (nL : Nat) (ls : Array Slot) : Prop := ∃ lv : List (Nat × Value), lv_has ls nL lv ∧ ∀ q ∈ loc, ∃ w : Value, (q.1, w) ∈ lv ∧ tvr as q.2 w
def tSt (loc : tL) (i : Nat) (v : tV) : tL := (i, v) :: loc.filter (fun q => !(q.1 == i))
/-- own, bytes, maxL, frames, locals, is it a constructor -/
abbrev tM : Type := String × ByteArray × Nat × Nat × Nat × Bool
def tEx (U : State) : Prop := va_Nw (.methodLinkNest RX6 34 yX1_init RX6) U ∧ va_Nw (.methodLinkNest RX2 24 yX1_init RX6) U ∧ va_AO RX4 U ∧ va_AO RX0 U ∧ va_AO RX3 U ∧ va_AO RX5 U ∧ va_AO RX2 U ∧ va_AO RX1 U ∧ va_AOA .int U
def tFx (p : Program) (l : Launch) (R : Room) (s : State) (m : MethodId) (args : Array Value) (meth : Method) (c : Code) (A : Nat → Prop) (H0 : Heap) (M : tM) : Prop :=
  p.tables.exec = Jvm.exec ∧ c.code = M.2.1 ∧ c.maxLocals = M.2.2.1 ∧ s.vm.findClass M.1 = some m.cls ∧ (∀ w ∈ lw_good, w.before args s = true) ∧ (∀ q, H0.size ≤ q → A q) ∧ M.2.2.2.1 ≤ R.frames ∧ M.2.2.2.2.1 ≤ R.locals ∧ (M.2.2.2.2.2 = true → meth.name = "<init>") ∧ tEx s
def tPre (a b : List Nat) : Prop := ∃ r, b = a ++ r
def TT (l : Launch) (D : va_G) (M : tM) (Q : Nat → tL → List tV → List tC → Prop) (kc ks pc : Nat) (loc : tL) (st : List tV) (h : List tC) : Prop :=
  ∀ (p : Program) (e : Env) (R : Room) (s : State) (m : MethodId) (args : Array Value) (below : List Frame) (meth : Method) (c : Code) (A : Nat → Prop) (H0 : Heap) (QQ : State → Prop), tFx p l R s m args meth c A H0 M →
  ∀ (H : Heap) (locs : List Loc) (cells slots : Nat) (ls : Array Slot) (sv : List Value) (ws : va_W) (tys : List (ClassId × FieldType)), tWd D A H0 s h ws tys H locs → tLc (ws.map Prod.fst) loc M.2.2.1 ls → tsr (ws.map Prod.fst) st sv → cells + kc ≤ R.cells → slots + ks ≤ R.slots →
  (∀ (pc' : Nat) (loc' : tL) (st' : List tV) (h' : List tC) (H' : Heap) (locs' : List Loc) (cells' slots' : Nat) (ls' : Array Slot) (sv' : List Value) (ws' : va_W) (tys' : List (ClassId × FieldType)), Q pc' loc' st' h' → tWd D A H0 s h' ws' tys' H' locs' → tLc (ws'.map Prod.fst) loc' M.2.2.1 ls' → tsr (ws'.map Prod.fst) st' sv' → tPre (ws.map Prod.fst) (ws'.map Prod.fst) → cells' ≤ cells + kc → slots' ≤ slots + ks →
    W p l e R s m args below meth c H' locs' cells' slots' QQ (F0 m pc' ls' sv')) →
  W p l e R s m args below meth c H locs cells slots QQ (F0 m pc ls sv)
-- the relations, when cells are written and added
theorem tvr_mono {a b : List Nat} (h : tPre a b) {v : tV} {w : Value} (hv : tvr a v w) : tvr b v w := by
  obtain ⟨r, rfl⟩ := h
  match v, hv with
  | .inl _, hv => exact hv
  | .inr none, hv => exact hv
  | .inr (some k), ⟨x, h1, h2⟩ => exact ⟨x, by rw [List.getElem?_append_left (List.getElem?_eq_some_iff.mp h1).1]; exact h1, h2⟩
theorem tsr_mono {a b : List Nat} (h : tPre a b) : ∀ {st : List tV} {sv : List Value}, tsr a st sv → tsr b st sv
  | [], _, hs => hs
  | _ :: _, _, ⟨w, ws, e, h1, h2⟩ => ⟨w, ws, e, tvr_mono h h1, tsr_mono h h2⟩
theorem tLc_mono {a b : List Nat} (h : tPre a b) {loc : tL} {nL : Nat} {ls : Array Slot} (hl : tLc a loc nL ls) : tLc b loc nL ls := by
  obtain ⟨lv, h1, h2⟩ := hl
  exact ⟨lv, h1, fun q hq => by obtain ⟨w, x, y⟩ := h2 q hq; exact ⟨w, x, tvr_mono h y⟩⟩
theorem tPre.rf (a : List Nat) : tPre a a := ⟨[], by simp⟩
theorem tPre.tr {a b c : List Nat} (h1 : tPre a b) (h2 : tPre b c) : tPre a c := by
  obtain ⟨r, rfl⟩ := h1
  obtain ⟨r', rfl⟩ := h2
  exact ⟨r ++ r', by simp⟩
theorem tcr_mono {a b : List Nat} (h : tPre a b) {t1 t2 : List (ClassId × FieldType)} (ht : ∃ r, t2 = t1 ++ r) {c : tC} {e : va_E} (hc : tcr a t1 c e) : tcr b t2 c e := by
  obtain ⟨r, rfl⟩ := ht
  have ap : ∀ (t0 : Nat) (x : ClassId × FieldType), t1[t0]? = some x → (t1 ++ r)[t0]? = some x := fun t0 x hx => by rw [List.getElem?_append_left (List.getElem?_eq_some_iff.mp hx).1]; exact hx
  match c, hc with
  | .inl (t, xs), ⟨cA, f, t0, h1, h2, h3⟩ => exact ⟨cA, f, t0, h1, h2, ap _ _ h3⟩
  | .inr (.inl (t, rs)), ⟨cA, f, t0, h1, h2, h3⟩ => exact ⟨cA, f, t0, h1, fun j r hj => tvr_mono h (h2 j r hj), ap _ _ h3⟩
  | .inr (.inr (k, fs)), ⟨vs, h1, h2⟩ => exact ⟨vs, h1, tsr_mono h h2⟩
theorem tHR.add {h : List tC} {ws : va_W} {tys : List (ClassId × FieldType)} (hr : tHR h ws tys) {q : Nat} {e : va_E} {c : tC} {t2 : List (ClassId × FieldType)} (ht : ∃ r, t2 = tys ++ r) (hc : tcr ((ws ++ [(q, e)]).map Prod.fst) t2 c e) : tHR (h ++ [c]) (ws ++ [(q, e)]) t2 := by
  refine ⟨by simp [hr.1], fun k x hk => ?_⟩
  by_cases hl : k < h.length
  · rw [List.getElem?_append_left hl] at hk
    obtain ⟨a, e', h1, h2⟩ := hr.2 k x hk
    exact ⟨a, e', by rw [List.getElem?_append_left (by rw [hr.1]; exact hl)]; exact h1, tcr_mono ⟨[q], by simp⟩ ht h2⟩
  · rw [List.getElem?_append_right (by omega)] at hk
    have h0 : k - h.length < 1 := (List.getElem?_eq_some_iff.mp hk).1
    have e0 : k = h.length := by omega
    subst e0
    simp at hk
    subst hk
    exact ⟨q, e, by rw [List.getElem?_append_right (by rw [hr.1]; exact Nat.le_refl _), hr.1]; simp, hc⟩
theorem tHR.put {h : List tC} {ws : va_W} {tys : List (ClassId × FieldType)} (hr : tHR h ws tys) {k a : Nat} {e e' : va_E} {c : tC} (hk : ws[k]? = some (a, e)) (hc : tcr (ws.map Prod.fst) tys c e') : tHR (h.set k c) (ws.set k (a, e')) tys := by
  have hm : (ws.set k (a, e')).map Prod.fst = ws.map Prod.fst := by
    rw [List.map_set]
    apply List.ext_getElem?
    intro j
    rw [List.getElem?_set]
    split
    · rename_i hj
      subst hj
      simp [hk]
      exact (List.getElem?_eq_some_iff.mp hk).1
    · rfl
  refine ⟨by simp [hr.1], fun j x hj => ?_⟩
  rw [hm]
  by_cases hkj : k = j
  · subst hkj
    have hlt : k < h.length := by rw [← hr.1]; exact (List.getElem?_eq_some_iff.mp hk).1
    rw [List.getElem?_set_self hlt] at hj
    cases hj
    exact ⟨a, e', by rw [List.getElem?_set_self (by rw [hr.1]; exact hlt)], hc⟩
  · rw [List.getElem?_set_ne hkj] at hj
    obtain ⟨a2, e2, h1, h2⟩ := hr.2 j x hj
    exact ⟨a2, e2, by rw [List.getElem?_set_ne hkj]; exact h1, h2⟩
theorem tfst_set {ws : va_W} {k a : Nat} {e e' : va_E} (hk : ws[k]? = some (a, e)) : (ws.set k (a, e')).map Prod.fst = ws.map Prod.fst := by
  rw [List.map_set]
  apply List.ext_getElem?
  intro j
  rw [List.getElem?_set]
  split
  · rename_i hj
    subst hj
    simp [hk]
    exact (List.getElem?_eq_some_iff.mp hk).1
  · rfl
/-- a place's address -/
theorem tvr_ref {ws : va_W} {k : Nat} {w : Value} (h : tvr (ws.map Prod.fst) (.inr (some k)) w) : ∃ (a : Nat) (e : va_E), ws[k]? = some (a, e) ∧ w = .ref a := by
  obtain ⟨a, h1, h2⟩ := h
  rw [List.getElem?_map] at h1
  cases hx : ws[k]? with
  | none => rw [hx] at h1; cases h1
  | some x => rw [hx] at h1; cases h1; exact ⟨x.1, x.2, rfl, h2⟩
theorem tvr_cat {as : List Nat} {v : tV} {w : Value} (h : tvr as v w) : w.category = 1 := by
  match v, h with
  | .inl _, h => rw [h]; rfl
  | .inr none, h => rw [h]; rfl
  | .inr (some k), ⟨a, _, h⟩ => rw [h]; rfl
theorem tsr_cat {as : List Nat} : ∀ {st : List tV} {sv : List Value}, tsr as st sv → (sv.map fun v => v.category).sum = st.length
  | [], _, h => by rw [h]; rfl
  | _ :: _, _, ⟨w, ws, e, h1, h2⟩ => by rw [e, List.map_cons, List.sum_cons, tvr_cat h1, tsr_cat h2, List.length_cons]; omega
theorem tsr_len {as : List Nat} : ∀ {st : List tV} {sv : List Value}, tsr as st sv → sv.length = st.length
  | [], _, h => by rw [h]; rfl
  | _ :: _, _, ⟨w, ws, e, h1, h2⟩ => by rw [e, List.length_cons, List.length_cons, tsr_len h2]
theorem tsr_app {as : List Nat} : ∀ {a b : List tV} {sv : List Value}, tsr as (a ++ b) sv → ∃ x y, sv = x ++ y ∧ tsr as a x ∧ tsr as b y
  | [], _, sv, h => ⟨[], sv, rfl, rfl, h⟩
  | _ :: _, _, _, ⟨w, ws, e, h1, h2⟩ => by
    obtain ⟨x, y, e1, e2, e3⟩ := tsr_app h2
    exact ⟨w :: x, y, by rw [e, e1]; rfl, ⟨w, x, rfl, h1, e2⟩, e3⟩
theorem tsr_join {as : List Nat} : ∀ {a b : List tV} {x y : List Value}, tsr as a x → tsr as b y → tsr as (a ++ b) (x ++ y)
  | [], _, _, _, h, h' => by rw [h]; exact h'
  | _ :: _, _, _, _, ⟨w, ws, e, h1, h2⟩, h' => ⟨w, ws ++ _, by rw [e]; rfl, h1, tsr_join h2 h'⟩
theorem tsr_rev {as : List Nat} : ∀ {a : List tV} {x : List Value}, tsr as a x → tsr as a.reverse x.reverse
  | [], _, h => by rw [h]; rfl
  | v :: a, _, ⟨w, ws, e, h1, h2⟩ => by
    rw [e, List.reverse_cons, List.reverse_cons]
    exact tsr_join (tsr_rev h2) ⟨w, [], rfl, h1, rfl⟩
theorem tsr_at {as : List Nat} : ∀ {st : List tV} {sv : List Value} {k : Nat} {v : tV}, tsr as st sv → st[k]? = some v → ∃ w, sv[k]? = some w ∧ tvr as v w
  | [], _, _, _, _, hk => by simp at hk
  | x :: st, _, 0, v, ⟨w, ws, e, h1, h2⟩, hk => ⟨w, by rw [e]; rfl, by simp at hk; subst hk; exact h1⟩
  | x :: st, _, k + 1, v, ⟨w, ws, e, h1, h2⟩, hk => by
    obtain ⟨w', a, b⟩ := tsr_at h2 (k := k) (v := v) (by simpa using hk)
    exact ⟨w', by rw [e]; simpa using a, b⟩
theorem tsr_set {as : List Nat} : ∀ {st : List tV} {sv : List Value} (k : Nat) {v : tV} {w : Value}, tsr as st sv → tvr as v w → tsr as (st.set k v) (sv.set k w)
  | [], _, _, _, _, h, _ => by rw [h]; simp; rfl
  | x :: st, _, 0, v, w', ⟨w, ws, e, h1, h2⟩, hv => ⟨w', ws, by rw [e]; rfl, hv, h2⟩
  | x :: st, _, k + 1, v, w', ⟨w, ws, e, h1, h2⟩, hv => ⟨w, ws.set k w', by rw [e]; rfl, h1, tsr_set k h2 hv⟩
theorem tLc_at {as : List Nat} {loc : tL} {nL : Nat} {ls : Array Slot} (hl : tLc as loc nL ls) {i : Nat} {v : tV} (hm : (i, v) ∈ loc) : ∃ w, ls[i]? = some (.val w) ∧ tvr as v w := by
  obtain ⟨lv, h1, h2⟩ := hl
  obtain ⟨w, h3, h4⟩ := h2 _ hm
  exact ⟨w, h1.2.2 _ h3, h4⟩
theorem tLc_st {as : List Nat} {loc : tL} {lv : List (Nat × Value)} (h2 : ∀ q ∈ loc, ∃ w : Value, (q.1, w) ∈ lv ∧ tvr as q.2 w) {i : Nat} {v : tV} {w : Value} (hv : tvr as v w) : ∀ q ∈ tSt loc i v, ∃ w' : Value, (q.1, w') ∈ (i, w) :: lv.filter (fun q => !(q.1 == i) && !(q.1 + 1 == i && q.2.category == 2)) ∧ tvr as q.2 w' := by
  intro q hq
  rcases List.mem_cons.mp hq with rfl | hq
  · exact ⟨w, List.mem_cons_self, hv⟩
  · obtain ⟨h3, h4⟩ := List.mem_filter.mp hq
    obtain ⟨w', h5, h6⟩ := h2 q h3
    refine ⟨w', List.mem_cons_of_mem _ (List.mem_filter.mpr ⟨h5, ?_⟩), h6⟩
    have hc := tvr_cat h6
    have h4' : (q.1 == i) = false := by simpa using h4
    simp [h4', hc]
end
section
section TTR
variable {l : Launch} {D : va_G} {M : tM} {Q : Nat → tL → List tV → List tC → Prop} {kc ks pc : Nat} {loc : tL} {st : List tV} {h : List tC}
theorem tt_stop (hq : Q pc loc st h) : TT l D M Q kc ks pc loc st h := by
  intro p e R s m args below meth c A H0 QQ F H locs cells slots ls sv ws tys hw hl hs hc hsl K
  exact K pc loc st h H locs cells slots ls sv ws tys hq hw hl hs (tPre.rf _) (Nat.le_add_right _ _) (Nat.le_add_right _ _)
theorem tt_mono {Q' : Nat → tL → List tV → List tC → Prop} (hq : ∀ pc loc st h, Q pc loc st h → Q' pc loc st h) (k : TT l D M Q kc ks pc loc st h) : TT l D M Q' kc ks pc loc st h := by
  intro p e R s m args below meth c A H0 QQ F H locs cells slots ls sv ws tys hw hl hs hc hsl K
  exact k p e R s m args below meth c A H0 QQ F H locs cells slots ls sv ws tys hw hl hs hc hsl (fun a1 a2 a3 a4 a5 a6 a7 a8 a9 b1 b2 b3 h1 => K a1 a2 a3 a4 a5 a6 a7 a8 a9 b1 b2 b3 (hq _ _ _ _ h1))
theorem tt_less {kc' ks' : Nat} (h1 : kc' ≤ kc) (h2 : ks' ≤ ks) (k : TT l D M Q kc' ks' pc loc st h) : TT l D M Q kc ks pc loc st h := by
  intro p e R s m args below meth c A H0 QQ F H locs cells slots ls sv ws tys hw hl hs hc hsl K
  exact k p e R s m args below meth c A H0 QQ F H locs cells slots ls sv ws tys hw hl hs (by omega) (by omega) (fun a1 a2 a3 a4 a5 a6 a7 a8 a9 b1 b2 b3 q1 q2 q3 q4 q5 q6 q7 => K a1 a2 a3 a4 a5 a6 a7 a8 a9 b1 b2 b3 q1 q2 q3 q4 q5 (by omega) (by omega))
/-- one piece of a method behind another -/
theorem tt_seq {Q1 : Nat → tL → List tV → List tC → Prop} {kc2 ks2 : Nat} (k1 : TT l D M Q1 kc ks pc loc st h) (k2 : ∀ pc' loc' st' h', Q1 pc' loc' st' h' → TT l D M Q kc2 ks2 pc' loc' st' h') : TT l D M Q (kc + kc2) (ks + ks2) pc loc st h := by
  intro p e R s m args below meth c A H0 QQ F H locs cells slots ls sv ws tys hw hl hs hc hsl K
  refine k1 p e R s m args below meth c A H0 QQ F H locs cells slots ls sv ws tys hw hl hs (by omega) (by omega) ?_
  intro pc' loc' st' h' H' locs' cells' slots' ls' sv' ws' tys' hq hw' hl' hs' hp hc' hsl'
  refine k2 pc' loc' st' h' hq p e R s m args below meth c A H0 QQ F H' locs' cells' slots' ls' sv' ws' tys' hw' hl' hs' (by omega) (by omega) ?_
  intro a1 a2 a3 a4 a5 a6 a7 a8 a9 b1 b2 b3 q1 q2 q3 q4 q5 q6 q7
  exact K a1 a2 a3 a4 a5 a6 a7 a8 a9 b1 b2 b3 q1 q2 q3 q4 (hp.tr q5) (by omega) (by omega)

theorem tt_iconst {n : Int} (hd : decode M.2.1 pc = .ok (.iconst n, 1)) (k : TT l D M Q kc ks (pc + 1) loc (.inl (Int32.ofInt n) :: st) h) : TT l D M Q kc ks pc loc st h := by
  intro p e R s m args below meth c A H0 QQ F H locs cells slots ls sv ws tys hw hl hs hc hsl K
  exact lv_iconst F.1 F.2.1 hd rfl (k p e R s m args below meth c A H0 QQ F H locs cells slots ls _ ws tys hw hl ⟨_, _, rfl, rfl, hs⟩ hc hsl K)

theorem tt_bipush {n : Int} (hd : decode M.2.1 pc = .ok (.bipush n, 2)) (k : TT l D M Q kc ks (pc + 2) loc (.inl ((Int8.ofInt n).toInt32) :: st) h) : TT l D M Q kc ks pc loc st h := by
  intro p e R s m args below meth c A H0 QQ F H locs cells slots ls sv ws tys hw hl hs hc hsl K
  exact lv_bipush F.1 F.2.1 hd rfl (k p e R s m args below meth c A H0 QQ F H locs cells slots ls _ ws tys hw hl ⟨_, _, rfl, rfl, hs⟩ hc hsl K)

theorem tt_sipush {n : Int} (hd : decode M.2.1 pc = .ok (.sipush n, 3)) (k : TT l D M Q kc ks (pc + 3) loc (.inl ((Int16.ofInt n).toInt32) :: st) h) : TT l D M Q kc ks pc loc st h := by
  intro p e R s m args below meth c A H0 QQ F H locs cells slots ls sv ws tys hw hl hs hc hsl K
  exact lv_sipush F.1 F.2.1 hd rfl (k p e R s m args below meth c A H0 QQ F H locs cells slots ls _ ws tys hw hl ⟨_, _, rfl, rfl, hs⟩ hc hsl K)

theorem tt_iadd {x y : Int32} (hd : decode M.2.1 pc = .ok (.iadd, 1))  (k : TT l D M Q kc ks (pc + 1) loc (.inl (x + y) :: st) h) : TT l D M Q kc ks pc loc (.inl y :: .inl x :: st) h := by
  intro p e R s m args below meth c A H0 QQ F H locs cells slots ls sv ws tys hw hl hs hc hsl K
  obtain ⟨w1, s1, e1, r1, w2, s2, e2, r2, hs⟩ := hs
  have r1 : w1 = .int y := r1
  have r2 : w2 = .int x := r2
  subst e1; subst e2; subst r1; subst r2
  exact lv_iadd F.1 F.2.1 hd (k p e R s m args below meth c A H0 QQ F H locs cells slots ls _ ws tys hw hl ⟨_, _, rfl, rfl, hs⟩ hc hsl K)

theorem tt_isub {x y : Int32} (hd : decode M.2.1 pc = .ok (.isub, 1))  (k : TT l D M Q kc ks (pc + 1) loc (.inl (x - y) :: st) h) : TT l D M Q kc ks pc loc (.inl y :: .inl x :: st) h := by
  intro p e R s m args below meth c A H0 QQ F H locs cells slots ls sv ws tys hw hl hs hc hsl K
  obtain ⟨w1, s1, e1, r1, w2, s2, e2, r2, hs⟩ := hs
  have r1 : w1 = .int y := r1
  have r2 : w2 = .int x := r2
  subst e1; subst e2; subst r1; subst r2
  exact lv_isub F.1 F.2.1 hd (k p e R s m args below meth c A H0 QQ F H locs cells slots ls _ ws tys hw hl ⟨_, _, rfl, rfl, hs⟩ hc hsl K)

theorem tt_imul {x y : Int32} (hd : decode M.2.1 pc = .ok (.imul, 1))  (k : TT l D M Q kc ks (pc + 1) loc (.inl (x * y) :: st) h) : TT l D M Q kc ks pc loc (.inl y :: .inl x :: st) h := by
  intro p e R s m args below meth c A H0 QQ F H locs cells slots ls sv ws tys hw hl hs hc hsl K
  obtain ⟨w1, s1, e1, r1, w2, s2, e2, r2, hs⟩ := hs
  have r1 : w1 = .int y := r1
  have r2 : w2 = .int x := r2
  subst e1; subst e2; subst r1; subst r2
  exact lv_imul F.1 F.2.1 hd (k p e R s m args below meth c A H0 QQ F H locs cells slots ls _ ws tys hw hl ⟨_, _, rfl, rfl, hs⟩ hc hsl K)

theorem tt_iand {x y : Int32} (hd : decode M.2.1 pc = .ok (.iand, 1))  (k : TT l D M Q kc ks (pc + 1) loc (.inl (x &&& y) :: st) h) : TT l D M Q kc ks pc loc (.inl y :: .inl x :: st) h := by
  intro p e R s m args below meth c A H0 QQ F H locs cells slots ls sv ws tys hw hl hs hc hsl K
  obtain ⟨w1, s1, e1, r1, w2, s2, e2, r2, hs⟩ := hs
  have r1 : w1 = .int y := r1
  have r2 : w2 = .int x := r2
  subst e1; subst e2; subst r1; subst r2
  exact lv_iand F.1 F.2.1 hd (k p e R s m args below meth c A H0 QQ F H locs cells slots ls _ ws tys hw hl ⟨_, _, rfl, rfl, hs⟩ hc hsl K)

theorem tt_ior {x y : Int32} (hd : decode M.2.1 pc = .ok (.ior, 1))  (k : TT l D M Q kc ks (pc + 1) loc (.inl (x ||| y) :: st) h) : TT l D M Q kc ks pc loc (.inl y :: .inl x :: st) h := by
  intro p e R s m args below meth c A H0 QQ F H locs cells slots ls sv ws tys hw hl hs hc hsl K
  obtain ⟨w1, s1, e1, r1, w2, s2, e2, r2, hs⟩ := hs
  have r1 : w1 = .int y := r1
  have r2 : w2 = .int x := r2
  subst e1; subst e2; subst r1; subst r2
  exact lv_ior F.1 F.2.1 hd (k p e R s m args below meth c A H0 QQ F H locs cells slots ls _ ws tys hw hl ⟨_, _, rfl, rfl, hs⟩ hc hsl K)

theorem tt_ixor {x y : Int32} (hd : decode M.2.1 pc = .ok (.ixor, 1))  (k : TT l D M Q kc ks (pc + 1) loc (.inl (x ^^^ y) :: st) h) : TT l D M Q kc ks pc loc (.inl y :: .inl x :: st) h := by
  intro p e R s m args below meth c A H0 QQ F H locs cells slots ls sv ws tys hw hl hs hc hsl K
  obtain ⟨w1, s1, e1, r1, w2, s2, e2, r2, hs⟩ := hs
  have r1 : w1 = .int y := r1
  have r2 : w2 = .int x := r2
  subst e1; subst e2; subst r1; subst r2
  exact lv_ixor F.1 F.2.1 hd (k p e R s m args below meth c A H0 QQ F H locs cells slots ls _ ws tys hw hl ⟨_, _, rfl, rfl, hs⟩ hc hsl K)

theorem tt_idiv {x y : Int32} (hd : decode M.2.1 pc = .ok (.idiv, 1)) (hne : ¬ y = 0) (k : TT l D M Q kc ks (pc + 1) loc (.inl (x / y) :: st) h) : TT l D M Q kc ks pc loc (.inl y :: .inl x :: st) h := by
  intro p e R s m args below meth c A H0 QQ F H locs cells slots ls sv ws tys hw hl hs hc hsl K
  obtain ⟨w1, s1, e1, r1, w2, s2, e2, r2, hs⟩ := hs
  have r1 : w1 = .int y := r1
  have r2 : w2 = .int x := r2
  subst e1; subst e2; subst r1; subst r2
  exact lv_idiv F.1 F.2.1 hd hne (k p e R s m args below meth c A H0 QQ F H locs cells slots ls _ ws tys hw hl ⟨_, _, rfl, rfl, hs⟩ hc hsl K)

theorem tt_irem {x y : Int32} (hd : decode M.2.1 pc = .ok (.irem, 1)) (hne : ¬ y = 0) (k : TT l D M Q kc ks (pc + 1) loc (.inl (x - x / y * y) :: st) h) : TT l D M Q kc ks pc loc (.inl y :: .inl x :: st) h := by
  intro p e R s m args below meth c A H0 QQ F H locs cells slots ls sv ws tys hw hl hs hc hsl K
  obtain ⟨w1, s1, e1, r1, w2, s2, e2, r2, hs⟩ := hs
  have r1 : w1 = .int y := r1
  have r2 : w2 = .int x := r2
  subst e1; subst e2; subst r1; subst r2
  exact lv_irem F.1 F.2.1 hd hne (k p e R s m args below meth c A H0 QQ F H locs cells slots ls _ ws tys hw hl ⟨_, _, rfl, rfl, hs⟩ hc hsl K)

theorem tt_ishl {x y : Int32} (hd : decode M.2.1 pc = .ok (.ishl, 1))  (k : TT l D M Q kc ks (pc + 1) loc (.inl (x <<< (y &&& 31)) :: st) h) : TT l D M Q kc ks pc loc (.inl y :: .inl x :: st) h := by
  intro p e R s m args below meth c A H0 QQ F H locs cells slots ls sv ws tys hw hl hs hc hsl K
  obtain ⟨w1, s1, e1, r1, w2, s2, e2, r2, hs⟩ := hs
  have r1 : w1 = .int y := r1
  have r2 : w2 = .int x := r2
  subst e1; subst e2; subst r1; subst r2
  exact lv_ishl F.1 F.2.1 hd (k p e R s m args below meth c A H0 QQ F H locs cells slots ls _ ws tys hw hl ⟨_, _, rfl, rfl, hs⟩ hc hsl K)

theorem tt_ishr {x y : Int32} (hd : decode M.2.1 pc = .ok (.ishr, 1))  (k : TT l D M Q kc ks (pc + 1) loc (.inl (x >>> (y &&& 31)) :: st) h) : TT l D M Q kc ks pc loc (.inl y :: .inl x :: st) h := by
  intro p e R s m args below meth c A H0 QQ F H locs cells slots ls sv ws tys hw hl hs hc hsl K
  obtain ⟨w1, s1, e1, r1, w2, s2, e2, r2, hs⟩ := hs
  have r1 : w1 = .int y := r1
  have r2 : w2 = .int x := r2
  subst e1; subst e2; subst r1; subst r2
  exact lv_ishr F.1 F.2.1 hd (k p e R s m args below meth c A H0 QQ F H locs cells slots ls _ ws tys hw hl ⟨_, _, rfl, rfl, hs⟩ hc hsl K)

theorem tt_pop {v : tV} (hd : decode M.2.1 pc = .ok (.pop, 1)) (k : TT l D M Q kc ks (pc + 1) loc st h) : TT l D M Q kc ks pc loc (v :: st) h := by
  intro p e R s m args below meth c A H0 QQ F H locs cells slots ls sv ws tys hw hl hs hc hsl K
  obtain ⟨w1, s1, e1, r1, hs⟩ := hs
  subst e1
  exact lv_pop F.1 F.2.1 hd (tvr_cat r1) (k p e R s m args below meth c A H0 QQ F H locs cells slots ls _ ws tys hw hl hs hc hsl K)

theorem tt_dup {v : tV} (hd : decode M.2.1 pc = .ok (.dup, 1)) (k : TT l D M Q kc ks (pc + 1) loc (v :: v :: st) h) : TT l D M Q kc ks pc loc (v :: st) h := by
  intro p e R s m args below meth c A H0 QQ F H locs cells slots ls sv ws tys hw hl hs hc hsl K
  obtain ⟨w1, s1, e1, r1, hs⟩ := hs
  subst e1
  exact lv_dup F.1 F.2.1 hd (tvr_cat r1) (k p e R s m args below meth c A H0 QQ F H locs cells slots ls _ ws tys hw hl ⟨_, _, rfl, r1, _, _, rfl, r1, hs⟩ hc hsl K)

theorem tt_dup2 {v u : tV} (hd : decode M.2.1 pc = .ok (.dup2, 1)) (k : TT l D M Q kc ks (pc + 1) loc (v :: u :: v :: u :: st) h) : TT l D M Q kc ks pc loc (v :: u :: st) h := by
  intro p e R s m args below meth c A H0 QQ F H locs cells slots ls sv ws tys hw hl hs hc hsl K
  obtain ⟨w1, s1, e1, r1, w2, s2, e2, r2, hs⟩ := hs
  subst e1; subst e2
  exact lv_dup2_11 F.1 F.2.1 hd (tvr_cat r1) (tvr_cat r2) (k p e R s m args below meth c A H0 QQ F H locs cells slots ls _ ws tys hw hl ⟨_, _, rfl, r1, _, _, rfl, r2, _, _, rfl, r1, _, _, rfl, r2, hs⟩ hc hsl K)

theorem tt_null (hd : decode M.2.1 pc = .ok (.aconst_null, 1)) (k : TT l D M Q kc ks (pc + 1) loc (.inr none :: st) h) : TT l D M Q kc ks pc loc st h := by
  intro p e R s m args below meth c A H0 QQ F H locs cells slots ls sv ws tys hw hl hs hc hsl K
  exact lv_null F.1 F.2.1 hd (k p e R s m args below meth c A H0 QQ F H locs cells slots ls _ ws tys hw hl ⟨_, _, rfl, rfl, hs⟩ hc hsl K)

theorem tt_goto {off : Int} {tgt : Nat} (hd : decode M.2.1 pc = .ok (.goto off, 3)) (ht : (pc : Int) + off = (tgt : Int)) (k : TT l D M Q kc ks tgt loc st h) : TT l D M Q kc ks pc loc st h := by
  intro p e R s m args below meth c A H0 QQ F H locs cells slots ls sv ws tys hw hl hs hc hsl K
  exact lv_goto F.1 F.2.1 hd ht (k p e R s m args below meth c A H0 QQ F H locs cells slots ls _ ws tys hw hl hs hc hsl K)

theorem tt_iload_n {k0 : Fin 4} {x : Int32} (hd : decode M.2.1 pc = .ok (.iload_n k0, 1)) (hm : ((k0 : Nat), Sum.inl x) ∈ loc) (k : TT l D M Q kc ks (pc + 1) loc (.inl x :: st) h) : TT l D M Q kc ks pc loc st h := by
  intro p e R s m args below meth c A H0 QQ F H locs cells slots ls sv ws tys hw hl hs hc hsl K
  obtain ⟨w, h1, h2⟩ := tLc_at hl hm
  have h2 : w = .int x := h2
  subst h2
  exact lv_iload_n F.1 F.2.1 hd rfl h1 (k p e R s m args below meth c A H0 QQ F H locs cells slots ls _ ws tys hw hl ⟨_, _, rfl, rfl, hs⟩ hc hsl K)

theorem tt_iload {i : Nat} {x : Int32} (hd : decode M.2.1 pc = .ok (.iload i, 2)) (hm : (i, Sum.inl x) ∈ loc) (k : TT l D M Q kc ks (pc + 2) loc (.inl x :: st) h) : TT l D M Q kc ks pc loc st h := by
  intro p e R s m args below meth c A H0 QQ F H locs cells slots ls sv ws tys hw hl hs hc hsl K
  obtain ⟨w, h1, h2⟩ := tLc_at hl hm
  have h2 : w = .int x := h2
  subst h2
  exact lv_iload F.1 F.2.1 hd h1 (k p e R s m args below meth c A H0 QQ F H locs cells slots ls _ ws tys hw hl ⟨_, _, rfl, rfl, hs⟩ hc hsl K)

theorem tt_aload_n {k0 : Fin 4} {r : Option Nat} (hd : decode M.2.1 pc = .ok (.aload_n k0, 1)) (hm : ((k0 : Nat), Sum.inr r) ∈ loc) (k : TT l D M Q kc ks (pc + 1) loc (.inr r :: st) h) : TT l D M Q kc ks pc loc st h := by
  intro p e R s m args below meth c A H0 QQ F H locs cells slots ls sv ws tys hw hl hs hc hsl K
  obtain ⟨w, h1, h2⟩ := tLc_at hl hm
  cases r with
  | none =>
    have h3 : w = .null := h2
    subst h3
    exact lv_aload_nN F.1 F.2.1 hd rfl h1 (k p e R s m args below meth c A H0 QQ F H locs cells slots ls _ ws tys hw hl ⟨_, _, rfl, h2, hs⟩ hc hsl K)
  | some q =>
    obtain ⟨a, h3, h4⟩ := h2
    subst h4
    exact lv_aload_n F.1 F.2.1 hd rfl h1 (k p e R s m args below meth c A H0 QQ F H locs cells slots ls _ ws tys hw hl ⟨_, _, rfl, ⟨a, h3, rfl⟩, hs⟩ hc hsl K)

theorem tt_aload {i : Nat} {r : Option Nat} (hd : decode M.2.1 pc = .ok (.aload i, 2)) (hm : (i, Sum.inr r) ∈ loc) (k : TT l D M Q kc ks (pc + 2) loc (.inr r :: st) h) : TT l D M Q kc ks pc loc st h := by
  intro p e R s m args below meth c A H0 QQ F H locs cells slots ls sv ws tys hw hl hs hc hsl K
  obtain ⟨w, h1, h2⟩ := tLc_at hl hm
  cases r with
  | none =>
    have h3 : w = .null := h2
    subst h3
    exact lv_aloadN F.1 F.2.1 hd h1 (k p e R s m args below meth c A H0 QQ F H locs cells slots ls _ ws tys hw hl ⟨_, _, rfl, h2, hs⟩ hc hsl K)
  | some q =>
    obtain ⟨a, h3, h4⟩ := h2
    subst h4
    exact lv_aload F.1 F.2.1 hd h1 (k p e R s m args below meth c A H0 QQ F H locs cells slots ls _ ws tys hw hl ⟨_, _, rfl, ⟨a, h3, rfl⟩, hs⟩ hc hsl K)

theorem tt_istore_n {k0 : Fin 4} {x : Int32} (hd : decode M.2.1 pc = .ok (.istore_n k0, 1)) (hn : (k0 : Nat) < M.2.2.1) (k : TT l D M Q kc ks (pc + 1) (tSt loc (k0 : Nat) (.inl x)) st h) : TT l D M Q kc ks pc loc (.inl x :: st) h := by
  intro p e R s m args below meth c A H0 QQ F H locs cells slots ls sv ws tys hw hl hs hc hsl K
  obtain ⟨w1, s1, e1, r1, hs⟩ := hs
  have r1 : w1 = .int x := r1
  subst e1; subst r1
  obtain ⟨lv, hl1, hl2⟩ := hl
  have r0 : tvr (ws.map Prod.fst) (.inl x) (.int x) := rfl
  exact lv_istore_n F.1 F.2.1 hd rfl hl1 hn rfl (fun ls' hl' => k p e R s m args below meth c A H0 QQ F H locs cells slots ls' _ ws tys hw ⟨_, hl', tLc_st hl2 r0⟩ hs hc hsl K)

theorem tt_istore {i : Nat} {x : Int32} (hd : decode M.2.1 pc = .ok (.istore i, 2)) (hn : i < M.2.2.1) (k : TT l D M Q kc ks (pc + 2) (tSt loc i (.inl x)) st h) : TT l D M Q kc ks pc loc (.inl x :: st) h := by
  intro p e R s m args below meth c A H0 QQ F H locs cells slots ls sv ws tys hw hl hs hc hsl K
  obtain ⟨w1, s1, e1, r1, hs⟩ := hs
  have r1 : w1 = .int x := r1
  subst e1; subst r1
  obtain ⟨lv, hl1, hl2⟩ := hl
  have r0 : tvr (ws.map Prod.fst) (.inl x) (.int x) := rfl
  exact lv_istore F.1 F.2.1 hd hl1 hn rfl (fun ls' hl' => k p e R s m args below meth c A H0 QQ F H locs cells slots ls' _ ws tys hw ⟨_, hl', tLc_st hl2 r0⟩ hs hc hsl K)

theorem tt_astore_n {k0 : Fin 4} {r : Option Nat} (hd : decode M.2.1 pc = .ok (.astore_n k0, 1)) (hn : (k0 : Nat) < M.2.2.1) (k : TT l D M Q kc ks (pc + 1) (tSt loc (k0 : Nat) (.inr r)) st h) : TT l D M Q kc ks pc loc (.inr r :: st) h := by
  intro p e R s m args below meth c A H0 QQ F H locs cells slots ls sv ws tys hw hl hs hc hsl K
  obtain ⟨w1, s1, e1, r1, hs⟩ := hs
  subst e1
  obtain ⟨lv, hl1, hl2⟩ := hl
  have r0 := r1
  cases r with
  | none =>
    have h3 : w1 = .null := r1
    subst h3
    exact lv_astore_nN F.1 F.2.1 hd rfl hl1 hn rfl (fun ls' hl' => k p e R s m args below meth c A H0 QQ F H locs cells slots ls' _ ws tys hw ⟨_, hl', tLc_st hl2 r0⟩ hs hc hsl K)
  | some q =>
    obtain ⟨a, h3, h4⟩ := r1
    subst h4
    exact lv_astore_n F.1 F.2.1 hd rfl hl1 hn rfl (fun ls' hl' => k p e R s m args below meth c A H0 QQ F H locs cells slots ls' _ ws tys hw ⟨_, hl', tLc_st hl2 r0⟩ hs hc hsl K)

theorem tt_astore {i : Nat} {r : Option Nat} (hd : decode M.2.1 pc = .ok (.astore i, 2)) (hn : i < M.2.2.1) (k : TT l D M Q kc ks (pc + 2) (tSt loc i (.inr r)) st h) : TT l D M Q kc ks pc loc (.inr r :: st) h := by
  intro p e R s m args below meth c A H0 QQ F H locs cells slots ls sv ws tys hw hl hs hc hsl K
  obtain ⟨w1, s1, e1, r1, hs⟩ := hs
  subst e1
  obtain ⟨lv, hl1, hl2⟩ := hl
  have r0 := r1
  cases r with
  | none =>
    have h3 : w1 = .null := r1
    subst h3
    exact lv_astoreN F.1 F.2.1 hd hl1 hn rfl (fun ls' hl' => k p e R s m args below meth c A H0 QQ F H locs cells slots ls' _ ws tys hw ⟨_, hl', tLc_st hl2 r0⟩ hs hc hsl K)
  | some q =>
    obtain ⟨a, h3, h4⟩ := r1
    subst h4
    exact lv_astore F.1 F.2.1 hd hl1 hn rfl (fun ls' hl' => k p e R s m args below meth c A H0 QQ F H locs cells slots ls' _ ws tys hw ⟨_, hl', tLc_st hl2 r0⟩ hs hc hsl K)

theorem tt_iinc {i : Nat} {n : Int} {x : Int32} (hd : decode M.2.1 pc = .ok (.iinc i n, 3)) (hm : (i, Sum.inl x) ∈ loc) (hn : i < M.2.2.1) (k : TT l D M Q kc ks (pc + 3) (tSt loc i (.inl (x + Int32.ofInt n))) st h) : TT l D M Q kc ks pc loc st h := by
  intro p e R s m args below meth c A H0 QQ F H locs cells slots ls sv ws tys hw hl hs hc hsl K
  obtain ⟨lv, hl1, hl2⟩ := hl
  obtain ⟨w, h1, h2⟩ := hl2 _ hm
  have h2 : w = .int x := h2
  subst h2
  obtain ⟨j, hj⟩ := List.getElem?_of_mem h1
  have r0 : tvr (ws.map Prod.fst) (.inl (x + Int32.ofInt n)) (.int (x + Int32.ofInt n)) := rfl
  exact lv_iinc F.1 F.2.1 hd hl1 hj rfl hn rfl (fun ls' hl' => k p e R s m args below meth c A H0 QQ F H locs cells slots ls' _ ws tys hw ⟨_, hl', tLc_st hl2 r0⟩ hs hc hsl K)

def tcmp (c : ClassFile.Cond) (x y : Int32) : Prop := match c with
  | .eq => x = y
  | .ne => x ≠ y
  | .lt => x < y
  | .ge => x ≥ y
  | .gt => x > y
  | .le => x ≤ y

theorem tt_icmp {cd : ClassFile.Cond} {x y : Int32} {off : Int} {tgt : Nat} (hd : decode M.2.1 pc = .ok (.if_icmp cd off, 3)) (ht : (pc : Int) + off = (tgt : Int)) (k1 : tcmp cd x y → TT l D M Q kc ks tgt loc st h) (k2 : ¬ tcmp cd x y → TT l D M Q kc ks (pc + 3) loc st h) : TT l D M Q kc ks pc loc (.inl y :: .inl x :: st) h := by
  intro p e R s m args below meth c A H0 QQ F H locs cells slots ls sv ws tys hw hl hs hc hsl K
  obtain ⟨w1, s1, e1, r1, w2, s2, e2, r2, hs⟩ := hs
  have r1 : w1 = .int y := r1
  have r2 : w2 = .int x := r2
  subst e1; subst e2; subst r1; subst r2
  cases cd with
  | eq => exact lv_icmp_eq F.1 F.2.1 hd ht (fun q => k1 q p e R s m args below meth c A H0 QQ F H locs cells slots ls _ ws tys hw hl hs hc hsl K) (fun q => k2 q p e R s m args below meth c A H0 QQ F H locs cells slots ls _ ws tys hw hl hs hc hsl K)
  | ne => exact lv_icmp_ne F.1 F.2.1 hd ht (fun q => k1 q p e R s m args below meth c A H0 QQ F H locs cells slots ls _ ws tys hw hl hs hc hsl K) (fun q => k2 (fun z => z q) p e R s m args below meth c A H0 QQ F H locs cells slots ls _ ws tys hw hl hs hc hsl K)
  | lt => exact lv_icmp_lt F.1 F.2.1 hd ht (fun q => k1 q p e R s m args below meth c A H0 QQ F H locs cells slots ls _ ws tys hw hl hs hc hsl K) (fun q => k2 q p e R s m args below meth c A H0 QQ F H locs cells slots ls _ ws tys hw hl hs hc hsl K)
  | ge => exact lv_icmp_ge F.1 F.2.1 hd ht (fun q => k1 q p e R s m args below meth c A H0 QQ F H locs cells slots ls _ ws tys hw hl hs hc hsl K) (fun q => k2 q p e R s m args below meth c A H0 QQ F H locs cells slots ls _ ws tys hw hl hs hc hsl K)
  | gt => exact lv_icmp_gt F.1 F.2.1 hd ht (fun q => k1 q p e R s m args below meth c A H0 QQ F H locs cells slots ls _ ws tys hw hl hs hc hsl K) (fun q => k2 q p e R s m args below meth c A H0 QQ F H locs cells slots ls _ ws tys hw hl hs hc hsl K)
  | le => exact lv_icmp_le F.1 F.2.1 hd ht (fun q => k1 q p e R s m args below meth c A H0 QQ F H locs cells slots ls _ ws tys hw hl hs hc hsl K) (fun q => k2 q p e R s m args below meth c A H0 QQ F H locs cells slots ls _ ws tys hw hl hs hc hsl K)

theorem tt_if {cd : ClassFile.Cond} {x : Int32} {off : Int} {tgt : Nat} (hd : decode M.2.1 pc = .ok (.ifCond cd off, 3)) (ht : (pc : Int) + off = (tgt : Int)) (k1 : tcmp cd x 0 → TT l D M Q kc ks tgt loc st h) (k2 : ¬ tcmp cd x 0 → TT l D M Q kc ks (pc + 3) loc st h) : TT l D M Q kc ks pc loc (.inl x :: st) h := by
  intro p e R s m args below meth c A H0 QQ F H locs cells slots ls sv ws tys hw hl hs hc hsl K
  obtain ⟨w1, s1, e1, r1, hs⟩ := hs
  have r1 : w1 = .int x := r1
  subst e1; subst r1
  cases cd with
  | eq => exact lv_if_eq F.1 F.2.1 hd ht (fun q => k1 q p e R s m args below meth c A H0 QQ F H locs cells slots ls _ ws tys hw hl hs hc hsl K) (fun q => k2 q p e R s m args below meth c A H0 QQ F H locs cells slots ls _ ws tys hw hl hs hc hsl K)
  | ne => exact lv_if_ne F.1 F.2.1 hd ht (fun q => k1 q p e R s m args below meth c A H0 QQ F H locs cells slots ls _ ws tys hw hl hs hc hsl K) (fun q => k2 (fun z => z q) p e R s m args below meth c A H0 QQ F H locs cells slots ls _ ws tys hw hl hs hc hsl K)
  | lt => exact lv_if_lt F.1 F.2.1 hd ht (fun q => k1 q p e R s m args below meth c A H0 QQ F H locs cells slots ls _ ws tys hw hl hs hc hsl K) (fun q => k2 q p e R s m args below meth c A H0 QQ F H locs cells slots ls _ ws tys hw hl hs hc hsl K)
  | ge => exact lv_if_ge F.1 F.2.1 hd ht (fun q => k1 q p e R s m args below meth c A H0 QQ F H locs cells slots ls _ ws tys hw hl hs hc hsl K) (fun q => k2 q p e R s m args below meth c A H0 QQ F H locs cells slots ls _ ws tys hw hl hs hc hsl K)
  | gt => exact lv_if_gt F.1 F.2.1 hd ht (fun q => k1 q p e R s m args below meth c A H0 QQ F H locs cells slots ls _ ws tys hw hl hs hc hsl K) (fun q => k2 q p e R s m args below meth c A H0 QQ F H locs cells slots ls _ ws tys hw hl hs hc hsl K)
  | le => exact lv_if_le F.1 F.2.1 hd ht (fun q => k1 q p e R s m args below meth c A H0 QQ F H locs cells slots ls _ ws tys hw hl hs hc hsl K) (fun q => k2 q p e R s m args below meth c A H0 QQ F H locs cells slots ls _ ws tys hw hl hs hc hsl K)

theorem tt_ifnull {r : Option Nat} {off : Int} {tgt : Nat} (hd : decode M.2.1 pc = .ok (.ifnull off, 3)) (ht : (pc : Int) + off = (tgt : Int)) (k1 : r = none → TT l D M Q kc ks tgt loc st h) (k2 : ∀ q, r = some q → TT l D M Q kc ks (pc + 3) loc st h) : TT l D M Q kc ks pc loc (.inr r :: st) h := by
  intro p e R s m args below meth c A H0 QQ F H locs cells slots ls sv ws tys hw hl hs hc hsl K
  obtain ⟨w1, s1, e1, r1, hs⟩ := hs
  subst e1
  cases r with
  | none =>
    have r1 : w1 = .null := r1
    subst r1
    exact lv_ifnullN F.1 F.2.1 hd ht (k1 rfl p e R s m args below meth c A H0 QQ F H locs cells slots ls _ ws tys hw hl hs hc hsl K)
  | some q =>
    obtain ⟨a, h3, h4⟩ := r1
    subst h4
    exact lv_ifnull F.1 F.2.1 hd (k2 q rfl p e R s m args below meth c A H0 QQ F H locs cells slots ls _ ws tys hw hl hs hc hsl K)
theorem tt_ifnonnull {r : Option Nat} {off : Int} {tgt : Nat} (hd : decode M.2.1 pc = .ok (.ifnonnull off, 3)) (ht : (pc : Int) + off = (tgt : Int)) (k1 : ∀ q, r = some q → TT l D M Q kc ks tgt loc st h) (k2 : r = none → TT l D M Q kc ks (pc + 3) loc st h) : TT l D M Q kc ks pc loc (.inr r :: st) h := by
  intro p e R s m args below meth c A H0 QQ F H locs cells slots ls sv ws tys hw hl hs hc hsl K
  obtain ⟨w1, s1, e1, r1, hs⟩ := hs
  subst e1
  cases r with
  | none =>
    have r1 : w1 = .null := r1
    subst r1
    exact lv_ifnonnullN F.1 F.2.1 hd (k2 rfl p e R s m args below meth c A H0 QQ F H locs cells slots ls _ ws tys hw hl hs hc hsl K)
  | some q =>
    obtain ⟨a, h3, h4⟩ := r1
    subst h4
    exact lv_ifnonnull F.1 F.2.1 hd ht (k1 q rfl p e R s m args below meth c A H0 QQ F H locs cells slots ls _ ws tys hw hl hs hc hsl K)
def ttab (dflt lo hi : Int) (offs : Array Int) (x : Int32) : Int := if x.toInt < lo ∨ hi < x.toInt then dflt else (offs[(x.toInt - lo).toNat]?).getD dflt
theorem tt_table {dflt lo hi : Int} {offs : Array Int} {len : Nat} {x : Int32} {tgt : Nat} (hd : decode M.2.1 pc = .ok (.tableswitch dflt lo hi offs, len)) (hz : hi - lo < offs.size) (ht : (pc : Int) + ttab dflt lo hi offs x = (tgt : Int)) (k : TT l D M Q kc ks tgt loc st h) : TT l D M Q kc ks pc loc (.inl x :: st) h := by
  intro p e R s m args below meth c A H0 QQ F H locs cells slots ls sv ws tys hw hl hs hc hsl K
  obtain ⟨w1, s1, e1, r1, hs⟩ := hs
  have r1 : w1 = .int x := r1
  subst e1; subst r1
  by_cases hx : x.toInt < lo ∨ hi < x.toInt
  · rw [ttab, if_pos hx] at ht
    exact lv_tableOut F.1 F.2.1 hd hx ht (k p e R s m args below meth c A H0 QQ F H locs cells slots ls _ ws tys hw hl hs hc hsl K)
  · rw [ttab, if_neg hx] at ht
    have h1 : ¬ x.toInt < lo := fun q => hx (Or.inl q)
    have h2 : ¬ hi < x.toInt := fun q => hx (Or.inr q)
    have h3 : (x.toInt - lo).toNat < offs.size := by omega
    rw [Array.getElem?_eq_getElem h3] at ht
    exact lv_tableIn F.1 F.2.1 hd h1 h2 (Array.getElem?_eq_getElem h3) ht (k p e R s m args below meth c A H0 QQ F H locs cells slots ls _ ws tys hw hl hs hc hsl K)
theorem tt_ldc {own : String} {index : Nat} {v : Int32} (hd : decode M.2.1 pc = .ok (.ldc index, 2)) (ho : M.1 = own) (hw0 : Jvm.Cond.constant own index v ∈ lw_good) (k : TT l D M Q kc ks (pc + 2) loc (.inl v :: st) h) : TT l D M Q kc ks pc loc st h := by
  intro p e R s m args below meth c A H0 QQ F H locs cells slots ls sv ws tys hw hl hs hc hsl K
  subst ho
  exact lv_ldc F.1 F.2.1 F.2.2.2.1 (F.2.2.2.2.1 _ hw0) hd (k p e R s m args below meth c A H0 QQ F H locs cells slots ls _ ws tys hw hl ⟨_, _, rfl, rfl, hs⟩ hc hsl K)
end TTR
end
section
section TTH
variable {l : Launch} {D : va_G} {M : tM} {Q : Nat → tL → List tV → List tC → Prop} {kc ks pc : Nat} {loc : tL} {st : List tV} {h : List tC}
/-- what the tables say of a kind of object -/
def tCl (ci : Nat) (C : String) (T : u_T) (N : Nat) : Prop := vwCl[ci]? = some (C, T, N) ∧ (∀ w ∈ u_ws C T N, w ∈ lw_good) ∧ (∃ ty0 : Nat → FieldType, ∀ k, k < N → parseFieldDescriptor (T k).2.2.1 = some (ty0 k)) ∧ ∀ a, a < N → ∀ b, b < N → a ≠ b → (T a).2.1 ≠ (T b).2.1
def tFd (own : String) (index ci k : Nat) (ty : FieldType) (fin : Bool) : Prop := ∃ (C : String) (T : u_T) (N : Nat), tCl ci C T N ∧ k < N ∧ Cond.fieldLink own index (T k).1 (T k).2.1 (T k).2.2.1 ∈ lw_good ∧ parseFieldDescriptor (T k).2.2.1 = some ty ∧ (T k).2.2.2 = fin ∧ (T k).1 = C
def tfits (ty : FieldType) (v : tV) : Bool := match ty, v with
  | .int, .inl _ => true
  | .boolean, .inl x => x == 0 || x == 1
  | .object _, .inr _ => true
  | .array _, .inr _ => true
  | _, _ => false
theorem tfits_ok {as : List Nat} {ty : FieldType} {v : tV} {w : Value} (h : tfits ty v = true) (hv : tvr as v w) : narrow ty w = w ∧ fits ty w = true := by
  match v, hv with
  | .inl x, hv =>
    have hv : w = .int x := hv
    subst hv
    cases ty <;> simp [tfits] at h <;> first | exact ⟨rfl, rfl⟩ | (rcases h with rfl | rfl <;> exact ⟨rfl, rfl⟩)
  | .inr none, hv =>
    have hv : w = .null := hv
    subst hv
    cases ty <;> simp [tfits] at h <;> exact ⟨rfl, rfl⟩
  | .inr (some k), ⟨a, _, hv⟩ =>
    subst hv
    cases ty <;> simp [tfits] at h <;> exact ⟨rfl, rfl⟩
theorem tobj {ws : va_W} {tys : List (ClassId × FieldType)} (hr : tHR h ws tys) {a ci : Nat} {fs : List tV} (ha : h[a]? = some (.inr (.inr (ci, fs)))) {w : Value} (hv : tvr (ws.map Prod.fst) (.inr (some a)) w) : ∃ (q : Nat) (vs : List Value), w = .ref q ∧ ws[a]? = some (q, .inr (ci, vs)) ∧ tsr (ws.map Prod.fst) fs vs := by
  obtain ⟨q, e, h1, h2⟩ := tvr_ref hv
  obtain ⟨q', e', h3, vs, h4, h5⟩ := hr.2 _ _ ha
  rw [h1] at h3
  cases h3
  exact ⟨q, vs, h2, by rw [h1, h4], h5⟩
theorem tint {ws : va_W} {tys : List (ClassId × FieldType)} (hr : tHR h ws tys) {a t : Nat} {xs : List Int32} (ha : h[a]? = some (.inl (t, xs))) {w : Value} (hv : tvr (ws.map Prod.fst) (.inr (some a)) w) : ∃ (q : Nat) (cA : ClassId) (f : Nat → Int32) (t0 : Nat), w = .ref q ∧ ws[a]? = some (q, .inl (cA, xs.length, .inl f)) ∧ (∀ (j : Nat) (x : Int32), xs[j]? = some x → f j = x) ∧ tys[t0]? = some (cA, tAty t) := by
  obtain ⟨q, e, h1, h2⟩ := tvr_ref hv
  obtain ⟨q', e', h3, cA, f, t0, h4, h5, h6⟩ := hr.2 _ _ ha
  rw [h1] at h3
  cases h3
  exact ⟨q, cA, f, t0, h2, by rw [h1, h4], h5, h6⟩
theorem tarr {ws : va_W} {tys : List (ClassId × FieldType)} (hr : tHR h ws tys) {a t : Nat} {rs : List (Option Nat)} (ha : h[a]? = some (.inr (.inl (t, rs)))) {w : Value} (hv : tvr (ws.map Prod.fst) (.inr (some a)) w) : ∃ (q : Nat) (cA : ClassId) (f : Nat → Option Nat) (t0 : Nat), w = .ref q ∧ ws[a]? = some (q, .inl (cA, rs.length, .inr (.inr (.inr (.inr f))))) ∧ (∀ (j : Nat) (r : Option Nat), rs[j]? = some r → tvr (ws.map Prod.fst) (.inr r) (va_rf (f j))) ∧ tys[t0]? = some (cA, tAty t) := by
  obtain ⟨q, e, h1, h2⟩ := tvr_ref hv
  obtain ⟨q', e', h3, cA, f, t0, h4, h5, h6⟩ := hr.2 _ _ ha
  rw [h1] at h3
  cases h3
  exact ⟨q, cA, f, t0, h2, by rw [h1, h4], h5, h6⟩
theorem tt_get {idx ci k a : Nat} {ty : FieldType} {fin : Bool} {fs : List tV} {v : tV} (hd : decode M.2.1 pc = .ok (.getfield idx, 3)) (hf : tFd M.1 idx ci k ty fin) (ha : h[a]? = some (.inr (.inr (ci, fs)))) (hv : fs[k]? = some v) (kk : TT l D M Q kc ks (pc + 3) loc (v :: st) h) : TT l D M Q kc ks pc loc (.inr (some a) :: st) h := by
  intro p e R s m args below meth c A H0 QQ F H locs cells slots ls sv ws tys hw hl hs hc hsl K
  obtain ⟨w1, s1, e1, r1, hs⟩ := hs
  subst e1
  obtain ⟨C, T, N, ⟨hC, hin, -, -⟩, hk, hlk, -, -, -⟩ := hf
  obtain ⟨q, vs, h1, h2, h3⟩ := tobj hw.1 ha r1
  subst h1
  obtain ⟨w, h4, h5⟩ := tsr_at h3 hv
  exact va_get F.1 F.2.1 F.2.2.2.2.1 hin F.2.2.2.1 hw.2.2.2.1 hw.2.1 a h2 hC k hk (F.2.2.2.2.1 _ hlk) (fun _ z => z) h4 hd (kk p e R s m args below meth c A H0 QQ F H locs cells slots ls _ ws tys hw hl ⟨_, _, rfl, h5, hs⟩ hc hsl K)
/-- behind a write to place a -/
theorem tWd.put {A : Nat → Prop} {H0 H H1 : Heap} {s : State} {ws : va_W} {tys : List (ClassId × FieldType)} {locs locs1 : List Loc} (hw : tWd D A H0 s h ws tys H locs) {a q : Nat} {e e' : va_E} {x : tC} (ha : ws[a]? = some (q, e)) (hx : tcr (ws.map Prod.fst) tys x e') (hP : va_P D vwCl (ws.set a (q, e')) H1) (hD : va_D A (ws.set a (q, e'))) (hS : va_S A H0 H1 locs1) : tWd D A H0 s (h.set a x) (ws.set a (q, e')) tys H1 locs1 :=
  ⟨hw.1.put ha hx, hP, hD, hw.2.2.2.1, hS⟩
theorem tt_put {idx ci k a : Nat} {ty : FieldType} {fin : Bool} {fs : List tV} {v : tV} (hd : decode M.2.1 pc = .ok (.putfield idx, 3)) (hf : tFd M.1 idx ci k ty fin) (hfin : fin = false ∨ (M.2.2.2.2.2 = true ∧ ∃ T N, vwCl[ci]? = some (M.1, T, N))) (ha : h[a]? = some (.inr (.inr (ci, fs)))) (hl0 : k < fs.length) (hft : tfits ty v = true) (kk : TT l D M Q kc ks (pc + 3) loc st (h.set a (.inr (.inr (ci, fs.set k v))))) : TT l D M Q kc ks pc loc (v :: .inr (some a) :: st) h := by
  intro p e R s m args below meth c A H0 QQ F H locs cells slots ls sv ws tys hw hl hs hc hsl K
  obtain ⟨w1, s1, e1, r1, w2, s2, e2, r2, hs⟩ := hs
  subst e1; subst e2
  obtain ⟨C, T, N, ⟨hC, hin, ⟨ty0, hty⟩, hnm⟩, hk, hlk, hpd, hfn, hTC⟩ := hf
  obtain ⟨q, vs, h1, h2, h3⟩ := tobj hw.1 ha r2
  subst h1
  obtain ⟨n1, n2⟩ := tfits_ok hft r1
  have hlv : k < vs.length := by rw [tsr_len h3]; exact hl0
  have go : ∀ (H1 : Heap) (locs1 : List Loc), va_P D vwCl (ws.set a (q, .inr (ci, vs.set k w1))) H1 → va_D A (ws.set a (q, .inr (ci, vs.set k w1))) → va_S A H0 H1 locs1 → W p l e R s m args below meth c H1 locs1 cells slots QQ (F0 m (pc + 3) ls s2) := by
    intro H1 locs1 hP hD hS
    have hm := tfst_set (e' := .inr (ci, vs.set k w1)) h2
    refine kk p e R s m args below meth c A H0 QQ F H1 locs1 cells slots ls _ _ tys (hw.put (x := .inr (.inr (ci, fs.set k v))) h2 ⟨_, rfl, tsr_set k h3 r1⟩ hP hD hS) (by rw [hm]; exact hl) (by rw [hm]; exact hs) hc hsl (by rw [hm]; exact K)
  cases fin with
  | false => exact va_put F.1 F.2.1 F.2.2.2.2.1 hin ty0 hty hnm F.2.2.2.1 hw.2.2.2.1 hw.2.1 hw.2.2.1 hw.2.2.2.2 a h2 hC k hk (F.2.2.2.2.1 _ hlk) (fun _ z => z) hfn hpd n1 n2 hlv hd go
  | true =>
    obtain ⟨hi, T', N', hC'⟩ := hfin.resolve_left (by simp)
    have hCM : C = M.1 := by rw [hC] at hC'; cases hC'; rfl
    exact va_putF F.1 F.2.1 F.2.2.2.2.1 hin ty0 hty hnm F.2.2.2.1 hw.2.2.2.1 hw.2.1 hw.2.2.1 hw.2.2.2.2 a h2 hC k hk (F.2.2.2.2.1 _ hlk) (fun _ z => z) hfn (F.2.2.2.2.2.2.2.2.1 hi) (hTC.trans hCM) hpd n1 n2 hlv hd go
theorem t_in {i : Int32} {n : Nat} (h0 : ¬ i < 0) (h1 : i.toNatClampNeg < n) : vp_in i n := fun z => z.elim h0 (fun y => absurd h1 (Nat.not_lt.mpr y))
theorem t_at {α : Type} {xs : List α} {i : Nat} {x : α} (h : xs[i]? = some x) : i < xs.length := (List.getElem?_eq_some_iff.mp h).1
theorem tt_iald {a : Nat} {xs : List Int32} {i x : Int32} (hd : decode M.2.1 pc = .ok (.iaload, 1)) (ha : h[a]? = some (.inl (0, xs))) (h0 : ¬ i < 0) (hx : xs[i.toNatClampNeg]? = some x) (kk : TT l D M Q kc ks (pc + 1) loc (.inl x :: st) h) : TT l D M Q kc ks pc loc (.inl i :: .inr (some a) :: st) h := by
  intro p e R s m args below meth c A H0 QQ F H locs cells slots ls sv ws tys hw hl hs hc hsl K
  obtain ⟨w1, s1, e1, r1, w2, s2, e2, r2, hs⟩ := hs
  have r1 : w1 = .int i := r1
  subst e1; subst e2; subst r1
  obtain ⟨q, cA, f, t0, h1, h2, h3, h4⟩ := tint hw.1 ha r2
  subst h1
  refine va_iald F.1 F.2.1 hw.2.2.2.1 hw.2.1 a t0 h2 h4 (t_in h0 (t_at hx)) hd ?_
  rw [h3 _ _ hx]
  exact kk p e R s m args below meth c A H0 QQ F H locs cells slots ls _ ws tys hw hl ⟨_, _, rfl, rfl, hs⟩ hc hsl K
theorem tt_zald {a : Nat} {xs : List Int32} {i x : Int32} (hd : decode M.2.1 pc = .ok (.baload, 1)) (ha : h[a]? = some (.inl (1, xs))) (h0 : ¬ i < 0) (hx : xs[i.toNatClampNeg]? = some x) (kk : TT l D M Q kc ks (pc + 1) loc (.inl x :: st) h) : TT l D M Q kc ks pc loc (.inl i :: .inr (some a) :: st) h := by
  intro p e R s m args below meth c A H0 QQ F H locs cells slots ls sv ws tys hw hl hs hc hsl K
  obtain ⟨w1, s1, e1, r1, w2, s2, e2, r2, hs⟩ := hs
  have r1 : w1 = .int i := r1
  subst e1; subst e2; subst r1
  obtain ⟨q, cA, f, t0, h1, h2, h3, h4⟩ := tint hw.1 ha r2
  subst h1
  refine va_zald F.1 F.2.1 hw.2.2.2.1 hw.2.1 a t0 h2 h4 (t_in h0 (t_at hx)) hd ?_
  rw [h3 _ _ hx]
  exact kk p e R s m args below meth c A H0 QQ F H locs cells slots ls _ ws tys hw hl ⟨_, _, rfl, rfl, hs⟩ hc hsl K
theorem t_upd {xs : List Int32} {f : Nat → Int32} (h : ∀ (j : Nat) (x : Int32), xs[j]? = some x → f j = x) (i : Nat) (y : Int32) : ∀ (j : Nat) (x : Int32), (xs.set i y)[j]? = some x → upd f i y j = x := by
  intro j x hj
  unfold upd
  by_cases e : j = i
  · subst e
    have hlt : j < xs.length := by have := t_at hj; simpa using this
    rw [List.getElem?_set_self hlt] at hj
    rw [if_pos rfl]
    exact Option.some.inj hj
  · rw [if_neg e]
    rw [List.getElem?_set_ne (fun z => e z.symm)] at hj
    exact h j x hj
theorem tt_iast {a : Nat} {xs : List Int32} {i x : Int32} (hd : decode M.2.1 pc = .ok (.iastore, 1)) (ha : h[a]? = some (.inl (0, xs))) (h0 : ¬ i < 0) (hx : i.toNatClampNeg < xs.length) (kk : TT l D M Q kc ks (pc + 1) loc st (h.set a (.inl (0, xs.set i.toNatClampNeg x)))) : TT l D M Q kc ks pc loc (.inl x :: .inl i :: .inr (some a) :: st) h := by
  intro p e R s m args below meth c A H0 QQ F H locs cells slots ls sv ws tys hw hl hs hc hsl K
  obtain ⟨w0, s0, e0, r0, w1, s1, e1, r1, w2, s2, e2, r2, hs⟩ := hs
  have r0 : w0 = .int x := r0
  have r1 : w1 = .int i := r1
  subst e0; subst e1; subst e2; subst r1; subst r0
  obtain ⟨q, cA, f, t0, h1, h2, h3, h4⟩ := tint hw.1 ha r2
  subst h1
  refine va_iast F.1 F.2.1 hw.2.2.2.1 hw.2.1 hw.2.2.1 hw.2.2.2.2 a t0 h2 h4 (t_in h0 hx) hd ?_
  intro H1 locs1 hP hD hS
  have hm := tfst_set (e' := .inl (cA, xs.length, .inl (upd f i.toNatClampNeg x))) h2
  exact kk p e R s m args below meth c A H0 QQ F H1 locs1 cells slots ls _ _ tys (hw.put (x := .inl (0, xs.set i.toNatClampNeg x)) h2 ⟨cA, _, t0, by rw [List.length_set], t_upd h3 _ _, h4⟩ hP hD hS) (by rw [hm]; exact hl) (by rw [hm]; exact hs) hc hsl (by rw [hm]; exact K)
theorem tt_zast {a : Nat} {xs : List Int32} {i x : Int32} (hd : decode M.2.1 pc = .ok (.bastore, 1)) (ha : h[a]? = some (.inl (1, xs))) (h0 : ¬ i < 0) (hx : i.toNatClampNeg < xs.length) (hz : x = 0 ∨ x = 1) (kk : TT l D M Q kc ks (pc + 1) loc st (h.set a (.inl (1, xs.set i.toNatClampNeg x)))) : TT l D M Q kc ks pc loc (.inl x :: .inl i :: .inr (some a) :: st) h := by
  intro p e R s m args below meth c A H0 QQ F H locs cells slots ls sv ws tys hw hl hs hc hsl K
  obtain ⟨w0, s0, e0, r0, w1, s1, e1, r1, w2, s2, e2, r2, hs⟩ := hs
  have r0 : w0 = .int x := r0
  have r1 : w1 = .int i := r1
  subst e0; subst e1; subst e2; subst r1; subst r0
  obtain ⟨q, cA, f, t0, h1, h2, h3, h4⟩ := tint hw.1 ha r2
  subst h1
  refine va_zast F.1 F.2.1 hw.2.2.2.1 hw.2.1 hw.2.2.1 hw.2.2.2.2 a t0 h2 h4 (t_in h0 hx) hd ?_
  intro H1 locs1 hP hD hS
  have hn : vp_nar .boolean x = x := by rcases hz with rfl | rfl <;> rfl
  rw [hn] at hP hD
  have hm := tfst_set (e' := .inl (cA, xs.length, .inl (upd f i.toNatClampNeg x))) h2
  exact kk p e R s m args below meth c A H0 QQ F H1 locs1 cells slots ls _ _ tys (hw.put (x := .inl (1, xs.set i.toNatClampNeg x)) h2 ⟨cA, _, t0, by rw [List.length_set], t_upd h3 _ _, h4⟩ hP hD hS) (by rw [hm]; exact hl) (by rw [hm]; exact hs) hc hsl (by rw [hm]; exact K)
theorem t_rf {as : List Nat} {r : Option Nat} {w : Value} (h : tvr as (.inr r) w) : tvr as (.inr r) w := h
theorem tt_aald {a t : Nat} {rs : List (Option Nat)} {i : Int32} {r : Option Nat} (hd : decode M.2.1 pc = .ok (.aaload, 1)) (ha : h[a]? = some (.inr (.inl (t, rs)))) (ht : 2 ≤ t) (h0 : ¬ i < 0) (hx : rs[i.toNatClampNeg]? = some r) (kk : TT l D M Q kc ks (pc + 1) loc (.inr r :: st) h) : TT l D M Q kc ks pc loc (.inl i :: .inr (some a) :: st) h := by
  intro p e R s m args below meth c A H0 QQ F H locs cells slots ls sv ws tys hw hl hs hc hsl K
  obtain ⟨w1, s1, e1, r1, w2, s2, e2, r2, hs⟩ := hs
  have r1 : w1 = .int i := r1
  subst e1; subst e2; subst r1
  obtain ⟨q, cA, f, t0, h1, h2, h3, h4⟩ := tarr hw.1 ha r2
  subst h1
  have hr : (tAty t).isReference = true := by
    match t, ht with
    | 2, _ => rfl
    | 3, _ => rfl
    | 4, _ => rfl
    | 5, _ => rfl
    | 6, _ => rfl
    | 7, _ => rfl
    | n + 8, _ => rfl
  have hlt : i.toNatClampNeg < rs.length := t_at hx
  have hin := t_in h0 hlt
  refine W.aald (v := va_rf (f i.toNatClampNeg)) (ty := tAty t) F.1 F.2.1 (hw.2.1 a _ h2) ((hw.2.2.2.1.2 t0 _ h4).1 rs.length (fun j => va_rf (f j))) hr (fun q => by cases q) (by show ¬ (i < 0 ∨ (arrV _ _ _).slots.size ≤ _); rw [arrV_size]; exact hin) (by show (arrV _ _ _).slots[_]? = _; rw [arrV_read _ _ hlt]) rfl rfl hd ?_
  exact kk p e R s m args below meth c A H0 QQ F H locs cells slots ls _ ws tys hw hl ⟨_, _, rfl, h3 _ _ hx, hs⟩ hc hsl K
theorem tt_aast {a t b ci : Nat} {rs : List (Option Nat)} {i : Int32} {fs : List tV} {C : String} {T : u_T} {N : Nat} (hd : decode M.2.1 pc = .ok (.aastore, 1)) (ha : h[a]? = some (.inr (.inl (t, rs)))) (hb : h[b]? = some (.inr (.inr (ci, fs)))) (hC : vwCl[ci]? = some (C, T, N)) (ht : tAty t = .object C) (h0 : ¬ i < 0) (hx : i.toNatClampNeg < rs.length) (kk : TT l D M Q kc ks (pc + 1) loc st (h.set a (.inr (.inl (t, rs.set i.toNatClampNeg (some b)))))) : TT l D M Q kc ks pc loc (.inr (some b) :: .inl i :: .inr (some a) :: st) h := by
  intro p e R s m args below meth c A H0 QQ F H locs cells slots ls sv ws tys hw hl hs hc hsl K
  obtain ⟨w0, s0, e0, r0, w1, s1, e1, r1, w2, s2, e2, r2, hs⟩ := hs
  have r1 : w1 = .int i := r1
  subst e0; subst e1; subst e2; subst r1
  obtain ⟨q, cA, f, t0, h1, h2, h3, h4⟩ := tarr hw.1 ha r2
  subst h1
  have r0' := r0
  obtain ⟨qv, vs, g1, g2, g3⟩ := tobj hw.1 hb r0
  subst g1
  rw [ht] at h4
  refine va_astq (r := (C, T, N)) F.1 F.2.1 hw.2.2.2.1 hw.2.1 hw.2.2.1 hw.2.2.2.2 a t0 b ci h2 h4 g2 hC (t_in h0 hx) hd ?_
  intro H1 locs1 hP hD hS
  have hm := tfst_set (e' := .inl (cA, rs.length, .inr (.inr (.inr (.inr (va_up f i.toNatClampNeg (some qv))))))) h2
  refine kk p e R s m args below meth c A H0 QQ F H1 locs1 cells slots ls _ _ tys (hw.put (x := .inr (.inl (t, rs.set i.toNatClampNeg (some b)))) h2 ⟨cA, _, t0, by rw [List.length_set], ?_, by rw [ht]; exact h4⟩ hP hD hS) (by rw [hm]; exact hl) (by rw [hm]; exact hs) hc hsl (by rw [hm]; exact K)
  intro j r hj
  by_cases e : j = i.toNatClampNeg
  · subst e
    rw [List.getElem?_set_self hx] at hj
    cases hj
    rw [va_up_self]
    exact r0'
  · rw [List.getElem?_set_ne (fun z => e z.symm)] at hj
    rw [va_up_ne _ _ e]
    exact h3 j r hj
theorem tt_alenr {a t : Nat} {rs : List (Option Nat)} (hd : decode M.2.1 pc = .ok (.arraylength, 1)) (ha : h[a]? = some (.inr (.inl (t, rs)))) (kk : TT l D M Q kc ks (pc + 1) loc (.inl (Int32.ofNat rs.length) :: st) h) : TT l D M Q kc ks pc loc (.inr (some a) :: st) h := by
  intro p e R s m args below meth c A H0 QQ F H locs cells slots ls sv ws tys hw hl hs hc hsl K
  obtain ⟨w2, s2, e2, r2, hs⟩ := hs
  subst e2
  obtain ⟨q, cA, f, t0, h1, h2, h3, h4⟩ := tarr hw.1 ha r2
  subst h1
  exact va_alen F.1 F.2.1 hw.2.2.2.1 hw.2.1 a t0 h2 h4 rfl hd (kk p e R s m args below meth c A H0 QQ F H locs cells slots ls _ ws tys hw hl ⟨_, _, rfl, rfl, hs⟩ hc hsl K)
end TTH
end
section
section TTC
variable {l : Launch} {D : va_G} {M : tM} {Q : Nat → tL → List tV → List tC → Prop} {kc ks pc : Nat} {loc : tL} {st : List tV} {h : List tC}
theorem tPre_add (ws : va_W) (x : Nat × va_E) : tPre (ws.map Prod.fst) ((ws ++ [x]).map Prod.fst) := ⟨[x.1], by simp⟩
theorem tlast (ws : va_W) (x : Nat × va_E) {h : List tC} (hn : ws.length = h.length) : tvr ((ws ++ [x]).map Prod.fst) (.inr (some h.length)) (.ref x.1) := ⟨x.1, by simp [← hn], rfl⟩
theorem tt_new {idx ci N : Nat} {C : String} {T : u_T} {tfs : List tV} {fsV : List Value} (hd : decode M.2.1 pc = .ok (.new idx, 3)) (hcl : tCl ci C T N) (h1 : Cond.classLink M.1 idx C ∈ lw_good) (h2 : Cond.instantiable C N ∈ lw_good) (h3 : Cond.initialized C ∈ lw_good) (hfs : ∀ j, j < N → ∀ ty, parseFieldDescriptor (T j).2.2.1 = some ty → defaultValue ty = vp_V fsV j) (hz : ∀ as, tsr as tfs fsV)
    (kk : TT l D M Q kc ks (pc + 3) loc (.inr (some h.length) :: st) (h ++ [.inr (.inr (ci, tfs))])) : TT l D M Q (kc + 1) (ks + N) pc loc st h := by
  intro p e R s m args below meth c A H0 QQ F H locs cells slots ls sv ws tys hw hl hs hc hsl K
  obtain ⟨hC, hin, ⟨ty0, hty⟩, hnm⟩ := hcl
  refine va_new (ci := ci) (fs := fsV) F.1 F.2.1 F.2.2.2.2.1 hin ty0 hty F.2.2.2.1 (F.2.2.2.2.1 _ h1) (F.2.2.2.2.1 _ h2) (F.2.2.2.2.1 _ h3) hw.2.2.2.1 hw.2.1 hw.2.2.1 hw.2.2.2.2 F.2.2.2.2.2.1 hC (fun j hj => hfs j hj _ (hty j hj)) (by omega) (by omega) hd ?_
  intro q H1 hP hD hS
  have hp := tPre_add ws (q, .inr (ci, fsV))
  exact kk p e R s m args below meth c A H0 QQ F H1 locs (cells + 1) (slots + N) ls _ _ tys ⟨hw.1.add (c := .inr (.inr (ci, tfs))) ⟨[], by simp⟩ ⟨fsV, rfl, hz _⟩, hP, hD, hw.2.2.2.1, hS⟩ (tLc_mono hp hl) ⟨_, _, rfl, tlast ws (q, .inr (ci, fsV)) hw.1.1, tsr_mono hp hs⟩ (by omega) (by omega)
    (fun a1 a2 a3 a4 a5 a6 a7 a8 a9 b1 b2 b3 q1 q2 q3 q4 q5 q6 q7 => K a1 a2 a3 a4 a5 a6 a7 a8 a9 b1 b2 b3 q1 q2 q3 q4 (hp.tr q5) (by omega) (by omega))
theorem t_rep {n j : Nat} {α : Type} {y x : α} (h : (List.replicate n y)[j]? = some x) : y = x := by
  rw [List.getElem?_replicate] at h
  split at h
  · exact Option.some.inj h
  · cases h
theorem tt_newa {at0 : ArrayType} {t : Nat} {n : Int32} (hd : decode M.2.1 pc = .ok (.newarray at0, 2)) (hty : newarray.typeOf at0 = tAty t) (h01 : t = 0 ∨ t = 1) (h1 : Cond.arrayClass (newarray.typeOf at0) ∈ lw_good) (hn : ¬ n < 0) (hb : n.toNatClampNeg ≤ 100000)
    (kk : TT l D M Q kc ks (pc + 2) loc (.inr (some h.length) :: st) (h ++ [.inl (t, List.replicate n.toNatClampNeg 0)])) : TT l D M Q (kc + 1) (ks + n.toNatClampNeg) pc loc (.inl n :: st) h := by
  intro p e R s m args below meth c A H0 QQ F H locs cells slots ls sv ws tys hw hl hs hc hsl K
  obtain ⟨w1, s1, e1, r1, hs⟩ := hs
  have r1 : w1 = .int n := r1
  subst e1; subst r1
  refine va_newa (a0 := (n.toNatClampNeg, .inl (fun _ => 0))) (N' := n.toNatClampNeg) F.1 F.2.1 (F.2.2.2.2.1 _ h1) hty hw.2.2.2.1 hw.2.1 hw.2.2.1 hw.2.2.2.2 F.2.2.2.2.2.1 (fun cA => by rcases h01 with rfl | rfl <;> rfl) hn rfl (by rcases h01 with rfl | rfl <;> simp [tAty, componentBytes] <;> omega) (by omega) (by omega) hd ?_
  intro q cA H1 hK hP hD hS
  have hp := tPre_add ws (q, .inl (cA, n.toNatClampNeg, .inl (fun _ => 0)))
  exact kk p e R s m args below meth c A H0 QQ F H1 locs (cells + 1) (slots + n.toNatClampNeg) ls _ _ _ ⟨hw.1.add (c := .inl (t, List.replicate n.toNatClampNeg 0)) ⟨_, rfl⟩ ⟨cA, _, tys.length, by rw [List.length_replicate], fun j x hj => t_rep hj, by simp⟩, hP, hD, hK, hS⟩ (tLc_mono hp hl) ⟨_, _, rfl, tlast ws _ hw.1.1, tsr_mono hp hs⟩ (by omega) (by omega)
    (fun a1 a2 a3 a4 a5 a6 a7 a8 a9 b1 b2 b3 q1 q2 q3 q4 q5 q6 q7 => K a1 a2 a3 a4 a5 a6 a7 a8 a9 b1 b2 b3 q1 q2 q3 q4 (hp.tr q5) (by omega) (by omega))
theorem tt_newq {idx t : Nat} {C : String} {n : Int32} (hd : decode M.2.1 pc = .ok (.anewarray idx, 3)) (hty : tAty t = .object C) (h1 : Cond.classLink M.1 idx C ∈ lw_good) (ho : ∀ U, tEx U → va_AO C U) (hn : ¬ n < 0) (hb : n.toNatClampNeg ≤ 100000)
    (kk : TT l D M Q kc ks (pc + 3) loc (.inr (some h.length) :: st) (h ++ [.inr (.inl (t, List.replicate n.toNatClampNeg none))])) : TT l D M Q (kc + 1) (ks + n.toNatClampNeg) pc loc (.inl n :: st) h := by
  intro p e R s m args below meth c A H0 QQ F H locs cells slots ls sv ws tys hw hl hs hc hsl K
  obtain ⟨w1, s1, e1, r1, hs⟩ := hs
  have r1 : w1 = .int n := r1
  subst e1; subst r1
  refine va_newq (N' := n.toNatClampNeg) F.1 F.2.1 F.2.2.2.1 (F.2.2.2.2.1 _ h1) (ho _ F.2.2.2.2.2.2.2.2.2) hw.2.2.2.1 hw.2.1 hw.2.2.1 hw.2.2.2.2 F.2.2.2.2.2.1 hn rfl (by omega) (by omega) (by omega) hd ?_
  intro q cA H1 hK hP hD hS
  have hp := tPre_add ws (q, .inl (cA, n.toNatClampNeg, .inr (.inr (.inr (.inr (fun _ => none))))))
  exact kk p e R s m args below meth c A H0 QQ F H1 locs (cells + 1) (slots + n.toNatClampNeg) ls _ _ _ ⟨hw.1.add (c := .inr (.inl (t, List.replicate n.toNatClampNeg none))) ⟨_, rfl⟩ ⟨cA, fun _ => none, tys.length, by rw [List.length_replicate], fun j x hj => by rw [← t_rep hj]; rfl, by simp [hty]⟩, hP, hD, hK, hS⟩ (tLc_mono hp hl) ⟨_, _, rfl, tlast ws _ hw.1.1, tsr_mono hp hs⟩ (by omega) (by omega)
    (fun a1 a2 a3 a4 a5 a6 a7 a8 a9 b1 b2 b3 q1 q2 q3 q4 q5 q6 q7 => K a1 a2 a3 a4 a5 a6 a7 a8 a9 b1 b2 b3 q1 q2 q3 q4 (hp.tr q5) (by omega) (by omega))
-- contracts
def tOv (as : List Nat) (rv : Option tV) (v : Option Value) : Prop := match rv, v with
  | none, none => True
  | some a, some b => tvr as a b
  | _, _ => False
def tQc (D : va_G) (ws : va_W) (sz : Nat) (Q : Option tV → List tC → Prop) : Array Value → State → Outcome → State → Prop := fun _ st oc t =>
  (∃ (rv : Option tV) (v : Option Value) (h' : List tC) (ws' : va_W) (tys' : List (ClassId × FieldType)), oc = .returned v ∧ tOv (ws'.map Prod.fst) rv v ∧ Q rv h' ∧ tHR h' ws' tys' ∧ tPre (ws.map Prod.fst) (ws'.map Prod.fst) ∧ va_P D vwCl ws' t.heap ∧ va_K D vwCl tys' t ∧ va_D (va_A ws sz) ws') ∧ va_F (va_A ws sz) st t
def tPc (D : va_G) (ws : va_W) (tys : List (ClassId × FieldType)) (sz : Nat) (av : List Value) : Array Value → State → Prop := va_Pc av (fun U => U.heap.size = sz ∧ va_P D vwCl ws U.heap ∧ va_K D vwCl tys U ∧ va_D (fun _ => True) ws ∧ tEx U)
def tRm (F L mc ms : Nat) : Room := { frames := F, cells := mc, slots := ms, locals := L }
def TMc (l : Launch) (D : va_G) (y : MethodName) (b : ByteArray) (n : Nat) (r : Option FieldType) (F L mc ms : Nat) (as : List tV) (h : List tC) (Q : Option tV → List tC → Prop) : Prop :=
  ∀ (ws : va_W) (tys : List (ClassId × FieldType)) (sz : Nat) (av : List Value), tHR h ws tys → tsr (ws.map Prod.fst) as av → Met l y (tWS y b n r) (tRm F L mc ms) (tPc D ws tys sz av) (tQc D ws sz Q) mc ms (va_A ws sz)
def tRt (b : ByteArray) (r : Option FieldType) (Q : Option tV → List tC → Prop) : Nat → tL → List tV → List tC → Prop := fun pc _ st h =>
  (decode b pc = .ok (.return_, 1) ∧ r = none ∧ st = [] ∧ Q none h) ∨ (∃ x : Int32, decode b pc = .ok (.ireturn, 1) ∧ st = [.inl x] ∧ (r = some .int ∨ (r = some .boolean ∧ (x = 0 ∨ x = 1))) ∧ Q (some (.inl x)) h) ∨ (∃ (v : Option Nat) (C : String), decode b pc = .ok (.areturn, 1) ∧ st = [.inr v] ∧ r = some (.object C) ∧ Q (some (.inr v)) h)
def tEn : Nat → List tV → tL
  | _, [] => []
  | i, v :: vs => (i, v) :: tEn (i + 1) vs
theorem tEn_ok {as : List Nat} : ∀ {vs : List tV} {av : List Value} (i : Nat), tsr as vs av → ∀ q ∈ tEn i vs, ∃ w : Value, (q.1, w) ∈ lv_args i av ∧ tvr as q.2 w
  | [], _, _, _, _, hq => by cases hq
  | v :: vs, _, i, ⟨w, ws, e, h1, h2⟩, q, hq => by
    rw [e]
    have hc := tvr_cat h1
    rcases List.mem_cons.mp hq with rfl | hq
    · exact ⟨w, List.mem_cons_self, h1⟩
    · obtain ⟨w', h3, h4⟩ := tEn_ok (i + 1) h2 q hq
      refine ⟨w', List.mem_cons_of_mem _ ?_, h4⟩
      rw [if_neg (by rw [hc]; decide)]
      exact h3
theorem tsl_len {as : List Nat} : ∀ {vs : List tV} {av : List Value}, tsr as vs av → (lg_sl av).length = vs.length
  | [], _, h => by rw [h]; rfl
  | v :: vs, _, ⟨w, ws, e, h1, h2⟩ => by
    rw [e]
    have hc := tvr_cat h1
    have := tsl_len h2
    simp only [lg_sl, List.flatMap_cons, hc] at this ⊢
    simp [this]
theorem tmc_of {y : MethodName} {b : ByteArray} {n : Nat} {r : Option FieldType} {F L mc ms : Nat} {as : List tV} {Qr : Option tV → List tC → Prop} (ini : Bool) (hy : plainName y.cls = true) (hi : ini = true → y.name = "<init>") (hen : as.length ≤ n)
    (k : TT l D (y.cls, b, n, F, L, ini) (tRt b r Qr) mc ms 0 (tEn 0 as) [] h) : TMc l D y b n r F L mc ms as h Qr := by
  intro ws tys sz av hHR hsr
  refine Met.ofW (cc := b) (maxL := n) (ret := r) hy rfl ?_
  intro p e s m args below meth c s₁ B hml hv
  obtain ⟨rfl, hsz, hP, hK, hD0, hE⟩ := hv
  have hts := atoms_spec (ws := tWS y b n r) B.pre
  have hown : s.vm.findClass y.cls = some m.cls := findClass_of_methodNamed B.named
  have hlocks := B.notSynchronized
  have hin : meth.name = y.name := (name_of_methodNamed B.named B.method).1
  subst hsz
  have hD := hD0.self (sz := s.heap.size)
  have hlen := tsl_len hsr
  have hl := lv_entry av (n := n) (by rw [hlen]; exact hen)
  rw [lg_entry_eq]
  refine k p e _ s m av.toArray below meth c (va_A ws s.heap.size) s.heap (MQ below (tQc D ws s.heap.size Qr) av.toArray s mc ms (va_A ws s.heap.size)) ⟨B.exec, B.bytes, hml, hown, fun w hw => hts w (List.mem_cons_of_mem _ hw), fun q hq => Or.inr hq, Nat.le_refl F, Nat.le_refl L, fun z => by rw [hin]; exact hi z, hE⟩ s.heap [] 0 0 _ [] ws tys ⟨hHR, hP, hD, hK, va_S.rf⟩ ⟨_, hl, tEn_ok 0 hsr⟩ rfl (by rw [Nat.zero_add]; exact Nat.le_refl mc) (by rw [Nat.zero_add]; exact Nat.le_refl ms) ?_
  intro pc' loc' st' h' H' locs' cells' slots' ls' sv' ws' tys' hq hw' hl' hs' hp hc' hsl'
  rw [Nat.zero_add] at hc' hsl'
  refine W.widen hc' hsl' ?_
  have fin : ∀ (rv : Option tV) (v : Option Value), tOv (ws'.map Prod.fst) rv v → Qr rv h' → ∀ t : State, t.heap = H' → s.WarmedH t.vm → tQc D ws s.heap.size Qr av.toArray s (.returned v) t := fun rv v hv hQ t ht hW =>
    ⟨⟨rv, v, h', ws', tys', rfl, hv, hQ, hw'.1, hp, by rw [ht]; exact hw'.2.1, va_K.moved hW.alike hw'.2.2.2.1, hw'.2.2.1⟩, hw'.2.2.2.2.F ht⟩
  have hS2 := hw'.2.2.2.2.2.2
  rcases hq with ⟨d, rfl, rfl, hQ⟩ | ⟨x, d, rfl, hr, hQ⟩ | ⟨v, C, d, rfl, rfl, hQ⟩
  · have e1 : sv' = [] := hs'
    subst e1
    exact W.vret B.exec B.bytes B.returns (fin none none trivial hQ) hS2 d
  · obtain ⟨w, s1, e1, r1, e2⟩ := hs'
    have r1' : w = .int x := r1
    have e2 : s1 = [] := e2
    subst e2; subst r1'; subst e1
    rcases hr with rfl | ⟨rfl, hx⟩
    · exact W.iret B.exec B.bytes B.returns (fin (some (.inl x)) (some (.int x)) rfl hQ) hS2 d
    · exact W.zret B.exec B.bytes B.returns (by rcases hx with rfl | rfl <;> rfl) (fin (some (.inl x)) (some (.int x)) rfl hQ) hS2 d
  · obtain ⟨w, s1, e1, r1, e2⟩ := hs'
    have e2 : s1 = [] := e2
    subst e2; subst e1
    refine W.aret B.exec B.bytes B.returns (Or.inl ⟨C, rfl⟩) ?_ (fin (some (.inr v)) (some w) r1 hQ) hS2 d
    cases v with
    | none => exact Or.inl r1
    | some q => obtain ⟨a, _, h⟩ := r1; exact Or.inr ⟨a, h⟩
end TTC
end
section
/-- as the library's row for arrays of objects, for arrays of arrays -/
theorem t_overA {args : Array Value} {first s : State} {o : Option Outcome} {idx : List Nat} {t : FieldType} (h : (Cond.arrayOver (.array t)).holds args first o s idx = true) :
    ∃ comp c k, s.vm.findClass (FieldType.array t).toString = some comp ∧ (s.vm.classes.findIdx? fun x => match x.kind with | .array component _ => component == comp | _ => false) = some c ∧ s.vm.classes[c]? = some k ∧ k.kind = .array comp (.array t) ∧
      s.vm.findClass ("[" ++ (FieldType.array t).toString) = some c := by
  simp only [Cond.holds, Cond.value, beq_iff_eq] at h
  cases hc : s.vm.findClass (FieldType.array t).toString with
  | none => simp [hc] at h
  | some comp =>
    simp only [hc, Option.bind_some, Option.bind_eq_some_iff, Option.map_eq_some_iff] at h
    obtain ⟨c, hi, k, hk, hb⟩ := h
    obtain ⟨hlt, hp, -⟩ := Array.findIdx?_eq_some_iff_getElem.mp hi
    have hkk : s.vm.classes[c] = k := (Array.getElem?_eq_some_iff.mp hk).2
    rw [hkk] at hp
    cases hkind : k.kind with
    | array component ty =>
      rw [hkind] at hb hp
      simp at hb hp
      exact ⟨comp, c, k, rfl, hi, hk, by rw [hkind, hp, hb.1], hb.2⟩
    | _ => rw [hkind] at hb; simp at hb
theorem va_AOA.moved {ty : FieldType} {u U : State} (hvm : u.vm.Alike U.vm) (h : va_AOA ty u) : va_AOA ty U := by
  obtain ⟨comp, c, k, h1, h2, h3, h4, h5⟩ := t_overA h
  obtain ⟨k', hk', he⟩ := hvm.2.2 _ _ h3
  have hi : (U.vm.classes.findIdx? fun (x : Class) => match x.kind with | .array component _ => component == comp | _ => false) = some c := by
    have e1 := va_idx_bare U.vm comp
    have e2 := va_idx_bare u.vm comp
    have e3 : U.vm.bare = u.vm.bare := by first | exact hvm.bare_eq | exact hvm.bare_eq.symm
    rw [e3] at e1
    exact (e1.symm.trans e2).trans h2
  have hkind : k'.kind = .array comp (.array ty) := by rw [he]; exact h4
  have f1 : U.vm.findClass (FieldType.array ty).toString = some comp := by rw [hvm.findClass]; exact h1
  have f2 : U.vm.findClass ("[" ++ (FieldType.array ty).toString) = some c := by rw [hvm.findClass]; exact h5
  unfold va_AOA Cond.before Cond.holds
  simp only [Cond.value]
  rw [f1, Option.bind_some]
  refine (congrArg (fun o : Option Nat => (o.bind (fun c => (U.vm.classes[c]?).map fun (k : Class) => match k.kind with | .array _ ty' => decide (ty' = FieldType.array ty) && decide (U.vm.findClass ("[" ++ (FieldType.array ty).toString) = some c) | _ => false) == some true)) hi).trans ?_
  simp [hk', hkind, f2]
section TTK
variable {l : Launch} {D : va_G} {M : tM} {Q : Nat → tL → List tV → List tC → Prop} {kc ks pc : Nat} {loc : tL} {st : List tV} {h : List tC}
theorem tEx_warm {s U : State} (hW : s.WarmedH U.vm) (h : tEx s) : tEx U := by
  obtain ⟨h1, h2, h3, h4, h5, h6, h7, h8, h9⟩ := h
  exact ⟨va_Nw.warmM hW h1, va_Nw.warmM hW h2, va_AO.moved hW.alike h3, va_AO.moved hW.alike h4, va_AO.moved hW.alike h5, va_AO.moved hW.alike h6, va_AO.moved hW.alike h7, va_AO.moved hW.alike h8, va_AOA.moved hW.alike h9⟩
theorem tEx_same {s U : State} (hv : s.vm = U.vm) (h : tEx s) : tEx U := by
  obtain ⟨h1, h2, h3, h4, h5, h6, h7, h8, h9⟩ := h
  have hA : s.vm.Alike U.vm := by rw [hv]; exact Vm.Alike.refl _
  exact ⟨va_Nw.same rfl hv h1, va_Nw.same rfl hv h2, va_AO.moved hA h3, va_AO.moved hA h4, va_AO.moved hA h5, va_AO.moved hA h6, va_AO.moved hA h7, va_AO.moved hA h8, va_AOA.moved hA h9⟩
theorem tPc_blind {ws : va_W} {tys : List (ClassId × FieldType)} {sz : Nat} {av : List Value} : FrameBlind (tPc D ws tys sz av) := by
  intro a U g mk q
  obtain ⟨q0, q1, q2, q3, q4, q5⟩ := q
  exact ⟨q0, q1, q2, va_K.moved (u := U) (U := U.calling g mk a) (Vm.Alike.refl U.vm) q3, q4, tEx_same rfl q5⟩
theorem tPc_at {s : State} {H : Heap} {ws : va_W} {tys : List (ClassId × FieldType)} {av : List Value} {A : Nat → Prop} (hP : va_P D vwCl ws H) (hK : va_K D vwCl tys s) (hD : va_D A ws) (hE : tEx s) : ∀ U : State, U.heap = H → s.WarmedH U.vm → tPc D ws tys H.size av av.toArray U :=
  fun U hU hW => ⟨rfl, by rw [hU], by rw [hU]; exact hP, va_K.moved hW.alike hK, hD.weaken (fun _ _ _ _ => trivial), tEx_warm hW hE⟩
theorem t_after {p : Program} {e : Env} {R : Room} {s : State} {m : MethodId} {args : Array Value} {below : List Frame} {meth : Method} {c : Code} {A : Nat → Prop} {H0 : Heap} {QQ : State → Prop} (F : tFx p l R s m args meth c A H0 M)
    {H : Heap} {locs : List Loc} {cells slots : Nat} {ls : Array Slot} {rest st0 : List Value} {ws : va_W} {tys : List (ClassId × FieldType)} (hw : tWd D A H0 s h ws tys H locs) (hl : tLc (ws.map Prod.fst) loc M.2.2.1 ls) (hs : tsr (ws.map Prod.fst) st rest)
    {mc ms : Nat} {a : Array Value} {Qc : Option tV → List tC → Prop} (hr : va_Run p l e R s m args below meth c H locs cells slots mc ms (F0 m pc ls st0) rest (tQc D ws H.size Qc a) (va_A ws H.size)) (hc : cells + (mc + kc) ≤ R.cells) (hsl : slots + (ms + ks) ≤ R.slots)
    (kk : ∀ rv h', Qc rv h' → TT l D M Q kc ks (pc + 3) loc (rv.toList ++ st) h')
    (K : ∀ (pc' : Nat) (loc' : tL) (st' : List tV) (h' : List tC) (H' : Heap) (locs' : List Loc) (cells' slots' : Nat) (ls' : Array Slot) (sv' : List Value) (ws' : va_W) (tys' : List (ClassId × FieldType)), Q pc' loc' st' h' → tWd D A H0 s h' ws' tys' H' locs' → tLc (ws'.map Prod.fst) loc' M.2.2.1 ls' → tsr (ws'.map Prod.fst) st' sv' → tPre (ws.map Prod.fst) (ws'.map Prod.fst) → cells' ≤ cells + (mc + kc) → slots' ≤ slots + (ms + ks) →
      W p l e R s m args below meth c H' locs' cells' slots' QQ (F0 m pc' ls' sv')) : W p l e R s m args below meth c H locs cells slots QQ (F0 m pc ls st0) := by
  intro T hT X
  obtain ⟨v, st₀, t, T', L, h0, X', hL, e1, e2, ⟨⟨rv, v', h', ws', tys', hv, hov, hq, hHR, hpre, hP, hK, hD⟩, hz, hk⟩, stp⟩ := hr T hT X
  have hv : v = v' := by cases hv; rfl
  subst hv
  rw [h0] at hz hk
  have hF : ∀ q, va_A ws H.size q → A q := by
    intro q hq
    rcases hq with ⟨k, e, hk⟩ | hq
    · exact hw.2.2.1.2 k _ hk
    · exact F.2.2.2.2.2.1 q (Nat.le_trans hw.2.2.2.2.1 hq)
  have hS := hw.2.2.2.2
  have hS' : va_S A H0 T'.heap (locs ++ L) := ⟨Nat.le_trans hS.1 (by rw [e1]; exact hz), fun q h1 h2 => by rw [e1, hk q (Nat.lt_of_lt_of_le h1 hS.1) (fun z => h2 (hF q z))]; exact hS.2.1 q h1 h2, fun q hq => by
      rcases List.mem_append.mp hq with h | h
      · exact hS.2.2 q h
      · exact hF _ (hL q h)⟩
  have hA : s.vm.Alike t.vm := by rw [← e2]; exact X'.warmed.alike
  have hs' : tsr (ws'.map Prod.fst) (rv.toList ++ st) (v.toList ++ rest) := by
    refine tsr_join ?_ (tsr_mono hpre hs)
    match rv, v, hov with
    | none, none, _ => rfl
    | some a, some b, hab => exact ⟨b, [], rfl, hab, rfl⟩
  obtain ⟨t2, a1, b1⟩ := kk rv h' hq p e R s m args below meth c A H0 QQ F T'.heap (locs ++ L) (cells + mc) (slots + ms) ls (v.toList ++ rest) ws' tys' ⟨hHR, by rw [e1]; exact hP, hD.weaken (fun _ q _ hq => hF _ hq), va_K.moved hA.symm hK, hS'⟩ (tLc_mono hpre hl) hs' (by omega) (by omega)
    (fun a1 a2 a3 a4 a5 a6 a7 a8 a9 b1 b2 b3 q1 q2 q3 q4 q5 q6 q7 => K a1 a2 a3 a4 a5 a6 a7 a8 a9 b1 b2 b3 q1 q2 q3 q4 (hpre.tr q5) (by omega) (by omega)) T' rfl X'
  exact ⟨t2, stp t2 a1, b1⟩
/-- what a call by name needs of the tables -/
def tLk (own : String) (idx : Nat) (y : MethodName) (b : ByteArray) (n : Nat) (r : Option FieldType) (np : Nat) : Prop := Cond.methodLink own idx y ∈ lw_good ∧ Cond.initialized y.cls ∈ lw_good ∧ Cond.code y b n r ∈ lw_good ∧ (y.cls ≠ "java/lang/invoke/MethodHandle" ∧ y.cls ≠ "java/lang/invoke/VarHandle" ∧ (parseMethodDescriptor y.desc).map (fun d => d.parameters.length) = some np)
theorem tLk_B {own : String} {idx : Nat} {y : MethodName} {b : ByteArray} {n : Nat} {r : Option FieldType} {np F L mc ms : Nat} (hk : tLk own idx y b n r np) {R : Room} {s : State} {args : Array Value} (ht : ∀ w ∈ lw_good, w.before args s = true) (h1 : F + 1 ≤ R.frames) (h2 : 8 + (n + 11) + L ≤ R.locals) : CallB R s args own idx y b n r (tWS y b n r) (tRm F L mc ms) mc ms np := by
  obtain ⟨k1, k2, k3, k4⟩ := hk
  refine callB_of (Ts := lw_good) (ws' := lw_good) np ht (fun w hw => ?_) rfl rfl rfl (ht _ k2) (ht _ k1) k4 ⟨h1, h2⟩
  have hw' : w ∈ lw_good := (List.mem_cons.mp hw).elim (fun e => by rw [e]; exact k3) id
  exact ⟨hw', lw_good_ok hw'⟩
theorem tt_callV {idx ci N F L mc ms n np a : Nat} {T : u_T} {y : MethodName} {b : ByteArray} {r : Option FieldType} {fs : List tV} {as : List tV} {Qc : Option tV → List tC → Prop} (hd : decode M.2.1 pc = .ok (.invokevirtual idx, 3)) (hk : tLk M.1 idx y b n r np) (hi : Cond.instanceMethod y ∈ lw_good) (hsel : Cond.selects y.cls y y ∈ lw_good) (hC : vwCl[ci]? = some (y.cls, T, N)) (ha : h[a]? = some (.inr (.inr (ci, fs)))) (hn : as.length = np) (hF : F + 1 ≤ M.2.2.2.1) (hL : 8 + (n + 11) + L ≤ M.2.2.2.2.1) (hst : st.length ≤ 8)
    (hM : TMc l D y b n r F L mc ms (.inr (some a) :: as) h Qc) (kk : ∀ rv h', Qc rv h' → TT l D M Q kc ks (pc + 3) loc (rv.toList ++ st) h') : TT l D M Q (mc + kc) (ms + ks) pc loc (as.reverse ++ .inr (some a) :: st) h := by
  intro p e R s m args below meth c A H0 QQ F' H locs cells slots ls sv ws tys hw hl hs hc hsl K
  obtain ⟨x, y', rfl, hx, w2, rest, rfl, r2, hs2⟩ := tsr_app hs
  have hx' := tsr_rev hx
  rw [List.reverse_reverse] at hx'
  obtain ⟨q, vs, h1, h2, h3⟩ := tobj hw.1 ha r2
  have hMet := hM ws tys H.size (.ref q :: x.reverse) hw.1 ⟨_, _, rfl, by rw [← h1]; exact r2, hx'⟩
  subst h1
  obtain ⟨lv, hl1, hl2⟩ := id hl
  refine t_after F' hw hl hs2 (va_runV (As := x.reverse) (C := y.cls) ⟨F'.1, F'.2.1, F'.2.2.1, F'.2.2.2.1, F'.2.2.2.2.1⟩ hMet ⟨tLk_B hk F'.2.2.2.2.1 (Nat.le_trans hF F'.2.2.2.2.2.2.1) (Nat.le_trans hL F'.2.2.2.2.2.2.2.1), F'.2.2.2.2.1 _ hi, F'.2.2.2.2.1 _ hsel⟩ ⟨tPc_blind, va_recv hw.2.2.2.1 hw.2.1 (ci := ci) (q0 := a) hC h2, tPc_at hw.2.1 hw.2.2.2.1 hw.2.2.1 F'.2.2.2.2.2.2.2.2.2⟩ rfl ?_ hl1.1 (by rw [List.reverse_reverse]) (lv_room (by rw [tsr_cat hs2]; exact hst)) hd ⟨by omega, by omega⟩) hc hsl kk K
  rw [List.length_reverse, tsr_len hx, List.length_reverse]; exact hn
theorem tt_callS {idx F L mc ms n np : Nat} {y : MethodName} {b : ByteArray} {r : Option FieldType} {as : List tV} {Qc : Option tV → List tC → Prop} (hd : decode M.2.1 pc = .ok (.invokestatic idx, 3)) (hk : tLk M.1 idx y b n r np) (hi : Cond.static y ∈ lw_good) (hn : as.length = np) (hF : F + 1 ≤ M.2.2.2.1) (hL : 8 + (n + 11) + L ≤ M.2.2.2.2.1) (hst : st.length ≤ 8)
    (hM : TMc l D y b n r F L mc ms as h Qc) (kk : ∀ rv h', Qc rv h' → TT l D M Q kc ks (pc + 3) loc (rv.toList ++ st) h') : TT l D M Q (mc + kc) (ms + ks) pc loc (as.reverse ++ st) h := by
  intro p e R s m args below meth c A H0 QQ F' H locs cells slots ls sv ws tys hw hl hs hc hsl K
  obtain ⟨x, rest, rfl, hx, hs2⟩ := tsr_app hs
  have hx' := tsr_rev hx
  rw [List.reverse_reverse] at hx'
  have hMet := hM ws tys H.size x.reverse hw.1 hx'
  obtain ⟨lv, hl1, hl2⟩ := id hl
  refine t_after F' hw hl hs2 (va_runS (As := x.reverse) ⟨F'.1, F'.2.1, F'.2.2.1, F'.2.2.2.1, F'.2.2.2.2.1⟩ hMet ⟨tLk_B hk F'.2.2.2.2.1 (Nat.le_trans hF F'.2.2.2.2.2.2.1) (Nat.le_trans hL F'.2.2.2.2.2.2.2.1), F'.2.2.2.2.1 _ hi⟩ ⟨tPc_blind, tPc_at hw.2.1 hw.2.2.2.1 hw.2.2.1 F'.2.2.2.2.2.2.2.2.2⟩ rfl ?_ hl1.1 (by rw [List.reverse_reverse]) (lv_room (by rw [tsr_cat hs2]; exact hst)) hd ⟨by omega, by omega⟩) hc hsl kk K
  rw [List.length_reverse, tsr_len hx, List.length_reverse]; exact hn
theorem tt_callI {idx F L mc ms n np a : Nat} {y : MethodName} {b : ByteArray} {as : List tV} {Qc : Option tV → List tC → Prop} (hd : decode M.2.1 pc = .ok (.invokespecial idx, 3)) (hk : tLk M.1 idx y b n none np) (hi : Cond.instanceMethod y ∈ lw_good) (hy : y.name = "<init>") (hn : as.length = np) (hF : F + 1 ≤ M.2.2.2.1) (hL : 8 + (n + 11) + L ≤ M.2.2.2.2.1) (hst : st.length ≤ 8)
    (hM : TMc l D y b n none F L mc ms (.inr (some a) :: as) h Qc) (kk : ∀ rv h', Qc rv h' → TT l D M Q kc ks (pc + 3) loc (rv.toList ++ st) h') : TT l D M Q (mc + kc) (ms + ks) pc loc (as.reverse ++ .inr (some a) :: st) h := by
  intro p e R s m args below meth c A H0 QQ F' H locs cells slots ls sv ws tys hw hl hs hc hsl K
  obtain ⟨x, y', rfl, hx, w2, rest, rfl, r2, hs2⟩ := tsr_app hs
  have hx' := tsr_rev hx
  rw [List.reverse_reverse] at hx'
  obtain ⟨q, h0, h1⟩ := id r2
  have hMet := hM ws tys H.size (.ref q :: x.reverse) hw.1 ⟨_, _, rfl, by rw [← h1]; exact r2, hx'⟩
  subst h1
  obtain ⟨lv, hl1, hl2⟩ := id hl
  refine t_after F' hw hl hs2 (va_runI (As := x.reverse) ⟨F'.1, F'.2.1, F'.2.2.1, F'.2.2.2.1, F'.2.2.2.2.1⟩ hMet ⟨tLk_B hk F'.2.2.2.2.1 (Nat.le_trans hF F'.2.2.2.2.2.2.1) (Nat.le_trans hL F'.2.2.2.2.2.2.2.1), hy, F'.2.2.2.2.1 _ hi⟩ ⟨tPc_blind, tPc_at hw.2.1 hw.2.2.2.1 hw.2.2.1 F'.2.2.2.2.2.2.2.2.2⟩ rfl ?_ hl1.1 (by rw [List.reverse_reverse]) (lv_room (by rw [tsr_cat hs2]; exact hst)) hd ⟨by omega, by omega⟩) hc hsl kk K
  rw [List.length_reverse, tsr_len hx, List.length_reverse]; exact hn
theorem tt_callIN {idx F L mc ms n np a : Nat} {host : String} {y : MethodName} {b : ByteArray} {as : List tV} {Qc : Option tV → List tC → Prop} (hd : decode M.2.1 pc = .ok (.invokespecial idx, 3)) (hini : Cond.initialized y.cls ∈ lw_good) (hcd : Cond.code y b n none ∈ lw_good) (hde : y.cls ≠ "java/lang/invoke/MethodHandle" ∧ y.cls ≠ "java/lang/invoke/VarHandle" ∧ (parseMethodDescriptor y.desc).map (fun d => d.parameters.length) = some np) (hi : Cond.instanceMethod y ∈ lw_good) (hne : ∀ U, tEx U → va_Nw (.methodLinkNest M.1 idx y host) U) (hy : y.name = "<init>") (hn : as.length = np) (hF : F + 1 ≤ M.2.2.2.1) (hL : 8 + (n + 11) + L ≤ M.2.2.2.2.1) (hst : st.length ≤ 8)
    (hM : TMc l D y b n none F L mc ms (.inr (some a) :: as) h Qc) (kk : ∀ rv h', Qc rv h' → TT l D M Q kc ks (pc + 3) loc (rv.toList ++ st) h') : TT l D M Q (mc + kc) (ms + ks) pc loc (as.reverse ++ .inr (some a) :: st) h := by
  intro p e R s m args below meth c A H0 QQ F' H locs cells slots ls sv ws tys hw hl hs hc hsl K
  obtain ⟨x, y', rfl, hx, w2, rest, rfl, r2, hs2⟩ := tsr_app hs
  have hx' := tsr_rev hx
  rw [List.reverse_reverse] at hx'
  obtain ⟨q, h0, h1⟩ := id r2
  have hMet := hM ws tys H.size (.ref q :: x.reverse) hw.1 ⟨_, _, rfl, by rw [← h1]; exact r2, hx'⟩
  subst h1
  obtain ⟨lv, hl1, hl2⟩ := id hl
  have cw := va_cnB (R := R) (own := M.1) (host := host) (index := idx) (Ts := lw_good) (ws := tWS y b n none) (rm := tRm F L mc ms) (mc := mc) (ms := ms) np F'.2.2.2.2.1 (fun w hw => by
    have hw' : w ∈ lw_good := (List.mem_cons.mp hw).elim (fun e => by rw [e]; exact hcd) id
    exact ⟨hw', lw_good_ok hw'⟩) rfl rfl rfl (hne _ F'.2.2.2.2.2.2.2.2.2) (F'.2.2.2.2.1 _ hini) hde ⟨Nat.le_trans hF F'.2.2.2.2.2.2.1, Nat.le_trans hL F'.2.2.2.2.2.2.2.1⟩
  refine t_after F' hw hl hs2 (va_runIN (As := x.reverse) ⟨F'.1, F'.2.1, F'.2.2.1, F'.2.2.2.1, F'.2.2.2.2.1⟩ hMet ⟨cw, hy, F'.2.2.2.2.1 _ hi⟩ ⟨tPc_blind, tPc_at hw.2.1 hw.2.2.2.1 hw.2.2.1 F'.2.2.2.2.2.2.2.2.2⟩ rfl ?_ hl1.1 (by rw [List.reverse_reverse]) (lv_room (by rw [tsr_cat hs2]; exact hst)) hd ⟨by omega, by omega⟩) hc hsl kk K
  rw [List.length_reverse, tsr_len hx, List.length_reverse]; exact hn
theorem tt_obj {idx a : Nat} (hd : decode M.2.1 pc = .ok (.invokespecial idx, 3)) (h1 : Cond.methodLink M.1 idx Lib.objectInit ∈ lw_good) (h2 : Cond.instanceMethod Lib.objectInit ∈ lw_good) (h3 : Cond.code Lib.objectInit ⟨#[0xb1]⟩ 1 none ∈ lw_good) (hF : 1 ≤ M.2.2.2.1) (hL : st.length + 12 ≤ M.2.2.2.2.1) (kk : TT l D M Q kc ks (pc + 3) loc st h) : TT l D M Q kc ks pc loc (.inr (some a) :: st) h := by
  intro p e R s m args below meth c A H0 QQ F H locs cells slots ls sv ws tys hw hl hs hc hsl K
  obtain ⟨w1, s1, e1, r1, hs⟩ := hs
  obtain ⟨q, h0, rfl⟩ := r1
  subst e1
  obtain ⟨lv, hl1, hl2⟩ := id hl
  refine W.objInit F.1 F.2.1 F.2.2.2.1 (F.2.2.2.2.1 _ h1) (F.2.2.2.2.1 _ h2) (F.2.2.2.2.1 _ h3) rfl (hl1.1.trans F.2.2.1.symm) rfl hd (Nat.le_trans hF F.2.2.2.2.2.2.1) ?_ (kk p e R s m args below meth c A H0 QQ F H locs cells slots ls _ ws tys hw hl hs hc hsl K)
  have := F.2.2.2.2.2.2.2.1
  rw [tsr_cat hs]
  show 2 * 0 + _ + 12 ≤ _
  omega
theorem tt_min {idx : Nat} {x y : Int32} (hd : decode M.2.1 pc = .ok (.invokestatic idx, 3)) (h1 : Cond.methodLink M.1 idx Lib.Math.min.name ∈ lw_good) (h2 : Cond.static Lib.Math.min.name ∈ lw_good) (h3 : Cond.initialized "java/lang/Math" ∈ lw_good) (h4 : Cond.code Lib.Math.min.name Lib.Math.min.code 2 (some .int) ∈ lw_good) (hF : 1 ≤ M.2.2.2.1) (hL : st.length + 13 ≤ M.2.2.2.2.1) (kk : TT l D M Q kc ks (pc + 3) loc (.inl (if y < x then y else x) :: st) h) : TT l D M Q kc ks pc loc (.inl y :: .inl x :: st) h := by
  intro p e R s m args below meth c A H0 QQ F H locs cells slots ls sv ws tys hw hl hs hc hsl K
  obtain ⟨w1, s1, e1, r1, w2, s2, e2, r2, hs⟩ := hs
  have r1 : w1 = .int y := r1
  have r2 : w2 = .int x := r2
  subst e1; subst e2; subst r1; subst r2
  obtain ⟨lv, hl1, hl2⟩ := id hl
  have := F.2.2.2.2.2.2.2.1
  exact va_mmin F.1 F.2.1 (F.2.2.1.trans hl1.1.symm) F.2.2.2.1 (F.2.2.2.2.1 _ h1) (F.2.2.2.2.1 _ h2) (F.2.2.2.2.1 _ h3) (F.2.2.2.2.1 _ h4) (Nat.le_trans hF F.2.2.2.2.2.2.1) (by rw [tsr_cat hs]; omega) (by omega) (by omega) hd (kk p e R s m args below meth c A H0 QQ F H locs cells slots ls _ ws tys hw hl ⟨_, _, rfl, rfl, hs⟩ hc hsl K)
theorem tt_max {idx : Nat} {x y : Int32} (hd : decode M.2.1 pc = .ok (.invokestatic idx, 3)) (h1 : Cond.methodLink M.1 idx Lib.Math.max.name ∈ lw_good) (h2 : Cond.static Lib.Math.max.name ∈ lw_good) (h3 : Cond.initialized "java/lang/Math" ∈ lw_good) (h4 : Cond.code Lib.Math.max.name Lib.Math.max.code 2 (some .int) ∈ lw_good) (hF : 1 ≤ M.2.2.2.1) (hL : st.length + 13 ≤ M.2.2.2.2.1) (kk : TT l D M Q kc ks (pc + 3) loc (.inl (if x < y then y else x) :: st) h) : TT l D M Q kc ks pc loc (.inl y :: .inl x :: st) h := by
  intro p e R s m args below meth c A H0 QQ F H locs cells slots ls sv ws tys hw hl hs hc hsl K
  obtain ⟨w1, s1, e1, r1, w2, s2, e2, r2, hs⟩ := hs
  have r1 : w1 = .int y := r1
  have r2 : w2 = .int x := r2
  subst e1; subst e2; subst r1; subst r2
  obtain ⟨lv, hl1, hl2⟩ := id hl
  have := F.2.2.2.2.2.2.2.1
  exact va_mmax F.1 F.2.1 (F.2.2.1.trans hl1.1.symm) F.2.2.2.1 (F.2.2.2.2.1 _ h1) (F.2.2.2.2.1 _ h2) (F.2.2.2.2.1 _ h3) (F.2.2.2.2.1 _ h4) (Nat.le_trans hF F.2.2.2.2.2.2.1) (by rw [tsr_cat hs]; omega) (by omega) (by omega) hd (kk p e R s m args below meth c A H0 QQ F H locs cells slots ls _ ws tys hw hl ⟨_, _, rfl, rfl, hs⟩ hc hsl K)
end TTK
end
section
/-! TYPED HEAPS: a role for each place; what each role's cell holds. -/
abbrev tF : Type := (Int × Int) ⊕ (Nat × Bool)
def vty (τ : List Nat) (ft : tF) (v : tV) : Prop := match ft, v with
  | .inl (lo, hi), .inl x => lo ≤ x.toInt ∧ x.toInt ≤ hi
  | .inr (_, nu), .inr none => nu = true
  | .inr (r, _), .inr (some q) => τ[q]? = some r
  | _, _ => False
abbrev anyI : tF := .inl (-2147483648, 2147483647)
abbrev booI : tF := .inl (0, 1)
/-- the fields of the kinds of objects -/
def fts (N : Nat) (pk : Int) : Nat → List tF
  | 0 => [booI, booI, .inl (0, N - 1), .inl (0, N - 1), .inl (0, 60), .inr (13, false)]
  | 1 => [.inl (0, 4), .inl (0, 63), anyI, anyI, .inr (5, true), booI]
  | 2 => [.inr (12, false), .inl (0, 15), .inl (0, 16)]
  | 3 => [.inl (0, 7), anyI, anyI, anyI, anyI]
  | 4 => [.inl (0, N - 1), .inr (14, false), .inr (15, false), .inr (17, false), .inr (17, false), .inr (19, false), .inr (19, false), .inr (21, false), .inr (22, false)]
  | 5 => [.inl (0, 7), anyI, anyI, anyI]
  | 6 => [.inr (8, false), .inr (9, false), .inr (10, false), .inr (11, false), .inl (pk, pk), anyI, .inr (1, false)]
  | 7 => [anyI, .inl (N, N), .inr (32, false), .inr (33, false), .inr (34, false), .inr (35, false), .inr (36, false), .inr (37, false), .inr (38, false), .inr (39, false), .inr (40, false), .inr (41, false), .inr (42, false), .inr (43, false), .inr (44, false), .inr (45, false), .inr (46, false), anyI, .inr (48, false), .inr (49, false), .inr (50, false), .inr (51, false), .inr (52, false), .inr (53, false), .inl (0, 64), .inr (55, false), .inr (56, false), .inr (57, false), .inr (58, false), .inr (59, false), .inr (60, false)]
  | _ => []
/-- the kinds of arrays: type, length, what an element is -/
def ats (N : Nat) : Nat → Option (Nat × Nat × tF)
  | 8 => some (2, N, .inr (4, false))
  | 9 => some (3, 12, .inr (0, false))
  | 10 => some (0, 8, .inl (-1, N - 1))
  | 11 => some (4, 64, .inr (3, true))
  | 12 => some (7, 16, .inr (1, false))
  | 13 => some (6, 2, .inr (2, false))
  | 14 => some (5, 8, .inr (5, true))
  | 15 => some (8, 8, .inr (16, false))
  | 16 => some (0, 8, anyI)
  | 17 => some (8, 8, .inr (18, false))
  | 18 => some (0, 12, anyI)
  | 19 => some (0, 8, anyI)
  | 21 => some (0, 80, .inl (-1, 7))
  | 22 => some (0, 80, anyI)
  | 32 => some (1, 12, booI)
  | 33 => some (1, 12, booI)
  | 34 => some (0, 12, .inl (0, N - 1))
  | 35 => some (0, 12, .inl (0, N - 1))
  | 36 => some (0, 12, .inl (0, 60))
  | 37 => some (0, 8, .inl (-1, N - 1))
  | 38 => some (0, 64, anyI)
  | 39 => some (0, 64, anyI)
  | 40 => some (0, 64, anyI)
  | 41 => some (0, 24, .inl (0, 16))
  | 42 => some (0, 384, .inl (0, 4))
  | 43 => some (0, 384, .inl (0, 63))
  | 44 => some (0, 384, anyI)
  | 45 => some (0, 384, anyI)
  | 46 => some (1, 384, booI)
  | 48 => some (0, 768, .inl (-1, 79))
  | 49 => some (0, 768, anyI)
  | 50 => some (0, 64, .inl (-1, 79))
  | 51 => some (0, 64, anyI)
  | 52 => some (0, 512, .inl (0, 8))
  | 53 => some (0, 512, anyI)
  | 55 => some (0, 64, .inl (0, 7))
  | 56 => some (0, 64, anyI)
  | 57 => some (0, 64, anyI)
  | 58 => some (0, 64, anyI)
  | 59 => some (0, 64, anyI)
  | 60 => some (0, 64, anyI)
  | _ => none
/-- a message's kind and subject -/
def msgOK (pk : Int) (fs : List tV) : Prop := ∀ x y : Int32, fs[0]? = some (.inl x) → fs[1]? = some (.inl y) → (x.toInt ≠ 4 → y.toInt ≤ 7) ∧ (x.toInt = 4 → y.toInt < pk)
def conf (N : Nat) (pk : Int) (τ : List Nat) (r : Nat) (c : tC) : Prop := match c with
  | .inl (t, xs) => t < 2 ∧ ∃ (len : Nat) (ft : tF), ats N r = some (t, len, ft) ∧ xs.length = len ∧ ∀ x ∈ xs, vty τ ft (.inl x)
  | .inr (.inl (t, rs)) => 2 ≤ t ∧ (∃ (len : Nat) (ft : tF), ats N r = some (t, len, ft) ∧ rs.length = len ∧ ∀ q ∈ rs, vty τ ft (.inr q)) ∧ (r = 11 → ∀ j : Nat, rs[j]? = some none → pk ≤ j)
  | .inr (.inr (ci, fs)) => r = ci ∧ ci < 8 ∧ fs.length = (fts N pk ci).length ∧ (∀ (j : Nat) (ft : tF) (v : tV), (fts N pk ci)[j]? = some ft → fs[j]? = some v → vty τ ft v) ∧ (ci = 1 → msgOK pk fs)
def WT (N : Nat) (pk : Int) (τ : List Nat) (h : List tC) : Prop := h.length = τ.length ∧ ∀ (k r : Nat) (c : tC), τ[k]? = some r → h[k]? = some c → conf N pk τ r c
/-- what is kept: P says which fields (of arrays: place 0) -/
def Fr (P : Nat → Nat → Bool) (τ : List Nat) (h h' : List tC) : Prop := ∀ (k r : Nat), τ[k]? = some r → (∀ (ci : Nat) (fs : List tV), h[k]? = some (.inr (.inr (ci, fs))) → ∃ fs' : List tV, h'[k]? = some (.inr (.inr (ci, fs'))) ∧ ∀ j, P r j = true → fs'[j]? = fs[j]?) ∧ ((∀ (ci : Nat) (fs : List tV), h[k]? ≠ some (.inr (.inr (ci, fs)))) → (∀ (ci : Nat) (fs : List tV), h'[k]? ≠ some (.inr (.inr (ci, fs)))) ∧ (P r 0 = true → h'[k]? = h[k]?))
theorem Fr.rf {P : Nat → Nat → Bool} {τ : List Nat} {h : List tC} : Fr P τ h h := fun _ _ _ => ⟨fun _ fs hk => ⟨fs, hk, fun _ _ => rfl⟩, fun hk => ⟨hk, fun _ => rfl⟩⟩
theorem Fr.tr {P : Nat → Nat → Bool} {τ : List Nat} {h h1 h2 : List tC} (a : Fr P τ h h1) (b : Fr P τ h1 h2) : Fr P τ h h2 := by
  intro k r hk
  obtain ⟨a1, a2⟩ := a k r hk
  obtain ⟨b1, b2⟩ := b k r hk
  refine ⟨fun ci fs hf => ?_, fun hn => ?_⟩
  · obtain ⟨fs1, c1, c2⟩ := a1 ci fs hf
    obtain ⟨fs2, d1, d2⟩ := b1 ci fs1 c1
    exact ⟨fs2, d1, fun j hj => (d2 j hj).trans (c2 j hj)⟩
  · obtain ⟨c1, c2⟩ := a2 hn
    obtain ⟨d1, d2⟩ := b2 c1
    exact ⟨d1, fun hp => (d2 hp).trans (c2 hp)⟩
theorem Fr.weak {P P' : Nat → Nat → Bool} (hp : ∀ r j, P' r j = true → P r j = true) {τ : List Nat} {h h1 : List tC} (a : Fr P τ h h1) : Fr P' τ h h1 := by
  intro k r hk
  obtain ⟨a1, a2⟩ := a k r hk
  refine ⟨fun ci fs hf => ?_, fun hn => ?_⟩
  · obtain ⟨fs1, c1, c2⟩ := a1 ci fs hf
    exact ⟨fs1, c1, fun j hj => c2 j (hp _ _ hj)⟩
  · obtain ⟨c1, c2⟩ := a2 hn
    exact ⟨c1, fun h => c2 (hp _ _ h)⟩
theorem Fr.sub {P : Nat → Nat → Bool} {τ τ' : List Nat} (hp : tPre τ τ') {h h1 : List tC} (a : Fr P τ' h h1) : Fr P τ h h1 := by
  intro k r hk
  obtain ⟨x, rfl⟩ := hp
  exact a k r (by rw [List.getElem?_append_left (t_at hk)]; exact hk)
theorem tup {τ τ' : List Nat} (hp : tPre τ τ') {q r : Nat} (h : τ[q]? = some r) : τ'[q]? = some r := by
  obtain ⟨x, rfl⟩ := hp
  rw [List.getElem?_append_left (t_at h)]
  exact h
section WTL
variable {N : Nat} {pk : Int} {τ : List Nat} {h : List tC}
theorem wt_cell (hw : WT N pk τ h) {a r : Nat} (ht : τ[a]? = some r) : ∃ c, h[a]? = some c ∧ conf N pk τ r c := by
  have hlt : a < h.length := by rw [hw.1]; exact t_at ht
  exact ⟨h[a], List.getElem?_eq_getElem hlt, hw.2 a r _ ht (List.getElem?_eq_getElem hlt)⟩
theorem ats_lt {r : Nat} (h : r < 8) : ats N r = none := by
  match r, h with
  | 0, _ => rfl
  | 1, _ => rfl
  | 2, _ => rfl
  | 3, _ => rfl
  | 4, _ => rfl
  | 5, _ => rfl
  | 6, _ => rfl
  | 7, _ => rfl
theorem wt_obj (hw : WT N pk τ h) {a ci : Nat} (ht : τ[a]? = some ci) (hc : ci < 8) : ∃ fs, h[a]? = some (.inr (.inr (ci, fs))) ∧ fs.length = (fts N pk ci).length ∧ (∀ (j : Nat) (ft : tF), (fts N pk ci)[j]? = some ft → ∃ v, fs[j]? = some v ∧ vty τ ft v) ∧ (ci = 1 → msgOK pk fs) := by
  obtain ⟨c, h1, h2⟩ := wt_cell hw ht
  match c, h1, h2 with
  | .inl (t, xs), _, ⟨_, _, _, h3, _⟩ => rw [ats_lt hc] at h3; cases h3
  | .inr (.inl (t, rs)), _, ⟨_, ⟨_, _, h3, _⟩, _⟩ => rw [ats_lt hc] at h3; cases h3
  | .inr (.inr (ci', fs)), h1, ⟨h3, _, h4, h5, h6⟩ =>
    subst h3
    refine ⟨fs, h1, h4, fun j ft hj => ?_, h6⟩
    have hlt : j < fs.length := by rw [h4]; exact t_at hj
    exact ⟨fs[j], List.getElem?_eq_getElem hlt, h5 j ft _ hj (List.getElem?_eq_getElem hlt)⟩
theorem wt_ints (hw : WT N pk τ h) {a r t len : Nat} {ft : tF} (ht : τ[a]? = some r) (ha : ats N r = some (t, len, ft)) (h2 : t < 2) : ∃ xs, h[a]? = some (.inl (t, xs)) ∧ xs.length = len ∧ ∀ x ∈ xs, vty τ ft (.inl x) := by
  obtain ⟨c, h1, h3⟩ := wt_cell hw ht
  match c, h1, h3 with
  | .inl (t', xs), h1, ⟨_, len', ft', h4, h5, h6⟩ =>
    rw [ha] at h4
    cases h4
    exact ⟨xs, h1, h5, h6⟩
  | .inr (.inl (t', rs)), _, ⟨h4, ⟨_, _, h5, _⟩, _⟩ => rw [ha] at h5; cases h5; omega
  | .inr (.inr (ci', fs)), _, ⟨h4, h5, _⟩ => subst h4; rw [ats_lt h5] at ha; cases ha
theorem wt_refs (hw : WT N pk τ h) {a r t len : Nat} {ft : tF} (ht : τ[a]? = some r) (ha : ats N r = some (t, len, ft)) (h2 : 2 ≤ t) : ∃ rs, h[a]? = some (.inr (.inl (t, rs))) ∧ rs.length = len ∧ (∀ q ∈ rs, vty τ ft (.inr q)) ∧ (r = 11 → ∀ j : Nat, rs[j]? = some none → pk ≤ j) := by
  obtain ⟨c, h1, h3⟩ := wt_cell hw ht
  match c, h1, h3 with
  | .inl (t', xs), h1, ⟨h4, len', ft', h5, _, _⟩ => rw [ha] at h5; cases h5; omega
  | .inr (.inl (t', rs)), h1, ⟨_, ⟨len', ft', h4, h5, h6⟩, h7⟩ =>
    rw [ha] at h4
    cases h4
    exact ⟨rs, h1, h5, h6, h7⟩
  | .inr (.inr (ci', fs)), _, ⟨h4, h5, _⟩ => subst h4; rw [ats_lt h5] at ha; cases ha
theorem wt_set (hw : WT N pk τ h) {a r : Nat} (ht : τ[a]? = some r) {c : tC} (hc : conf N pk τ r c) : WT N pk τ (h.set a c) := by
  refine ⟨by rw [List.length_set]; exact hw.1, fun k r' c' hk hc' => ?_⟩
  by_cases e : a = k
  · subst e
    rw [ht] at hk
    cases hk
    rw [List.getElem?_set_self (by rw [hw.1]; exact t_at ht)] at hc'
    cases hc'
    exact hc
  · rw [List.getElem?_set_ne e] at hc'
    exact hw.2 k r' c' hk hc'
theorem wt_puto (hw : WT N pk τ h) {a ci k : Nat} (ht : τ[a]? = some ci) (hc : ci < 8) {fs : List tV} (hf : h[a]? = some (.inr (.inr (ci, fs)))) {ft : tF} (hk : (fts N pk ci)[k]? = some ft) {v : tV} (hv : vty τ ft v) (hm : ci = 1 → 2 ≤ k) : WT N pk τ (h.set a (.inr (.inr (ci, fs.set k v)))) := by
  obtain ⟨fs', h1, h2, h3, h4⟩ := wt_obj hw ht hc
  rw [hf] at h1
  cases h1
  refine wt_set hw ht ⟨rfl, hc, by rw [List.length_set]; exact h2, fun j ft' v' hj hv' => ?_, fun e x y hx hy => ?_⟩
  · by_cases e : k = j
    · subst e
      rw [hk] at hj
      cases hj
      rw [List.getElem?_set_self (by rw [h2]; exact t_at hk)] at hv'
      cases hv'
      exact hv
    · rw [List.getElem?_set_ne e] at hv'
      obtain ⟨v2, g1, g2⟩ := h3 j ft' hj
      rw [g1] at hv'
      cases hv'
      exact g2
  · have := hm e
    rw [List.getElem?_set_ne (by omega)] at hx hy
    exact h4 e x y hx hy
theorem fr_puto {P : Nat → Nat → Bool} (hlen : h.length = τ.length) {a r ci k : Nat} (ht : τ[a]? = some r) {fs : List tV} (hf : h[a]? = some (.inr (.inr (ci, fs)))) {v : tV} (hp : P r k = false) : Fr P τ h (h.set a (.inr (.inr (ci, fs.set k v)))) := by
  intro q r' hq
  by_cases e : a = q
  · subst e
    rw [ht] at hq
    cases hq
    refine ⟨fun ci' fs' hf' => ?_, fun hn => absurd hf (hn ci fs)⟩
    rw [hf] at hf'
    cases hf'
    refine ⟨_, List.getElem?_set_self (by rw [hlen]; exact t_at ht), fun j hj => ?_⟩
    rw [List.getElem?_set_ne]
    intro e
    subst e
    rw [hp] at hj
    cases hj
  · refine ⟨fun ci' fs' hf' => ⟨fs', by rw [List.getElem?_set_ne e]; exact hf', fun _ _ => rfl⟩, fun hn => ⟨fun ci' fs' => by rw [List.getElem?_set_ne e]; exact hn ci' fs', fun _ => by rw [List.getElem?_set_ne e]⟩⟩
theorem fr_puta {P : Nat → Nat → Bool} (hlen : h.length = τ.length) {a r : Nat} (ht : τ[a]? = some r) (hf : ∀ ci fs, h[a]? ≠ some (.inr (.inr (ci, fs)))) {c : tC} (hc : ∀ ci fs, c ≠ .inr (.inr (ci, fs))) (hp : P r 0 = false) : Fr P τ h (h.set a c) := by
  intro q r' hq
  by_cases e : a = q
  · subst e
    rw [ht] at hq
    cases hq
    refine ⟨fun ci' fs' hf' => absurd hf' (hf ci' fs'), fun hn => ⟨fun ci' fs' => ?_, fun hj => by rw [hp] at hj; cases hj⟩⟩
    rw [List.getElem?_set_self (by rw [hlen]; exact t_at ht)]
    intro z
    exact hc ci' fs' (Option.some.inj z)
  · refine ⟨fun ci' fs' hf' => ⟨fs', by rw [List.getElem?_set_ne e]; exact hf', fun _ _ => rfl⟩, fun hn => ⟨fun ci' fs' => by rw [List.getElem?_set_ne e]; exact hn ci' fs', fun _ => by rw [List.getElem?_set_ne e]⟩⟩
theorem wt_puti (hw : WT N pk τ h) {a r t len i : Nat} {ft : tF} (ht : τ[a]? = some r) (ha : ats N r = some (t, len, ft)) {xs : List Int32} (hx : h[a]? = some (.inl (t, xs))) {x : Int32} (hv : vty τ ft (.inl x)) : WT N pk τ (h.set a (.inl (t, xs.set i x))) := by
  have hc := hw.2 a r _ ht hx
  obtain ⟨h2, len', ft', h4, h5, h6⟩ := hc
  rw [ha] at h4
  cases h4
  refine wt_set hw ht ⟨h2, len, ft, ha, by rw [List.length_set]; exact h5, fun y hy => ?_⟩
  rcases List.mem_or_eq_of_mem_set hy with h | rfl
  · exact h6 y h
  · exact hv
end WTL
end
section
section TWR
variable {l : Launch} {D : va_G} {M : tM} {Q : Nat → tL → List tV → List tC → Prop} {kc ks pc : Nat} {loc : tL} {st : List tV} {h : List tC}
variable {N : Nat} {pk : Int} {τ : List Nat} {P : Nat → Nat → Bool}
theorem i_nn {i : Int32} (h : 0 ≤ i.toInt) : ¬ i < 0 := fun z => by have := Int32.lt_iff_toInt_lt.mp z; simp at this; omega
theorem i_lt {i : Int32} {n : Nat} (h0 : 0 ≤ i.toInt) (h : i.toInt < n) : i.toNatClampNeg < n := by show i.toInt.toNat < n; omega
-- fields
theorem tw_geti {idx ci k a : Nat} {ty : FieldType} {fin : Bool} {lo hi : Int} (hd : decode M.2.1 pc = .ok (.getfield idx, 3)) (hf : tFd M.1 idx ci k ty fin) (hw : WT N pk τ h) (ht : τ[a]? = some ci) (hc : ci < 8) (hft : (fts N pk ci)[k]? = some (.inl (lo, hi)))
    (kk : ∀ (fs : List tV) (x : Int32), h[a]? = some (.inr (.inr (ci, fs))) → fs[k]? = some (.inl x) → lo ≤ x.toInt → x.toInt ≤ hi → TT l D M Q kc ks (pc + 3) loc (.inl x :: st) h) : TT l D M Q kc ks pc loc (.inr (some a) :: st) h := by
  obtain ⟨fs, h1, h2, h3, h4⟩ := wt_obj hw ht hc
  obtain ⟨v, h5, h6⟩ := h3 k _ hft
  match v, h5, h6 with
  | .inl x, h5, h6 => exact tt_get hd hf h1 h5 (kk fs x h1 h5 h6.1 h6.2)
  | .inr none, _, h6 => exact h6.elim
  | .inr (some q), _, h6 => exact h6.elim
theorem tw_getr {idx ci k a r : Nat} {ty : FieldType} {fin : Bool} (hd : decode M.2.1 pc = .ok (.getfield idx, 3)) (hf : tFd M.1 idx ci k ty fin) (hw : WT N pk τ h) (ht : τ[a]? = some ci) (hc : ci < 8) (hft : (fts N pk ci)[k]? = some (.inr (r, false)))
    (kk : ∀ (fs : List tV) (q : Nat), h[a]? = some (.inr (.inr (ci, fs))) → fs[k]? = some (.inr (some q)) → τ[q]? = some r → TT l D M Q kc ks (pc + 3) loc (.inr (some q) :: st) h) : TT l D M Q kc ks pc loc (.inr (some a) :: st) h := by
  obtain ⟨fs, h1, h2, h3, h4⟩ := wt_obj hw ht hc
  obtain ⟨v, h5, h6⟩ := h3 k _ hft
  match v, h5, h6 with
  | .inl x, _, h6 => exact h6.elim
  | .inr none, _, h6 => cases h6
  | .inr (some q), h5, h6 => exact tt_get hd hf h1 h5 (kk fs q h1 h5 h6)
theorem tw_getn {idx ci k a r : Nat} {ty : FieldType} {fin nu : Bool} (hd : decode M.2.1 pc = .ok (.getfield idx, 3)) (hf : tFd M.1 idx ci k ty fin) (hw : WT N pk τ h) (ht : τ[a]? = some ci) (hc : ci < 8) (hft : (fts N pk ci)[k]? = some (.inr (r, nu)))
    (kk : ∀ (fs : List tV) (o : Option Nat), h[a]? = some (.inr (.inr (ci, fs))) → fs[k]? = some (.inr o) → (∀ q, o = some q → τ[q]? = some r) → TT l D M Q kc ks (pc + 3) loc (.inr o :: st) h) : TT l D M Q kc ks pc loc (.inr (some a) :: st) h := by
  obtain ⟨fs, h1, h2, h3, h4⟩ := wt_obj hw ht hc
  obtain ⟨v, h5, h6⟩ := h3 k _ hft
  match v, h5, h6 with
  | .inl x, _, h6 => exact h6.elim
  | .inr none, h5, h6 => exact tt_get hd hf h1 h5 (kk fs none h1 h5 (fun q z => by cases z))
  | .inr (some q), h5, h6 => exact tt_get hd hf h1 h5 (kk fs (some q) h1 h5 (fun q' z => by cases z; exact h6))
theorem tw_put {idx ci k a : Nat} {ty : FieldType} {ft : tF} {v : tV} (hd : decode M.2.1 pc = .ok (.putfield idx, 3)) (hf : tFd M.1 idx ci k ty false) (hw : WT N pk τ h) (ht : τ[a]? = some ci) (hc : ci < 8) (hft : (fts N pk ci)[k]? = some ft) (hv : vty τ ft v) (hvt : tfits ty v = true) (hm : ci = 1 → 2 ≤ k) (hp : P ci k = false)
    (kk : ∀ (fs : List tV) (h' : List tC), h[a]? = some (.inr (.inr (ci, fs))) → h'[a]? = some (.inr (.inr (ci, fs.set k v))) → k < fs.length → WT N pk τ h' → Fr P τ h h' → TT l D M Q kc ks (pc + 3) loc st h') : TT l D M Q kc ks pc loc (v :: .inr (some a) :: st) h := by
  obtain ⟨fs, h1, h2, h3, h4⟩ := wt_obj hw ht hc
  have hk : k < fs.length := by rw [h2]; exact t_at hft
  exact tt_put hd hf (Or.inl rfl) h1 hk hvt (kk fs _ h1 (List.getElem?_set_self (t_at h1)) hk (wt_puto hw ht hc h1 hft hv hm) (fr_puto hw.1 ht h1 hp))
-- arrays
theorem tw_ild {a r len : Nat} {lo hi : Int} {i : Int32} (hd : decode M.2.1 pc = .ok (.iaload, 1)) (hw : WT N pk τ h) (ht : τ[a]? = some r) (ha : ats N r = some (0, len, .inl (lo, hi))) (h0 : 0 ≤ i.toInt) (h1 : i.toInt < len)
    (kk : ∀ (xs : List Int32) (x : Int32), h[a]? = some (.inl (0, xs)) → xs[i.toNatClampNeg]? = some x → lo ≤ x.toInt → x.toInt ≤ hi → TT l D M Q kc ks (pc + 1) loc (.inl x :: st) h) : TT l D M Q kc ks pc loc (.inl i :: .inr (some a) :: st) h := by
  obtain ⟨xs, g1, g2, g3⟩ := wt_ints hw ht ha (by decide)
  have hlt : i.toNatClampNeg < xs.length := by rw [g2]; exact i_lt h0 h1
  have hx := List.getElem?_eq_getElem hlt
  have hb := g3 _ (List.getElem_mem hlt)
  exact tt_iald hd g1 (i_nn h0) hx (kk xs _ g1 hx hb.1 hb.2)
theorem tw_zld {a r len : Nat} {lo hi : Int} {i : Int32} (hd : decode M.2.1 pc = .ok (.baload, 1)) (hw : WT N pk τ h) (ht : τ[a]? = some r) (ha : ats N r = some (1, len, .inl (lo, hi))) (h0 : 0 ≤ i.toInt) (h1 : i.toInt < len)
    (kk : ∀ (xs : List Int32) (x : Int32), h[a]? = some (.inl (1, xs)) → xs[i.toNatClampNeg]? = some x → lo ≤ x.toInt → x.toInt ≤ hi → TT l D M Q kc ks (pc + 1) loc (.inl x :: st) h) : TT l D M Q kc ks pc loc (.inl i :: .inr (some a) :: st) h := by
  obtain ⟨xs, g1, g2, g3⟩ := wt_ints hw ht ha (by decide)
  have hlt : i.toNatClampNeg < xs.length := by rw [g2]; exact i_lt h0 h1
  have hx := List.getElem?_eq_getElem hlt
  have hb := g3 _ (List.getElem_mem hlt)
  exact tt_zald hd g1 (i_nn h0) hx (kk xs _ g1 hx hb.1 hb.2)
theorem tw_ist {a r len : Nat} {lo hi : Int} {i x : Int32} (hd : decode M.2.1 pc = .ok (.iastore, 1)) (hw : WT N pk τ h) (ht : τ[a]? = some r) (ha : ats N r = some (0, len, .inl (lo, hi))) (h0 : 0 ≤ i.toInt) (h1 : i.toInt < len) (b0 : lo ≤ x.toInt) (b1 : x.toInt ≤ hi) (hp : P r 0 = false)
    (kk : ∀ (xs : List Int32) (h' : List tC), h[a]? = some (.inl (0, xs)) → h'[a]? = some (.inl (0, xs.set i.toNatClampNeg x)) → i.toNatClampNeg < xs.length → WT N pk τ h' → Fr P τ h h' → TT l D M Q kc ks (pc + 1) loc st h') : TT l D M Q kc ks pc loc (.inl x :: .inl i :: .inr (some a) :: st) h := by
  obtain ⟨xs, g1, g2, g3⟩ := wt_ints hw ht ha (by decide)
  have hlt : i.toNatClampNeg < xs.length := by rw [g2]; exact i_lt h0 h1
  refine tt_iast hd g1 (i_nn h0) hlt (kk xs _ g1 (List.getElem?_set_self (t_at g1)) hlt (wt_puti hw ht ha g1 ⟨b0, b1⟩) (fr_puta hw.1 ht (fun ci fs z => ?_) (fun ci fs z => by cases z) hp))
  rw [g1] at z
  cases z
theorem tw_zst {a r len : Nat} {i x : Int32} (hd : decode M.2.1 pc = .ok (.bastore, 1)) (hw : WT N pk τ h) (ht : τ[a]? = some r) (ha : ats N r = some (1, len, booI)) (h0 : 0 ≤ i.toInt) (h1 : i.toInt < len) (b0 : 0 ≤ x.toInt) (b1 : x.toInt ≤ 1) (hp : P r 0 = false)
    (kk : ∀ (xs : List Int32) (h' : List tC), h[a]? = some (.inl (1, xs)) → h'[a]? = some (.inl (1, xs.set i.toNatClampNeg x)) → i.toNatClampNeg < xs.length → WT N pk τ h' → Fr P τ h h' → TT l D M Q kc ks (pc + 1) loc st h') : TT l D M Q kc ks pc loc (.inl x :: .inl i :: .inr (some a) :: st) h := by
  obtain ⟨xs, g1, g2, g3⟩ := wt_ints hw ht ha (by decide)
  have hlt : i.toNatClampNeg < xs.length := by rw [g2]; exact i_lt h0 h1
  have hx01 : x = 0 ∨ x = 1 := by
    have hx : x.toInt = 0 ∨ x.toInt = 1 := by omega
    rcases hx with hx | hx
    · exact Or.inl (Int32.toInt_inj.mp hx)
    · exact Or.inr (Int32.toInt_inj.mp hx)
  refine tt_zast hd g1 (i_nn h0) hlt hx01 (kk xs _ g1 (List.getElem?_set_self (t_at g1)) hlt (wt_puti hw ht ha g1 ⟨b0, b1⟩) (fr_puta hw.1 ht (fun ci fs z => ?_) (fun ci fs z => by cases z) hp))
  rw [g1] at z
  cases z
theorem tw_ald {a r t len r2 : Nat} {i : Int32} (hd : decode M.2.1 pc = .ok (.aaload, 1)) (hw : WT N pk τ h) (ht : τ[a]? = some r) (ha : ats N r = some (t, len, .inr (r2, false))) (h2 : 2 ≤ t) (h0 : 0 ≤ i.toInt) (h1 : i.toInt < len)
    (kk : ∀ (rs : List (Option Nat)) (q : Nat), h[a]? = some (.inr (.inl (t, rs))) → rs[i.toNatClampNeg]? = some (some q) → τ[q]? = some r2 → TT l D M Q kc ks (pc + 1) loc (.inr (some q) :: st) h) : TT l D M Q kc ks pc loc (.inl i :: .inr (some a) :: st) h := by
  obtain ⟨rs, g1, g2, g3, -⟩ := wt_refs hw ht ha h2
  have hlt : i.toNatClampNeg < rs.length := by rw [g2]; exact i_lt h0 h1
  have hx := List.getElem?_eq_getElem hlt
  have hb := g3 _ (List.getElem_mem hlt)
  generalize rs[i.toNatClampNeg] = v at hx hb
  match v, hx, hb with
  | none, _, hb => cases hb
  | some q, hx, hb => exact tt_aald hd g1 h2 (i_nn h0) hx (kk rs q g1 hx hb)
theorem tw_aldn {a r t len r2 : Nat} {nu : Bool} {i : Int32} (hd : decode M.2.1 pc = .ok (.aaload, 1)) (hw : WT N pk τ h) (ht : τ[a]? = some r) (ha : ats N r = some (t, len, .inr (r2, nu))) (h2 : 2 ≤ t) (h0 : 0 ≤ i.toInt) (h1 : i.toInt < len)
    (kk : ∀ (rs : List (Option Nat)) (o : Option Nat), h[a]? = some (.inr (.inl (t, rs))) → rs[i.toNatClampNeg]? = some o → (∀ q, o = some q → τ[q]? = some r2) → TT l D M Q kc ks (pc + 1) loc (.inr o :: st) h) : TT l D M Q kc ks pc loc (.inl i :: .inr (some a) :: st) h := by
  obtain ⟨rs, g1, g2, g3, -⟩ := wt_refs hw ht ha h2
  have hlt : i.toNatClampNeg < rs.length := by rw [g2]; exact i_lt h0 h1
  have hx := List.getElem?_eq_getElem hlt
  have hb := g3 _ (List.getElem_mem hlt)
  generalize rs[i.toNatClampNeg] = v at hx hb
  match v, hx, hb with
  | none, hx, hb => exact tt_aald hd g1 h2 (i_nn h0) hx (kk rs none g1 hx (fun q z => by cases z))
  | some q, hx, hb => exact tt_aald hd g1 h2 (i_nn h0) hx (kk rs (some q) g1 hx (fun q' z => by cases z; exact hb))
/-- a packet that there is -/
theorem tw_aldp {a : Nat} {i : Int32} (hd : decode M.2.1 pc = .ok (.aaload, 1)) (hw : WT N pk τ h) (ht : τ[a]? = some 11) (h0 : 0 ≤ i.toInt) (h1 : i.toInt < pk) (h64 : i.toInt < 64)
    (kk : ∀ (rs : List (Option Nat)) (q : Nat), h[a]? = some (.inr (.inl (4, rs))) → rs[i.toNatClampNeg]? = some (some q) → τ[q]? = some 3 → TT l D M Q kc ks (pc + 1) loc (.inr (some q) :: st) h) : TT l D M Q kc ks pc loc (.inl i :: .inr (some a) :: st) h := by
  obtain ⟨rs, g1, g2, g3, g4⟩ := wt_refs (r := 11) (t := 4) (len := 64) (ft := .inr (3, true)) hw ht rfl (by decide)
  have hlt : i.toNatClampNeg < rs.length := by rw [g2]; exact i_lt h0 (by omega)
  have hx := List.getElem?_eq_getElem hlt
  have hb := g3 _ (List.getElem_mem hlt)
  generalize rs[i.toNatClampNeg] = v at hx hb
  match v, hx, hb with
  | none, hx, _ =>
    have := g4 rfl _ hx
    have e : ((i.toNatClampNeg : Nat) : Int) = i.toInt := by show ((i.toInt.toNat : Nat) : Int) = _; omega
    omega
  | some q, hx, hb => exact tt_aald hd g1 (by decide) (i_nn h0) hx (kk rs q g1 hx hb)
theorem tw_ast {a b r t len r2 ci : Nat} {nu : Bool} {C : String} {T : u_T} {N' : Nat} {i : Int32} (hd : decode M.2.1 pc = .ok (.aastore, 1)) (hw : WT N pk τ h) (ht : τ[a]? = some r) (ha : ats N r = some (t, len, .inr (ci, nu))) (h2 : 2 ≤ t) (hb : τ[b]? = some ci) (hc : ci < 8) (hC : vwCl[ci]? = some (C, T, N')) (hat : tAty t = .object C) (h0 : 0 ≤ i.toInt) (h1 : i.toInt < len) (hp : P r 0 = false)
    (kk : ∀ (rs : List (Option Nat)) (h' : List tC), h[a]? = some (.inr (.inl (t, rs))) → h'[a]? = some (.inr (.inl (t, rs.set i.toNatClampNeg (some b)))) → i.toNatClampNeg < rs.length → WT N pk τ h' → Fr P τ h h' → TT l D M Q kc ks (pc + 1) loc st h') : TT l D M Q kc ks pc loc (.inr (some b) :: .inl i :: .inr (some a) :: st) h := by
  obtain ⟨rs, g1, g2, g3, g4⟩ := wt_refs hw ht ha h2
  obtain ⟨fs, k1, -⟩ := wt_obj hw hb hc
  have hlt : i.toNatClampNeg < rs.length := by rw [g2]; exact i_lt h0 h1
  refine tt_aast hd g1 k1 hC hat (i_nn h0) hlt (kk rs _ g1 (List.getElem?_set_self (t_at g1)) hlt (wt_set hw ht ⟨h2, ⟨len, _, ha, by rw [List.length_set]; exact g2, fun q hq => ?_⟩, fun e j hj => ?_⟩) (fr_puta hw.1 ht (fun ci fs z => by rw [g1] at z; cases z) (fun ci fs z => by cases z) hp))
  · rcases List.mem_or_eq_of_mem_set hq with h | rfl
    · exact g3 q h
    · exact hb
  · by_cases e2 : i.toNatClampNeg = j
    · subst e2
      rw [List.getElem?_set_self hlt] at hj
      cases hj
    · rw [List.getElem?_set_ne e2] at hj
      exact g4 e j hj
theorem tw_alen {a r t len : Nat} {ft : tF} (hd : decode M.2.1 pc = .ok (.arraylength, 1)) (hw : WT N pk τ h) (ht : τ[a]? = some r) (ha : ats N r = some (t, len, ft)) (h2 : 2 ≤ t) (hN : len ≤ 100000) (kk : ∀ x : Int32, x.toInt = len → TT l D M Q kc ks (pc + 1) loc (.inl x :: st) h) : TT l D M Q kc ks pc loc (.inr (some a) :: st) h := by
  obtain ⟨rs, g1, g2, g3, g4⟩ := wt_refs hw ht ha h2
  refine tt_alenr hd g1 (kk _ ?_)
  rw [g2]
  have : (Int32.ofNat len).toInt = len := Int32.toInt_ofNat_of_lt (by omega)
  exact this
-- ints
theorem i_add {x y : Int32} (h : -2147483648 ≤ x.toInt + y.toInt ∧ x.toInt + y.toInt ≤ 2147483647) : (x + y).toInt = x.toInt + y.toInt := by
  rw [Int32.toInt_add]
  exact Int.bmod_eq_of_le (by omega) (by omega)
theorem i_sub {x y : Int32} (h : -2147483648 ≤ x.toInt - y.toInt ∧ x.toInt - y.toInt ≤ 2147483647) : (x - y).toInt = x.toInt - y.toInt := by
  rw [Int32.toInt_sub]
  exact Int.bmod_eq_of_le (by omega) (by omega)
theorem i_mul {x y : Int32} (h : -2147483648 ≤ x.toInt * y.toInt ∧ x.toInt * y.toInt ≤ 2147483647) : (x * y).toInt = x.toInt * y.toInt := by
  rw [Int32.toInt_mul]
  exact Int.bmod_eq_of_le (by omega) (by omega)
theorem i_ty (x : Int32) : -2147483648 ≤ x.toInt ∧ x.toInt ≤ 2147483647 := by
  have h1 := Int32.le_toInt x
  have h2 := Int32.toInt_lt x
  omega
theorem tw_iadd {x y : Int32} (hd : decode M.2.1 pc = .ok (.iadd, 1)) (h1 : -2147483648 ≤ x.toInt + y.toInt ∧ x.toInt + y.toInt ≤ 2147483647) (k : ∀ z : Int32, z.toInt = x.toInt + y.toInt → TT l D M Q kc ks (pc + 1) loc (.inl z :: st) h) : TT l D M Q kc ks pc loc (.inl y :: .inl x :: st) h := tt_iadd hd (k _ (i_add h1))
theorem tw_isub {x y : Int32} (hd : decode M.2.1 pc = .ok (.isub, 1)) (h1 : -2147483648 ≤ x.toInt - y.toInt ∧ x.toInt - y.toInt ≤ 2147483647) (k : ∀ z : Int32, z.toInt = x.toInt - y.toInt → TT l D M Q kc ks (pc + 1) loc (.inl z :: st) h) : TT l D M Q kc ks pc loc (.inl y :: .inl x :: st) h := tt_isub hd (k _ (i_sub h1))
theorem tw_imul {x y : Int32} {c : Int} (hd : decode M.2.1 pc = .ok (.imul, 1)) (hc : x.toInt = c) (h1 : -2147483648 ≤ c * y.toInt ∧ c * y.toInt ≤ 2147483647) (k : ∀ z : Int32, z.toInt = c * y.toInt → TT l D M Q kc ks (pc + 1) loc (.inl z :: st) h) : TT l D M Q kc ks pc loc (.inl y :: .inl x :: st) h := tt_imul hd (k _ (by subst hc; exact i_mul h1))
theorem tw_any {x : Int32} (k : ∀ z : Int32, TT l D M Q kc ks pc loc (.inl z :: st) h) : TT l D M Q kc ks pc loc (.inl x :: st) h := k x
theorem tw_con {x : Int32} {c : Int} (hc : x.toInt = c) (k : ∀ z : Int32, z.toInt = c → TT l D M Q kc ks pc loc (.inl z :: st) h) : TT l D M Q kc ks pc loc (.inl x :: st) h := k x hc
theorem tcmp_eq {x y : Int32} : tcmp .eq x y ↔ x.toInt = y.toInt := Int32.toInt_inj.symm
theorem tcmp_ne {x y : Int32} : tcmp .ne x y ↔ x.toInt ≠ y.toInt := not_congr Int32.toInt_inj.symm
theorem tcmp_lt {x y : Int32} : tcmp .lt x y ↔ x.toInt < y.toInt := Int32.lt_iff_toInt_lt
theorem tcmp_ge {x y : Int32} : tcmp .ge x y ↔ y.toInt ≤ x.toInt := Int32.le_iff_toInt_le
theorem tcmp_gt {x y : Int32} : tcmp .gt x y ↔ y.toInt < x.toInt := Int32.lt_iff_toInt_lt
theorem tcmp_le {x y : Int32} : tcmp .le x y ↔ x.toInt ≤ y.toInt := Int32.le_iff_toInt_le
def tcmpZ (c : ClassFile.Cond) (x y : Int) : Prop := match c with
  | .eq => x = y
  | .ne => x ≠ y
  | .lt => x < y
  | .ge => y ≤ x
  | .gt => y < x
  | .le => x ≤ y
theorem tcmp_z {c : ClassFile.Cond} {x y : Int32} : tcmp c x y ↔ tcmpZ c x.toInt y.toInt := by
  cases c
  · exact tcmp_eq
  · exact tcmp_ne
  · exact tcmp_lt
  · exact tcmp_ge
  · exact tcmp_gt
  · exact tcmp_le
theorem tw_icmp {cd : ClassFile.Cond} {x y : Int32} {off : Int} {tgt : Nat} (hd : decode M.2.1 pc = .ok (.if_icmp cd off, 3)) (ht : (pc : Int) + off = (tgt : Int)) (k1 : tcmpZ cd x.toInt y.toInt → TT l D M Q kc ks tgt loc st h) (k2 : ¬ tcmpZ cd x.toInt y.toInt → TT l D M Q kc ks (pc + 3) loc st h) : TT l D M Q kc ks pc loc (.inl y :: .inl x :: st) h :=
  tt_icmp hd ht (fun z => k1 (tcmp_z.mp z)) (fun z => k2 (fun y => z (tcmp_z.mpr y)))
theorem tw_if {cd : ClassFile.Cond} {x : Int32} {off : Int} {tgt : Nat} (hd : decode M.2.1 pc = .ok (.ifCond cd off, 3)) (ht : (pc : Int) + off = (tgt : Int)) (k1 : tcmpZ cd x.toInt 0 → TT l D M Q kc ks tgt loc st h) (k2 : ¬ tcmpZ cd x.toInt 0 → TT l D M Q kc ks (pc + 3) loc st h) : TT l D M Q kc ks pc loc (.inl x :: st) h :=
  tt_if hd ht (fun z => k1 (by have := tcmp_z.mp z; exact this)) (fun z => k2 (fun y => z (tcmp_z.mpr y)))
theorem i_rem {x y : Int32} {c : Int} (hc : y.toInt = c) (h0 : 0 ≤ x.toInt) (h1 : 0 < c) : (x - x / y * y).toInt = x.toInt % c := by
  have hx := i_ty x
  have hd0 : 0 ≤ x.toInt / c := Int.ediv_nonneg h0 (by omega)
  have hd1 : x.toInt / c ≤ x.toInt := Int.ediv_le_self _ h0
  have hq : (x / y).toInt = x.toInt / c := by
    rw [Int32.toInt_div, hc, Int.tdiv_eq_ediv_of_nonneg h0]
    exact Int.bmod_eq_of_le (by omega) (by omega)
  have hm0 : x.toInt / c * c ≤ x.toInt := Int.ediv_mul_le _ (by omega)
  have hm1 : 0 ≤ x.toInt / c * c := Int.mul_nonneg hd0 (by omega)
  have hm : (x / y * y).toInt = x.toInt / c * c := by
    rw [← hq, ← hc]
    refine i_mul ?_
    rw [hq, hc]
    omega
  rw [i_sub (by rw [hm]; omega), hm, Int.emod_def, Int.mul_comm]
theorem tw_irem {x y : Int32} {c : Int} (hd : decode M.2.1 pc = .ok (.irem, 1)) (hc : y.toInt = c) (h0 : 0 ≤ x.toInt) (h1 : 0 < c) (k : ∀ z : Int32, z.toInt = x.toInt % c → TT l D M Q kc ks (pc + 1) loc (.inl z :: st) h) : TT l D M Q kc ks pc loc (.inl y :: .inl x :: st) h :=
  tt_irem hd (fun z => by subst z; simp at hc; omega) (k _ (i_rem hc h0 h1))
theorem tw_idiv {x y : Int32} {c : Int} (hd : decode M.2.1 pc = .ok (.idiv, 1)) (hc : y.toInt = c) (h0 : 0 ≤ x.toInt) (h1 : 0 < c) (k : ∀ z : Int32, z.toInt = x.toInt / c → TT l D M Q kc ks (pc + 1) loc (.inl z :: st) h) : TT l D M Q kc ks pc loc (.inl y :: .inl x :: st) h := by
  refine tt_idiv hd (fun z => by subst z; simp at hc; omega) (k _ ?_)
  have hx := i_ty x
  have hd0 : 0 ≤ x.toInt / c := Int.ediv_nonneg h0 (by omega)
  have hd1 : x.toInt / c ≤ x.toInt := Int.ediv_le_self _ h0
  rw [Int32.toInt_div, hc, Int.tdiv_eq_ediv_of_nonneg h0]
  exact Int.bmod_eq_of_le (by omega) (by omega)
end TWR
end
section
set_option maxRecDepth 20000 in
theorem uwX0 : ∀ w ∈ u_ws RX0 TX0 6, w ∈ lw_good := by
  show ∀ w ∈ [Cond.lays "LabelNet$Link" "LabelNet$Link" "laid" "Z", Cond.lays "LabelNet$Link" "LabelNet$Link" "up" "Z", Cond.lays "LabelNet$Link" "LabelNet$Link" "lower" "I", Cond.lays "LabelNet$Link" "LabelNet$Link" "greater" "I", Cond.lays "LabelNet$Link" "LabelNet$Link" "cost" "I", Cond.laysFinal "LabelNet$Link" "LabelNet$Link" "queues" "[LLabelNet$MessageQueue;"], w ∈ lw_good
  exact List.forall_mem_cons.mpr ⟨lw_good_of 244 (by decide +kernel) (by decide +kernel), List.forall_mem_cons.mpr ⟨lw_good_of 246 (by decide +kernel) (by decide +kernel), List.forall_mem_cons.mpr ⟨lw_good_of 248 (by decide +kernel) (by decide +kernel), List.forall_mem_cons.mpr ⟨lw_good_of 250 (by decide +kernel) (by decide +kernel), List.forall_mem_cons.mpr ⟨lw_good_of 252 (by decide +kernel) (by decide +kernel), List.forall_mem_cons.mpr ⟨lw_good_of 254 (by decide +kernel) (by decide +kernel), fun _ h => absurd h List.not_mem_nil⟩⟩⟩⟩⟩⟩
set_option maxRecDepth 20000 in
theorem clX0 : tCl 0 RX0 TX0 6 := ⟨rfl, uwX0, ⟨tyX0, tyX0_ok⟩, nmX0⟩
set_option maxRecDepth 20000 in
theorem uwX1 : ∀ w ∈ u_ws RX1 TX1 6, w ∈ lw_good := by
  show ∀ w ∈ [Cond.lays "LabelNet$Message" "LabelNet$Message" "kind" "I", Cond.lays "LabelNet$Message" "LabelNet$Message" "subject" "I", Cond.lays "LabelNet$Message" "LabelNet$Message" "value" "I", Cond.lays "LabelNet$Message" "LabelNet$Message" "path" "I", Cond.lays "LabelNet$Message" "LabelNet$Message" "record" "LLabelNet$RouterRecord;", Cond.lays "LabelNet$Message" "LabelNet$Message" "spoiled" "Z"], w ∈ lw_good
  exact List.forall_mem_cons.mpr ⟨lw_good_of 106 (by decide +kernel) (by decide +kernel), List.forall_mem_cons.mpr ⟨lw_good_of 108 (by decide +kernel) (by decide +kernel), List.forall_mem_cons.mpr ⟨lw_good_of 110 (by decide +kernel) (by decide +kernel), List.forall_mem_cons.mpr ⟨lw_good_of 112 (by decide +kernel) (by decide +kernel), List.forall_mem_cons.mpr ⟨lw_good_of 114 (by decide +kernel) (by decide +kernel), List.forall_mem_cons.mpr ⟨lw_good_of 116 (by decide +kernel) (by decide +kernel), fun _ h => absurd h List.not_mem_nil⟩⟩⟩⟩⟩⟩
set_option maxRecDepth 20000 in
theorem clX1 : tCl 1 RX1 TX1 6 := ⟨rfl, uwX1, ⟨tyX1, tyX1_ok⟩, nmX1⟩
set_option maxRecDepth 20000 in
theorem uwX2 : ∀ w ∈ u_ws RX2 TX2 3, w ∈ lw_good := by
  show ∀ w ∈ [Cond.laysFinal "LabelNet$MessageQueue" "LabelNet$MessageQueue" "slots" "[LLabelNet$Message;", Cond.lays "LabelNet$MessageQueue" "LabelNet$MessageQueue" "first" "I", Cond.lays "LabelNet$MessageQueue" "LabelNet$MessageQueue" "size" "I"], w ∈ lw_good
  exact List.forall_mem_cons.mpr ⟨lw_good_of 225 (by decide +kernel) (by decide +kernel), List.forall_mem_cons.mpr ⟨lw_good_of 227 (by decide +kernel) (by decide +kernel), List.forall_mem_cons.mpr ⟨lw_good_of 229 (by decide +kernel) (by decide +kernel), fun _ h => absurd h List.not_mem_nil⟩⟩⟩
set_option maxRecDepth 20000 in
theorem clX2 : tCl 2 RX2 TX2 3 := ⟨rfl, uwX2, ⟨tyX2, tyX2_ok⟩, nmX2⟩
set_option maxRecDepth 20000 in
theorem uwX3 : ∀ w ∈ u_ws RX3 TX3 5, w ∈ lw_good := by
  show ∀ w ∈ [Cond.laysFinal "LabelNet$Packet" "LabelNet$Packet" "prefix" "I", Cond.lays "LabelNet$Packet" "LabelNet$Packet" "ttl" "I", Cond.lays "LabelNet$Packet" "LabelNet$Packet" "router" "I", Cond.lays "LabelNet$Packet" "LabelNet$Packet" "label" "I", Cond.lays "LabelNet$Packet" "LabelNet$Packet" "fate" "I"], w ∈ lw_good
  exact List.forall_mem_cons.mpr ⟨lw_good_of 684 (by decide +kernel) (by decide +kernel), List.forall_mem_cons.mpr ⟨lw_good_of 686 (by decide +kernel) (by decide +kernel), List.forall_mem_cons.mpr ⟨lw_good_of 688 (by decide +kernel) (by decide +kernel), List.forall_mem_cons.mpr ⟨lw_good_of 690 (by decide +kernel) (by decide +kernel), List.forall_mem_cons.mpr ⟨lw_good_of 692 (by decide +kernel) (by decide +kernel), fun _ h => absurd h List.not_mem_nil⟩⟩⟩⟩⟩
set_option maxRecDepth 20000 in
theorem clX3 : tCl 3 RX3 TX3 5 := ⟨rfl, uwX3, ⟨tyX3, tyX3_ok⟩, nmX3⟩
set_option maxRecDepth 20000 in
theorem uwX4 : ∀ w ∈ u_ws RX4 TX4 9, w ∈ lw_good := by
  show ∀ w ∈ [Cond.laysFinal "LabelNet$Router" "LabelNet$Router" "id" "I", Cond.laysFinal "LabelNet$Router" "LabelNet$Router" "known" "[LLabelNet$RouterRecord;", Cond.laysFinal "LabelNet$Router" "LabelNet$Router" "distances" "[[I", Cond.laysFinal "LabelNet$Router" "LabelNet$Router" "mappedLabels" "[[I", Cond.laysFinal "LabelNet$Router" "LabelNet$Router" "mappedPaths" "[[I", Cond.laysFinal "LabelNet$Router" "LabelNet$Router" "labels" "[I", Cond.laysFinal "LabelNet$Router" "LabelNet$Router" "paths" "[I", Cond.laysFinal "LabelNet$Router" "LabelNet$Router" "users" "[I", Cond.laysFinal "LabelNet$Router" "LabelNet$Router" "unreleased" "[I"], w ∈ lw_good
  exact List.forall_mem_cons.mpr ⟨lw_good_of 187 (by decide +kernel) (by decide +kernel), List.forall_mem_cons.mpr ⟨lw_good_of 189 (by decide +kernel) (by decide +kernel), List.forall_mem_cons.mpr ⟨lw_good_of 191 (by decide +kernel) (by decide +kernel), List.forall_mem_cons.mpr ⟨lw_good_of 193 (by decide +kernel) (by decide +kernel), List.forall_mem_cons.mpr ⟨lw_good_of 195 (by decide +kernel) (by decide +kernel), List.forall_mem_cons.mpr ⟨lw_good_of 197 (by decide +kernel) (by decide +kernel), List.forall_mem_cons.mpr ⟨lw_good_of 199 (by decide +kernel) (by decide +kernel), List.forall_mem_cons.mpr ⟨lw_good_of 201 (by decide +kernel) (by decide +kernel), List.forall_mem_cons.mpr ⟨lw_good_of 203 (by decide +kernel) (by decide +kernel), fun _ h => absurd h List.not_mem_nil⟩⟩⟩⟩⟩⟩⟩⟩⟩
set_option maxRecDepth 20000 in
theorem clX4 : tCl 4 RX4 TX4 9 := ⟨rfl, uwX4, ⟨tyX4, tyX4_ok⟩, nmX4⟩
set_option maxRecDepth 20000 in
theorem uwX5 : ∀ w ∈ u_ws RX5 TX5 4, w ∈ lw_good := by
  show ∀ w ∈ [Cond.laysFinal "LabelNet$RouterRecord" "LabelNet$RouterRecord" "router" "I", Cond.laysFinal "LabelNet$RouterRecord" "LabelNet$RouterRecord" "number" "I", Cond.laysFinal "LabelNet$RouterRecord" "LabelNet$RouterRecord" "linkBits" "I", Cond.laysFinal "LabelNet$RouterRecord" "LabelNet$RouterRecord" "prefixBits" "I"], w ∈ lw_good
  exact List.forall_mem_cons.mpr ⟨lw_good_of 152 (by decide +kernel) (by decide +kernel), List.forall_mem_cons.mpr ⟨lw_good_of 154 (by decide +kernel) (by decide +kernel), List.forall_mem_cons.mpr ⟨lw_good_of 156 (by decide +kernel) (by decide +kernel), List.forall_mem_cons.mpr ⟨lw_good_of 158 (by decide +kernel) (by decide +kernel), fun _ h => absurd h List.not_mem_nil⟩⟩⟩⟩
set_option maxRecDepth 20000 in
theorem clX5 : tCl 5 RX5 TX5 4 := ⟨rfl, uwX5, ⟨tyX5, tyX5_ok⟩, nmX5⟩
set_option maxRecDepth 20000 in
theorem uwX6 : ∀ w ∈ u_ws RX6 TX6 7, w ∈ lw_good := by
  show ∀ w ∈ [Cond.laysFinal "LabelNet" "LabelNet" "routers" "[LLabelNet$Router;", Cond.laysFinal "LabelNet" "LabelNet" "links" "[LLabelNet$Link;", Cond.laysFinal "LabelNet" "LabelNet" "attachedTo" "[I", Cond.laysFinal "LabelNet" "LabelNet" "packets" "[LLabelNet$Packet;", Cond.lays "LabelNet" "LabelNet" "packetCount" "I", Cond.lays "LabelNet" "LabelNet" "lostMessages" "I", Cond.laysFinal "LabelNet" "LabelNet" "draft" "LLabelNet$Message;"], w ∈ lw_good
  exact List.forall_mem_cons.mpr ⟨lw_good_of 264 (by decide +kernel) (by decide +kernel), List.forall_mem_cons.mpr ⟨lw_good_of 266 (by decide +kernel) (by decide +kernel), List.forall_mem_cons.mpr ⟨lw_good_of 268 (by decide +kernel) (by decide +kernel), List.forall_mem_cons.mpr ⟨lw_good_of 270 (by decide +kernel) (by decide +kernel), List.forall_mem_cons.mpr ⟨lw_good_of 272 (by decide +kernel) (by decide +kernel), List.forall_mem_cons.mpr ⟨lw_good_of 274 (by decide +kernel) (by decide +kernel), List.forall_mem_cons.mpr ⟨lw_good_of 276 (by decide +kernel) (by decide +kernel), fun _ h => absurd h List.not_mem_nil⟩⟩⟩⟩⟩⟩⟩
set_option maxRecDepth 20000 in
theorem clX6 : tCl 6 RX6 TX6 7 := ⟨rfl, uwX6, ⟨tyX6, tyX6_ok⟩, nmX6⟩
set_option maxRecDepth 20000 in
theorem uwX7 : ∀ w ∈ u_ws RX7 TX7 31, w ∈ lw_good := by
  show ∀ w ∈ [Cond.lays "LabelNetModel" "LabelNetModel" "thrown" "I", Cond.laysFinal "LabelNetModel" "LabelNetModel" "routers" "I", Cond.laysFinal "LabelNetModel" "LabelNetModel" "laid" "[Z", Cond.laysFinal "LabelNetModel" "LabelNetModel" "up" "[Z", Cond.laysFinal "LabelNetModel" "LabelNetModel" "low" "[I", Cond.laysFinal "LabelNetModel" "LabelNetModel" "high" "[I", Cond.laysFinal "LabelNetModel" "LabelNetModel" "cost" "[I", Cond.laysFinal "LabelNetModel" "LabelNetModel" "attached" "[I", Cond.laysFinal "LabelNetModel" "LabelNetModel" "number" "[I", Cond.laysFinal "LabelNetModel" "LabelNetModel" "knownLinks" "[I", Cond.laysFinal "LabelNetModel" "LabelNetModel" "knownPrefixes" "[I", Cond.laysFinal "LabelNetModel" "LabelNetModel" "waiting" "[I", Cond.laysFinal "LabelNetModel" "LabelNetModel" "kinds" "[I", Cond.laysFinal "LabelNetModel" "LabelNetModel" "whose" "[I", Cond.laysFinal "LabelNetModel" "LabelNetModel" "what" "[I", Cond.laysFinal "LabelNetModel" "LabelNetModel" "body" "[I", Cond.laysFinal "LabelNetModel" "LabelNetModel" "spoiled" "[Z", Cond.lays "LabelNetModel" "LabelNetModel" "lost" "I", Cond.laysFinal "LabelNetModel" "LabelNetModel" "brought" "[I", Cond.laysFinal "LabelNetModel" "LabelNetModel" "broughtPath" "[I", Cond.laysFinal "LabelNetModel" "LabelNetModel" "label" "[I", Cond.laysFinal "LabelNetModel" "LabelNetModel" "path" "[I", Cond.laysFinal "LabelNetModel" "LabelNetModel" "use" "[I", Cond.laysFinal "LabelNetModel" "LabelNetModel" "owed" "[I", Cond.lays "LabelNetModel" "LabelNetModel" "packets" "I", Cond.laysFinal "LabelNetModel" "LabelNetModel" "prefixOf" "[I", Cond.laysFinal "LabelNetModel" "LabelNetModel" "ttl" "[I", Cond.laysFinal "LabelNetModel" "LabelNetModel" "at" "[I", Cond.laysFinal "LabelNetModel" "LabelNetModel" "fate" "[I", Cond.laysFinal "LabelNetModel" "LabelNetModel" "labelOf" "[I", Cond.laysFinal "LabelNetModel" "LabelNetModel" "far" "[I"], w ∈ lw_good
  exact List.forall_mem_cons.mpr ⟨lw_good_of 732 (by decide +kernel) (by decide +kernel), List.forall_mem_cons.mpr ⟨lw_good_of 734 (by decide +kernel) (by decide +kernel), List.forall_mem_cons.mpr ⟨lw_good_of 736 (by decide +kernel) (by decide +kernel), List.forall_mem_cons.mpr ⟨lw_good_of 738 (by decide +kernel) (by decide +kernel), List.forall_mem_cons.mpr ⟨lw_good_of 740 (by decide +kernel) (by decide +kernel), List.forall_mem_cons.mpr ⟨lw_good_of 742 (by decide +kernel) (by decide +kernel), List.forall_mem_cons.mpr ⟨lw_good_of 744 (by decide +kernel) (by decide +kernel), List.forall_mem_cons.mpr ⟨lw_good_of 746 (by decide +kernel) (by decide +kernel), List.forall_mem_cons.mpr ⟨lw_good_of 748 (by decide +kernel) (by decide +kernel), List.forall_mem_cons.mpr ⟨lw_good_of 750 (by decide +kernel) (by decide +kernel), List.forall_mem_cons.mpr ⟨lw_good_of 752 (by decide +kernel) (by decide +kernel), List.forall_mem_cons.mpr ⟨lw_good_of 754 (by decide +kernel) (by decide +kernel), List.forall_mem_cons.mpr ⟨lw_good_of 756 (by decide +kernel) (by decide +kernel), List.forall_mem_cons.mpr ⟨lw_good_of 758 (by decide +kernel) (by decide +kernel), List.forall_mem_cons.mpr ⟨lw_good_of 760 (by decide +kernel) (by decide +kernel), List.forall_mem_cons.mpr ⟨lw_good_of 762 (by decide +kernel) (by decide +kernel), List.forall_mem_cons.mpr ⟨lw_good_of 764 (by decide +kernel) (by decide +kernel), List.forall_mem_cons.mpr ⟨lw_good_of 766 (by decide +kernel) (by decide +kernel), List.forall_mem_cons.mpr ⟨lw_good_of 768 (by decide +kernel) (by decide +kernel), List.forall_mem_cons.mpr ⟨lw_good_of 770 (by decide +kernel) (by decide +kernel), List.forall_mem_cons.mpr ⟨lw_good_of 772 (by decide +kernel) (by decide +kernel), List.forall_mem_cons.mpr ⟨lw_good_of 774 (by decide +kernel) (by decide +kernel), List.forall_mem_cons.mpr ⟨lw_good_of 776 (by decide +kernel) (by decide +kernel), List.forall_mem_cons.mpr ⟨lw_good_of 778 (by decide +kernel) (by decide +kernel), List.forall_mem_cons.mpr ⟨lw_good_of 780 (by decide +kernel) (by decide +kernel), List.forall_mem_cons.mpr ⟨lw_good_of 782 (by decide +kernel) (by decide +kernel), List.forall_mem_cons.mpr ⟨lw_good_of 784 (by decide +kernel) (by decide +kernel), List.forall_mem_cons.mpr ⟨lw_good_of 786 (by decide +kernel) (by decide +kernel), List.forall_mem_cons.mpr ⟨lw_good_of 788 (by decide +kernel) (by decide +kernel), List.forall_mem_cons.mpr ⟨lw_good_of 790 (by decide +kernel) (by decide +kernel), List.forall_mem_cons.mpr ⟨lw_good_of 792 (by decide +kernel) (by decide +kernel), fun _ h => absurd h List.not_mem_nil⟩⟩⟩⟩⟩⟩⟩⟩⟩⟩⟩⟩⟩⟩⟩⟩⟩⟩⟩⟩⟩⟩⟩⟩⟩⟩⟩⟩⟩⟩⟩
set_option maxRecDepth 20000 in
theorem clX7 : tCl 7 RX7 TX7 31 := ⟨rfl, uwX7, ⟨tyX7, tyX7_ok⟩, nmX7⟩
set_option maxRecDepth 20000 in
theorem flX1_9 : tFd RX1 9 1 0 .int false := ⟨RX1, TX1, 6, clX1, by decide, lw_good_of 94 (by decide +kernel) (by decide +kernel), by decide +kernel, rfl, rfl⟩
set_option maxRecDepth 20000 in
theorem flX6_246 : tFd RX6 246 1 0 .int false := ⟨RX1, TX1, 6, clX1, by decide, lw_good_of 95 (by decide +kernel) (by decide +kernel), by decide +kernel, rfl, rfl⟩
set_option maxRecDepth 20000 in
theorem flX1_15 : tFd RX1 15 1 1 .int false := ⟨RX1, TX1, 6, clX1, by decide, lw_good_of 96 (by decide +kernel) (by decide +kernel), by decide +kernel, rfl, rfl⟩
set_option maxRecDepth 20000 in
theorem flX6_176 : tFd RX6 176 1 1 .int false := ⟨RX1, TX1, 6, clX1, by decide, lw_good_of 97 (by decide +kernel) (by decide +kernel), by decide +kernel, rfl, rfl⟩
set_option maxRecDepth 20000 in
theorem flX1_18 : tFd RX1 18 1 2 .int false := ⟨RX1, TX1, 6, clX1, by decide, lw_good_of 98 (by decide +kernel) (by decide +kernel), by decide +kernel, rfl, rfl⟩
set_option maxRecDepth 20000 in
theorem flX6_179 : tFd RX6 179 1 2 .int false := ⟨RX1, TX1, 6, clX1, by decide, lw_good_of 99 (by decide +kernel) (by decide +kernel), by decide +kernel, rfl, rfl⟩
set_option maxRecDepth 20000 in
theorem flX1_21 : tFd RX1 21 1 3 .int false := ⟨RX1, TX1, 6, clX1, by decide, lw_good_of 100 (by decide +kernel) (by decide +kernel), by decide +kernel, rfl, rfl⟩
set_option maxRecDepth 20000 in
theorem flX6_182 : tFd RX6 182 1 3 .int false := ⟨RX1, TX1, 6, clX1, by decide, lw_good_of 101 (by decide +kernel) (by decide +kernel), by decide +kernel, rfl, rfl⟩
set_option maxRecDepth 20000 in
theorem flX1_24 : tFd RX1 24 1 4 (.object "LabelNet$RouterRecord") false := ⟨RX1, TX1, 6, clX1, by decide, lw_good_of 102 (by decide +kernel) (by decide +kernel), by decide +kernel, rfl, rfl⟩
set_option maxRecDepth 20000 in
theorem flX6_323 : tFd RX6 323 1 4 (.object "LabelNet$RouterRecord") false := ⟨RX1, TX1, 6, clX1, by decide, lw_good_of 103 (by decide +kernel) (by decide +kernel), by decide +kernel, rfl, rfl⟩
set_option maxRecDepth 20000 in
theorem flX1_40 : tFd RX1 40 1 5 .boolean false := ⟨RX1, TX1, 6, clX1, by decide, lw_good_of 104 (by decide +kernel) (by decide +kernel), by decide +kernel, rfl, rfl⟩
set_option maxRecDepth 20000 in
theorem flX6_141 : tFd RX6 141 1 5 .boolean false := ⟨RX1, TX1, 6, clX1, by decide, lw_good_of 105 (by decide +kernel) (by decide +kernel), by decide +kernel, rfl, rfl⟩
set_option maxRecDepth 20000 in
theorem flX5_7 : tFd RX5 7 5 0 .int true := ⟨RX5, TX5, 4, clX5, by decide, lw_good_of 142 (by decide +kernel) (by decide +kernel), by decide +kernel, rfl, rfl⟩
set_option maxRecDepth 20000 in
theorem flX1_28 : tFd RX1 28 5 0 .int true := ⟨RX5, TX5, 4, clX5, by decide, lw_good_of 143 (by decide +kernel) (by decide +kernel), by decide +kernel, rfl, rfl⟩
set_option maxRecDepth 20000 in
theorem flX6_284 : tFd RX6 284 5 0 .int true := ⟨RX5, TX5, 4, clX5, by decide, lw_good_of 144 (by decide +kernel) (by decide +kernel), by decide +kernel, rfl, rfl⟩
set_option maxRecDepth 20000 in
theorem flX5_13 : tFd RX5 13 5 1 .int true := ⟨RX5, TX5, 4, clX5, by decide, lw_good_of 145 (by decide +kernel) (by decide +kernel), by decide +kernel, rfl, rfl⟩
set_option maxRecDepth 20000 in
theorem flX1_33 : tFd RX1 33 5 1 .int true := ⟨RX5, TX5, 4, clX5, by decide, lw_good_of 146 (by decide +kernel) (by decide +kernel), by decide +kernel, rfl, rfl⟩
set_option maxRecDepth 20000 in
theorem flX6_189 : tFd RX6 189 5 1 .int true := ⟨RX5, TX5, 4, clX5, by decide, lw_good_of 147 (by decide +kernel) (by decide +kernel), by decide +kernel, rfl, rfl⟩
set_option maxRecDepth 20000 in
theorem flX5_16 : tFd RX5 16 5 2 .int true := ⟨RX5, TX5, 4, clX5, by decide, lw_good_of 148 (by decide +kernel) (by decide +kernel), by decide +kernel, rfl, rfl⟩
set_option maxRecDepth 20000 in
theorem flX4_55 : tFd RX4 55 5 2 .int true := ⟨RX5, TX5, 4, clX5, by decide, lw_good_of 149 (by decide +kernel) (by decide +kernel), by decide +kernel, rfl, rfl⟩
set_option maxRecDepth 20000 in
theorem flX5_19 : tFd RX5 19 5 3 .int true := ⟨RX5, TX5, 4, clX5, by decide, lw_good_of 150 (by decide +kernel) (by decide +kernel), by decide +kernel, rfl, rfl⟩
set_option maxRecDepth 20000 in
theorem flX4_68 : tFd RX4 68 5 3 .int true := ⟨RX5, TX5, 4, clX5, by decide, lw_good_of 151 (by decide +kernel) (by decide +kernel), by decide +kernel, rfl, rfl⟩
set_option maxRecDepth 20000 in
theorem flX4_41 : tFd RX4 41 4 0 .int true := ⟨RX4, TX4, 9, clX4, by decide, lw_good_of 170 (by decide +kernel) (by decide +kernel), by decide +kernel, rfl, rfl⟩
set_option maxRecDepth 20000 in
theorem flX6_249 : tFd RX6 249 4 0 .int true := ⟨RX4, TX4, 9, clX4, by decide, lw_good_of 171 (by decide +kernel) (by decide +kernel), by decide +kernel, rfl, rfl⟩
set_option maxRecDepth 20000 in
theorem flX4_11 : tFd RX4 11 4 1 (.array (.object "LabelNet$RouterRecord")) true := ⟨RX4, TX4, 9, clX4, by decide, lw_good_of 172 (by decide +kernel) (by decide +kernel), by decide +kernel, rfl, rfl⟩
set_option maxRecDepth 20000 in
theorem flX6_185 : tFd RX6 185 4 1 (.array (.object "LabelNet$RouterRecord")) true := ⟨RX4, TX4, 9, clX4, by decide, lw_good_of 173 (by decide +kernel) (by decide +kernel), by decide +kernel, rfl, rfl⟩
set_option maxRecDepth 20000 in
theorem flX4_19 : tFd RX4 19 4 2 (.array (.array .int)) true := ⟨RX4, TX4, 9, clX4, by decide, lw_good_of 174 (by decide +kernel) (by decide +kernel), by decide +kernel, rfl, rfl⟩
set_option maxRecDepth 20000 in
theorem flX6_194 : tFd RX6 194 4 2 (.array (.array .int)) true := ⟨RX4, TX4, 9, clX4, by decide, lw_good_of 175 (by decide +kernel) (by decide +kernel), by decide +kernel, rfl, rfl⟩
set_option maxRecDepth 20000 in
theorem flX4_22 : tFd RX4 22 4 3 (.array (.array .int)) true := ⟨RX4, TX4, 9, clX4, by decide, lw_good_of 176 (by decide +kernel) (by decide +kernel), by decide +kernel, rfl, rfl⟩
set_option maxRecDepth 20000 in
theorem flX6_213 : tFd RX6 213 4 3 (.array (.array .int)) true := ⟨RX4, TX4, 9, clX4, by decide, lw_good_of 177 (by decide +kernel) (by decide +kernel), by decide +kernel, rfl, rfl⟩
set_option maxRecDepth 20000 in
theorem flX4_25 : tFd RX4 25 4 4 (.array (.array .int)) true := ⟨RX4, TX4, 9, clX4, by decide, lw_good_of 178 (by decide +kernel) (by decide +kernel), by decide +kernel, rfl, rfl⟩
set_option maxRecDepth 20000 in
theorem flX6_220 : tFd RX6 220 4 4 (.array (.array .int)) true := ⟨RX4, TX4, 9, clX4, by decide, lw_good_of 179 (by decide +kernel) (by decide +kernel), by decide +kernel, rfl, rfl⟩
set_option maxRecDepth 20000 in
theorem flX4_28 : tFd RX4 28 4 5 (.array .int) true := ⟨RX4, TX4, 9, clX4, by decide, lw_good_of 180 (by decide +kernel) (by decide +kernel), by decide +kernel, rfl, rfl⟩
set_option maxRecDepth 20000 in
theorem flX6_207 : tFd RX6 207 4 5 (.array .int) true := ⟨RX4, TX4, 9, clX4, by decide, lw_good_of 181 (by decide +kernel) (by decide +kernel), by decide +kernel, rfl, rfl⟩
set_option maxRecDepth 20000 in
theorem flX4_32 : tFd RX4 32 4 6 (.array .int) true := ⟨RX4, TX4, 9, clX4, by decide, lw_good_of 182 (by decide +kernel) (by decide +kernel), by decide +kernel, rfl, rfl⟩
set_option maxRecDepth 20000 in
theorem flX6_210 : tFd RX6 210 4 6 (.array .int) true := ⟨RX4, TX4, 9, clX4, by decide, lw_good_of 183 (by decide +kernel) (by decide +kernel), by decide +kernel, rfl, rfl⟩
set_option maxRecDepth 20000 in
theorem flX4_35 : tFd RX4 35 4 7 (.array .int) true := ⟨RX4, TX4, 9, clX4, by decide, lw_good_of 184 (by decide +kernel) (by decide +kernel), by decide +kernel, rfl, rfl⟩
set_option maxRecDepth 20000 in
theorem flX4_38 : tFd RX4 38 4 8 (.array .int) true := ⟨RX4, TX4, 9, clX4, by decide, lw_good_of 185 (by decide +kernel) (by decide +kernel), by decide +kernel, rfl, rfl⟩
set_option maxRecDepth 20000 in
theorem flX6_305 : tFd RX6 305 4 8 (.array .int) true := ⟨RX4, TX4, 9, clX4, by decide, lw_good_of 186 (by decide +kernel) (by decide +kernel), by decide +kernel, rfl, rfl⟩
set_option maxRecDepth 20000 in
theorem flX2_11 : tFd RX2 11 2 0 (.array (.object "LabelNet$Message")) true := ⟨RX2, TX2, 3, clX2, by decide, lw_good_of 221 (by decide +kernel) (by decide +kernel), by decide +kernel, rfl, rfl⟩
set_option maxRecDepth 20000 in
theorem flX2_17 : tFd RX2 17 2 1 .int false := ⟨RX2, TX2, 3, clX2, by decide, lw_good_of 222 (by decide +kernel) (by decide +kernel), by decide +kernel, rfl, rfl⟩
set_option maxRecDepth 20000 in
theorem flX2_21 : tFd RX2 21 2 2 .int false := ⟨RX2, TX2, 3, clX2, by decide, lw_good_of 223 (by decide +kernel) (by decide +kernel), by decide +kernel, rfl, rfl⟩
set_option maxRecDepth 20000 in
theorem flX6_170 : tFd RX6 170 2 2 .int false := ⟨RX2, TX2, 3, clX2, by decide, lw_good_of 224 (by decide +kernel) (by decide +kernel), by decide +kernel, rfl, rfl⟩
set_option maxRecDepth 20000 in
theorem flX0_9 : tFd RX0 9 0 0 .boolean false := ⟨RX0, TX0, 6, clX0, by decide, lw_good_of 232 (by decide +kernel) (by decide +kernel), by decide +kernel, rfl, rfl⟩
set_option maxRecDepth 20000 in
theorem flX6_72 : tFd RX6 72 0 0 .boolean false := ⟨RX0, TX0, 6, clX0, by decide, lw_good_of 233 (by decide +kernel) (by decide +kernel), by decide +kernel, rfl, rfl⟩
set_option maxRecDepth 20000 in
theorem flX0_15 : tFd RX0 15 0 1 .boolean false := ⟨RX0, TX0, 6, clX0, by decide, lw_good_of 234 (by decide +kernel) (by decide +kernel), by decide +kernel, rfl, rfl⟩
set_option maxRecDepth 20000 in
theorem flX6_92 : tFd RX6 92 0 1 .boolean false := ⟨RX0, TX0, 6, clX0, by decide, lw_good_of 235 (by decide +kernel) (by decide +kernel), by decide +kernel, rfl, rfl⟩
set_option maxRecDepth 20000 in
theorem flX0_18 : tFd RX0 18 0 2 .int false := ⟨RX0, TX0, 6, clX0, by decide, lw_good_of 236 (by decide +kernel) (by decide +kernel), by decide +kernel, rfl, rfl⟩
set_option maxRecDepth 20000 in
theorem flX6_81 : tFd RX6 81 0 2 .int false := ⟨RX0, TX0, 6, clX0, by decide, lw_good_of 237 (by decide +kernel) (by decide +kernel), by decide +kernel, rfl, rfl⟩
set_option maxRecDepth 20000 in
theorem flX0_22 : tFd RX0 22 0 3 .int false := ⟨RX0, TX0, 6, clX0, by decide, lw_good_of 238 (by decide +kernel) (by decide +kernel), by decide +kernel, rfl, rfl⟩
set_option maxRecDepth 20000 in
theorem flX6_84 : tFd RX6 84 0 3 .int false := ⟨RX0, TX0, 6, clX0, by decide, lw_good_of 239 (by decide +kernel) (by decide +kernel), by decide +kernel, rfl, rfl⟩
set_option maxRecDepth 20000 in
theorem flX0_25 : tFd RX0 25 0 4 .int false := ⟨RX0, TX0, 6, clX0, by decide, lw_good_of 240 (by decide +kernel) (by decide +kernel), by decide +kernel, rfl, rfl⟩
set_option maxRecDepth 20000 in
theorem flX6_87 : tFd RX6 87 0 4 .int false := ⟨RX0, TX0, 6, clX0, by decide, lw_good_of 241 (by decide +kernel) (by decide +kernel), by decide +kernel, rfl, rfl⟩
set_option maxRecDepth 20000 in
theorem flX0_30 : tFd RX0 30 0 5 (.array (.object "LabelNet$MessageQueue")) true := ⟨RX0, TX0, 6, clX0, by decide, lw_good_of 242 (by decide +kernel) (by decide +kernel), by decide +kernel, rfl, rfl⟩
set_option maxRecDepth 20000 in
theorem flX6_131 : tFd RX6 131 0 5 (.array (.object "LabelNet$MessageQueue")) true := ⟨RX0, TX0, 6, clX0, by decide, lw_good_of 243 (by decide +kernel) (by decide +kernel), by decide +kernel, rfl, rfl⟩
set_option maxRecDepth 20000 in
theorem flX6_50 : tFd RX6 50 6 0 (.array (.object "LabelNet$Router")) true := ⟨RX6, TX6, 7, clX6, by decide, lw_good_of 257 (by decide +kernel) (by decide +kernel), by decide +kernel, rfl, rfl⟩
set_option maxRecDepth 20000 in
theorem flX6_11 : tFd RX6 11 6 1 (.array (.object "LabelNet$Link")) true := ⟨RX6, TX6, 7, clX6, by decide, lw_good_of 258 (by decide +kernel) (by decide +kernel), by decide +kernel, rfl, rfl⟩
set_option maxRecDepth 20000 in
theorem flX6_15 : tFd RX6 15 6 2 (.array .int) true := ⟨RX6, TX6, 7, clX6, by decide, lw_good_of 259 (by decide +kernel) (by decide +kernel), by decide +kernel, rfl, rfl⟩
set_option maxRecDepth 20000 in
theorem flX6_21 : tFd RX6 21 6 3 (.array (.object "LabelNet$Packet")) true := ⟨RX6, TX6, 7, clX6, by decide, lw_good_of 260 (by decide +kernel) (by decide +kernel), by decide +kernel, rfl, rfl⟩
set_option maxRecDepth 20000 in
theorem flX6_25 : tFd RX6 25 6 4 .int false := ⟨RX6, TX6, 7, clX6, by decide, lw_good_of 261 (by decide +kernel) (by decide +kernel), by decide +kernel, rfl, rfl⟩
set_option maxRecDepth 20000 in
theorem flX6_29 : tFd RX6 29 6 5 .int false := ⟨RX6, TX6, 7, clX6, by decide, lw_good_of 262 (by decide +kernel) (by decide +kernel), by decide +kernel, rfl, rfl⟩
set_option maxRecDepth 20000 in
theorem flX6_35 : tFd RX6 35 6 6 (.object "LabelNet$Message") true := ⟨RX6, TX6, 7, clX6, by decide, lw_good_of 263 (by decide +kernel) (by decide +kernel), by decide +kernel, rfl, rfl⟩
set_option maxRecDepth 20000 in
theorem flX3_21 : tFd RX3 21 3 0 .int true := ⟨RX3, TX3, 5, clX3, by decide, lw_good_of 674 (by decide +kernel) (by decide +kernel), by decide +kernel, rfl, rfl⟩
set_option maxRecDepth 20000 in
theorem flX6_167 : tFd RX6 167 3 0 .int true := ⟨RX3, TX3, 5, clX3, by decide, lw_good_of 675 (by decide +kernel) (by decide +kernel), by decide +kernel, rfl, rfl⟩
set_option maxRecDepth 20000 in
theorem flX3_24 : tFd RX3 24 3 1 .int false := ⟨RX3, TX3, 5, clX3, by decide, lw_good_of 676 (by decide +kernel) (by decide +kernel), by decide +kernel, rfl, rfl⟩
set_option maxRecDepth 20000 in
theorem flX6_161 : tFd RX6 161 3 1 .int false := ⟨RX3, TX3, 5, clX3, by decide, lw_good_of 677 (by decide +kernel) (by decide +kernel), by decide +kernel, rfl, rfl⟩
set_option maxRecDepth 20000 in
theorem flX3_9 : tFd RX3 9 3 2 .int false := ⟨RX3, TX3, 5, clX3, by decide, lw_good_of 678 (by decide +kernel) (by decide +kernel), by decide +kernel, rfl, rfl⟩
set_option maxRecDepth 20000 in
theorem flX6_158 : tFd RX6 158 3 2 .int false := ⟨RX3, TX3, 5, clX3, by decide, lw_good_of 679 (by decide +kernel) (by decide +kernel), by decide +kernel, rfl, rfl⟩
set_option maxRecDepth 20000 in
theorem flX3_15 : tFd RX3 15 3 3 .int false := ⟨RX3, TX3, 5, clX3, by decide, lw_good_of 680 (by decide +kernel) (by decide +kernel), by decide +kernel, rfl, rfl⟩
set_option maxRecDepth 20000 in
theorem flX6_164 : tFd RX6 164 3 3 .int false := ⟨RX3, TX3, 5, clX3, by decide, lw_good_of 681 (by decide +kernel) (by decide +kernel), by decide +kernel, rfl, rfl⟩
set_option maxRecDepth 20000 in
theorem flX3_18 : tFd RX3 18 3 4 .int false := ⟨RX3, TX3, 5, clX3, by decide, lw_good_of 682 (by decide +kernel) (by decide +kernel), by decide +kernel, rfl, rfl⟩
set_option maxRecDepth 20000 in
theorem flX6_155 : tFd RX6 155 3 4 .int false := ⟨RX3, TX3, 5, clX3, by decide, lw_good_of 683 (by decide +kernel) (by decide +kernel), by decide +kernel, rfl, rfl⟩
set_option maxRecDepth 20000 in
theorem flX7_96 : tFd RX7 96 7 0 .int false := ⟨RX7, TX7, 31, clX7, by decide, lw_good_of 701 (by decide +kernel) (by decide +kernel), by decide +kernel, rfl, rfl⟩
set_option maxRecDepth 20000 in
theorem flX7_92 : tFd RX7 92 7 1 .int true := ⟨RX7, TX7, 31, clX7, by decide, lw_good_of 702 (by decide +kernel) (by decide +kernel), by decide +kernel, rfl, rfl⟩
set_option maxRecDepth 20000 in
theorem flX7_7 : tFd RX7 7 7 2 (.array .boolean) true := ⟨RX7, TX7, 31, clX7, by decide, lw_good_of 703 (by decide +kernel) (by decide +kernel), by decide +kernel, rfl, rfl⟩
set_option maxRecDepth 20000 in
theorem flX7_13 : tFd RX7 13 7 3 (.array .boolean) true := ⟨RX7, TX7, 31, clX7, by decide, lw_good_of 704 (by decide +kernel) (by decide +kernel), by decide +kernel, rfl, rfl⟩
set_option maxRecDepth 20000 in
theorem flX7_16 : tFd RX7 16 7 4 (.array .int) true := ⟨RX7, TX7, 31, clX7, by decide, lw_good_of 705 (by decide +kernel) (by decide +kernel), by decide +kernel, rfl, rfl⟩
set_option maxRecDepth 20000 in
theorem flX7_20 : tFd RX7 20 7 5 (.array .int) true := ⟨RX7, TX7, 31, clX7, by decide, lw_good_of 706 (by decide +kernel) (by decide +kernel), by decide +kernel, rfl, rfl⟩
set_option maxRecDepth 20000 in
theorem flX7_23 : tFd RX7 23 7 6 (.array .int) true := ⟨RX7, TX7, 31, clX7, by decide, lw_good_of 707 (by decide +kernel) (by decide +kernel), by decide +kernel, rfl, rfl⟩
set_option maxRecDepth 20000 in
theorem flX7_26 : tFd RX7 26 7 7 (.array .int) true := ⟨RX7, TX7, 31, clX7, by decide, lw_good_of 708 (by decide +kernel) (by decide +kernel), by decide +kernel, rfl, rfl⟩
set_option maxRecDepth 20000 in
theorem flX7_29 : tFd RX7 29 7 8 (.array .int) true := ⟨RX7, TX7, 31, clX7, by decide, lw_good_of 709 (by decide +kernel) (by decide +kernel), by decide +kernel, rfl, rfl⟩
set_option maxRecDepth 20000 in
theorem flX7_32 : tFd RX7 32 7 9 (.array .int) true := ⟨RX7, TX7, 31, clX7, by decide, lw_good_of 710 (by decide +kernel) (by decide +kernel), by decide +kernel, rfl, rfl⟩
set_option maxRecDepth 20000 in
theorem flX7_35 : tFd RX7 35 7 10 (.array .int) true := ⟨RX7, TX7, 31, clX7, by decide, lw_good_of 711 (by decide +kernel) (by decide +kernel), by decide +kernel, rfl, rfl⟩
set_option maxRecDepth 20000 in
theorem flX7_38 : tFd RX7 38 7 11 (.array .int) true := ⟨RX7, TX7, 31, clX7, by decide, lw_good_of 712 (by decide +kernel) (by decide +kernel), by decide +kernel, rfl, rfl⟩
set_option maxRecDepth 20000 in
theorem flX7_41 : tFd RX7 41 7 12 (.array .int) true := ⟨RX7, TX7, 31, clX7, by decide, lw_good_of 713 (by decide +kernel) (by decide +kernel), by decide +kernel, rfl, rfl⟩
set_option maxRecDepth 20000 in
theorem flX7_44 : tFd RX7 44 7 13 (.array .int) true := ⟨RX7, TX7, 31, clX7, by decide, lw_good_of 714 (by decide +kernel) (by decide +kernel), by decide +kernel, rfl, rfl⟩
set_option maxRecDepth 20000 in
theorem flX7_47 : tFd RX7 47 7 14 (.array .int) true := ⟨RX7, TX7, 31, clX7, by decide, lw_good_of 715 (by decide +kernel) (by decide +kernel), by decide +kernel, rfl, rfl⟩
set_option maxRecDepth 20000 in
theorem flX7_50 : tFd RX7 50 7 15 (.array .int) true := ⟨RX7, TX7, 31, clX7, by decide, lw_good_of 716 (by decide +kernel) (by decide +kernel), by decide +kernel, rfl, rfl⟩
set_option maxRecDepth 20000 in
theorem flX7_53 : tFd RX7 53 7 16 (.array .boolean) true := ⟨RX7, TX7, 31, clX7, by decide, lw_good_of 717 (by decide +kernel) (by decide +kernel), by decide +kernel, rfl, rfl⟩
set_option maxRecDepth 20000 in
theorem flX7_107 : tFd RX7 107 7 17 .int false := ⟨RX7, TX7, 31, clX7, by decide, lw_good_of 718 (by decide +kernel) (by decide +kernel), by decide +kernel, rfl, rfl⟩
set_option maxRecDepth 20000 in
theorem flX7_56 : tFd RX7 56 7 18 (.array .int) true := ⟨RX7, TX7, 31, clX7, by decide, lw_good_of 719 (by decide +kernel) (by decide +kernel), by decide +kernel, rfl, rfl⟩
set_option maxRecDepth 20000 in
theorem flX7_59 : tFd RX7 59 7 19 (.array .int) true := ⟨RX7, TX7, 31, clX7, by decide, lw_good_of 720 (by decide +kernel) (by decide +kernel), by decide +kernel, rfl, rfl⟩
set_option maxRecDepth 20000 in
theorem flX7_62 : tFd RX7 62 7 20 (.array .int) true := ⟨RX7, TX7, 31, clX7, by decide, lw_good_of 721 (by decide +kernel) (by decide +kernel), by decide +kernel, rfl, rfl⟩
set_option maxRecDepth 20000 in
theorem flX7_65 : tFd RX7 65 7 21 (.array .int) true := ⟨RX7, TX7, 31, clX7, by decide, lw_good_of 722 (by decide +kernel) (by decide +kernel), by decide +kernel, rfl, rfl⟩
set_option maxRecDepth 20000 in
theorem flX7_68 : tFd RX7 68 7 22 (.array .int) true := ⟨RX7, TX7, 31, clX7, by decide, lw_good_of 723 (by decide +kernel) (by decide +kernel), by decide +kernel, rfl, rfl⟩
set_option maxRecDepth 20000 in
theorem flX7_71 : tFd RX7 71 7 23 (.array .int) true := ⟨RX7, TX7, 31, clX7, by decide, lw_good_of 724 (by decide +kernel) (by decide +kernel), by decide +kernel, rfl, rfl⟩
set_option maxRecDepth 20000 in
theorem flX7_218 : tFd RX7 218 7 24 .int false := ⟨RX7, TX7, 31, clX7, by decide, lw_good_of 725 (by decide +kernel) (by decide +kernel), by decide +kernel, rfl, rfl⟩
set_option maxRecDepth 20000 in
theorem flX7_74 : tFd RX7 74 7 25 (.array .int) true := ⟨RX7, TX7, 31, clX7, by decide, lw_good_of 726 (by decide +kernel) (by decide +kernel), by decide +kernel, rfl, rfl⟩
set_option maxRecDepth 20000 in
theorem flX7_77 : tFd RX7 77 7 26 (.array .int) true := ⟨RX7, TX7, 31, clX7, by decide, lw_good_of 727 (by decide +kernel) (by decide +kernel), by decide +kernel, rfl, rfl⟩
set_option maxRecDepth 20000 in
theorem flX7_80 : tFd RX7 80 7 27 (.array .int) true := ⟨RX7, TX7, 31, clX7, by decide, lw_good_of 728 (by decide +kernel) (by decide +kernel), by decide +kernel, rfl, rfl⟩
set_option maxRecDepth 20000 in
theorem flX7_83 : tFd RX7 83 7 28 (.array .int) true := ⟨RX7, TX7, 31, clX7, by decide, lw_good_of 729 (by decide +kernel) (by decide +kernel), by decide +kernel, rfl, rfl⟩
set_option maxRecDepth 20000 in
theorem flX7_86 : tFd RX7 86 7 29 (.array .int) true := ⟨RX7, TX7, 31, clX7, by decide, lw_good_of 730 (by decide +kernel) (by decide +kernel), by decide +kernel, rfl, rfl⟩
set_option maxRecDepth 20000 in
theorem flX7_89 : tFd RX7 89 7 30 (.array .int) true := ⟨RX7, TX7, 31, clX7, by decide, lw_good_of 731 (by decide +kernel) (by decide +kernel), by decide +kernel, rfl, rfl⟩
-- other: methodLink "LabelNet" 1 <"java/lang/Object"."<init>"."()V">
-- other: methodLink "LabelNet$Message" 3 <"java/lang/Object"."<init>"."()V">
-- other: methodLink "LabelNet" 39 <"java/lang/Math"."min"."(II)I">
-- other: methodLink "LabelNet" 45 <"java/lang/Math"."max"."(II)I">
set_option maxRecDepth 20000 in
theorem lkX6_54 : tLk RX6 54 yX4_init cX4_init 4 none 1 := ⟨lw_good_of 129 (by decide +kernel) (by decide +kernel), lw_good_of 65 (by decide +kernel) (by decide +kernel), lw_good_of 131 (by decide +kernel) (by decide +kernel), by decide +kernel⟩
-- other: methodLink "LabelNet$Router" 3 <"java/lang/Object"."<init>"."()V">
set_option maxRecDepth 20000 in
theorem lkX4_45 : tLk RX4 45 yX5_init cX5_init 5 none 4 := ⟨lw_good_of 138 (by decide +kernel) (by decide +kernel), lw_good_of 66 (by decide +kernel) (by decide +kernel), lw_good_of 140 (by decide +kernel) (by decide +kernel), by decide +kernel⟩
-- other: methodLink "LabelNet$RouterRecord" 1 <"java/lang/Object"."<init>"."()V">
set_option maxRecDepth 20000 in
theorem lkX4_48 : tLk RX4 48 yX4_forgetDistances cX4_forgetDistances 3 none 0 := ⟨lw_good_of 161 (by decide +kernel) (by decide +kernel), lw_good_of 65 (by decide +kernel) (by decide +kernel), lw_good_of 164 (by decide +kernel) (by decide +kernel), by decide +kernel⟩
set_option maxRecDepth 20000 in
theorem lkX4_51 : tLk RX4 51 yX4_forgetMapping cX4_forgetMapping 3 none 2 := ⟨lw_good_of 166 (by decide +kernel) (by decide +kernel), lw_good_of 65 (by decide +kernel) (by decide +kernel), lw_good_of 169 (by decide +kernel) (by decide +kernel), by decide +kernel⟩
set_option maxRecDepth 20000 in
theorem lkX6_57 : tLk RX6 57 yX0_init cX0_init 2 none 0 := ⟨lw_good_of 207 (by decide +kernel) (by decide +kernel), lw_good_of 67 (by decide +kernel) (by decide +kernel), lw_good_of 209 (by decide +kernel) (by decide +kernel), by decide +kernel⟩
-- other: methodLink "LabelNet$Link" 3 <"java/lang/Object"."<init>"."()V">
set_option maxRecDepth 20000 in
theorem lkX0_34 : tLk RX0 34 yX2_init cX2_init 2 none 0 := ⟨lw_good_of 214 (by decide +kernel) (by decide +kernel), lw_good_of 68 (by decide +kernel) (by decide +kernel), lw_good_of 216 (by decide +kernel) (by decide +kernel), by decide +kernel⟩
-- other: methodLink "LabelNet$MessageQueue" 3 <"java/lang/Object"."<init>"."()V">
set_option maxRecDepth 20000 in
theorem lkX6_58 : tLk RX6 58 yX6_isLink cX6_isLink 1 (some .boolean) 1 := ⟨lw_good_of 287 (by decide +kernel) (by decide +kernel), lw_good_of 62 (by decide +kernel) (by decide +kernel), lw_good_of 289 (by decide +kernel) (by decide +kernel), by decide +kernel⟩
set_option maxRecDepth 20000 in
theorem lkX6_117 : tLk RX6 117 yX6_isEnd cX6_isEnd 1 (some .boolean) 1 := ⟨lw_good_of 290 (by decide +kernel) (by decide +kernel), lw_good_of 62 (by decide +kernel) (by decide +kernel), lw_good_of 292 (by decide +kernel) (by decide +kernel), by decide +kernel⟩
set_option maxRecDepth 20000 in
theorem lkX6_135 : tLk RX6 135 yX2_at cX2_at 2 (some (.object "LabelNet$Message")) 1 := ⟨lw_good_of 293 (by decide +kernel) (by decide +kernel), lw_good_of 68 (by decide +kernel) (by decide +kernel), lw_good_of 296 (by decide +kernel) (by decide +kernel), by decide +kernel⟩
set_option maxRecDepth 20000 in
theorem lkX6_173 : tLk RX6 173 yX1_shownKind cX1_shownKind 1 (some .int) 0 := ⟨lw_good_of 297 (by decide +kernel) (by decide +kernel), lw_good_of 63 (by decide +kernel) (by decide +kernel), lw_good_of 300 (by decide +kernel) (by decide +kernel), by decide +kernel⟩
set_option maxRecDepth 20000 in
theorem lkX6_62 : tLk RX6 62 yX6_isRouter cX6_isRouter 2 (some .boolean) 1 := ⟨lw_good_of 305 (by decide +kernel) (by decide +kernel), lw_good_of 62 (by decide +kernel) (by decide +kernel), lw_good_of 308 (by decide +kernel) (by decide +kernel), by decide +kernel⟩
set_option maxRecDepth 20000 in
theorem lkX6_199 : tLk RX6 199 yX6_hop cX6_hop 6 (some .int) 2 := ⟨lw_good_of 314 (by decide +kernel) (by decide +kernel), lw_good_of 62 (by decide +kernel) (by decide +kernel), lw_good_of 317 (by decide +kernel) (by decide +kernel), by decide +kernel⟩
set_option maxRecDepth 20000 in
theorem lkX6_273 : tLk RX6 273 yX0_isUpAt cX0_isUpAt 2 (some .boolean) 1 := ⟨lw_good_of 318 (by decide +kernel) (by decide +kernel), lw_good_of 67 (by decide +kernel) (by decide +kernel), lw_good_of 321 (by decide +kernel) (by decide +kernel), by decide +kernel⟩
set_option maxRecDepth 20000 in
theorem lkX6_288 : tLk RX6 288 yX4_knowsUp cX4_knowsUp 3 (some .boolean) 2 := ⟨lw_good_of 322 (by decide +kernel) (by decide +kernel), lw_good_of 65 (by decide +kernel) (by decide +kernel), lw_good_of 325 (by decide +kernel) (by decide +kernel), by decide +kernel⟩
set_option maxRecDepth 20000 in
theorem lkX6_299 : tLk RX6 299 yX0_otherEnd cX0_otherEnd 2 (some .int) 1 := ⟨lw_good_of 326 (by decide +kernel) (by decide +kernel), lw_good_of 67 (by decide +kernel) (by decide +kernel), lw_good_of 329 (by decide +kernel) (by decide +kernel), by decide +kernel⟩
set_option maxRecDepth 20000 in
theorem lkX6_103 : tLk RX6 103 yX6_isPrefix cX6_isPrefix 1 (some .boolean) 1 := ⟨lw_good_of 334 (by decide +kernel) (by decide +kernel), lw_good_of 62 (by decide +kernel) (by decide +kernel), lw_good_of 336 (by decide +kernel) (by decide +kernel), by decide +kernel⟩
set_option maxRecDepth 20000 in
theorem lkX6_203 : tLk RX6 203 yX4_egress cX4_egress 4 (some .int) 1 := ⟨lw_good_of 337 (by decide +kernel) (by decide +kernel), lw_good_of 65 (by decide +kernel) (by decide +kernel), lw_good_of 340 (by decide +kernel) (by decide +kernel), by decide +kernel⟩
set_option maxRecDepth 20000 in
theorem lkX6_216 : tLk RX6 216 yX6_ofMapping cX6_ofMapping 6 (some .int) 4 := ⟨lw_good_of 341 (by decide +kernel) (by decide +kernel), lw_good_of 62 (by decide +kernel) (by decide +kernel), lw_good_of 344 (by decide +kernel) (by decide +kernel), by decide +kernel⟩
set_option maxRecDepth 20000 in
theorem lkX6_360 : tLk RX6 360 yX6_hopToEgress cX6_hopToEgress 4 (some .int) 2 := ⟨lw_good_of 345 (by decide +kernel) (by decide +kernel), lw_good_of 62 (by decide +kernel) (by decide +kernel), lw_good_of 348 (by decide +kernel) (by decide +kernel), by decide +kernel⟩
set_option maxRecDepth 20000 in
theorem lkX6_223 : tLk RX6 223 yX4_labelsInUse cX4_labelsInUse 3 (some .int) 0 := ⟨lw_good_of 353 (by decide +kernel) (by decide +kernel), lw_good_of 65 (by decide +kernel) (by decide +kernel), lw_good_of 356 (by decide +kernel) (by decide +kernel), by decide +kernel⟩
set_option maxRecDepth 20000 in
theorem lkX6_226 : tLk RX6 226 yX6_packetsUnderWay cX6_packetsUnderWay 3 (some .int) 0 := ⟨lw_good_of 357 (by decide +kernel) (by decide +kernel), lw_good_of 62 (by decide +kernel) (by decide +kernel), lw_good_of 360 (by decide +kernel) (by decide +kernel), by decide +kernel⟩
set_option maxRecDepth 20000 in
theorem lkX6_229 : tLk RX6 229 yX6_linksUp cX6_linksUp 3 (some .int) 0 := ⟨lw_good_of 361 (by decide +kernel) (by decide +kernel), lw_good_of 62 (by decide +kernel) (by decide +kernel), lw_good_of 364 (by decide +kernel) (by decide +kernel), by decide +kernel⟩
-- other: methodLink "LabelNet" 69 <"java/lang/IndexOutOfBoundsException"."<init>"."(Ljava/lang/String;)V">
-- other: methodLink "LabelNet" 80 <"java/lang/IllegalArgumentException"."<init>"."(Ljava/lang/String;)V">
set_option maxRecDepth 20000 in
theorem lkX6_97 : tLk RX6 97 yX6_comesUp cX6_comesUp 5 none 1 := ⟨lw_good_of 469 (by decide +kernel) (by decide +kernel), lw_good_of 62 (by decide +kernel) (by decide +kernel), lw_good_of 472 (by decide +kernel) (by decide +kernel), by decide +kernel⟩
set_option maxRecDepth 20000 in
theorem lkX6_110 : tLk RX6 110 yX6_tell cX6_tell 5 none 1 := ⟨lw_good_of 473 (by decide +kernel) (by decide +kernel), lw_good_of 62 (by decide +kernel) (by decide +kernel), lw_good_of 476 (by decide +kernel) (by decide +kernel), by decide +kernel⟩
set_option maxRecDepth 20000 in
theorem lkX6_252 : tLk RX6 252 yX6_linksUpAt cX6_linksUpAt 4 (some .int) 1 := ⟨lw_good_of 478 (by decide +kernel) (by decide +kernel), lw_good_of 62 (by decide +kernel) (by decide +kernel), lw_good_of 481 (by decide +kernel) (by decide +kernel), by decide +kernel⟩
set_option maxRecDepth 20000 in
theorem lkX6_255 : tLk RX6 255 yX6_prefixesAt cX6_prefixesAt 4 (some .int) 1 := ⟨lw_good_of 482 (by decide +kernel) (by decide +kernel), lw_good_of 62 (by decide +kernel) (by decide +kernel), lw_good_of 485 (by decide +kernel) (by decide +kernel), by decide +kernel⟩
set_option maxRecDepth 20000 in
theorem lkX6_258 : tLk RX6 258 yX5_init cX5_init 5 none 4 := ⟨lw_good_of 486 (by decide +kernel) (by decide +kernel), lw_good_of 66 (by decide +kernel) (by decide +kernel), lw_good_of 140 (by decide +kernel) (by decide +kernel), by decide +kernel⟩
set_option maxRecDepth 20000 in
theorem lkX6_261 : tLk RX6 261 yX6_learn cX6_learn 5 none 2 := ⟨lw_good_of 487 (by decide +kernel) (by decide +kernel), lw_good_of 62 (by decide +kernel) (by decide +kernel), lw_good_of 490 (by decide +kernel) (by decide +kernel), by decide +kernel⟩
set_option maxRecDepth 20000 in
theorem lkX6_285 : tLk RX6 285 yX4_forgetDistances cX4_forgetDistances 3 none 0 := ⟨lw_good_of 491 (by decide +kernel) (by decide +kernel), lw_good_of 65 (by decide +kernel) (by decide +kernel), lw_good_of 164 (by decide +kernel) (by decide +kernel), by decide +kernel⟩
set_option maxRecDepth 20000 in
theorem lkX6_292 : tLk RX6 292 yX4_takeStep cX4_takeStep 5 none 3 := ⟨lw_good_of 492 (by decide +kernel) (by decide +kernel), lw_good_of 65 (by decide +kernel) (by decide +kernel), lw_good_of 495 (by decide +kernel) (by decide +kernel), by decide +kernel⟩
-- other: methodLink "LabelNet$Router" 59 <"java/lang/Math"."min"."(II)I">
set_option maxRecDepth 20000 in
theorem lkX6_296 : tLk RX6 296 yX4_joinSteps cX4_joinSteps 3 none 0 := ⟨lw_good_of 497 (by decide +kernel) (by decide +kernel), lw_good_of 65 (by decide +kernel) (by decide +kernel), lw_good_of 500 (by decide +kernel) (by decide +kernel), by decide +kernel⟩
set_option maxRecDepth 20000 in
theorem lkX4_65 : tLk RX4 65 yX4_joinAt cX4_joinAt 4 none 2 := ⟨lw_good_of 501 (by decide +kernel) (by decide +kernel), lw_good_of 65 (by decide +kernel) (by decide +kernel), lw_good_of 504 (by decide +kernel) (by decide +kernel), by decide +kernel⟩
set_option maxRecDepth 20000 in
theorem lkX6_265 : tLk RX6 265 yX1_asNote cX1_asNote 2 (some (.object "LabelNet$Message")) 1 := ⟨lw_good_of 505 (by decide +kernel) (by decide +kernel), lw_good_of 63 (by decide +kernel) (by decide +kernel), lw_good_of 508 (by decide +kernel) (by decide +kernel), by decide +kernel⟩
set_option maxRecDepth 20000 in
theorem lkX1_36 : tLk RX1 36 yX1_as cX1_as 5 (some (.object "LabelNet$Message")) 4 := ⟨lw_good_of 509 (by decide +kernel) (by decide +kernel), lw_good_of 63 (by decide +kernel) (by decide +kernel), lw_good_of 512 (by decide +kernel) (by decide +kernel), by decide +kernel⟩
set_option maxRecDepth 20000 in
theorem lkX6_269 : tLk RX6 269 yX6_sendOnAll cX6_sendOnAll 5 none 3 := ⟨lw_good_of 513 (by decide +kernel) (by decide +kernel), lw_good_of 62 (by decide +kernel) (by decide +kernel), lw_good_of 516 (by decide +kernel) (by decide +kernel), by decide +kernel⟩
set_option maxRecDepth 20000 in
theorem lkX6_276 : tLk RX6 276 yX6_put cX6_put 5 (some .boolean) 3 := ⟨lw_good_of 517 (by decide +kernel) (by decide +kernel), lw_good_of 62 (by decide +kernel) (by decide +kernel), lw_good_of 520 (by decide +kernel) (by decide +kernel), by decide +kernel⟩
set_option maxRecDepth 20000 in
theorem lkX6_302 : tLk RX6 302 yX4_isOwnLabel cX4_isOwnLabel 1 (some .boolean) 1 := ⟨lw_good_of 521 (by decide +kernel) (by decide +kernel), lw_good_of 65 (by decide +kernel) (by decide +kernel), lw_good_of 523 (by decide +kernel) (by decide +kernel), by decide +kernel⟩
set_option maxRecDepth 20000 in
theorem lkX6_308 : tLk RX6 308 yX0_queueOf cX0_queueOf 2 (some (.object "LabelNet$MessageQueue")) 1 := ⟨lw_good_of 524 (by decide +kernel) (by decide +kernel), lw_good_of 67 (by decide +kernel) (by decide +kernel), lw_good_of 527 (by decide +kernel) (by decide +kernel), by decide +kernel⟩
set_option maxRecDepth 20000 in
theorem lkX6_312 : tLk RX6 312 yX2_nextFree cX2_nextFree 1 (some (.object "LabelNet$Message")) 0 := ⟨lw_good_of 528 (by decide +kernel) (by decide +kernel), lw_good_of 68 (by decide +kernel) (by decide +kernel), lw_good_of 531 (by decide +kernel) (by decide +kernel), by decide +kernel⟩
set_option maxRecDepth 20000 in
theorem lkX6_316 : tLk RX6 316 yX1_copy cX1_copy 2 none 1 := ⟨lw_good_of 532 (by decide +kernel) (by decide +kernel), lw_good_of 63 (by decide +kernel) (by decide +kernel), lw_good_of 535 (by decide +kernel) (by decide +kernel), by decide +kernel⟩
set_option maxRecDepth 20000 in
theorem lkX6_232 : tLk RX6 232 yX6_putKnownNotes cX6_putKnownNotes 5 none 2 := ⟨lw_good_of 536 (by decide +kernel) (by decide +kernel), lw_good_of 62 (by decide +kernel) (by decide +kernel), lw_good_of 539 (by decide +kernel) (by decide +kernel), by decide +kernel⟩
set_option maxRecDepth 20000 in
theorem lkX6_236 : tLk RX6 236 yX6_putMappings cX6_putMappings 4 none 2 := ⟨lw_good_of 540 (by decide +kernel) (by decide +kernel), lw_good_of 62 (by decide +kernel) (by decide +kernel), lw_good_of 543 (by decide +kernel) (by decide +kernel), by decide +kernel⟩
set_option maxRecDepth 20000 in
theorem lkX6_280 : tLk RX6 280 yX1_as cX1_as 5 (some (.object "LabelNet$Message")) 4 := ⟨lw_good_of 544 (by decide +kernel) (by decide +kernel), lw_good_of 63 (by decide +kernel) (by decide +kernel), lw_good_of 512 (by decide +kernel) (by decide +kernel), by decide +kernel⟩
set_option maxRecDepth 20000 in
theorem lkX6_114 : tLk RX6 114 yX6_check cX6_check 3 none 1 := ⟨lw_good_of 545 (by decide +kernel) (by decide +kernel), lw_good_of 62 (by decide +kernel) (by decide +kernel), lw_good_of 548 (by decide +kernel) (by decide +kernel), by decide +kernel⟩
set_option maxRecDepth 20000 in
theorem lkX6_345 : tLk RX6 345 yX6_checkPrefix cX6_checkPrefix 7 none 2 := ⟨lw_good_of 549 (by decide +kernel) (by decide +kernel), lw_good_of 62 (by decide +kernel) (by decide +kernel), lw_good_of 552 (by decide +kernel) (by decide +kernel), by decide +kernel⟩
set_option maxRecDepth 20000 in
theorem lkX6_348 : tLk RX6 348 yX6_pathNow cX6_pathNow 5 (some .int) 2 := ⟨lw_good_of 553 (by decide +kernel) (by decide +kernel), lw_good_of 62 (by decide +kernel) (by decide +kernel), lw_good_of 556 (by decide +kernel) (by decide +kernel), by decide +kernel⟩
set_option maxRecDepth 20000 in
theorem lkX6_351 : tLk RX6 351 yX4_labelFor cX4_labelFor 3 (some .int) 2 := ⟨lw_good_of 557 (by decide +kernel) (by decide +kernel), lw_good_of 65 (by decide +kernel) (by decide +kernel), lw_good_of 560 (by decide +kernel) (by decide +kernel), by decide +kernel⟩
set_option maxRecDepth 20000 in
theorem lkX4_75 : tLk RX4 75 yX4_leastFreeLabel cX4_leastFreeLabel 2 (some .int) 0 := ⟨lw_good_of 561 (by decide +kernel) (by decide +kernel), lw_good_of 65 (by decide +kernel) (by decide +kernel), lw_good_of 564 (by decide +kernel) (by decide +kernel), by decide +kernel⟩
set_option maxRecDepth 20000 in
theorem lkX6_354 : tLk RX6 354 yX4_bind cX4_bind 4 none 3 := ⟨lw_good_of 565 (by decide +kernel) (by decide +kernel), lw_good_of 65 (by decide +kernel) (by decide +kernel), lw_good_of 568 (by decide +kernel) (by decide +kernel), by decide +kernel⟩
set_option maxRecDepth 20000 in
theorem lkX4_79 : tLk RX4 79 yX4_isOwnLabel cX4_isOwnLabel 1 (some .boolean) 1 := ⟨lw_good_of 569 (by decide +kernel) (by decide +kernel), lw_good_of 65 (by decide +kernel) (by decide +kernel), lw_good_of 523 (by decide +kernel) (by decide +kernel), by decide +kernel⟩
set_option maxRecDepth 20000 in
theorem lkX6_357 : tLk RX6 357 yX4_freeIfReleased cX4_freeIfReleased 2 none 1 := ⟨lw_good_of 570 (by decide +kernel) (by decide +kernel), lw_good_of 65 (by decide +kernel) (by decide +kernel), lw_good_of 573 (by decide +kernel) (by decide +kernel), by decide +kernel⟩
set_option maxRecDepth 20000 in
theorem lkX6_100 : tLk RX6 100 yX6_goesDown cX6_goesDown 5 none 1 := ⟨lw_good_of 574 (by decide +kernel) (by decide +kernel), lw_good_of 62 (by decide +kernel) (by decide +kernel), lw_good_of 577 (by decide +kernel) (by decide +kernel), by decide +kernel⟩
set_option maxRecDepth 20000 in
theorem lkX6_239 : tLk RX6 239 yX6_cut cX6_cut 4 none 1 := ⟨lw_good_of 578 (by decide +kernel) (by decide +kernel), lw_good_of 62 (by decide +kernel) (by decide +kernel), lw_good_of 581 (by decide +kernel) (by decide +kernel), by decide +kernel⟩
set_option maxRecDepth 20000 in
theorem lkX6_243 : tLk RX6 243 yX4_forgetLink cX4_forgetLink 3 none 1 := ⟨lw_good_of 582 (by decide +kernel) (by decide +kernel), lw_good_of 65 (by decide +kernel) (by decide +kernel), lw_good_of 585 (by decide +kernel) (by decide +kernel), by decide +kernel⟩
set_option maxRecDepth 20000 in
theorem lkX4_71 : tLk RX4 71 yX4_freeIfReleased cX4_freeIfReleased 2 none 1 := ⟨lw_good_of 586 (by decide +kernel) (by decide +kernel), lw_good_of 65 (by decide +kernel) (by decide +kernel), lw_good_of 573 (by decide +kernel) (by decide +kernel), by decide +kernel⟩
set_option maxRecDepth 20000 in
theorem lkX6_122 : tLk RX6 122 yX6_handOver cX6_handOver 7 (some .int) 2 := ⟨lw_good_of 604 (by decide +kernel) (by decide +kernel), lw_good_of 62 (by decide +kernel) (by decide +kernel), lw_good_of 607 (by decide +kernel) (by decide +kernel), by decide +kernel⟩
set_option maxRecDepth 20000 in
theorem lkX6_320 : tLk RX6 320 yX2_dropFirst cX2_dropFirst 1 none 0 := ⟨lw_good_of 608 (by decide +kernel) (by decide +kernel), lw_good_of 68 (by decide +kernel) (by decide +kernel), lw_good_of 611 (by decide +kernel) (by decide +kernel), by decide +kernel⟩
set_option maxRecDepth 20000 in
theorem lkX6_327 : tLk RX6 327 yX6_noteComes cX6_noteComes 5 (some .boolean) 3 := ⟨lw_good_of 612 (by decide +kernel) (by decide +kernel), lw_good_of 62 (by decide +kernel) (by decide +kernel), lw_good_of 615 (by decide +kernel) (by decide +kernel), by decide +kernel⟩
set_option maxRecDepth 20000 in
theorem lkX6_331 : tLk RX6 331 yX6_mappingComes cX6_mappingComes 5 none 3 := ⟨lw_good_of 616 (by decide +kernel) (by decide +kernel), lw_good_of 62 (by decide +kernel) (by decide +kernel), lw_good_of 619 (by decide +kernel) (by decide +kernel), by decide +kernel⟩
set_option maxRecDepth 20000 in
theorem lkX6_342 : tLk RX6 342 yX4_forgetMapping cX4_forgetMapping 3 none 2 := ⟨lw_good_of 620 (by decide +kernel) (by decide +kernel), lw_good_of 65 (by decide +kernel) (by decide +kernel), lw_good_of 169 (by decide +kernel) (by decide +kernel), by decide +kernel⟩
set_option maxRecDepth 20000 in
theorem lkX6_335 : tLk RX6 335 yX6_withdrawComes cX6_withdrawComes 5 none 3 := ⟨lw_good_of 621 (by decide +kernel) (by decide +kernel), lw_good_of 62 (by decide +kernel) (by decide +kernel), lw_good_of 624 (by decide +kernel) (by decide +kernel), by decide +kernel⟩
set_option maxRecDepth 20000 in
theorem lkX6_338 : tLk RX6 338 yX4_releaseCounts cX4_releaseCounts 4 (some .boolean) 3 := ⟨lw_good_of 625 (by decide +kernel) (by decide +kernel), lw_good_of 65 (by decide +kernel) (by decide +kernel), lw_good_of 628 (by decide +kernel) (by decide +kernel), by decide +kernel⟩
set_option maxRecDepth 20000 in
theorem lkX6_151 : tLk RX6 151 yX6_packetComes cX6_packetComes 6 none 3 := ⟨lw_good_of 629 (by decide +kernel) (by decide +kernel), lw_good_of 62 (by decide +kernel) (by decide +kernel), lw_good_of 632 (by decide +kernel) (by decide +kernel), by decide +kernel⟩
set_option maxRecDepth 20000 in
theorem lkX6_363 : tLk RX6 363 yX4_prefixOfLabel cX4_prefixOfLabel 3 (some .int) 1 := ⟨lw_good_of 633 (by decide +kernel) (by decide +kernel), lw_good_of 65 (by decide +kernel) (by decide +kernel), lw_good_of 636 (by decide +kernel) (by decide +kernel), by decide +kernel⟩
set_option maxRecDepth 20000 in
theorem lkX6_366 : tLk RX6 366 yX6_go cX6_go 8 none 3 := ⟨lw_good_of 637 (by decide +kernel) (by decide +kernel), lw_good_of 62 (by decide +kernel) (by decide +kernel), lw_good_of 640 (by decide +kernel) (by decide +kernel), by decide +kernel⟩
set_option maxRecDepth 20000 in
theorem lkX6_127 : tLk RX6 127 yX6_firstThatWaits cX6_firstThatWaits 3 (some .int) 0 := ⟨lw_good_of 649 (by decide +kernel) (by decide +kernel), lw_good_of 62 (by decide +kernel) (by decide +kernel), lw_good_of 652 (by decide +kernel) (by decide +kernel), by decide +kernel⟩
set_option maxRecDepth 20000 in
theorem lkX6_148 : tLk RX6 148 yX3_init cX3_init 3 none 2 := ⟨lw_good_of 670 (by decide +kernel) (by decide +kernel), lw_good_of 75 (by decide +kernel) (by decide +kernel), lw_good_of 672 (by decide +kernel) (by decide +kernel), by decide +kernel⟩
-- other: methodLink "LabelNet$Packet" 3 <"java/lang/Object"."<init>"."()V">
-- other: methodLink "LabelNetModel" 1 <"java/lang/Object"."<init>"."()V">
set_option maxRecDepth 20000 in
theorem lkX7_99 : tLk RX7 99 yX7_in cX7_in 2 (some .boolean) 2 := ⟨lw_good_of 804 (by decide +kernel) (by decide +kernel), lw_good_of 69 (by decide +kernel) (by decide +kernel), lw_good_of 806 (by decide +kernel) (by decide +kernel), by decide +kernel⟩
set_option maxRecDepth 20000 in
theorem lkX7_189 : tLk RX7 189 yX7_isRouter cX7_isRouter 2 (some .boolean) 1 := ⟨lw_good_of 807 (by decide +kernel) (by decide +kernel), lw_good_of 69 (by decide +kernel) (by decide +kernel), lw_good_of 810 (by decide +kernel) (by decide +kernel), by decide +kernel⟩
set_option maxRecDepth 20000 in
theorem lkX7_193 : tLk RX7 193 yX7_goes cX7_goes 3 (some .boolean) 2 := ⟨lw_good_of 811 (by decide +kernel) (by decide +kernel), lw_good_of 69 (by decide +kernel) (by decide +kernel), lw_good_of 814 (by decide +kernel) (by decide +kernel), by decide +kernel⟩
set_option maxRecDepth 20000 in
theorem lkX7_197 : tLk RX7 197 yX7_empty cX7_empty 3 none 1 := ⟨lw_good_of 819 (by decide +kernel) (by decide +kernel), lw_good_of 69 (by decide +kernel) (by decide +kernel), lw_good_of 822 (by decide +kernel) (by decide +kernel), by decide +kernel⟩
set_option maxRecDepth 20000 in
theorem lkX7_200 : tLk RX7 200 yX7_tell cX7_tell 5 none 1 := ⟨lw_good_of 823 (by decide +kernel) (by decide +kernel), lw_good_of 69 (by decide +kernel) (by decide +kernel), lw_good_of 826 (by decide +kernel) (by decide +kernel), by decide +kernel⟩
set_option maxRecDepth 20000 in
theorem lkX7_110 : tLk RX7 110 yX7_isUp cX7_isUp 3 (some .boolean) 2 := ⟨lw_good_of 827 (by decide +kernel) (by decide +kernel), lw_good_of 69 (by decide +kernel) (by decide +kernel), lw_good_of 830 (by decide +kernel) (by decide +kernel), by decide +kernel⟩
set_option maxRecDepth 20000 in
theorem lkX7_117 : tLk RX7 117 yX7_bodyOf cX7_bodyOf 3 (some .int) 2 := ⟨lw_good_of 831 (by decide +kernel) (by decide +kernel), lw_good_of 69 (by decide +kernel) (by decide +kernel), lw_good_of 834 (by decide +kernel) (by decide +kernel), by decide +kernel⟩
set_option maxRecDepth 20000 in
theorem lkX7_121 : tLk RX7 121 yX7_sendAll cX7_sendAll 8 none 6 := ⟨lw_good_of 835 (by decide +kernel) (by decide +kernel), lw_good_of 69 (by decide +kernel) (by decide +kernel), lw_good_of 838 (by decide +kernel) (by decide +kernel), by decide +kernel⟩
set_option maxRecDepth 20000 in
theorem lkX7_113 : tLk RX7 113 yX7_send cX7_send 7 none 6 := ⟨lw_good_of 839 (by decide +kernel) (by decide +kernel), lw_good_of 69 (by decide +kernel) (by decide +kernel), lw_good_of 842 (by decide +kernel) (by decide +kernel), by decide +kernel⟩
set_option maxRecDepth 20000 in
theorem lkX7_103 : tLk RX7 103 yX7_put cX7_put 9 (some .boolean) 6 := ⟨lw_good_of 843 (by decide +kernel) (by decide +kernel), lw_good_of 69 (by decide +kernel) (by decide +kernel), lw_good_of 846 (by decide +kernel) (by decide +kernel), by decide +kernel⟩
set_option maxRecDepth 20000 in
theorem lkX7_203 : tLk RX7 203 yX7_showNotes cX7_showNotes 4 none 2 := ⟨lw_good_of 847 (by decide +kernel) (by decide +kernel), lw_good_of 69 (by decide +kernel) (by decide +kernel), lw_good_of 850 (by decide +kernel) (by decide +kernel), by decide +kernel⟩
set_option maxRecDepth 20000 in
theorem lkX7_206 : tLk RX7 206 yX7_showMappings cX7_showMappings 4 none 2 := ⟨lw_good_of 851 (by decide +kernel) (by decide +kernel), lw_good_of 69 (by decide +kernel) (by decide +kernel), lw_good_of 854 (by decide +kernel) (by decide +kernel), by decide +kernel⟩
set_option maxRecDepth 20000 in
theorem lkX7_209 : tLk RX7 209 yX7_sever cX7_sever 4 none 2 := ⟨lw_good_of 855 (by decide +kernel) (by decide +kernel), lw_good_of 69 (by decide +kernel) (by decide +kernel), lw_good_of 858 (by decide +kernel) (by decide +kernel), by decide +kernel⟩
set_option maxRecDepth 20000 in
theorem lkX7_145 : tLk RX7 145 yX7_slot cX7_slot 4 (some .int) 3 := ⟨lw_good_of 859 (by decide +kernel) (by decide +kernel), lw_good_of 69 (by decide +kernel) (by decide +kernel), lw_good_of 862 (by decide +kernel) (by decide +kernel), by decide +kernel⟩
set_option maxRecDepth 20000 in
theorem lkX7_135 : tLk RX7 135 yX7_settle cX7_settle 4 none 2 := ⟨lw_good_of 863 (by decide +kernel) (by decide +kernel), lw_good_of 69 (by decide +kernel) (by decide +kernel), lw_good_of 866 (by decide +kernel) (by decide +kernel), by decide +kernel⟩
set_option maxRecDepth 20000 in
theorem lkX7_170 : tLk RX7 170 yX7_check cX7_check 3 none 1 := ⟨lw_good_of 867 (by decide +kernel) (by decide +kernel), lw_good_of 69 (by decide +kernel) (by decide +kernel), lw_good_of 870 (by decide +kernel) (by decide +kernel), by decide +kernel⟩
set_option maxRecDepth 20000 in
theorem lkX7_163 : tLk RX7 163 yX7_measure cX7_measure 5 none 1 := ⟨lw_good_of 871 (by decide +kernel) (by decide +kernel), lw_good_of 69 (by decide +kernel) (by decide +kernel), lw_good_of 874 (by decide +kernel) (by decide +kernel), by decide +kernel⟩
set_option maxRecDepth 20000 in
theorem lkX7_125 : tLk RX7 125 yX7_isStep cX7_isStep 3 (some .boolean) 2 := ⟨lw_good_of 876 (by decide +kernel) (by decide +kernel), lw_good_of 69 (by decide +kernel) (by decide +kernel), lw_good_of 879 (by decide +kernel) (by decide +kernel), by decide +kernel⟩
set_option maxRecDepth 20000 in
theorem lkX7_128 : tLk RX7 128 yX7_shorten cX7_shorten 4 none 3 := ⟨lw_good_of 880 (by decide +kernel) (by decide +kernel), lw_good_of 69 (by decide +kernel) (by decide +kernel), lw_good_of 883 (by decide +kernel) (by decide +kernel), by decide +kernel⟩
set_option maxRecDepth 20000 in
theorem lkX7_167 : tLk RX7 167 yX7_checkOne cX7_checkOne 7 none 2 := ⟨lw_good_of 884 (by decide +kernel) (by decide +kernel), lw_good_of 69 (by decide +kernel) (by decide +kernel), lw_good_of 887 (by decide +kernel) (by decide +kernel), by decide +kernel⟩
set_option maxRecDepth 20000 in
theorem lkX7_149 : tLk RX7 149 yX7_byHop cX7_byHop 5 (some .int) 2 := ⟨lw_good_of 888 (by decide +kernel) (by decide +kernel), lw_good_of 69 (by decide +kernel) (by decide +kernel), lw_good_of 891 (by decide +kernel) (by decide +kernel), by decide +kernel⟩
set_option maxRecDepth 20000 in
theorem lkX7_139 : tLk RX7 139 yX7_egress cX7_egress 4 (some .int) 2 := ⟨lw_good_of 892 (by decide +kernel) (by decide +kernel), lw_good_of 69 (by decide +kernel) (by decide +kernel), lw_good_of 895 (by decide +kernel) (by decide +kernel), by decide +kernel⟩
set_option maxRecDepth 20000 in
theorem lkX7_142 : tLk RX7 142 yX7_hop cX7_hop 4 (some .int) 2 := ⟨lw_good_of 896 (by decide +kernel) (by decide +kernel), lw_good_of 69 (by decide +kernel) (by decide +kernel), lw_good_of 899 (by decide +kernel) (by decide +kernel), by decide +kernel⟩
set_option maxRecDepth 20000 in
theorem lkX7_132 : tLk RX7 132 yX7_other cX7_other 3 (some .int) 2 := ⟨lw_good_of 900 (by decide +kernel) (by decide +kernel), lw_good_of 69 (by decide +kernel) (by decide +kernel), lw_good_of 903 (by decide +kernel) (by decide +kernel), by decide +kernel⟩
set_option maxRecDepth 20000 in
theorem lkX7_152 : tLk RX7 152 yX7_withdraw cX7_withdraw 4 none 2 := ⟨lw_good_of 904 (by decide +kernel) (by decide +kernel), lw_good_of 69 (by decide +kernel) (by decide +kernel), lw_good_of 907 (by decide +kernel) (by decide +kernel), by decide +kernel⟩
set_option maxRecDepth 20000 in
theorem lkX7_155 : tLk RX7 155 yX7_become cX7_become 5 none 4 := ⟨lw_good_of 908 (by decide +kernel) (by decide +kernel), lw_good_of 69 (by decide +kernel) (by decide +kernel), lw_good_of 911 (by decide +kernel) (by decide +kernel), by decide +kernel⟩
set_option maxRecDepth 20000 in
theorem lkX7_159 : tLk RX7 159 yX7_free cX7_free 3 (some .int) 1 := ⟨lw_good_of 912 (by decide +kernel) (by decide +kernel), lw_good_of 69 (by decide +kernel) (by decide +kernel), lw_good_of 915 (by decide +kernel) (by decide +kernel), by decide +kernel⟩
set_option maxRecDepth 20000 in
theorem lkX7_212 : tLk RX7 212 yX7_isEnd cX7_isEnd 2 (some .boolean) 2 := ⟨lw_good_of 924 (by decide +kernel) (by decide +kernel), lw_good_of 69 (by decide +kernel) (by decide +kernel), lw_good_of 926 (by decide +kernel) (by decide +kernel), by decide +kernel⟩
set_option maxRecDepth 20000 in
theorem lkX7_215 : tLk RX7 215 yX7_come cX7_come 11 (some .int) 1 := ⟨lw_good_of 927 (by decide +kernel) (by decide +kernel), lw_good_of 69 (by decide +kernel) (by decide +kernel), lw_good_of 930 (by decide +kernel) (by decide +kernel), by decide +kernel⟩
set_option maxRecDepth 20000 in
theorem lkX7_173 : tLk RX7 173 yX7_noted cX7_noted 7 none 5 := ⟨lw_good_of 931 (by decide +kernel) (by decide +kernel), lw_good_of 69 (by decide +kernel) (by decide +kernel), lw_good_of 934 (by decide +kernel) (by decide +kernel), by decide +kernel⟩
set_option maxRecDepth 20000 in
theorem lkX7_177 : tLk RX7 177 yX7_mapped cX7_mapped 7 none 5 := ⟨lw_good_of 935 (by decide +kernel) (by decide +kernel), lw_good_of 69 (by decide +kernel) (by decide +kernel), lw_good_of 938 (by decide +kernel) (by decide +kernel), by decide +kernel⟩
set_option maxRecDepth 20000 in
theorem lkX7_180 : tLk RX7 180 yX7_withdrawn cX7_withdrawn 5 none 4 := ⟨lw_good_of 939 (by decide +kernel) (by decide +kernel), lw_good_of 69 (by decide +kernel) (by decide +kernel), lw_good_of 942 (by decide +kernel) (by decide +kernel), by decide +kernel⟩
set_option maxRecDepth 20000 in
theorem lkX7_183 : tLk RX7 183 yX7_released cX7_released 5 none 4 := ⟨lw_good_of 943 (by decide +kernel) (by decide +kernel), lw_good_of 69 (by decide +kernel) (by decide +kernel), lw_good_of 946 (by decide +kernel) (by decide +kernel), by decide +kernel⟩
set_option maxRecDepth 20000 in
theorem lkX7_186 : tLk RX7 186 yX7_go cX7_go 8 none 3 := ⟨lw_good_of 947 (by decide +kernel) (by decide +kernel), lw_good_of 69 (by decide +kernel) (by decide +kernel), lw_good_of 950 (by decide +kernel) (by decide +kernel), by decide +kernel⟩
set_option maxRecDepth 20000 in
theorem lkX7_221 : tLk RX7 221 yX7_asked cX7_asked 4 (some .int) 3 := ⟨lw_good_of 983 (by decide +kernel) (by decide +kernel), lw_good_of 69 (by decide +kernel) (by decide +kernel), lw_good_of 986 (by decide +kernel) (by decide +kernel), by decide +kernel⟩
set_option maxRecDepth 20000 in
theorem imX0_init : Cond.instanceMethod yX0_init ∈ lw_good := lw_good_of 208 (by decide +kernel) (by decide +kernel)
set_option maxRecDepth 20000 in
theorem cwX0_init : Cond.code yX0_init cX0_init 2 none ∈ lw_good := lw_good_of 209 (by decide +kernel) (by decide +kernel)
set_option maxRecDepth 20000 in
theorem imX0_isUpAt : Cond.instanceMethod yX0_isUpAt ∈ lw_good := lw_good_of 319 (by decide +kernel) (by decide +kernel)
set_option maxRecDepth 20000 in
theorem seX0_isUpAt : Cond.selects yX0_isUpAt.cls yX0_isUpAt yX0_isUpAt ∈ lw_good := lw_good_of 320 (by decide +kernel) (by decide +kernel)
set_option maxRecDepth 20000 in
theorem cwX0_isUpAt : Cond.code yX0_isUpAt cX0_isUpAt 2 (some .boolean) ∈ lw_good := lw_good_of 321 (by decide +kernel) (by decide +kernel)
set_option maxRecDepth 20000 in
theorem imX0_otherEnd : Cond.instanceMethod yX0_otherEnd ∈ lw_good := lw_good_of 327 (by decide +kernel) (by decide +kernel)
set_option maxRecDepth 20000 in
theorem seX0_otherEnd : Cond.selects yX0_otherEnd.cls yX0_otherEnd yX0_otherEnd ∈ lw_good := lw_good_of 328 (by decide +kernel) (by decide +kernel)
set_option maxRecDepth 20000 in
theorem cwX0_otherEnd : Cond.code yX0_otherEnd cX0_otherEnd 2 (some .int) ∈ lw_good := lw_good_of 329 (by decide +kernel) (by decide +kernel)
set_option maxRecDepth 20000 in
theorem imX0_queueOf : Cond.instanceMethod yX0_queueOf ∈ lw_good := lw_good_of 525 (by decide +kernel) (by decide +kernel)
set_option maxRecDepth 20000 in
theorem seX0_queueOf : Cond.selects yX0_queueOf.cls yX0_queueOf yX0_queueOf ∈ lw_good := lw_good_of 526 (by decide +kernel) (by decide +kernel)
set_option maxRecDepth 20000 in
theorem cwX0_queueOf : Cond.code yX0_queueOf cX0_queueOf 2 (some (.object "LabelNet$MessageQueue")) ∈ lw_good := lw_good_of 527 (by decide +kernel) (by decide +kernel)
set_option maxRecDepth 20000 in
theorem imX1_init : Cond.instanceMethod yX1_init ∈ lw_good := lw_good_of 91 (by decide +kernel) (by decide +kernel)
set_option maxRecDepth 20000 in
theorem cwX1_init : Cond.code yX1_init cX1_init 1 none ∈ lw_good := lw_good_of 92 (by decide +kernel) (by decide +kernel)
set_option maxRecDepth 20000 in
theorem imX1_as : Cond.instanceMethod yX1_as ∈ lw_good := lw_good_of 510 (by decide +kernel) (by decide +kernel)
set_option maxRecDepth 20000 in
theorem seX1_as : Cond.selects yX1_as.cls yX1_as yX1_as ∈ lw_good := lw_good_of 511 (by decide +kernel) (by decide +kernel)
set_option maxRecDepth 20000 in
theorem cwX1_as : Cond.code yX1_as cX1_as 5 (some (.object "LabelNet$Message")) ∈ lw_good := lw_good_of 512 (by decide +kernel) (by decide +kernel)
set_option maxRecDepth 20000 in
theorem imX1_asNote : Cond.instanceMethod yX1_asNote ∈ lw_good := lw_good_of 506 (by decide +kernel) (by decide +kernel)
set_option maxRecDepth 20000 in
theorem seX1_asNote : Cond.selects yX1_asNote.cls yX1_asNote yX1_asNote ∈ lw_good := lw_good_of 507 (by decide +kernel) (by decide +kernel)
set_option maxRecDepth 20000 in
theorem cwX1_asNote : Cond.code yX1_asNote cX1_asNote 2 (some (.object "LabelNet$Message")) ∈ lw_good := lw_good_of 508 (by decide +kernel) (by decide +kernel)
set_option maxRecDepth 20000 in
theorem imX1_copy : Cond.instanceMethod yX1_copy ∈ lw_good := lw_good_of 533 (by decide +kernel) (by decide +kernel)
set_option maxRecDepth 20000 in
theorem seX1_copy : Cond.selects yX1_copy.cls yX1_copy yX1_copy ∈ lw_good := lw_good_of 534 (by decide +kernel) (by decide +kernel)
set_option maxRecDepth 20000 in
theorem cwX1_copy : Cond.code yX1_copy cX1_copy 2 none ∈ lw_good := lw_good_of 535 (by decide +kernel) (by decide +kernel)
set_option maxRecDepth 20000 in
theorem imX1_shownKind : Cond.instanceMethod yX1_shownKind ∈ lw_good := lw_good_of 298 (by decide +kernel) (by decide +kernel)
set_option maxRecDepth 20000 in
theorem seX1_shownKind : Cond.selects yX1_shownKind.cls yX1_shownKind yX1_shownKind ∈ lw_good := lw_good_of 299 (by decide +kernel) (by decide +kernel)
set_option maxRecDepth 20000 in
theorem cwX1_shownKind : Cond.code yX1_shownKind cX1_shownKind 1 (some .int) ∈ lw_good := lw_good_of 300 (by decide +kernel) (by decide +kernel)
set_option maxRecDepth 20000 in
theorem imX2_init : Cond.instanceMethod yX2_init ∈ lw_good := lw_good_of 215 (by decide +kernel) (by decide +kernel)
set_option maxRecDepth 20000 in
theorem cwX2_init : Cond.code yX2_init cX2_init 2 none ∈ lw_good := lw_good_of 216 (by decide +kernel) (by decide +kernel)
set_option maxRecDepth 20000 in
theorem imX2_at : Cond.instanceMethod yX2_at ∈ lw_good := lw_good_of 294 (by decide +kernel) (by decide +kernel)
set_option maxRecDepth 20000 in
theorem seX2_at : Cond.selects yX2_at.cls yX2_at yX2_at ∈ lw_good := lw_good_of 295 (by decide +kernel) (by decide +kernel)
set_option maxRecDepth 20000 in
theorem cwX2_at : Cond.code yX2_at cX2_at 2 (some (.object "LabelNet$Message")) ∈ lw_good := lw_good_of 296 (by decide +kernel) (by decide +kernel)
set_option maxRecDepth 20000 in
theorem imX2_nextFree : Cond.instanceMethod yX2_nextFree ∈ lw_good := lw_good_of 529 (by decide +kernel) (by decide +kernel)
set_option maxRecDepth 20000 in
theorem seX2_nextFree : Cond.selects yX2_nextFree.cls yX2_nextFree yX2_nextFree ∈ lw_good := lw_good_of 530 (by decide +kernel) (by decide +kernel)
set_option maxRecDepth 20000 in
theorem cwX2_nextFree : Cond.code yX2_nextFree cX2_nextFree 1 (some (.object "LabelNet$Message")) ∈ lw_good := lw_good_of 531 (by decide +kernel) (by decide +kernel)
set_option maxRecDepth 20000 in
theorem imX2_dropFirst : Cond.instanceMethod yX2_dropFirst ∈ lw_good := lw_good_of 609 (by decide +kernel) (by decide +kernel)
set_option maxRecDepth 20000 in
theorem seX2_dropFirst : Cond.selects yX2_dropFirst.cls yX2_dropFirst yX2_dropFirst ∈ lw_good := lw_good_of 610 (by decide +kernel) (by decide +kernel)
set_option maxRecDepth 20000 in
theorem cwX2_dropFirst : Cond.code yX2_dropFirst cX2_dropFirst 1 none ∈ lw_good := lw_good_of 611 (by decide +kernel) (by decide +kernel)
set_option maxRecDepth 20000 in
theorem imX3_init : Cond.instanceMethod yX3_init ∈ lw_good := lw_good_of 671 (by decide +kernel) (by decide +kernel)
set_option maxRecDepth 20000 in
theorem cwX3_init : Cond.code yX3_init cX3_init 3 none ∈ lw_good := lw_good_of 672 (by decide +kernel) (by decide +kernel)
set_option maxRecDepth 20000 in
theorem imX4_init : Cond.instanceMethod yX4_init ∈ lw_good := lw_good_of 130 (by decide +kernel) (by decide +kernel)
set_option maxRecDepth 20000 in
theorem cwX4_init : Cond.code yX4_init cX4_init 4 none ∈ lw_good := lw_good_of 131 (by decide +kernel) (by decide +kernel)
set_option maxRecDepth 20000 in
theorem imX4_knowsUp : Cond.instanceMethod yX4_knowsUp ∈ lw_good := lw_good_of 323 (by decide +kernel) (by decide +kernel)
set_option maxRecDepth 20000 in
theorem seX4_knowsUp : Cond.selects yX4_knowsUp.cls yX4_knowsUp yX4_knowsUp ∈ lw_good := lw_good_of 324 (by decide +kernel) (by decide +kernel)
set_option maxRecDepth 20000 in
theorem cwX4_knowsUp : Cond.code yX4_knowsUp cX4_knowsUp 3 (some .boolean) ∈ lw_good := lw_good_of 325 (by decide +kernel) (by decide +kernel)
set_option maxRecDepth 20000 in
theorem imX4_forgetDistances : Cond.instanceMethod yX4_forgetDistances ∈ lw_good := lw_good_of 162 (by decide +kernel) (by decide +kernel)
set_option maxRecDepth 20000 in
theorem seX4_forgetDistances : Cond.selects yX4_forgetDistances.cls yX4_forgetDistances yX4_forgetDistances ∈ lw_good := lw_good_of 163 (by decide +kernel) (by decide +kernel)
set_option maxRecDepth 20000 in
theorem cwX4_forgetDistances : Cond.code yX4_forgetDistances cX4_forgetDistances 3 none ∈ lw_good := lw_good_of 164 (by decide +kernel) (by decide +kernel)
set_option maxRecDepth 20000 in
theorem imX4_takeStep : Cond.instanceMethod yX4_takeStep ∈ lw_good := lw_good_of 493 (by decide +kernel) (by decide +kernel)
set_option maxRecDepth 20000 in
theorem seX4_takeStep : Cond.selects yX4_takeStep.cls yX4_takeStep yX4_takeStep ∈ lw_good := lw_good_of 494 (by decide +kernel) (by decide +kernel)
set_option maxRecDepth 20000 in
theorem cwX4_takeStep : Cond.code yX4_takeStep cX4_takeStep 5 none ∈ lw_good := lw_good_of 495 (by decide +kernel) (by decide +kernel)
set_option maxRecDepth 20000 in
theorem imX4_joinSteps : Cond.instanceMethod yX4_joinSteps ∈ lw_good := lw_good_of 498 (by decide +kernel) (by decide +kernel)
set_option maxRecDepth 20000 in
theorem seX4_joinSteps : Cond.selects yX4_joinSteps.cls yX4_joinSteps yX4_joinSteps ∈ lw_good := lw_good_of 499 (by decide +kernel) (by decide +kernel)
set_option maxRecDepth 20000 in
theorem cwX4_joinSteps : Cond.code yX4_joinSteps cX4_joinSteps 3 none ∈ lw_good := lw_good_of 500 (by decide +kernel) (by decide +kernel)
set_option maxRecDepth 20000 in
theorem imX4_joinAt : Cond.instanceMethod yX4_joinAt ∈ lw_good := lw_good_of 502 (by decide +kernel) (by decide +kernel)
set_option maxRecDepth 20000 in
theorem seX4_joinAt : Cond.selects yX4_joinAt.cls yX4_joinAt yX4_joinAt ∈ lw_good := lw_good_of 503 (by decide +kernel) (by decide +kernel)
set_option maxRecDepth 20000 in
theorem cwX4_joinAt : Cond.code yX4_joinAt cX4_joinAt 4 none ∈ lw_good := lw_good_of 504 (by decide +kernel) (by decide +kernel)
set_option maxRecDepth 20000 in
theorem imX4_egress : Cond.instanceMethod yX4_egress ∈ lw_good := lw_good_of 338 (by decide +kernel) (by decide +kernel)
set_option maxRecDepth 20000 in
theorem seX4_egress : Cond.selects yX4_egress.cls yX4_egress yX4_egress ∈ lw_good := lw_good_of 339 (by decide +kernel) (by decide +kernel)
set_option maxRecDepth 20000 in
theorem cwX4_egress : Cond.code yX4_egress cX4_egress 4 (some .int) ∈ lw_good := lw_good_of 340 (by decide +kernel) (by decide +kernel)
set_option maxRecDepth 20000 in
theorem imX4_forgetMapping : Cond.instanceMethod yX4_forgetMapping ∈ lw_good := lw_good_of 167 (by decide +kernel) (by decide +kernel)
set_option maxRecDepth 20000 in
theorem seX4_forgetMapping : Cond.selects yX4_forgetMapping.cls yX4_forgetMapping yX4_forgetMapping ∈ lw_good := lw_good_of 168 (by decide +kernel) (by decide +kernel)
set_option maxRecDepth 20000 in
theorem cwX4_forgetMapping : Cond.code yX4_forgetMapping cX4_forgetMapping 3 none ∈ lw_good := lw_good_of 169 (by decide +kernel) (by decide +kernel)
set_option maxRecDepth 20000 in
theorem imX4_forgetLink : Cond.instanceMethod yX4_forgetLink ∈ lw_good := lw_good_of 583 (by decide +kernel) (by decide +kernel)
set_option maxRecDepth 20000 in
theorem seX4_forgetLink : Cond.selects yX4_forgetLink.cls yX4_forgetLink yX4_forgetLink ∈ lw_good := lw_good_of 584 (by decide +kernel) (by decide +kernel)
set_option maxRecDepth 20000 in
theorem cwX4_forgetLink : Cond.code yX4_forgetLink cX4_forgetLink 3 none ∈ lw_good := lw_good_of 585 (by decide +kernel) (by decide +kernel)
set_option maxRecDepth 20000 in
theorem imX4_labelFor : Cond.instanceMethod yX4_labelFor ∈ lw_good := lw_good_of 558 (by decide +kernel) (by decide +kernel)
set_option maxRecDepth 20000 in
theorem seX4_labelFor : Cond.selects yX4_labelFor.cls yX4_labelFor yX4_labelFor ∈ lw_good := lw_good_of 559 (by decide +kernel) (by decide +kernel)
set_option maxRecDepth 20000 in
theorem cwX4_labelFor : Cond.code yX4_labelFor cX4_labelFor 3 (some .int) ∈ lw_good := lw_good_of 560 (by decide +kernel) (by decide +kernel)
set_option maxRecDepth 20000 in
theorem imX4_leastFreeLabel : Cond.instanceMethod yX4_leastFreeLabel ∈ lw_good := lw_good_of 562 (by decide +kernel) (by decide +kernel)
set_option maxRecDepth 20000 in
theorem seX4_leastFreeLabel : Cond.selects yX4_leastFreeLabel.cls yX4_leastFreeLabel yX4_leastFreeLabel ∈ lw_good := lw_good_of 563 (by decide +kernel) (by decide +kernel)
set_option maxRecDepth 20000 in
theorem cwX4_leastFreeLabel : Cond.code yX4_leastFreeLabel cX4_leastFreeLabel 2 (some .int) ∈ lw_good := lw_good_of 564 (by decide +kernel) (by decide +kernel)
set_option maxRecDepth 20000 in
theorem imX4_bind : Cond.instanceMethod yX4_bind ∈ lw_good := lw_good_of 566 (by decide +kernel) (by decide +kernel)
set_option maxRecDepth 20000 in
theorem seX4_bind : Cond.selects yX4_bind.cls yX4_bind yX4_bind ∈ lw_good := lw_good_of 567 (by decide +kernel) (by decide +kernel)
set_option maxRecDepth 20000 in
theorem cwX4_bind : Cond.code yX4_bind cX4_bind 4 none ∈ lw_good := lw_good_of 568 (by decide +kernel) (by decide +kernel)
set_option maxRecDepth 20000 in
theorem smX4_isOwnLabel : Cond.static yX4_isOwnLabel ∈ lw_good := lw_good_of 522 (by decide +kernel) (by decide +kernel)
set_option maxRecDepth 20000 in
theorem cwX4_isOwnLabel : Cond.code yX4_isOwnLabel cX4_isOwnLabel 1 (some .boolean) ∈ lw_good := lw_good_of 523 (by decide +kernel) (by decide +kernel)
set_option maxRecDepth 20000 in
theorem imX4_releaseCounts : Cond.instanceMethod yX4_releaseCounts ∈ lw_good := lw_good_of 626 (by decide +kernel) (by decide +kernel)
set_option maxRecDepth 20000 in
theorem seX4_releaseCounts : Cond.selects yX4_releaseCounts.cls yX4_releaseCounts yX4_releaseCounts ∈ lw_good := lw_good_of 627 (by decide +kernel) (by decide +kernel)
set_option maxRecDepth 20000 in
theorem cwX4_releaseCounts : Cond.code yX4_releaseCounts cX4_releaseCounts 4 (some .boolean) ∈ lw_good := lw_good_of 628 (by decide +kernel) (by decide +kernel)
set_option maxRecDepth 20000 in
theorem imX4_freeIfReleased : Cond.instanceMethod yX4_freeIfReleased ∈ lw_good := lw_good_of 571 (by decide +kernel) (by decide +kernel)
set_option maxRecDepth 20000 in
theorem seX4_freeIfReleased : Cond.selects yX4_freeIfReleased.cls yX4_freeIfReleased yX4_freeIfReleased ∈ lw_good := lw_good_of 572 (by decide +kernel) (by decide +kernel)
set_option maxRecDepth 20000 in
theorem cwX4_freeIfReleased : Cond.code yX4_freeIfReleased cX4_freeIfReleased 2 none ∈ lw_good := lw_good_of 573 (by decide +kernel) (by decide +kernel)
set_option maxRecDepth 20000 in
theorem imX4_prefixOfLabel : Cond.instanceMethod yX4_prefixOfLabel ∈ lw_good := lw_good_of 634 (by decide +kernel) (by decide +kernel)
set_option maxRecDepth 20000 in
theorem seX4_prefixOfLabel : Cond.selects yX4_prefixOfLabel.cls yX4_prefixOfLabel yX4_prefixOfLabel ∈ lw_good := lw_good_of 635 (by decide +kernel) (by decide +kernel)
set_option maxRecDepth 20000 in
theorem cwX4_prefixOfLabel : Cond.code yX4_prefixOfLabel cX4_prefixOfLabel 3 (some .int) ∈ lw_good := lw_good_of 636 (by decide +kernel) (by decide +kernel)
set_option maxRecDepth 20000 in
theorem imX4_labelsInUse : Cond.instanceMethod yX4_labelsInUse ∈ lw_good := lw_good_of 354 (by decide +kernel) (by decide +kernel)
set_option maxRecDepth 20000 in
theorem seX4_labelsInUse : Cond.selects yX4_labelsInUse.cls yX4_labelsInUse yX4_labelsInUse ∈ lw_good := lw_good_of 355 (by decide +kernel) (by decide +kernel)
set_option maxRecDepth 20000 in
theorem cwX4_labelsInUse : Cond.code yX4_labelsInUse cX4_labelsInUse 3 (some .int) ∈ lw_good := lw_good_of 356 (by decide +kernel) (by decide +kernel)
set_option maxRecDepth 20000 in
theorem imX5_init : Cond.instanceMethod yX5_init ∈ lw_good := lw_good_of 139 (by decide +kernel) (by decide +kernel)
set_option maxRecDepth 20000 in
theorem cwX5_init : Cond.code yX5_init cX5_init 5 none ∈ lw_good := lw_good_of 140 (by decide +kernel) (by decide +kernel)
set_option maxRecDepth 20000 in
theorem imX6_init : Cond.instanceMethod yX6_init ∈ lw_good := lw_good_of 79 (by decide +kernel) (by decide +kernel)
set_option maxRecDepth 20000 in
theorem cwX6_init : Cond.code yX6_init cX6_init 4 none ∈ lw_good := lw_good_of 80 (by decide +kernel) (by decide +kernel)
set_option maxRecDepth 20000 in
theorem imX6_lay : Cond.instanceMethod yX6_lay ∈ lw_good := lw_good_of 374 (by decide +kernel) (by decide +kernel)
set_option maxRecDepth 20000 in
theorem seX6_lay : Cond.selects yX6_lay.cls yX6_lay yX6_lay ∈ lw_good := lw_good_of 375 (by decide +kernel) (by decide +kernel)
set_option maxRecDepth 20000 in
theorem cwX6_lay : Cond.code yX6_lay cX6_lay 6 none ∈ lw_good := lw_good_of 376 (by decide +kernel) (by decide +kernel)
set_option maxRecDepth 20000 in
theorem imX6_turn : Cond.instanceMethod yX6_turn ∈ lw_good := lw_good_of 464 (by decide +kernel) (by decide +kernel)
set_option maxRecDepth 20000 in
theorem seX6_turn : Cond.selects yX6_turn.cls yX6_turn yX6_turn ∈ lw_good := lw_good_of 465 (by decide +kernel) (by decide +kernel)
set_option maxRecDepth 20000 in
theorem cwX6_turn : Cond.code yX6_turn cX6_turn 3 none ∈ lw_good := lw_good_of 466 (by decide +kernel) (by decide +kernel)
set_option maxRecDepth 20000 in
theorem imX6_attach : Cond.instanceMethod yX6_attach ∈ lw_good := lw_good_of 591 (by decide +kernel) (by decide +kernel)
set_option maxRecDepth 20000 in
theorem seX6_attach : Cond.selects yX6_attach.cls yX6_attach yX6_attach ∈ lw_good := lw_good_of 592 (by decide +kernel) (by decide +kernel)
set_option maxRecDepth 20000 in
theorem cwX6_attach : Cond.code yX6_attach cX6_attach 4 none ∈ lw_good := lw_good_of 593 (by decide +kernel) (by decide +kernel)
set_option maxRecDepth 20000 in
theorem imX6_deliver : Cond.instanceMethod yX6_deliver ∈ lw_good := lw_good_of 600 (by decide +kernel) (by decide +kernel)
set_option maxRecDepth 20000 in
theorem seX6_deliver : Cond.selects yX6_deliver.cls yX6_deliver yX6_deliver ∈ lw_good := lw_good_of 601 (by decide +kernel) (by decide +kernel)
set_option maxRecDepth 20000 in
theorem cwX6_deliver : Cond.code yX6_deliver cX6_deliver 3 (some .int) ∈ lw_good := lw_good_of 602 (by decide +kernel) (by decide +kernel)
set_option maxRecDepth 20000 in
theorem imX6_run : Cond.instanceMethod yX6_run ∈ lw_good := lw_good_of 645 (by decide +kernel) (by decide +kernel)
set_option maxRecDepth 20000 in
theorem seX6_run : Cond.selects yX6_run.cls yX6_run yX6_run ∈ lw_good := lw_good_of 646 (by decide +kernel) (by decide +kernel)
set_option maxRecDepth 20000 in
theorem cwX6_run : Cond.code yX6_run cX6_run 4 (some .int) ∈ lw_good := lw_good_of 647 (by decide +kernel) (by decide +kernel)
set_option maxRecDepth 20000 in
theorem imX6_spoil : Cond.instanceMethod yX6_spoil ∈ lw_good := lw_good_of 657 (by decide +kernel) (by decide +kernel)
set_option maxRecDepth 20000 in
theorem seX6_spoil : Cond.selects yX6_spoil.cls yX6_spoil yX6_spoil ∈ lw_good := lw_good_of 658 (by decide +kernel) (by decide +kernel)
set_option maxRecDepth 20000 in
theorem cwX6_spoil : Cond.code yX6_spoil cX6_spoil 5 (some .boolean) ∈ lw_good := lw_good_of 659 (by decide +kernel) (by decide +kernel)
set_option maxRecDepth 20000 in
theorem imX6_inject : Cond.instanceMethod yX6_inject ∈ lw_good := lw_good_of 664 (by decide +kernel) (by decide +kernel)
set_option maxRecDepth 20000 in
theorem seX6_inject : Cond.selects yX6_inject.cls yX6_inject yX6_inject ∈ lw_good := lw_good_of 665 (by decide +kernel) (by decide +kernel)
set_option maxRecDepth 20000 in
theorem cwX6_inject : Cond.code yX6_inject cX6_inject 5 (some .int) ∈ lw_good := lw_good_of 666 (by decide +kernel) (by decide +kernel)
set_option maxRecDepth 20000 in
theorem imX6_packet : Cond.instanceMethod yX6_packet ∈ lw_good := lw_good_of 280 (by decide +kernel) (by decide +kernel)
set_option maxRecDepth 20000 in
theorem seX6_packet : Cond.selects yX6_packet.cls yX6_packet yX6_packet ∈ lw_good := lw_good_of 281 (by decide +kernel) (by decide +kernel)
set_option maxRecDepth 20000 in
theorem cwX6_packet : Cond.code yX6_packet cX6_packet 4 (some .int) ∈ lw_good := lw_good_of 282 (by decide +kernel) (by decide +kernel)
set_option maxRecDepth 20000 in
theorem imX6_queue : Cond.instanceMethod yX6_queue ∈ lw_good := lw_good_of 284 (by decide +kernel) (by decide +kernel)
set_option maxRecDepth 20000 in
theorem seX6_queue : Cond.selects yX6_queue.cls yX6_queue yX6_queue ∈ lw_good := lw_good_of 285 (by decide +kernel) (by decide +kernel)
set_option maxRecDepth 20000 in
theorem cwX6_queue : Cond.code yX6_queue cX6_queue 6 (some .int) ∈ lw_good := lw_good_of 286 (by decide +kernel) (by decide +kernel)
set_option maxRecDepth 20000 in
theorem imX6_knows : Cond.instanceMethod yX6_knows ∈ lw_good := lw_good_of 302 (by decide +kernel) (by decide +kernel)
set_option maxRecDepth 20000 in
theorem seX6_knows : Cond.selects yX6_knows.cls yX6_knows yX6_knows ∈ lw_good := lw_good_of 303 (by decide +kernel) (by decide +kernel)
set_option maxRecDepth 20000 in
theorem cwX6_knows : Cond.code yX6_knows cX6_knows 4 (some .int) ∈ lw_good := lw_good_of 304 (by decide +kernel) (by decide +kernel)
set_option maxRecDepth 20000 in
theorem imX6_way : Cond.instanceMethod yX6_way ∈ lw_good := lw_good_of 310 (by decide +kernel) (by decide +kernel)
set_option maxRecDepth 20000 in
theorem seX6_way : Cond.selects yX6_way.cls yX6_way yX6_way ∈ lw_good := lw_good_of 311 (by decide +kernel) (by decide +kernel)
set_option maxRecDepth 20000 in
theorem cwX6_way : Cond.code yX6_way cX6_way 5 (some .int) ∈ lw_good := lw_good_of 312 (by decide +kernel) (by decide +kernel)
set_option maxRecDepth 20000 in
theorem imX6_label : Cond.instanceMethod yX6_label ∈ lw_good := lw_good_of 331 (by decide +kernel) (by decide +kernel)
set_option maxRecDepth 20000 in
theorem seX6_label : Cond.selects yX6_label.cls yX6_label yX6_label ∈ lw_good := lw_good_of 332 (by decide +kernel) (by decide +kernel)
set_option maxRecDepth 20000 in
theorem cwX6_label : Cond.code yX6_label cX6_label 6 (some .int) ∈ lw_good := lw_good_of 333 (by decide +kernel) (by decide +kernel)
set_option maxRecDepth 20000 in
theorem imX6_count : Cond.instanceMethod yX6_count ∈ lw_good := lw_good_of 350 (by decide +kernel) (by decide +kernel)
set_option maxRecDepth 20000 in
theorem seX6_count : Cond.selects yX6_count.cls yX6_count yX6_count ∈ lw_good := lw_good_of 351 (by decide +kernel) (by decide +kernel)
set_option maxRecDepth 20000 in
theorem cwX6_count : Cond.code yX6_count cX6_count 3 (some .int) ∈ lw_good := lw_good_of 352 (by decide +kernel) (by decide +kernel)
set_option maxRecDepth 20000 in
theorem smX6_isLink : Cond.static yX6_isLink ∈ lw_good := lw_good_of 288 (by decide +kernel) (by decide +kernel)
set_option maxRecDepth 20000 in
theorem cwX6_isLink : Cond.code yX6_isLink cX6_isLink 1 (some .boolean) ∈ lw_good := lw_good_of 289 (by decide +kernel) (by decide +kernel)
set_option maxRecDepth 20000 in
theorem smX6_isEnd : Cond.static yX6_isEnd ∈ lw_good := lw_good_of 291 (by decide +kernel) (by decide +kernel)
set_option maxRecDepth 20000 in
theorem cwX6_isEnd : Cond.code yX6_isEnd cX6_isEnd 1 (some .boolean) ∈ lw_good := lw_good_of 292 (by decide +kernel) (by decide +kernel)
set_option maxRecDepth 20000 in
theorem smX6_isPrefix : Cond.static yX6_isPrefix ∈ lw_good := lw_good_of 335 (by decide +kernel) (by decide +kernel)
set_option maxRecDepth 20000 in
theorem cwX6_isPrefix : Cond.code yX6_isPrefix cX6_isPrefix 1 (some .boolean) ∈ lw_good := lw_good_of 336 (by decide +kernel) (by decide +kernel)
set_option maxRecDepth 20000 in
theorem imX6_isRouter : Cond.instanceMethod yX6_isRouter ∈ lw_good := lw_good_of 307 (by decide +kernel) (by decide +kernel)
set_option maxRecDepth 20000 in
theorem seX6_isRouter : Cond.selects yX6_isRouter.cls yX6_isRouter yX6_isRouter ∈ lw_good := lw_good_of 0 (by decide +kernel) (by decide +kernel)
set_option maxRecDepth 20000 in
theorem cwX6_isRouter : Cond.code yX6_isRouter cX6_isRouter 2 (some .boolean) ∈ lw_good := lw_good_of 308 (by decide +kernel) (by decide +kernel)
set_option maxRecDepth 20000 in
theorem imX6_packetsUnderWay : Cond.instanceMethod yX6_packetsUnderWay ∈ lw_good := lw_good_of 359 (by decide +kernel) (by decide +kernel)
set_option maxRecDepth 20000 in
theorem seX6_packetsUnderWay : Cond.selects yX6_packetsUnderWay.cls yX6_packetsUnderWay yX6_packetsUnderWay ∈ lw_good := lw_good_of 4 (by decide +kernel) (by decide +kernel)
set_option maxRecDepth 20000 in
theorem cwX6_packetsUnderWay : Cond.code yX6_packetsUnderWay cX6_packetsUnderWay 3 (some .int) ∈ lw_good := lw_good_of 360 (by decide +kernel) (by decide +kernel)
set_option maxRecDepth 20000 in
theorem imX6_linksUp : Cond.instanceMethod yX6_linksUp ∈ lw_good := lw_good_of 363 (by decide +kernel) (by decide +kernel)
set_option maxRecDepth 20000 in
theorem seX6_linksUp : Cond.selects yX6_linksUp.cls yX6_linksUp yX6_linksUp ∈ lw_good := lw_good_of 5 (by decide +kernel) (by decide +kernel)
set_option maxRecDepth 20000 in
theorem cwX6_linksUp : Cond.code yX6_linksUp cX6_linksUp 3 (some .int) ∈ lw_good := lw_good_of 364 (by decide +kernel) (by decide +kernel)
set_option maxRecDepth 20000 in
theorem imX6_comesUp : Cond.instanceMethod yX6_comesUp ∈ lw_good := lw_good_of 471 (by decide +kernel) (by decide +kernel)
set_option maxRecDepth 20000 in
theorem seX6_comesUp : Cond.selects yX6_comesUp.cls yX6_comesUp yX6_comesUp ∈ lw_good := lw_good_of 7 (by decide +kernel) (by decide +kernel)
set_option maxRecDepth 20000 in
theorem cwX6_comesUp : Cond.code yX6_comesUp cX6_comesUp 5 none ∈ lw_good := lw_good_of 472 (by decide +kernel) (by decide +kernel)
set_option maxRecDepth 20000 in
theorem imX6_goesDown : Cond.instanceMethod yX6_goesDown ∈ lw_good := lw_good_of 576 (by decide +kernel) (by decide +kernel)
set_option maxRecDepth 20000 in
theorem seX6_goesDown : Cond.selects yX6_goesDown.cls yX6_goesDown yX6_goesDown ∈ lw_good := lw_good_of 19 (by decide +kernel) (by decide +kernel)
set_option maxRecDepth 20000 in
theorem cwX6_goesDown : Cond.code yX6_goesDown cX6_goesDown 5 none ∈ lw_good := lw_good_of 577 (by decide +kernel) (by decide +kernel)
set_option maxRecDepth 20000 in
theorem imX6_cut : Cond.instanceMethod yX6_cut ∈ lw_good := lw_good_of 580 (by decide +kernel) (by decide +kernel)
set_option maxRecDepth 20000 in
theorem seX6_cut : Cond.selects yX6_cut.cls yX6_cut yX6_cut ∈ lw_good := lw_good_of 20 (by decide +kernel) (by decide +kernel)
set_option maxRecDepth 20000 in
theorem cwX6_cut : Cond.code yX6_cut cX6_cut 4 none ∈ lw_good := lw_good_of 581 (by decide +kernel) (by decide +kernel)
set_option maxRecDepth 20000 in
theorem imX6_tell : Cond.instanceMethod yX6_tell ∈ lw_good := lw_good_of 475 (by decide +kernel) (by decide +kernel)
set_option maxRecDepth 20000 in
theorem seX6_tell : Cond.selects yX6_tell.cls yX6_tell yX6_tell ∈ lw_good := lw_good_of 8 (by decide +kernel) (by decide +kernel)
set_option maxRecDepth 20000 in
theorem cwX6_tell : Cond.code yX6_tell cX6_tell 5 none ∈ lw_good := lw_good_of 476 (by decide +kernel) (by decide +kernel)
set_option maxRecDepth 20000 in
theorem imX6_linksUpAt : Cond.instanceMethod yX6_linksUpAt ∈ lw_good := lw_good_of 480 (by decide +kernel) (by decide +kernel)
set_option maxRecDepth 20000 in
theorem seX6_linksUpAt : Cond.selects yX6_linksUpAt.cls yX6_linksUpAt yX6_linksUpAt ∈ lw_good := lw_good_of 9 (by decide +kernel) (by decide +kernel)
set_option maxRecDepth 20000 in
theorem cwX6_linksUpAt : Cond.code yX6_linksUpAt cX6_linksUpAt 4 (some .int) ∈ lw_good := lw_good_of 481 (by decide +kernel) (by decide +kernel)
set_option maxRecDepth 20000 in
theorem imX6_prefixesAt : Cond.instanceMethod yX6_prefixesAt ∈ lw_good := lw_good_of 484 (by decide +kernel) (by decide +kernel)
set_option maxRecDepth 20000 in
theorem seX6_prefixesAt : Cond.selects yX6_prefixesAt.cls yX6_prefixesAt yX6_prefixesAt ∈ lw_good := lw_good_of 10 (by decide +kernel) (by decide +kernel)
set_option maxRecDepth 20000 in
theorem cwX6_prefixesAt : Cond.code yX6_prefixesAt cX6_prefixesAt 4 (some .int) ∈ lw_good := lw_good_of 485 (by decide +kernel) (by decide +kernel)
set_option maxRecDepth 20000 in
theorem imX6_putKnownNotes : Cond.instanceMethod yX6_putKnownNotes ∈ lw_good := lw_good_of 538 (by decide +kernel) (by decide +kernel)
set_option maxRecDepth 20000 in
theorem seX6_putKnownNotes : Cond.selects yX6_putKnownNotes.cls yX6_putKnownNotes yX6_putKnownNotes ∈ lw_good := lw_good_of 14 (by decide +kernel) (by decide +kernel)
set_option maxRecDepth 20000 in
theorem cwX6_putKnownNotes : Cond.code yX6_putKnownNotes cX6_putKnownNotes 5 none ∈ lw_good := lw_good_of 539 (by decide +kernel) (by decide +kernel)
set_option maxRecDepth 20000 in
theorem imX6_putMappings : Cond.instanceMethod yX6_putMappings ∈ lw_good := lw_good_of 542 (by decide +kernel) (by decide +kernel)
set_option maxRecDepth 20000 in
theorem seX6_putMappings : Cond.selects yX6_putMappings.cls yX6_putMappings yX6_putMappings ∈ lw_good := lw_good_of 15 (by decide +kernel) (by decide +kernel)
set_option maxRecDepth 20000 in
theorem cwX6_putMappings : Cond.code yX6_putMappings cX6_putMappings 4 none ∈ lw_good := lw_good_of 543 (by decide +kernel) (by decide +kernel)
set_option maxRecDepth 20000 in
theorem imX6_learn : Cond.instanceMethod yX6_learn ∈ lw_good := lw_good_of 489 (by decide +kernel) (by decide +kernel)
set_option maxRecDepth 20000 in
theorem seX6_learn : Cond.selects yX6_learn.cls yX6_learn yX6_learn ∈ lw_good := lw_good_of 11 (by decide +kernel) (by decide +kernel)
set_option maxRecDepth 20000 in
theorem cwX6_learn : Cond.code yX6_learn cX6_learn 5 none ∈ lw_good := lw_good_of 490 (by decide +kernel) (by decide +kernel)
set_option maxRecDepth 20000 in
theorem imX6_hop : Cond.instanceMethod yX6_hop ∈ lw_good := lw_good_of 316 (by decide +kernel) (by decide +kernel)
set_option maxRecDepth 20000 in
theorem seX6_hop : Cond.selects yX6_hop.cls yX6_hop yX6_hop ∈ lw_good := lw_good_of 1 (by decide +kernel) (by decide +kernel)
set_option maxRecDepth 20000 in
theorem cwX6_hop : Cond.code yX6_hop cX6_hop 6 (some .int) ∈ lw_good := lw_good_of 317 (by decide +kernel) (by decide +kernel)
set_option maxRecDepth 20000 in
theorem imX6_hopToEgress : Cond.instanceMethod yX6_hopToEgress ∈ lw_good := lw_good_of 347 (by decide +kernel) (by decide +kernel)
set_option maxRecDepth 20000 in
theorem seX6_hopToEgress : Cond.selects yX6_hopToEgress.cls yX6_hopToEgress yX6_hopToEgress ∈ lw_good := lw_good_of 3 (by decide +kernel) (by decide +kernel)
set_option maxRecDepth 20000 in
theorem cwX6_hopToEgress : Cond.code yX6_hopToEgress cX6_hopToEgress 4 (some .int) ∈ lw_good := lw_good_of 348 (by decide +kernel) (by decide +kernel)
set_option maxRecDepth 20000 in
theorem imX6_sendOnAll : Cond.instanceMethod yX6_sendOnAll ∈ lw_good := lw_good_of 515 (by decide +kernel) (by decide +kernel)
set_option maxRecDepth 20000 in
theorem seX6_sendOnAll : Cond.selects yX6_sendOnAll.cls yX6_sendOnAll yX6_sendOnAll ∈ lw_good := lw_good_of 12 (by decide +kernel) (by decide +kernel)
set_option maxRecDepth 20000 in
theorem cwX6_sendOnAll : Cond.code yX6_sendOnAll cX6_sendOnAll 5 none ∈ lw_good := lw_good_of 516 (by decide +kernel) (by decide +kernel)
set_option maxRecDepth 20000 in
theorem imX6_put : Cond.instanceMethod yX6_put ∈ lw_good := lw_good_of 519 (by decide +kernel) (by decide +kernel)
set_option maxRecDepth 20000 in
theorem seX6_put : Cond.selects yX6_put.cls yX6_put yX6_put ∈ lw_good := lw_good_of 13 (by decide +kernel) (by decide +kernel)
set_option maxRecDepth 20000 in
theorem cwX6_put : Cond.code yX6_put cX6_put 5 (some .boolean) ∈ lw_good := lw_good_of 520 (by decide +kernel) (by decide +kernel)
set_option maxRecDepth 20000 in
theorem imX6_firstThatWaits : Cond.instanceMethod yX6_firstThatWaits ∈ lw_good := lw_good_of 651 (by decide +kernel) (by decide +kernel)
set_option maxRecDepth 20000 in
theorem seX6_firstThatWaits : Cond.selects yX6_firstThatWaits.cls yX6_firstThatWaits yX6_firstThatWaits ∈ lw_good := lw_good_of 27 (by decide +kernel) (by decide +kernel)
set_option maxRecDepth 20000 in
theorem cwX6_firstThatWaits : Cond.code yX6_firstThatWaits cX6_firstThatWaits 3 (some .int) ∈ lw_good := lw_good_of 652 (by decide +kernel) (by decide +kernel)
set_option maxRecDepth 20000 in
theorem imX6_handOver : Cond.instanceMethod yX6_handOver ∈ lw_good := lw_good_of 606 (by decide +kernel) (by decide +kernel)
set_option maxRecDepth 20000 in
theorem seX6_handOver : Cond.selects yX6_handOver.cls yX6_handOver yX6_handOver ∈ lw_good := lw_good_of 21 (by decide +kernel) (by decide +kernel)
set_option maxRecDepth 20000 in
theorem cwX6_handOver : Cond.code yX6_handOver cX6_handOver 7 (some .int) ∈ lw_good := lw_good_of 607 (by decide +kernel) (by decide +kernel)
set_option maxRecDepth 20000 in
theorem imX6_noteComes : Cond.instanceMethod yX6_noteComes ∈ lw_good := lw_good_of 614 (by decide +kernel) (by decide +kernel)
set_option maxRecDepth 20000 in
theorem seX6_noteComes : Cond.selects yX6_noteComes.cls yX6_noteComes yX6_noteComes ∈ lw_good := lw_good_of 22 (by decide +kernel) (by decide +kernel)
set_option maxRecDepth 20000 in
theorem cwX6_noteComes : Cond.code yX6_noteComes cX6_noteComes 5 (some .boolean) ∈ lw_good := lw_good_of 615 (by decide +kernel) (by decide +kernel)
set_option maxRecDepth 20000 in
theorem imX6_mappingComes : Cond.instanceMethod yX6_mappingComes ∈ lw_good := lw_good_of 618 (by decide +kernel) (by decide +kernel)
set_option maxRecDepth 20000 in
theorem seX6_mappingComes : Cond.selects yX6_mappingComes.cls yX6_mappingComes yX6_mappingComes ∈ lw_good := lw_good_of 23 (by decide +kernel) (by decide +kernel)
set_option maxRecDepth 20000 in
theorem cwX6_mappingComes : Cond.code yX6_mappingComes cX6_mappingComes 5 none ∈ lw_good := lw_good_of 619 (by decide +kernel) (by decide +kernel)
set_option maxRecDepth 20000 in
theorem imX6_withdrawComes : Cond.instanceMethod yX6_withdrawComes ∈ lw_good := lw_good_of 623 (by decide +kernel) (by decide +kernel)
set_option maxRecDepth 20000 in
theorem seX6_withdrawComes : Cond.selects yX6_withdrawComes.cls yX6_withdrawComes yX6_withdrawComes ∈ lw_good := lw_good_of 24 (by decide +kernel) (by decide +kernel)
set_option maxRecDepth 20000 in
theorem cwX6_withdrawComes : Cond.code yX6_withdrawComes cX6_withdrawComes 5 none ∈ lw_good := lw_good_of 624 (by decide +kernel) (by decide +kernel)
set_option maxRecDepth 20000 in
theorem imX6_check : Cond.instanceMethod yX6_check ∈ lw_good := lw_good_of 547 (by decide +kernel) (by decide +kernel)
set_option maxRecDepth 20000 in
theorem seX6_check : Cond.selects yX6_check.cls yX6_check yX6_check ∈ lw_good := lw_good_of 16 (by decide +kernel) (by decide +kernel)
set_option maxRecDepth 20000 in
theorem cwX6_check : Cond.code yX6_check cX6_check 3 none ∈ lw_good := lw_good_of 548 (by decide +kernel) (by decide +kernel)
set_option maxRecDepth 20000 in
theorem imX6_checkPrefix : Cond.instanceMethod yX6_checkPrefix ∈ lw_good := lw_good_of 551 (by decide +kernel) (by decide +kernel)
set_option maxRecDepth 20000 in
theorem seX6_checkPrefix : Cond.selects yX6_checkPrefix.cls yX6_checkPrefix yX6_checkPrefix ∈ lw_good := lw_good_of 17 (by decide +kernel) (by decide +kernel)
set_option maxRecDepth 20000 in
theorem cwX6_checkPrefix : Cond.code yX6_checkPrefix cX6_checkPrefix 7 none ∈ lw_good := lw_good_of 552 (by decide +kernel) (by decide +kernel)
set_option maxRecDepth 20000 in
theorem imX6_pathNow : Cond.instanceMethod yX6_pathNow ∈ lw_good := lw_good_of 555 (by decide +kernel) (by decide +kernel)
set_option maxRecDepth 20000 in
theorem seX6_pathNow : Cond.selects yX6_pathNow.cls yX6_pathNow yX6_pathNow ∈ lw_good := lw_good_of 18 (by decide +kernel) (by decide +kernel)
set_option maxRecDepth 20000 in
theorem cwX6_pathNow : Cond.code yX6_pathNow cX6_pathNow 5 (some .int) ∈ lw_good := lw_good_of 556 (by decide +kernel) (by decide +kernel)
set_option maxRecDepth 20000 in
theorem imX6_ofMapping : Cond.instanceMethod yX6_ofMapping ∈ lw_good := lw_good_of 343 (by decide +kernel) (by decide +kernel)
set_option maxRecDepth 20000 in
theorem seX6_ofMapping : Cond.selects yX6_ofMapping.cls yX6_ofMapping yX6_ofMapping ∈ lw_good := lw_good_of 2 (by decide +kernel) (by decide +kernel)
set_option maxRecDepth 20000 in
theorem cwX6_ofMapping : Cond.code yX6_ofMapping cX6_ofMapping 6 (some .int) ∈ lw_good := lw_good_of 344 (by decide +kernel) (by decide +kernel)
set_option maxRecDepth 20000 in
theorem imX6_packetComes : Cond.instanceMethod yX6_packetComes ∈ lw_good := lw_good_of 631 (by decide +kernel) (by decide +kernel)
set_option maxRecDepth 20000 in
theorem seX6_packetComes : Cond.selects yX6_packetComes.cls yX6_packetComes yX6_packetComes ∈ lw_good := lw_good_of 25 (by decide +kernel) (by decide +kernel)
set_option maxRecDepth 20000 in
theorem cwX6_packetComes : Cond.code yX6_packetComes cX6_packetComes 6 none ∈ lw_good := lw_good_of 632 (by decide +kernel) (by decide +kernel)
set_option maxRecDepth 20000 in
theorem imX6_go : Cond.instanceMethod yX6_go ∈ lw_good := lw_good_of 639 (by decide +kernel) (by decide +kernel)
set_option maxRecDepth 20000 in
theorem seX6_go : Cond.selects yX6_go.cls yX6_go yX6_go ∈ lw_good := lw_good_of 26 (by decide +kernel) (by decide +kernel)
set_option maxRecDepth 20000 in
theorem cwX6_go : Cond.code yX6_go cX6_go 8 none ∈ lw_good := lw_good_of 640 (by decide +kernel) (by decide +kernel)
set_option maxRecDepth 20000 in
theorem imX7_init : Cond.instanceMethod yX7_init ∈ lw_good := lw_good_of 698 (by decide +kernel) (by decide +kernel)
set_option maxRecDepth 20000 in
theorem cwX7_init : Cond.code yX7_init cX7_init 3 none ∈ lw_good := lw_good_of 699 (by decide +kernel) (by decide +kernel)
set_option maxRecDepth 20000 in
theorem imX7_thrown : Cond.instanceMethod yX7_thrown ∈ lw_good := lw_good_of 797 (by decide +kernel) (by decide +kernel)
set_option maxRecDepth 20000 in
theorem seX7_thrown : Cond.selects yX7_thrown.cls yX7_thrown yX7_thrown ∈ lw_good := lw_good_of 798 (by decide +kernel) (by decide +kernel)
set_option maxRecDepth 20000 in
theorem cwX7_thrown : Cond.code yX7_thrown cX7_thrown 1 (some .int) ∈ lw_good := lw_good_of 799 (by decide +kernel) (by decide +kernel)
set_option maxRecDepth 20000 in
theorem imX7_goes : Cond.instanceMethod yX7_goes ∈ lw_good := lw_good_of 813 (by decide +kernel) (by decide +kernel)
set_option maxRecDepth 20000 in
theorem seX7_goes : Cond.selects yX7_goes.cls yX7_goes yX7_goes ∈ lw_good := lw_good_of 29 (by decide +kernel) (by decide +kernel)
set_option maxRecDepth 20000 in
theorem cwX7_goes : Cond.code yX7_goes cX7_goes 3 (some .boolean) ∈ lw_good := lw_good_of 814 (by decide +kernel) (by decide +kernel)
set_option maxRecDepth 20000 in
theorem smX7_in : Cond.static yX7_in ∈ lw_good := lw_good_of 805 (by decide +kernel) (by decide +kernel)
set_option maxRecDepth 20000 in
theorem cwX7_in : Cond.code yX7_in cX7_in 2 (some .boolean) ∈ lw_good := lw_good_of 806 (by decide +kernel) (by decide +kernel)
set_option maxRecDepth 20000 in
theorem imX7_isRouter : Cond.instanceMethod yX7_isRouter ∈ lw_good := lw_good_of 809 (by decide +kernel) (by decide +kernel)
set_option maxRecDepth 20000 in
theorem seX7_isRouter : Cond.selects yX7_isRouter.cls yX7_isRouter yX7_isRouter ∈ lw_good := lw_good_of 28 (by decide +kernel) (by decide +kernel)
set_option maxRecDepth 20000 in
theorem cwX7_isRouter : Cond.code yX7_isRouter cX7_isRouter 2 (some .boolean) ∈ lw_good := lw_good_of 810 (by decide +kernel) (by decide +kernel)
set_option maxRecDepth 20000 in
theorem imX7_isUp : Cond.instanceMethod yX7_isUp ∈ lw_good := lw_good_of 829 (by decide +kernel) (by decide +kernel)
set_option maxRecDepth 20000 in
theorem seX7_isUp : Cond.selects yX7_isUp.cls yX7_isUp yX7_isUp ∈ lw_good := lw_good_of 32 (by decide +kernel) (by decide +kernel)
set_option maxRecDepth 20000 in
theorem cwX7_isUp : Cond.code yX7_isUp cX7_isUp 3 (some .boolean) ∈ lw_good := lw_good_of 830 (by decide +kernel) (by decide +kernel)
set_option maxRecDepth 20000 in
theorem imX7_other : Cond.instanceMethod yX7_other ∈ lw_good := lw_good_of 902 (by decide +kernel) (by decide +kernel)
set_option maxRecDepth 20000 in
theorem seX7_other : Cond.selects yX7_other.cls yX7_other yX7_other ∈ lw_good := lw_good_of 50 (by decide +kernel) (by decide +kernel)
set_option maxRecDepth 20000 in
theorem cwX7_other : Cond.code yX7_other cX7_other 3 (some .int) ∈ lw_good := lw_good_of 903 (by decide +kernel) (by decide +kernel)
set_option maxRecDepth 20000 in
theorem imX7_put : Cond.instanceMethod yX7_put ∈ lw_good := lw_good_of 845 (by decide +kernel) (by decide +kernel)
set_option maxRecDepth 20000 in
theorem seX7_put : Cond.selects yX7_put.cls yX7_put yX7_put ∈ lw_good := lw_good_of 36 (by decide +kernel) (by decide +kernel)
set_option maxRecDepth 20000 in
theorem cwX7_put : Cond.code yX7_put cX7_put 9 (some .boolean) ∈ lw_good := lw_good_of 846 (by decide +kernel) (by decide +kernel)
set_option maxRecDepth 20000 in
theorem imX7_send : Cond.instanceMethod yX7_send ∈ lw_good := lw_good_of 841 (by decide +kernel) (by decide +kernel)
set_option maxRecDepth 20000 in
theorem seX7_send : Cond.selects yX7_send.cls yX7_send yX7_send ∈ lw_good := lw_good_of 35 (by decide +kernel) (by decide +kernel)
set_option maxRecDepth 20000 in
theorem cwX7_send : Cond.code yX7_send cX7_send 7 none ∈ lw_good := lw_good_of 842 (by decide +kernel) (by decide +kernel)
set_option maxRecDepth 20000 in
theorem imX7_sendAll : Cond.instanceMethod yX7_sendAll ∈ lw_good := lw_good_of 837 (by decide +kernel) (by decide +kernel)
set_option maxRecDepth 20000 in
theorem seX7_sendAll : Cond.selects yX7_sendAll.cls yX7_sendAll yX7_sendAll ∈ lw_good := lw_good_of 34 (by decide +kernel) (by decide +kernel)
set_option maxRecDepth 20000 in
theorem cwX7_sendAll : Cond.code yX7_sendAll cX7_sendAll 8 none ∈ lw_good := lw_good_of 838 (by decide +kernel) (by decide +kernel)
set_option maxRecDepth 20000 in
theorem imX7_bodyOf : Cond.instanceMethod yX7_bodyOf ∈ lw_good := lw_good_of 833 (by decide +kernel) (by decide +kernel)
set_option maxRecDepth 20000 in
theorem seX7_bodyOf : Cond.selects yX7_bodyOf.cls yX7_bodyOf yX7_bodyOf ∈ lw_good := lw_good_of 33 (by decide +kernel) (by decide +kernel)
set_option maxRecDepth 20000 in
theorem cwX7_bodyOf : Cond.code yX7_bodyOf cX7_bodyOf 3 (some .int) ∈ lw_good := lw_good_of 834 (by decide +kernel) (by decide +kernel)
set_option maxRecDepth 20000 in
theorem imX7_tell : Cond.instanceMethod yX7_tell ∈ lw_good := lw_good_of 825 (by decide +kernel) (by decide +kernel)
set_option maxRecDepth 20000 in
theorem seX7_tell : Cond.selects yX7_tell.cls yX7_tell yX7_tell ∈ lw_good := lw_good_of 31 (by decide +kernel) (by decide +kernel)
set_option maxRecDepth 20000 in
theorem cwX7_tell : Cond.code yX7_tell cX7_tell 5 none ∈ lw_good := lw_good_of 826 (by decide +kernel) (by decide +kernel)
set_option maxRecDepth 20000 in
theorem imX7_isStep : Cond.instanceMethod yX7_isStep ∈ lw_good := lw_good_of 878 (by decide +kernel) (by decide +kernel)
set_option maxRecDepth 20000 in
theorem seX7_isStep : Cond.selects yX7_isStep.cls yX7_isStep yX7_isStep ∈ lw_good := lw_good_of 44 (by decide +kernel) (by decide +kernel)
set_option maxRecDepth 20000 in
theorem cwX7_isStep : Cond.code yX7_isStep cX7_isStep 3 (some .boolean) ∈ lw_good := lw_good_of 879 (by decide +kernel) (by decide +kernel)
set_option maxRecDepth 20000 in
theorem imX7_shorten : Cond.instanceMethod yX7_shorten ∈ lw_good := lw_good_of 882 (by decide +kernel) (by decide +kernel)
set_option maxRecDepth 20000 in
theorem seX7_shorten : Cond.selects yX7_shorten.cls yX7_shorten yX7_shorten ∈ lw_good := lw_good_of 45 (by decide +kernel) (by decide +kernel)
set_option maxRecDepth 20000 in
theorem cwX7_shorten : Cond.code yX7_shorten cX7_shorten 4 none ∈ lw_good := lw_good_of 883 (by decide +kernel) (by decide +kernel)
set_option maxRecDepth 20000 in
theorem imX7_measure : Cond.instanceMethod yX7_measure ∈ lw_good := lw_good_of 873 (by decide +kernel) (by decide +kernel)
set_option maxRecDepth 20000 in
theorem seX7_measure : Cond.selects yX7_measure.cls yX7_measure yX7_measure ∈ lw_good := lw_good_of 43 (by decide +kernel) (by decide +kernel)
set_option maxRecDepth 20000 in
theorem cwX7_measure : Cond.code yX7_measure cX7_measure 5 none ∈ lw_good := lw_good_of 874 (by decide +kernel) (by decide +kernel)
set_option maxRecDepth 20000 in
theorem imX7_hop : Cond.instanceMethod yX7_hop ∈ lw_good := lw_good_of 898 (by decide +kernel) (by decide +kernel)
set_option maxRecDepth 20000 in
theorem seX7_hop : Cond.selects yX7_hop.cls yX7_hop yX7_hop ∈ lw_good := lw_good_of 49 (by decide +kernel) (by decide +kernel)
set_option maxRecDepth 20000 in
theorem cwX7_hop : Cond.code yX7_hop cX7_hop 4 (some .int) ∈ lw_good := lw_good_of 899 (by decide +kernel) (by decide +kernel)
set_option maxRecDepth 20000 in
theorem imX7_egress : Cond.instanceMethod yX7_egress ∈ lw_good := lw_good_of 894 (by decide +kernel) (by decide +kernel)
set_option maxRecDepth 20000 in
theorem seX7_egress : Cond.selects yX7_egress.cls yX7_egress yX7_egress ∈ lw_good := lw_good_of 48 (by decide +kernel) (by decide +kernel)
set_option maxRecDepth 20000 in
theorem cwX7_egress : Cond.code yX7_egress cX7_egress 4 (some .int) ∈ lw_good := lw_good_of 895 (by decide +kernel) (by decide +kernel)
set_option maxRecDepth 20000 in
theorem imX7_slot : Cond.instanceMethod yX7_slot ∈ lw_good := lw_good_of 861 (by decide +kernel) (by decide +kernel)
set_option maxRecDepth 20000 in
theorem seX7_slot : Cond.selects yX7_slot.cls yX7_slot yX7_slot ∈ lw_good := lw_good_of 40 (by decide +kernel) (by decide +kernel)
set_option maxRecDepth 20000 in
theorem cwX7_slot : Cond.code yX7_slot cX7_slot 4 (some .int) ∈ lw_good := lw_good_of 862 (by decide +kernel) (by decide +kernel)
set_option maxRecDepth 20000 in
theorem imX7_settle : Cond.instanceMethod yX7_settle ∈ lw_good := lw_good_of 865 (by decide +kernel) (by decide +kernel)
set_option maxRecDepth 20000 in
theorem seX7_settle : Cond.selects yX7_settle.cls yX7_settle yX7_settle ∈ lw_good := lw_good_of 41 (by decide +kernel) (by decide +kernel)
set_option maxRecDepth 20000 in
theorem cwX7_settle : Cond.code yX7_settle cX7_settle 4 none ∈ lw_good := lw_good_of 866 (by decide +kernel) (by decide +kernel)
set_option maxRecDepth 20000 in
theorem imX7_withdraw : Cond.instanceMethod yX7_withdraw ∈ lw_good := lw_good_of 906 (by decide +kernel) (by decide +kernel)
set_option maxRecDepth 20000 in
theorem seX7_withdraw : Cond.selects yX7_withdraw.cls yX7_withdraw yX7_withdraw ∈ lw_good := lw_good_of 51 (by decide +kernel) (by decide +kernel)
set_option maxRecDepth 20000 in
theorem cwX7_withdraw : Cond.code yX7_withdraw cX7_withdraw 4 none ∈ lw_good := lw_good_of 907 (by decide +kernel) (by decide +kernel)
set_option maxRecDepth 20000 in
theorem imX7_free : Cond.instanceMethod yX7_free ∈ lw_good := lw_good_of 914 (by decide +kernel) (by decide +kernel)
set_option maxRecDepth 20000 in
theorem seX7_free : Cond.selects yX7_free.cls yX7_free yX7_free ∈ lw_good := lw_good_of 53 (by decide +kernel) (by decide +kernel)
set_option maxRecDepth 20000 in
theorem cwX7_free : Cond.code yX7_free cX7_free 3 (some .int) ∈ lw_good := lw_good_of 915 (by decide +kernel) (by decide +kernel)
set_option maxRecDepth 20000 in
theorem imX7_become : Cond.instanceMethod yX7_become ∈ lw_good := lw_good_of 910 (by decide +kernel) (by decide +kernel)
set_option maxRecDepth 20000 in
theorem seX7_become : Cond.selects yX7_become.cls yX7_become yX7_become ∈ lw_good := lw_good_of 52 (by decide +kernel) (by decide +kernel)
set_option maxRecDepth 20000 in
theorem cwX7_become : Cond.code yX7_become cX7_become 5 none ∈ lw_good := lw_good_of 911 (by decide +kernel) (by decide +kernel)
set_option maxRecDepth 20000 in
theorem imX7_byHop : Cond.instanceMethod yX7_byHop ∈ lw_good := lw_good_of 890 (by decide +kernel) (by decide +kernel)
set_option maxRecDepth 20000 in
theorem seX7_byHop : Cond.selects yX7_byHop.cls yX7_byHop yX7_byHop ∈ lw_good := lw_good_of 47 (by decide +kernel) (by decide +kernel)
set_option maxRecDepth 20000 in
theorem cwX7_byHop : Cond.code yX7_byHop cX7_byHop 5 (some .int) ∈ lw_good := lw_good_of 891 (by decide +kernel) (by decide +kernel)
set_option maxRecDepth 20000 in
theorem imX7_checkOne : Cond.instanceMethod yX7_checkOne ∈ lw_good := lw_good_of 886 (by decide +kernel) (by decide +kernel)
set_option maxRecDepth 20000 in
theorem seX7_checkOne : Cond.selects yX7_checkOne.cls yX7_checkOne yX7_checkOne ∈ lw_good := lw_good_of 46 (by decide +kernel) (by decide +kernel)
set_option maxRecDepth 20000 in
theorem cwX7_checkOne : Cond.code yX7_checkOne cX7_checkOne 7 none ∈ lw_good := lw_good_of 887 (by decide +kernel) (by decide +kernel)
set_option maxRecDepth 20000 in
theorem imX7_check : Cond.instanceMethod yX7_check ∈ lw_good := lw_good_of 869 (by decide +kernel) (by decide +kernel)
set_option maxRecDepth 20000 in
theorem seX7_check : Cond.selects yX7_check.cls yX7_check yX7_check ∈ lw_good := lw_good_of 42 (by decide +kernel) (by decide +kernel)
set_option maxRecDepth 20000 in
theorem cwX7_check : Cond.code yX7_check cX7_check 3 none ∈ lw_good := lw_good_of 870 (by decide +kernel) (by decide +kernel)
set_option maxRecDepth 20000 in
theorem imX7_noted : Cond.instanceMethod yX7_noted ∈ lw_good := lw_good_of 933 (by decide +kernel) (by decide +kernel)
set_option maxRecDepth 20000 in
theorem seX7_noted : Cond.selects yX7_noted.cls yX7_noted yX7_noted ∈ lw_good := lw_good_of 55 (by decide +kernel) (by decide +kernel)
set_option maxRecDepth 20000 in
theorem cwX7_noted : Cond.code yX7_noted cX7_noted 7 none ∈ lw_good := lw_good_of 934 (by decide +kernel) (by decide +kernel)
set_option maxRecDepth 20000 in
theorem imX7_mapped : Cond.instanceMethod yX7_mapped ∈ lw_good := lw_good_of 937 (by decide +kernel) (by decide +kernel)
set_option maxRecDepth 20000 in
theorem seX7_mapped : Cond.selects yX7_mapped.cls yX7_mapped yX7_mapped ∈ lw_good := lw_good_of 56 (by decide +kernel) (by decide +kernel)
set_option maxRecDepth 20000 in
theorem cwX7_mapped : Cond.code yX7_mapped cX7_mapped 7 none ∈ lw_good := lw_good_of 938 (by decide +kernel) (by decide +kernel)
set_option maxRecDepth 20000 in
theorem imX7_withdrawn : Cond.instanceMethod yX7_withdrawn ∈ lw_good := lw_good_of 941 (by decide +kernel) (by decide +kernel)
set_option maxRecDepth 20000 in
theorem seX7_withdrawn : Cond.selects yX7_withdrawn.cls yX7_withdrawn yX7_withdrawn ∈ lw_good := lw_good_of 57 (by decide +kernel) (by decide +kernel)
set_option maxRecDepth 20000 in
theorem cwX7_withdrawn : Cond.code yX7_withdrawn cX7_withdrawn 5 none ∈ lw_good := lw_good_of 942 (by decide +kernel) (by decide +kernel)
set_option maxRecDepth 20000 in
theorem imX7_released : Cond.instanceMethod yX7_released ∈ lw_good := lw_good_of 945 (by decide +kernel) (by decide +kernel)
set_option maxRecDepth 20000 in
theorem seX7_released : Cond.selects yX7_released.cls yX7_released yX7_released ∈ lw_good := lw_good_of 58 (by decide +kernel) (by decide +kernel)
set_option maxRecDepth 20000 in
theorem cwX7_released : Cond.code yX7_released cX7_released 5 none ∈ lw_good := lw_good_of 946 (by decide +kernel) (by decide +kernel)
set_option maxRecDepth 20000 in
theorem imX7_go : Cond.instanceMethod yX7_go ∈ lw_good := lw_good_of 949 (by decide +kernel) (by decide +kernel)
set_option maxRecDepth 20000 in
theorem seX7_go : Cond.selects yX7_go.cls yX7_go yX7_go ∈ lw_good := lw_good_of 59 (by decide +kernel) (by decide +kernel)
set_option maxRecDepth 20000 in
theorem cwX7_go : Cond.code yX7_go cX7_go 8 none ∈ lw_good := lw_good_of 950 (by decide +kernel) (by decide +kernel)
set_option maxRecDepth 20000 in
theorem imX7_come : Cond.instanceMethod yX7_come ∈ lw_good := lw_good_of 929 (by decide +kernel) (by decide +kernel)
set_option maxRecDepth 20000 in
theorem seX7_come : Cond.selects yX7_come.cls yX7_come yX7_come ∈ lw_good := lw_good_of 54 (by decide +kernel) (by decide +kernel)
set_option maxRecDepth 20000 in
theorem cwX7_come : Cond.code yX7_come cX7_come 11 (some .int) ∈ lw_good := lw_good_of 930 (by decide +kernel) (by decide +kernel)
set_option maxRecDepth 20000 in
theorem imX7_lay : Cond.instanceMethod yX7_lay ∈ lw_good := lw_good_of 801 (by decide +kernel) (by decide +kernel)
set_option maxRecDepth 20000 in
theorem seX7_lay : Cond.selects yX7_lay.cls yX7_lay yX7_lay ∈ lw_good := lw_good_of 802 (by decide +kernel) (by decide +kernel)
set_option maxRecDepth 20000 in
theorem cwX7_lay : Cond.code yX7_lay cX7_lay 6 none ∈ lw_good := lw_good_of 803 (by decide +kernel) (by decide +kernel)
set_option maxRecDepth 20000 in
theorem imX7_showNotes : Cond.instanceMethod yX7_showNotes ∈ lw_good := lw_good_of 849 (by decide +kernel) (by decide +kernel)
set_option maxRecDepth 20000 in
theorem seX7_showNotes : Cond.selects yX7_showNotes.cls yX7_showNotes yX7_showNotes ∈ lw_good := lw_good_of 37 (by decide +kernel) (by decide +kernel)
set_option maxRecDepth 20000 in
theorem cwX7_showNotes : Cond.code yX7_showNotes cX7_showNotes 4 none ∈ lw_good := lw_good_of 850 (by decide +kernel) (by decide +kernel)
set_option maxRecDepth 20000 in
theorem imX7_showMappings : Cond.instanceMethod yX7_showMappings ∈ lw_good := lw_good_of 853 (by decide +kernel) (by decide +kernel)
set_option maxRecDepth 20000 in
theorem seX7_showMappings : Cond.selects yX7_showMappings.cls yX7_showMappings yX7_showMappings ∈ lw_good := lw_good_of 38 (by decide +kernel) (by decide +kernel)
set_option maxRecDepth 20000 in
theorem cwX7_showMappings : Cond.code yX7_showMappings cX7_showMappings 4 none ∈ lw_good := lw_good_of 854 (by decide +kernel) (by decide +kernel)
set_option maxRecDepth 20000 in
theorem imX7_empty : Cond.instanceMethod yX7_empty ∈ lw_good := lw_good_of 821 (by decide +kernel) (by decide +kernel)
set_option maxRecDepth 20000 in
theorem seX7_empty : Cond.selects yX7_empty.cls yX7_empty yX7_empty ∈ lw_good := lw_good_of 30 (by decide +kernel) (by decide +kernel)
set_option maxRecDepth 20000 in
theorem cwX7_empty : Cond.code yX7_empty cX7_empty 3 none ∈ lw_good := lw_good_of 822 (by decide +kernel) (by decide +kernel)
set_option maxRecDepth 20000 in
theorem imX7_sever : Cond.instanceMethod yX7_sever ∈ lw_good := lw_good_of 857 (by decide +kernel) (by decide +kernel)
set_option maxRecDepth 20000 in
theorem seX7_sever : Cond.selects yX7_sever.cls yX7_sever yX7_sever ∈ lw_good := lw_good_of 39 (by decide +kernel) (by decide +kernel)
set_option maxRecDepth 20000 in
theorem cwX7_sever : Cond.code yX7_sever cX7_sever 4 none ∈ lw_good := lw_good_of 858 (by decide +kernel) (by decide +kernel)
set_option maxRecDepth 20000 in
theorem imX7_turn : Cond.instanceMethod yX7_turn ∈ lw_good := lw_good_of 816 (by decide +kernel) (by decide +kernel)
set_option maxRecDepth 20000 in
theorem seX7_turn : Cond.selects yX7_turn.cls yX7_turn yX7_turn ∈ lw_good := lw_good_of 817 (by decide +kernel) (by decide +kernel)
set_option maxRecDepth 20000 in
theorem cwX7_turn : Cond.code yX7_turn cX7_turn 6 none ∈ lw_good := lw_good_of 818 (by decide +kernel) (by decide +kernel)
set_option maxRecDepth 20000 in
theorem imX7_attach : Cond.instanceMethod yX7_attach ∈ lw_good := lw_good_of 917 (by decide +kernel) (by decide +kernel)
set_option maxRecDepth 20000 in
theorem seX7_attach : Cond.selects yX7_attach.cls yX7_attach yX7_attach ∈ lw_good := lw_good_of 918 (by decide +kernel) (by decide +kernel)
set_option maxRecDepth 20000 in
theorem cwX7_attach : Cond.code yX7_attach cX7_attach 5 none ∈ lw_good := lw_good_of 919 (by decide +kernel) (by decide +kernel)
set_option maxRecDepth 20000 in
theorem smX7_isEnd : Cond.static yX7_isEnd ∈ lw_good := lw_good_of 925 (by decide +kernel) (by decide +kernel)
set_option maxRecDepth 20000 in
theorem cwX7_isEnd : Cond.code yX7_isEnd cX7_isEnd 2 (some .boolean) ∈ lw_good := lw_good_of 926 (by decide +kernel) (by decide +kernel)
set_option maxRecDepth 20000 in
theorem imX7_deliver : Cond.instanceMethod yX7_deliver ∈ lw_good := lw_good_of 921 (by decide +kernel) (by decide +kernel)
set_option maxRecDepth 20000 in
theorem seX7_deliver : Cond.selects yX7_deliver.cls yX7_deliver yX7_deliver ∈ lw_good := lw_good_of 922 (by decide +kernel) (by decide +kernel)
set_option maxRecDepth 20000 in
theorem cwX7_deliver : Cond.code yX7_deliver cX7_deliver 3 (some .int) ∈ lw_good := lw_good_of 923 (by decide +kernel) (by decide +kernel)
set_option maxRecDepth 20000 in
theorem imX7_run : Cond.instanceMethod yX7_run ∈ lw_good := lw_good_of 952 (by decide +kernel) (by decide +kernel)
set_option maxRecDepth 20000 in
theorem seX7_run : Cond.selects yX7_run.cls yX7_run yX7_run ∈ lw_good := lw_good_of 953 (by decide +kernel) (by decide +kernel)
set_option maxRecDepth 20000 in
theorem cwX7_run : Cond.code yX7_run cX7_run 6 (some .int) ∈ lw_good := lw_good_of 954 (by decide +kernel) (by decide +kernel)
set_option maxRecDepth 20000 in
theorem imX7_spoil : Cond.instanceMethod yX7_spoil ∈ lw_good := lw_good_of 956 (by decide +kernel) (by decide +kernel)
set_option maxRecDepth 20000 in
theorem seX7_spoil : Cond.selects yX7_spoil.cls yX7_spoil yX7_spoil ∈ lw_good := lw_good_of 957 (by decide +kernel) (by decide +kernel)
set_option maxRecDepth 20000 in
theorem cwX7_spoil : Cond.code yX7_spoil cX7_spoil 5 (some .boolean) ∈ lw_good := lw_good_of 958 (by decide +kernel) (by decide +kernel)
set_option maxRecDepth 20000 in
theorem imX7_inject : Cond.instanceMethod yX7_inject ∈ lw_good := lw_good_of 960 (by decide +kernel) (by decide +kernel)
set_option maxRecDepth 20000 in
theorem seX7_inject : Cond.selects yX7_inject.cls yX7_inject yX7_inject ∈ lw_good := lw_good_of 961 (by decide +kernel) (by decide +kernel)
set_option maxRecDepth 20000 in
theorem cwX7_inject : Cond.code yX7_inject cX7_inject 5 (some .int) ∈ lw_good := lw_good_of 962 (by decide +kernel) (by decide +kernel)
set_option maxRecDepth 20000 in
theorem imX7_packet : Cond.instanceMethod yX7_packet ∈ lw_good := lw_good_of 964 (by decide +kernel) (by decide +kernel)
set_option maxRecDepth 20000 in
theorem seX7_packet : Cond.selects yX7_packet.cls yX7_packet yX7_packet ∈ lw_good := lw_good_of 965 (by decide +kernel) (by decide +kernel)
set_option maxRecDepth 20000 in
theorem cwX7_packet : Cond.code yX7_packet cX7_packet 3 (some .int) ∈ lw_good := lw_good_of 966 (by decide +kernel) (by decide +kernel)
set_option maxRecDepth 20000 in
theorem imX7_queue : Cond.instanceMethod yX7_queue ∈ lw_good := lw_good_of 968 (by decide +kernel) (by decide +kernel)
set_option maxRecDepth 20000 in
theorem seX7_queue : Cond.selects yX7_queue.cls yX7_queue yX7_queue ∈ lw_good := lw_good_of 969 (by decide +kernel) (by decide +kernel)
set_option maxRecDepth 20000 in
theorem cwX7_queue : Cond.code yX7_queue cX7_queue 6 (some .int) ∈ lw_good := lw_good_of 970 (by decide +kernel) (by decide +kernel)
set_option maxRecDepth 20000 in
theorem imX7_knows : Cond.instanceMethod yX7_knows ∈ lw_good := lw_good_of 972 (by decide +kernel) (by decide +kernel)
set_option maxRecDepth 20000 in
theorem seX7_knows : Cond.selects yX7_knows.cls yX7_knows yX7_knows ∈ lw_good := lw_good_of 973 (by decide +kernel) (by decide +kernel)
set_option maxRecDepth 20000 in
theorem cwX7_knows : Cond.code yX7_knows cX7_knows 3 (some .int) ∈ lw_good := lw_good_of 974 (by decide +kernel) (by decide +kernel)
set_option maxRecDepth 20000 in
theorem imX7_way : Cond.instanceMethod yX7_way ∈ lw_good := lw_good_of 976 (by decide +kernel) (by decide +kernel)
set_option maxRecDepth 20000 in
theorem seX7_way : Cond.selects yX7_way.cls yX7_way yX7_way ∈ lw_good := lw_good_of 977 (by decide +kernel) (by decide +kernel)
set_option maxRecDepth 20000 in
theorem cwX7_way : Cond.code yX7_way cX7_way 4 (some .int) ∈ lw_good := lw_good_of 978 (by decide +kernel) (by decide +kernel)
set_option maxRecDepth 20000 in
theorem imX7_asked : Cond.instanceMethod yX7_asked ∈ lw_good := lw_good_of 985 (by decide +kernel) (by decide +kernel)
set_option maxRecDepth 20000 in
theorem seX7_asked : Cond.selects yX7_asked.cls yX7_asked yX7_asked ∈ lw_good := lw_good_of 60 (by decide +kernel) (by decide +kernel)
set_option maxRecDepth 20000 in
theorem cwX7_asked : Cond.code yX7_asked cX7_asked 4 (some .int) ∈ lw_good := lw_good_of 986 (by decide +kernel) (by decide +kernel)
set_option maxRecDepth 20000 in
theorem imX7_label : Cond.instanceMethod yX7_label ∈ lw_good := lw_good_of 980 (by decide +kernel) (by decide +kernel)
set_option maxRecDepth 20000 in
theorem seX7_label : Cond.selects yX7_label.cls yX7_label yX7_label ∈ lw_good := lw_good_of 981 (by decide +kernel) (by decide +kernel)
set_option maxRecDepth 20000 in
theorem cwX7_label : Cond.code yX7_label cX7_label 6 (some .int) ∈ lw_good := lw_good_of 982 (by decide +kernel) (by decide +kernel)
set_option maxRecDepth 20000 in
theorem imX7_count : Cond.instanceMethod yX7_count ∈ lw_good := lw_good_of 988 (by decide +kernel) (by decide +kernel)
set_option maxRecDepth 20000 in
theorem seX7_count : Cond.selects yX7_count.cls yX7_count yX7_count ∈ lw_good := lw_good_of 989 (by decide +kernel) (by decide +kernel)
set_option maxRecDepth 20000 in
theorem cwX7_count : Cond.code yX7_count cX7_count 5 (some .int) ∈ lw_good := lw_good_of 990 (by decide +kernel) (by decide +kernel)
set_option maxRecDepth 20000 in
theorem kiL : Cond.initialized RL ∈ lw_good := lw_good_of 61 (by decide +kernel) (by decide +kernel)
set_option maxRecDepth 20000 in
theorem kiX6 : Cond.initialized RX6 ∈ lw_good := lw_good_of 62 (by decide +kernel) (by decide +kernel)
set_option maxRecDepth 20000 in
theorem kiX1 : Cond.initialized RX1 ∈ lw_good := lw_good_of 63 (by decide +kernel) (by decide +kernel)
set_option maxRecDepth 20000 in
theorem kiJ9 : Cond.initialized RJ9 ∈ lw_good := lw_good_of 64 (by decide +kernel) (by decide +kernel)
set_option maxRecDepth 20000 in
theorem mi_math : Cond.initialized "java/lang/Math" ∈ lw_good := lw_good_of 64 (by decide +kernel) (by decide +kernel)
set_option maxRecDepth 20000 in
theorem kiX4 : Cond.initialized RX4 ∈ lw_good := lw_good_of 65 (by decide +kernel) (by decide +kernel)
set_option maxRecDepth 20000 in
theorem kiX5 : Cond.initialized RX5 ∈ lw_good := lw_good_of 66 (by decide +kernel) (by decide +kernel)
set_option maxRecDepth 20000 in
theorem kiX0 : Cond.initialized RX0 ∈ lw_good := lw_good_of 67 (by decide +kernel) (by decide +kernel)
set_option maxRecDepth 20000 in
theorem kiX2 : Cond.initialized RX2 ∈ lw_good := lw_good_of 68 (by decide +kernel) (by decide +kernel)
set_option maxRecDepth 20000 in
theorem kiX7 : Cond.initialized RX7 ∈ lw_good := lw_good_of 69 (by decide +kernel) (by decide +kernel)
set_option maxRecDepth 20000 in
theorem kiX3 : Cond.initialized RX3 ∈ lw_good := lw_good_of 75 (by decide +kernel) (by decide +kernel)
set_option maxRecDepth 20000 in
theorem klL_8 : Cond.classLink RL 8 RX6 ∈ lw_good := lw_good_of 76 (by decide +kernel) (by decide +kernel)
set_option maxRecDepth 20000 in
theorem knX6 : Cond.instantiable RX6 7 ∈ lw_good := lw_good_of 77 (by decide +kernel) (by decide +kernel)
set_option maxRecDepth 20000 in
theorem olX6_1 : Cond.methodLink RX6 1 Lib.objectInit ∈ lw_good := lw_good_of 81 (by decide +kernel) (by decide +kernel)
set_option maxRecDepth 20000 in
theorem oi_obj : Cond.instanceMethod Lib.objectInit ∈ lw_good := lw_good_of 82 (by decide +kernel) (by decide +kernel)
set_option maxRecDepth 20000 in
theorem oc_obj : Cond.code Lib.objectInit ⟨#[0xb1]⟩ 1 none ∈ lw_good := lw_good_of 83 (by decide +kernel) (by decide +kernel)
set_option maxRecDepth 20000 in
theorem klX6_9 : Cond.classLink RX6 9 RX0 ∈ lw_good := lw_good_of 84 (by decide +kernel) (by decide +kernel)
set_option maxRecDepth 20000 in
theorem klX6_19 : Cond.classLink RX6 19 RX3 ∈ lw_good := lw_good_of 86 (by decide +kernel) (by decide +kernel)
set_option maxRecDepth 20000 in
theorem klX6_32 : Cond.classLink RX6 32 RX1 ∈ lw_good := lw_good_of 88 (by decide +kernel) (by decide +kernel)
set_option maxRecDepth 20000 in
theorem knX1 : Cond.instantiable RX1 6 ∈ lw_good := lw_good_of 89 (by decide +kernel) (by decide +kernel)
set_option maxRecDepth 20000 in
theorem olX1_3 : Cond.methodLink RX1 3 Lib.objectInit ∈ lw_good := lw_good_of 93 (by decide +kernel) (by decide +kernel)
set_option maxRecDepth 20000 in
theorem ka_int : Cond.arrayClass .int ∈ lw_good := lw_good_of 119 (by decide +kernel) (by decide +kernel)
set_option maxRecDepth 20000 in
theorem mlX6_39 : Cond.methodLink RX6 39 Lib.Math.min.name ∈ lw_good := lw_good_of 120 (by decide +kernel) (by decide +kernel)
set_option maxRecDepth 20000 in
theorem ms_min : Cond.static Lib.Math.min.name ∈ lw_good := lw_good_of 121 (by decide +kernel) (by decide +kernel)
set_option maxRecDepth 20000 in
theorem mc_min : Cond.code Lib.Math.min.name Lib.Math.min.code 2 (some .int) ∈ lw_good := lw_good_of 122 (by decide +kernel) (by decide +kernel)
set_option maxRecDepth 20000 in
theorem mlX6_45 : Cond.methodLink RX6 45 Lib.Math.max.name ∈ lw_good := lw_good_of 123 (by decide +kernel) (by decide +kernel)
set_option maxRecDepth 20000 in
theorem ms_max : Cond.static Lib.Math.max.name ∈ lw_good := lw_good_of 124 (by decide +kernel) (by decide +kernel)
set_option maxRecDepth 20000 in
theorem mc_max : Cond.code Lib.Math.max.name Lib.Math.max.code 2 (some .int) ∈ lw_good := lw_good_of 125 (by decide +kernel) (by decide +kernel)
set_option maxRecDepth 20000 in
theorem klX6_48 : Cond.classLink RX6 48 RX4 ∈ lw_good := lw_good_of 126 (by decide +kernel) (by decide +kernel)
set_option maxRecDepth 20000 in
theorem knX4 : Cond.instantiable RX4 9 ∈ lw_good := lw_good_of 128 (by decide +kernel) (by decide +kernel)
set_option maxRecDepth 20000 in
theorem olX4_3 : Cond.methodLink RX4 3 Lib.objectInit ∈ lw_good := lw_good_of 132 (by decide +kernel) (by decide +kernel)
set_option maxRecDepth 20000 in
theorem klX4_9 : Cond.classLink RX4 9 RX5 ∈ lw_good := lw_good_of 133 (by decide +kernel) (by decide +kernel)
set_option maxRecDepth 20000 in
theorem klX4_17 : Cond.classLink RX4 17 "[[I" ∈ lw_good := lw_good_of 135 (by decide +kernel) (by decide +kernel)
set_option maxRecDepth 20000 in
theorem knX5 : Cond.instantiable RX5 4 ∈ lw_good := lw_good_of 137 (by decide +kernel) (by decide +kernel)
set_option maxRecDepth 20000 in
theorem olX5_1 : Cond.methodLink RX5 1 Lib.objectInit ∈ lw_good := lw_good_of 141 (by decide +kernel) (by decide +kernel)
set_option maxRecDepth 20000 in
theorem kcX4_58 : Jvm.Cond.constant RX4 58 (1000000) ∈ lw_good := lw_good_of 165 (by decide +kernel) (by decide +kernel)
set_option maxRecDepth 20000 in
theorem knX0 : Cond.instantiable RX0 6 ∈ lw_good := lw_good_of 206 (by decide +kernel) (by decide +kernel)
set_option maxRecDepth 20000 in
theorem olX0_3 : Cond.methodLink RX0 3 Lib.objectInit ∈ lw_good := lw_good_of 210 (by decide +kernel) (by decide +kernel)
set_option maxRecDepth 20000 in
theorem klX0_28 : Cond.classLink RX0 28 RX2 ∈ lw_good := lw_good_of 211 (by decide +kernel) (by decide +kernel)
set_option maxRecDepth 20000 in
theorem knX2 : Cond.instantiable RX2 3 ∈ lw_good := lw_good_of 213 (by decide +kernel) (by decide +kernel)
set_option maxRecDepth 20000 in
theorem olX2_3 : Cond.methodLink RX2 3 Lib.objectInit ∈ lw_good := lw_good_of 217 (by decide +kernel) (by decide +kernel)
set_option maxRecDepth 20000 in
theorem klX2_9 : Cond.classLink RX2 9 RX1 ∈ lw_good := lw_good_of 218 (by decide +kernel) (by decide +kernel)
set_option maxRecDepth 20000 in
theorem kcX6_198 : Jvm.Cond.constant RX6 198 (1000000) ∈ lw_good := lw_good_of 313 (by decide +kernel) (by decide +kernel)
set_option maxRecDepth 20000 in
theorem klL_13 : Cond.classLink RL 13 "java/lang/IndexOutOfBoundsException" ∈ lw_good := lw_good_of 371 (by decide +kernel) (by decide +kernel)
set_option maxRecDepth 20000 in
theorem klL_15 : Cond.classLink RL 15 "java/lang/IllegalArgumentException" ∈ lw_good := lw_good_of 372 (by decide +kernel) (by decide +kernel)
set_option maxRecDepth 20000 in
theorem klX6_65 : Cond.classLink RX6 65 "java/lang/IndexOutOfBoundsException" ∈ lw_good := lw_good_of 377 (by decide +kernel) (by decide +kernel)
set_option maxRecDepth 20000 in
theorem klX6_76 : Cond.classLink RX6 76 "java/lang/IllegalArgumentException" ∈ lw_good := lw_good_of 444 (by decide +kernel) (by decide +kernel)
set_option maxRecDepth 20000 in
theorem klX6_190 : Cond.classLink RX6 190 RX5 ∈ lw_good := lw_good_of 477 (by decide +kernel) (by decide +kernel)
set_option maxRecDepth 20000 in
theorem mlX4_59 : Cond.methodLink RX4 59 Lib.Math.min.name ∈ lw_good := lw_good_of 496 (by decide +kernel) (by decide +kernel)
set_option maxRecDepth 20000 in
theorem knX3 : Cond.instantiable RX3 5 ∈ lw_good := lw_good_of 669 (by decide +kernel) (by decide +kernel)
set_option maxRecDepth 20000 in
theorem olX3_3 : Cond.methodLink RX3 3 Lib.objectInit ∈ lw_good := lw_good_of 673 (by decide +kernel) (by decide +kernel)
set_option maxRecDepth 20000 in
theorem klL_50 : Cond.classLink RL 50 RX7 ∈ lw_good := lw_good_of 695 (by decide +kernel) (by decide +kernel)
set_option maxRecDepth 20000 in
theorem knX7 : Cond.instantiable RX7 31 ∈ lw_good := lw_good_of 696 (by decide +kernel) (by decide +kernel)
set_option maxRecDepth 20000 in
theorem olX7_1 : Cond.methodLink RX7 1 Lib.objectInit ∈ lw_good := lw_good_of 700 (by decide +kernel) (by decide +kernel)
set_option maxRecDepth 20000 in
theorem ka_boolean : Cond.arrayClass .boolean ∈ lw_good := lw_good_of 795 (by decide +kernel) (by decide +kernel)
set_option maxRecDepth 20000 in
theorem kcX7_124 : Jvm.Cond.constant RX7 124 (1000000) ∈ lw_good := lw_good_of 875 (by decide +kernel) (by decide +kernel)
set_option maxRecDepth 20000 in
theorem ka_long : Cond.arrayClass .long ∈ lw_good := lw_good_of 991 (by decide +kernel) (by decide +kernel)
end
section
theorem dX0_init_0 : decode cX0_init 0 = .ok (.aload_n 0, 1) := by decide +kernel
theorem dX0_init_1 : decode cX0_init 1 = .ok (.invokespecial 3, 3) := by decide +kernel
theorem dX0_init_4 : decode cX0_init 4 = .ok (.aload_n 0, 1) := by decide +kernel
theorem dX0_init_5 : decode cX0_init 5 = .ok (.iconst 0, 1) := by decide +kernel
theorem dX0_init_6 : decode cX0_init 6 = .ok (.putfield 9, 3) := by decide +kernel
theorem dX0_init_9 : decode cX0_init 9 = .ok (.aload_n 0, 1) := by decide +kernel
theorem dX0_init_10 : decode cX0_init 10 = .ok (.iconst 0, 1) := by decide +kernel
theorem dX0_init_11 : decode cX0_init 11 = .ok (.putfield 15, 3) := by decide +kernel
theorem dX0_init_14 : decode cX0_init 14 = .ok (.aload_n 0, 1) := by decide +kernel
theorem dX0_init_15 : decode cX0_init 15 = .ok (.iconst 0, 1) := by decide +kernel
theorem dX0_init_16 : decode cX0_init 16 = .ok (.putfield 18, 3) := by decide +kernel
theorem dX0_init_19 : decode cX0_init 19 = .ok (.aload_n 0, 1) := by decide +kernel
theorem dX0_init_20 : decode cX0_init 20 = .ok (.iconst 0, 1) := by decide +kernel
theorem dX0_init_21 : decode cX0_init 21 = .ok (.putfield 22, 3) := by decide +kernel
theorem dX0_init_24 : decode cX0_init 24 = .ok (.aload_n 0, 1) := by decide +kernel
theorem dX0_init_25 : decode cX0_init 25 = .ok (.iconst 0, 1) := by decide +kernel
theorem dX0_init_26 : decode cX0_init 26 = .ok (.putfield 25, 3) := by decide +kernel
theorem dX0_init_29 : decode cX0_init 29 = .ok (.aload_n 0, 1) := by decide +kernel
theorem dX0_init_30 : decode cX0_init 30 = .ok (.iconst 2, 1) := by decide +kernel
theorem dX0_init_31 : decode cX0_init 31 = .ok (.anewarray 28, 3) := by decide +kernel
theorem dX0_init_34 : decode cX0_init 34 = .ok (.putfield 30, 3) := by decide +kernel
theorem dX0_init_37 : decode cX0_init 37 = .ok (.iconst 0, 1) := by decide +kernel
theorem dX0_init_38 : decode cX0_init 38 = .ok (.istore_n 1, 1) := by decide +kernel
theorem dX0_init_39 : decode cX0_init 39 = .ok (.iload_n 1, 1) := by decide +kernel
theorem dX0_init_40 : decode cX0_init 40 = .ok (.iconst 2, 1) := by decide +kernel
theorem dX0_init_41 : decode cX0_init 41 = .ok (.if_icmp .ge 22, 3) := by decide +kernel
theorem dX0_init_44 : decode cX0_init 44 = .ok (.aload_n 0, 1) := by decide +kernel
theorem dX0_init_45 : decode cX0_init 45 = .ok (.getfield 30, 3) := by decide +kernel
theorem dX0_init_48 : decode cX0_init 48 = .ok (.iload_n 1, 1) := by decide +kernel
theorem dX0_init_49 : decode cX0_init 49 = .ok (.new 28, 3) := by decide +kernel
theorem dX0_init_52 : decode cX0_init 52 = .ok (.dup, 1) := by decide +kernel
theorem dX0_init_53 : decode cX0_init 53 = .ok (.invokespecial 34, 3) := by decide +kernel
theorem dX0_init_56 : decode cX0_init 56 = .ok (.aastore, 1) := by decide +kernel
theorem dX0_init_57 : decode cX0_init 57 = .ok (.iinc 1 1, 3) := by decide +kernel
theorem dX0_init_60 : decode cX0_init 60 = .ok (.goto (-21), 3) := by decide +kernel
theorem dX0_init_63 : decode cX0_init 63 = .ok (.return_, 1) := by decide +kernel
theorem dX0_isUpAt_0 : decode cX0_isUpAt 0 = .ok (.aload_n 0, 1) := by decide +kernel
theorem dX0_isUpAt_1 : decode cX0_isUpAt 1 = .ok (.getfield 15, 3) := by decide +kernel
theorem dX0_isUpAt_4 : decode cX0_isUpAt 4 = .ok (.ifCond .eq 23, 3) := by decide +kernel
theorem dX0_isUpAt_7 : decode cX0_isUpAt 7 = .ok (.iload_n 1, 1) := by decide +kernel
theorem dX0_isUpAt_8 : decode cX0_isUpAt 8 = .ok (.aload_n 0, 1) := by decide +kernel
theorem dX0_isUpAt_9 : decode cX0_isUpAt 9 = .ok (.getfield 18, 3) := by decide +kernel
theorem dX0_isUpAt_12 : decode cX0_isUpAt 12 = .ok (.if_icmp .eq 11, 3) := by decide +kernel
theorem dX0_isUpAt_15 : decode cX0_isUpAt 15 = .ok (.iload_n 1, 1) := by decide +kernel
theorem dX0_isUpAt_16 : decode cX0_isUpAt 16 = .ok (.aload_n 0, 1) := by decide +kernel
theorem dX0_isUpAt_17 : decode cX0_isUpAt 17 = .ok (.getfield 22, 3) := by decide +kernel
theorem dX0_isUpAt_20 : decode cX0_isUpAt 20 = .ok (.if_icmp .ne 7, 3) := by decide +kernel
theorem dX0_isUpAt_23 : decode cX0_isUpAt 23 = .ok (.iconst 1, 1) := by decide +kernel
theorem dX0_isUpAt_24 : decode cX0_isUpAt 24 = .ok (.goto 4, 3) := by decide +kernel
theorem dX0_isUpAt_27 : decode cX0_isUpAt 27 = .ok (.iconst 0, 1) := by decide +kernel
theorem dX0_isUpAt_28 : decode cX0_isUpAt 28 = .ok (.ireturn, 1) := by decide +kernel
theorem dX0_otherEnd_0 : decode cX0_otherEnd 0 = .ok (.iload_n 1, 1) := by decide +kernel
theorem dX0_otherEnd_1 : decode cX0_otherEnd 1 = .ok (.aload_n 0, 1) := by decide +kernel
theorem dX0_otherEnd_2 : decode cX0_otherEnd 2 = .ok (.getfield 18, 3) := by decide +kernel
theorem dX0_otherEnd_5 : decode cX0_otherEnd 5 = .ok (.if_icmp .ne 10, 3) := by decide +kernel
theorem dX0_otherEnd_8 : decode cX0_otherEnd 8 = .ok (.aload_n 0, 1) := by decide +kernel
theorem dX0_otherEnd_9 : decode cX0_otherEnd 9 = .ok (.getfield 22, 3) := by decide +kernel
theorem dX0_otherEnd_12 : decode cX0_otherEnd 12 = .ok (.goto 7, 3) := by decide +kernel
theorem dX0_otherEnd_15 : decode cX0_otherEnd 15 = .ok (.aload_n 0, 1) := by decide +kernel
theorem dX0_otherEnd_16 : decode cX0_otherEnd 16 = .ok (.getfield 18, 3) := by decide +kernel
theorem dX0_otherEnd_19 : decode cX0_otherEnd 19 = .ok (.ireturn, 1) := by decide +kernel
theorem dX0_queueOf_0 : decode cX0_queueOf 0 = .ok (.aload_n 0, 1) := by decide +kernel
theorem dX0_queueOf_1 : decode cX0_queueOf 1 = .ok (.getfield 30, 3) := by decide +kernel
theorem dX0_queueOf_4 : decode cX0_queueOf 4 = .ok (.iload_n 1, 1) := by decide +kernel
theorem dX0_queueOf_5 : decode cX0_queueOf 5 = .ok (.aload_n 0, 1) := by decide +kernel
theorem dX0_queueOf_6 : decode cX0_queueOf 6 = .ok (.getfield 18, 3) := by decide +kernel
theorem dX0_queueOf_9 : decode cX0_queueOf 9 = .ok (.if_icmp .ne 7, 3) := by decide +kernel
theorem dX0_queueOf_12 : decode cX0_queueOf 12 = .ok (.iconst 0, 1) := by decide +kernel
theorem dX0_queueOf_13 : decode cX0_queueOf 13 = .ok (.goto 4, 3) := by decide +kernel
theorem dX0_queueOf_16 : decode cX0_queueOf 16 = .ok (.iconst 1, 1) := by decide +kernel
theorem dX0_queueOf_17 : decode cX0_queueOf 17 = .ok (.aaload, 1) := by decide +kernel
theorem dX0_queueOf_18 : decode cX0_queueOf 18 = .ok (.areturn, 1) := by decide +kernel
theorem dX1_init_0 : decode cX1_init 0 = .ok (.aload_n 0, 1) := by decide +kernel
theorem dX1_init_1 : decode cX1_init 1 = .ok (.invokespecial 3, 3) := by decide +kernel
theorem dX1_init_4 : decode cX1_init 4 = .ok (.return_, 1) := by decide +kernel
theorem dX1_as_0 : decode cX1_as 0 = .ok (.aload_n 0, 1) := by decide +kernel
theorem dX1_as_1 : decode cX1_as 1 = .ok (.iload_n 1, 1) := by decide +kernel
theorem dX1_as_2 : decode cX1_as 2 = .ok (.putfield 9, 3) := by decide +kernel
theorem dX1_as_5 : decode cX1_as 5 = .ok (.aload_n 0, 1) := by decide +kernel
theorem dX1_as_6 : decode cX1_as 6 = .ok (.iload_n 2, 1) := by decide +kernel
theorem dX1_as_7 : decode cX1_as 7 = .ok (.putfield 15, 3) := by decide +kernel
theorem dX1_as_10 : decode cX1_as 10 = .ok (.aload_n 0, 1) := by decide +kernel
theorem dX1_as_11 : decode cX1_as 11 = .ok (.iload_n 3, 1) := by decide +kernel
theorem dX1_as_12 : decode cX1_as 12 = .ok (.putfield 18, 3) := by decide +kernel
theorem dX1_as_15 : decode cX1_as 15 = .ok (.aload_n 0, 1) := by decide +kernel
theorem dX1_as_16 : decode cX1_as 16 = .ok (.iload 4, 2) := by decide +kernel
theorem dX1_as_18 : decode cX1_as 18 = .ok (.putfield 21, 3) := by decide +kernel
theorem dX1_as_21 : decode cX1_as 21 = .ok (.aload_n 0, 1) := by decide +kernel
theorem dX1_as_22 : decode cX1_as 22 = .ok (.aconst_null, 1) := by decide +kernel
theorem dX1_as_23 : decode cX1_as 23 = .ok (.putfield 24, 3) := by decide +kernel
theorem dX1_as_26 : decode cX1_as 26 = .ok (.aload_n 0, 1) := by decide +kernel
theorem dX1_as_27 : decode cX1_as 27 = .ok (.areturn, 1) := by decide +kernel
theorem dX1_asNote_0 : decode cX1_asNote 0 = .ok (.aload_n 0, 1) := by decide +kernel
theorem dX1_asNote_1 : decode cX1_asNote 1 = .ok (.iconst 0, 1) := by decide +kernel
theorem dX1_asNote_2 : decode cX1_asNote 2 = .ok (.aload_n 1, 1) := by decide +kernel
theorem dX1_asNote_3 : decode cX1_asNote 3 = .ok (.getfield 28, 3) := by decide +kernel
theorem dX1_asNote_6 : decode cX1_asNote 6 = .ok (.aload_n 1, 1) := by decide +kernel
theorem dX1_asNote_7 : decode cX1_asNote 7 = .ok (.getfield 33, 3) := by decide +kernel
theorem dX1_asNote_10 : decode cX1_asNote 10 = .ok (.iconst 0, 1) := by decide +kernel
theorem dX1_asNote_11 : decode cX1_asNote 11 = .ok (.invokevirtual 36, 3) := by decide +kernel
theorem dX1_asNote_14 : decode cX1_asNote 14 = .ok (.pop, 1) := by decide +kernel
theorem dX1_asNote_15 : decode cX1_asNote 15 = .ok (.aload_n 0, 1) := by decide +kernel
theorem dX1_asNote_16 : decode cX1_asNote 16 = .ok (.aload_n 1, 1) := by decide +kernel
theorem dX1_asNote_17 : decode cX1_asNote 17 = .ok (.putfield 24, 3) := by decide +kernel
theorem dX1_asNote_20 : decode cX1_asNote 20 = .ok (.aload_n 0, 1) := by decide +kernel
theorem dX1_asNote_21 : decode cX1_asNote 21 = .ok (.areturn, 1) := by decide +kernel
theorem dX1_copy_0 : decode cX1_copy 0 = .ok (.aload_n 0, 1) := by decide +kernel
theorem dX1_copy_1 : decode cX1_copy 1 = .ok (.aload_n 1, 1) := by decide +kernel
theorem dX1_copy_2 : decode cX1_copy 2 = .ok (.getfield 9, 3) := by decide +kernel
theorem dX1_copy_5 : decode cX1_copy 5 = .ok (.putfield 9, 3) := by decide +kernel
theorem dX1_copy_8 : decode cX1_copy 8 = .ok (.aload_n 0, 1) := by decide +kernel
theorem dX1_copy_9 : decode cX1_copy 9 = .ok (.aload_n 1, 1) := by decide +kernel
theorem dX1_copy_10 : decode cX1_copy 10 = .ok (.getfield 15, 3) := by decide +kernel
theorem dX1_copy_13 : decode cX1_copy 13 = .ok (.putfield 15, 3) := by decide +kernel
theorem dX1_copy_16 : decode cX1_copy 16 = .ok (.aload_n 0, 1) := by decide +kernel
theorem dX1_copy_17 : decode cX1_copy 17 = .ok (.aload_n 1, 1) := by decide +kernel
theorem dX1_copy_18 : decode cX1_copy 18 = .ok (.getfield 18, 3) := by decide +kernel
theorem dX1_copy_21 : decode cX1_copy 21 = .ok (.putfield 18, 3) := by decide +kernel
theorem dX1_copy_24 : decode cX1_copy 24 = .ok (.aload_n 0, 1) := by decide +kernel
theorem dX1_copy_25 : decode cX1_copy 25 = .ok (.aload_n 1, 1) := by decide +kernel
theorem dX1_copy_26 : decode cX1_copy 26 = .ok (.getfield 21, 3) := by decide +kernel
theorem dX1_copy_29 : decode cX1_copy 29 = .ok (.putfield 21, 3) := by decide +kernel
theorem dX1_copy_32 : decode cX1_copy 32 = .ok (.aload_n 0, 1) := by decide +kernel
theorem dX1_copy_33 : decode cX1_copy 33 = .ok (.aload_n 1, 1) := by decide +kernel
theorem dX1_copy_34 : decode cX1_copy 34 = .ok (.getfield 24, 3) := by decide +kernel
theorem dX1_copy_37 : decode cX1_copy 37 = .ok (.putfield 24, 3) := by decide +kernel
theorem dX1_copy_40 : decode cX1_copy 40 = .ok (.aload_n 0, 1) := by decide +kernel
theorem dX1_copy_41 : decode cX1_copy 41 = .ok (.iconst 0, 1) := by decide +kernel
theorem dX1_copy_42 : decode cX1_copy 42 = .ok (.putfield 40, 3) := by decide +kernel
theorem dX1_copy_45 : decode cX1_copy 45 = .ok (.return_, 1) := by decide +kernel
theorem dX1_shownKind_0 : decode cX1_shownKind 0 = .ok (.aload_n 0, 1) := by decide +kernel
theorem dX1_shownKind_1 : decode cX1_shownKind 1 = .ok (.getfield 40, 3) := by decide +kernel
theorem dX1_shownKind_4 : decode cX1_shownKind 4 = .ok (.ifCond .eq 13, 3) := by decide +kernel
theorem dX1_shownKind_7 : decode cX1_shownKind 7 = .ok (.aload_n 0, 1) := by decide +kernel
theorem dX1_shownKind_8 : decode cX1_shownKind 8 = .ok (.getfield 9, 3) := by decide +kernel
theorem dX1_shownKind_11 : decode cX1_shownKind 11 = .ok (.bipush 8, 2) := by decide +kernel
theorem dX1_shownKind_13 : decode cX1_shownKind 13 = .ok (.iadd, 1) := by decide +kernel
theorem dX1_shownKind_14 : decode cX1_shownKind 14 = .ok (.goto 7, 3) := by decide +kernel
theorem dX1_shownKind_17 : decode cX1_shownKind 17 = .ok (.aload_n 0, 1) := by decide +kernel
theorem dX1_shownKind_18 : decode cX1_shownKind 18 = .ok (.getfield 9, 3) := by decide +kernel
theorem dX1_shownKind_21 : decode cX1_shownKind 21 = .ok (.ireturn, 1) := by decide +kernel
theorem dX2_init_0 : decode cX2_init 0 = .ok (.aload_n 0, 1) := by decide +kernel
theorem dX2_init_1 : decode cX2_init 1 = .ok (.invokespecial 3, 3) := by decide +kernel
theorem dX2_init_4 : decode cX2_init 4 = .ok (.aload_n 0, 1) := by decide +kernel
theorem dX2_init_5 : decode cX2_init 5 = .ok (.bipush 16, 2) := by decide +kernel
theorem dX2_init_7 : decode cX2_init 7 = .ok (.anewarray 9, 3) := by decide +kernel
theorem dX2_init_10 : decode cX2_init 10 = .ok (.putfield 11, 3) := by decide +kernel
theorem dX2_init_13 : decode cX2_init 13 = .ok (.aload_n 0, 1) := by decide +kernel
theorem dX2_init_14 : decode cX2_init 14 = .ok (.iconst 0, 1) := by decide +kernel
theorem dX2_init_15 : decode cX2_init 15 = .ok (.putfield 17, 3) := by decide +kernel
theorem dX2_init_18 : decode cX2_init 18 = .ok (.aload_n 0, 1) := by decide +kernel
theorem dX2_init_19 : decode cX2_init 19 = .ok (.iconst 0, 1) := by decide +kernel
theorem dX2_init_20 : decode cX2_init 20 = .ok (.putfield 21, 3) := by decide +kernel
theorem dX2_init_23 : decode cX2_init 23 = .ok (.iconst 0, 1) := by decide +kernel
theorem dX2_init_24 : decode cX2_init 24 = .ok (.istore_n 1, 1) := by decide +kernel
theorem dX2_init_25 : decode cX2_init 25 = .ok (.iload_n 1, 1) := by decide +kernel
theorem dX2_init_26 : decode cX2_init 26 = .ok (.bipush 16, 2) := by decide +kernel
theorem dX2_init_28 : decode cX2_init 28 = .ok (.if_icmp .ge 22, 3) := by decide +kernel
theorem dX2_init_31 : decode cX2_init 31 = .ok (.aload_n 0, 1) := by decide +kernel
theorem dX2_init_32 : decode cX2_init 32 = .ok (.getfield 11, 3) := by decide +kernel
theorem dX2_init_35 : decode cX2_init 35 = .ok (.iload_n 1, 1) := by decide +kernel
theorem dX2_init_36 : decode cX2_init 36 = .ok (.new 9, 3) := by decide +kernel
theorem dX2_init_39 : decode cX2_init 39 = .ok (.dup, 1) := by decide +kernel
theorem dX2_init_40 : decode cX2_init 40 = .ok (.invokespecial 24, 3) := by decide +kernel
theorem dX2_init_43 : decode cX2_init 43 = .ok (.aastore, 1) := by decide +kernel
theorem dX2_init_44 : decode cX2_init 44 = .ok (.iinc 1 1, 3) := by decide +kernel
theorem dX2_init_47 : decode cX2_init 47 = .ok (.goto (-22), 3) := by decide +kernel
theorem dX2_init_50 : decode cX2_init 50 = .ok (.return_, 1) := by decide +kernel
theorem dX2_at_0 : decode cX2_at 0 = .ok (.iload_n 1, 1) := by decide +kernel
theorem dX2_at_1 : decode cX2_at 1 = .ok (.ifCond .lt 11, 3) := by decide +kernel
theorem dX2_at_4 : decode cX2_at 4 = .ok (.iload_n 1, 1) := by decide +kernel
theorem dX2_at_5 : decode cX2_at 5 = .ok (.aload_n 0, 1) := by decide +kernel
theorem dX2_at_6 : decode cX2_at 6 = .ok (.getfield 21, 3) := by decide +kernel
theorem dX2_at_9 : decode cX2_at 9 = .ok (.if_icmp .lt 7, 3) := by decide +kernel
theorem dX2_at_12 : decode cX2_at 12 = .ok (.aconst_null, 1) := by decide +kernel
theorem dX2_at_13 : decode cX2_at 13 = .ok (.goto 17, 3) := by decide +kernel
theorem dX2_at_16 : decode cX2_at 16 = .ok (.aload_n 0, 1) := by decide +kernel
theorem dX2_at_17 : decode cX2_at 17 = .ok (.getfield 11, 3) := by decide +kernel
theorem dX2_at_20 : decode cX2_at 20 = .ok (.aload_n 0, 1) := by decide +kernel
theorem dX2_at_21 : decode cX2_at 21 = .ok (.getfield 17, 3) := by decide +kernel
theorem dX2_at_24 : decode cX2_at 24 = .ok (.iload_n 1, 1) := by decide +kernel
theorem dX2_at_25 : decode cX2_at 25 = .ok (.iadd, 1) := by decide +kernel
theorem dX2_at_26 : decode cX2_at 26 = .ok (.bipush 16, 2) := by decide +kernel
theorem dX2_at_28 : decode cX2_at 28 = .ok (.irem, 1) := by decide +kernel
theorem dX2_at_29 : decode cX2_at 29 = .ok (.aaload, 1) := by decide +kernel
theorem dX2_at_30 : decode cX2_at 30 = .ok (.areturn, 1) := by decide +kernel
theorem dX2_nextFree_0 : decode cX2_nextFree 0 = .ok (.aload_n 0, 1) := by decide +kernel
theorem dX2_nextFree_1 : decode cX2_nextFree 1 = .ok (.getfield 21, 3) := by decide +kernel
theorem dX2_nextFree_4 : decode cX2_nextFree 4 = .ok (.bipush 16, 2) := by decide +kernel
theorem dX2_nextFree_6 : decode cX2_nextFree 6 = .ok (.if_icmp .lt 5, 3) := by decide +kernel
theorem dX2_nextFree_9 : decode cX2_nextFree 9 = .ok (.aconst_null, 1) := by decide +kernel
theorem dX2_nextFree_10 : decode cX2_nextFree 10 = .ok (.areturn, 1) := by decide +kernel
theorem dX2_nextFree_11 : decode cX2_nextFree 11 = .ok (.aload_n 0, 1) := by decide +kernel
theorem dX2_nextFree_12 : decode cX2_nextFree 12 = .ok (.dup, 1) := by decide +kernel
theorem dX2_nextFree_13 : decode cX2_nextFree 13 = .ok (.getfield 21, 3) := by decide +kernel
theorem dX2_nextFree_16 : decode cX2_nextFree 16 = .ok (.iconst 1, 1) := by decide +kernel
theorem dX2_nextFree_17 : decode cX2_nextFree 17 = .ok (.iadd, 1) := by decide +kernel
theorem dX2_nextFree_18 : decode cX2_nextFree 18 = .ok (.putfield 21, 3) := by decide +kernel
theorem dX2_nextFree_21 : decode cX2_nextFree 21 = .ok (.aload_n 0, 1) := by decide +kernel
theorem dX2_nextFree_22 : decode cX2_nextFree 22 = .ok (.getfield 11, 3) := by decide +kernel
theorem dX2_nextFree_25 : decode cX2_nextFree 25 = .ok (.aload_n 0, 1) := by decide +kernel
theorem dX2_nextFree_26 : decode cX2_nextFree 26 = .ok (.getfield 17, 3) := by decide +kernel
theorem dX2_nextFree_29 : decode cX2_nextFree 29 = .ok (.aload_n 0, 1) := by decide +kernel
theorem dX2_nextFree_30 : decode cX2_nextFree 30 = .ok (.getfield 21, 3) := by decide +kernel
theorem dX2_nextFree_33 : decode cX2_nextFree 33 = .ok (.iadd, 1) := by decide +kernel
theorem dX2_nextFree_34 : decode cX2_nextFree 34 = .ok (.iconst 1, 1) := by decide +kernel
theorem dX2_nextFree_35 : decode cX2_nextFree 35 = .ok (.isub, 1) := by decide +kernel
theorem dX2_nextFree_36 : decode cX2_nextFree 36 = .ok (.bipush 16, 2) := by decide +kernel
theorem dX2_nextFree_38 : decode cX2_nextFree 38 = .ok (.irem, 1) := by decide +kernel
theorem dX2_nextFree_39 : decode cX2_nextFree 39 = .ok (.aaload, 1) := by decide +kernel
theorem dX2_nextFree_40 : decode cX2_nextFree 40 = .ok (.areturn, 1) := by decide +kernel
theorem dX2_dropFirst_0 : decode cX2_dropFirst 0 = .ok (.aload_n 0, 1) := by decide +kernel
theorem dX2_dropFirst_1 : decode cX2_dropFirst 1 = .ok (.getfield 21, 3) := by decide +kernel
theorem dX2_dropFirst_4 : decode cX2_dropFirst 4 = .ok (.ifCond .le 26, 3) := by decide +kernel
theorem dX2_dropFirst_7 : decode cX2_dropFirst 7 = .ok (.aload_n 0, 1) := by decide +kernel
theorem dX2_dropFirst_8 : decode cX2_dropFirst 8 = .ok (.aload_n 0, 1) := by decide +kernel
theorem dX2_dropFirst_9 : decode cX2_dropFirst 9 = .ok (.getfield 17, 3) := by decide +kernel
theorem dX2_dropFirst_12 : decode cX2_dropFirst 12 = .ok (.iconst 1, 1) := by decide +kernel
theorem dX2_dropFirst_13 : decode cX2_dropFirst 13 = .ok (.iadd, 1) := by decide +kernel
theorem dX2_dropFirst_14 : decode cX2_dropFirst 14 = .ok (.bipush 16, 2) := by decide +kernel
theorem dX2_dropFirst_16 : decode cX2_dropFirst 16 = .ok (.irem, 1) := by decide +kernel
theorem dX2_dropFirst_17 : decode cX2_dropFirst 17 = .ok (.putfield 17, 3) := by decide +kernel
theorem dX2_dropFirst_20 : decode cX2_dropFirst 20 = .ok (.aload_n 0, 1) := by decide +kernel
theorem dX2_dropFirst_21 : decode cX2_dropFirst 21 = .ok (.dup, 1) := by decide +kernel
theorem dX2_dropFirst_22 : decode cX2_dropFirst 22 = .ok (.getfield 21, 3) := by decide +kernel
theorem dX2_dropFirst_25 : decode cX2_dropFirst 25 = .ok (.iconst 1, 1) := by decide +kernel
theorem dX2_dropFirst_26 : decode cX2_dropFirst 26 = .ok (.isub, 1) := by decide +kernel
theorem dX2_dropFirst_27 : decode cX2_dropFirst 27 = .ok (.putfield 21, 3) := by decide +kernel
theorem dX2_dropFirst_30 : decode cX2_dropFirst 30 = .ok (.return_, 1) := by decide +kernel
theorem dX3_init_0 : decode cX3_init 0 = .ok (.aload_n 0, 1) := by decide +kernel
theorem dX3_init_1 : decode cX3_init 1 = .ok (.invokespecial 3, 3) := by decide +kernel
theorem dX3_init_4 : decode cX3_init 4 = .ok (.aload_n 0, 1) := by decide +kernel
theorem dX3_init_5 : decode cX3_init 5 = .ok (.iconst (-1), 1) := by decide +kernel
theorem dX3_init_6 : decode cX3_init 6 = .ok (.putfield 9, 3) := by decide +kernel
theorem dX3_init_9 : decode cX3_init 9 = .ok (.aload_n 0, 1) := by decide +kernel
theorem dX3_init_10 : decode cX3_init 10 = .ok (.iconst (-1), 1) := by decide +kernel
theorem dX3_init_11 : decode cX3_init 11 = .ok (.putfield 15, 3) := by decide +kernel
theorem dX3_init_14 : decode cX3_init 14 = .ok (.aload_n 0, 1) := by decide +kernel
theorem dX3_init_15 : decode cX3_init 15 = .ok (.iconst 0, 1) := by decide +kernel
theorem dX3_init_16 : decode cX3_init 16 = .ok (.putfield 18, 3) := by decide +kernel
theorem dX3_init_19 : decode cX3_init 19 = .ok (.aload_n 0, 1) := by decide +kernel
theorem dX3_init_20 : decode cX3_init 20 = .ok (.iload_n 1, 1) := by decide +kernel
theorem dX3_init_21 : decode cX3_init 21 = .ok (.putfield 21, 3) := by decide +kernel
theorem dX3_init_24 : decode cX3_init 24 = .ok (.aload_n 0, 1) := by decide +kernel
theorem dX3_init_25 : decode cX3_init 25 = .ok (.iload_n 2, 1) := by decide +kernel
theorem dX3_init_26 : decode cX3_init 26 = .ok (.putfield 24, 3) := by decide +kernel
theorem dX3_init_29 : decode cX3_init 29 = .ok (.return_, 1) := by decide +kernel
theorem dX4_init_0 : decode cX4_init 0 = .ok (.aload_n 0, 1) := by decide +kernel
theorem dX4_init_1 : decode cX4_init 1 = .ok (.invokespecial 3, 3) := by decide +kernel
theorem dX4_init_4 : decode cX4_init 4 = .ok (.aload_n 0, 1) := by decide +kernel
theorem dX4_init_5 : decode cX4_init 5 = .ok (.bipush 8, 2) := by decide +kernel
theorem dX4_init_7 : decode cX4_init 7 = .ok (.anewarray 9, 3) := by decide +kernel
theorem dX4_init_10 : decode cX4_init 10 = .ok (.putfield 11, 3) := by decide +kernel
theorem dX4_init_13 : decode cX4_init 13 = .ok (.aload_n 0, 1) := by decide +kernel
theorem dX4_init_14 : decode cX4_init 14 = .ok (.bipush 8, 2) := by decide +kernel
theorem dX4_init_16 : decode cX4_init 16 = .ok (.bipush 8, 2) := by decide +kernel
theorem dX4_init_18 : decode cX4_init 18 = .ok (.multianewarray 17 2, 4) := by decide +kernel
theorem dX4_init_22 : decode cX4_init 22 = .ok (.putfield 19, 3) := by decide +kernel
theorem dX4_init_25 : decode cX4_init 25 = .ok (.aload_n 0, 1) := by decide +kernel
theorem dX4_init_26 : decode cX4_init 26 = .ok (.bipush 8, 2) := by decide +kernel
theorem dX4_init_28 : decode cX4_init 28 = .ok (.bipush 12, 2) := by decide +kernel
theorem dX4_init_30 : decode cX4_init 30 = .ok (.multianewarray 17 2, 4) := by decide +kernel
theorem dX4_init_34 : decode cX4_init 34 = .ok (.putfield 22, 3) := by decide +kernel
theorem dX4_init_37 : decode cX4_init 37 = .ok (.aload_n 0, 1) := by decide +kernel
theorem dX4_init_38 : decode cX4_init 38 = .ok (.bipush 8, 2) := by decide +kernel
theorem dX4_init_40 : decode cX4_init 40 = .ok (.bipush 12, 2) := by decide +kernel
theorem dX4_init_42 : decode cX4_init 42 = .ok (.multianewarray 17 2, 4) := by decide +kernel
theorem dX4_init_46 : decode cX4_init 46 = .ok (.putfield 25, 3) := by decide +kernel
theorem dX4_init_49 : decode cX4_init 49 = .ok (.aload_n 0, 1) := by decide +kernel
theorem dX4_init_50 : decode cX4_init 50 = .ok (.bipush 8, 2) := by decide +kernel
theorem dX4_init_52 : decode cX4_init 52 = .ok (.newarray .int, 2) := by decide +kernel
theorem dX4_init_54 : decode cX4_init 54 = .ok (.putfield 28, 3) := by decide +kernel
theorem dX4_init_57 : decode cX4_init 57 = .ok (.aload_n 0, 1) := by decide +kernel
theorem dX4_init_58 : decode cX4_init 58 = .ok (.bipush 8, 2) := by decide +kernel
theorem dX4_init_60 : decode cX4_init 60 = .ok (.newarray .int, 2) := by decide +kernel
theorem dX4_init_62 : decode cX4_init 62 = .ok (.putfield 32, 3) := by decide +kernel
theorem dX4_init_65 : decode cX4_init 65 = .ok (.aload_n 0, 1) := by decide +kernel
theorem dX4_init_66 : decode cX4_init 66 = .ok (.bipush 80, 2) := by decide +kernel
theorem dX4_init_68 : decode cX4_init 68 = .ok (.newarray .int, 2) := by decide +kernel
theorem dX4_init_70 : decode cX4_init 70 = .ok (.putfield 35, 3) := by decide +kernel
theorem dX4_init_73 : decode cX4_init 73 = .ok (.aload_n 0, 1) := by decide +kernel
theorem dX4_init_74 : decode cX4_init 74 = .ok (.bipush 80, 2) := by decide +kernel
theorem dX4_init_76 : decode cX4_init 76 = .ok (.newarray .int, 2) := by decide +kernel
theorem dX4_init_78 : decode cX4_init 78 = .ok (.putfield 38, 3) := by decide +kernel
theorem dX4_init_81 : decode cX4_init 81 = .ok (.aload_n 0, 1) := by decide +kernel
theorem dX4_init_82 : decode cX4_init 82 = .ok (.iload_n 1, 1) := by decide +kernel
theorem dX4_init_83 : decode cX4_init 83 = .ok (.putfield 41, 3) := by decide +kernel
theorem dX4_init_86 : decode cX4_init 86 = .ok (.aload_n 0, 1) := by decide +kernel
theorem dX4_init_87 : decode cX4_init 87 = .ok (.getfield 11, 3) := by decide +kernel
theorem dX4_init_90 : decode cX4_init 90 = .ok (.iload_n 1, 1) := by decide +kernel
theorem dX4_init_91 : decode cX4_init 91 = .ok (.new 9, 3) := by decide +kernel
theorem dX4_init_94 : decode cX4_init 94 = .ok (.dup, 1) := by decide +kernel
theorem dX4_init_95 : decode cX4_init 95 = .ok (.iload_n 1, 1) := by decide +kernel
theorem dX4_init_96 : decode cX4_init 96 = .ok (.iconst 1, 1) := by decide +kernel
theorem dX4_init_97 : decode cX4_init 97 = .ok (.iconst 0, 1) := by decide +kernel
theorem dX4_init_98 : decode cX4_init 98 = .ok (.iconst 0, 1) := by decide +kernel
theorem dX4_init_99 : decode cX4_init 99 = .ok (.invokespecial 45, 3) := by decide +kernel
theorem dX4_init_102 : decode cX4_init 102 = .ok (.aastore, 1) := by decide +kernel
theorem dX4_init_103 : decode cX4_init 103 = .ok (.aload_n 0, 1) := by decide +kernel
theorem dX4_init_104 : decode cX4_init 104 = .ok (.invokevirtual 48, 3) := by decide +kernel
theorem dX4_init_107 : decode cX4_init 107 = .ok (.iconst 0, 1) := by decide +kernel
theorem dX4_init_108 : decode cX4_init 108 = .ok (.istore_n 2, 1) := by decide +kernel
theorem dX4_init_109 : decode cX4_init 109 = .ok (.iload_n 2, 1) := by decide +kernel
theorem dX4_init_110 : decode cX4_init 110 = .ok (.bipush 8, 2) := by decide +kernel
theorem dX4_init_112 : decode cX4_init 112 = .ok (.if_icmp .ge 43, 3) := by decide +kernel
theorem dX4_init_115 : decode cX4_init 115 = .ok (.aload_n 0, 1) := by decide +kernel
theorem dX4_init_116 : decode cX4_init 116 = .ok (.getfield 28, 3) := by decide +kernel
theorem dX4_init_119 : decode cX4_init 119 = .ok (.iload_n 2, 1) := by decide +kernel
theorem dX4_init_120 : decode cX4_init 120 = .ok (.iconst (-1), 1) := by decide +kernel
theorem dX4_init_121 : decode cX4_init 121 = .ok (.iastore, 1) := by decide +kernel
theorem dX4_init_122 : decode cX4_init 122 = .ok (.aload_n 0, 1) := by decide +kernel
theorem dX4_init_123 : decode cX4_init 123 = .ok (.getfield 32, 3) := by decide +kernel
theorem dX4_init_126 : decode cX4_init 126 = .ok (.iload_n 2, 1) := by decide +kernel
theorem dX4_init_127 : decode cX4_init 127 = .ok (.iconst (-1), 1) := by decide +kernel
theorem dX4_init_128 : decode cX4_init 128 = .ok (.iastore, 1) := by decide +kernel
theorem dX4_init_129 : decode cX4_init 129 = .ok (.iconst 0, 1) := by decide +kernel
theorem dX4_init_130 : decode cX4_init 130 = .ok (.istore_n 3, 1) := by decide +kernel
theorem dX4_init_131 : decode cX4_init 131 = .ok (.iload_n 3, 1) := by decide +kernel
theorem dX4_init_132 : decode cX4_init 132 = .ok (.bipush 12, 2) := by decide +kernel
theorem dX4_init_134 : decode cX4_init 134 = .ok (.if_icmp .ge 15, 3) := by decide +kernel
theorem dX4_init_137 : decode cX4_init 137 = .ok (.aload_n 0, 1) := by decide +kernel
theorem dX4_init_138 : decode cX4_init 138 = .ok (.iload_n 2, 1) := by decide +kernel
theorem dX4_init_139 : decode cX4_init 139 = .ok (.iload_n 3, 1) := by decide +kernel
theorem dX4_init_140 : decode cX4_init 140 = .ok (.invokevirtual 51, 3) := by decide +kernel
theorem dX4_init_143 : decode cX4_init 143 = .ok (.iinc 3 1, 3) := by decide +kernel
theorem dX4_init_146 : decode cX4_init 146 = .ok (.goto (-15), 3) := by decide +kernel
theorem dX4_init_149 : decode cX4_init 149 = .ok (.iinc 2 1, 3) := by decide +kernel
theorem dX4_init_152 : decode cX4_init 152 = .ok (.goto (-43), 3) := by decide +kernel
theorem dX4_init_155 : decode cX4_init 155 = .ok (.iconst 0, 1) := by decide +kernel
theorem dX4_init_156 : decode cX4_init 156 = .ok (.istore_n 2, 1) := by decide +kernel
theorem dX4_init_157 : decode cX4_init 157 = .ok (.iload_n 2, 1) := by decide +kernel
theorem dX4_init_158 : decode cX4_init 158 = .ok (.bipush 80, 2) := by decide +kernel
theorem dX4_init_160 : decode cX4_init 160 = .ok (.if_icmp .ge 16, 3) := by decide +kernel
theorem dX4_init_163 : decode cX4_init 163 = .ok (.aload_n 0, 1) := by decide +kernel
theorem dX4_init_164 : decode cX4_init 164 = .ok (.getfield 35, 3) := by decide +kernel
theorem dX4_init_167 : decode cX4_init 167 = .ok (.iload_n 2, 1) := by decide +kernel
theorem dX4_init_168 : decode cX4_init 168 = .ok (.iconst (-1), 1) := by decide +kernel
theorem dX4_init_169 : decode cX4_init 169 = .ok (.iastore, 1) := by decide +kernel
theorem dX4_init_170 : decode cX4_init 170 = .ok (.iinc 2 1, 3) := by decide +kernel
theorem dX4_init_173 : decode cX4_init 173 = .ok (.goto (-16), 3) := by decide +kernel
theorem dX4_init_176 : decode cX4_init 176 = .ok (.return_, 1) := by decide +kernel
theorem dX4_knowsUp_0 : decode cX4_knowsUp 0 = .ok (.aload_n 0, 1) := by decide +kernel
theorem dX4_knowsUp_1 : decode cX4_knowsUp 1 = .ok (.getfield 11, 3) := by decide +kernel
theorem dX4_knowsUp_4 : decode cX4_knowsUp 4 = .ok (.iload_n 1, 1) := by decide +kernel
theorem dX4_knowsUp_5 : decode cX4_knowsUp 5 = .ok (.aaload, 1) := by decide +kernel
theorem dX4_knowsUp_6 : decode cX4_knowsUp 6 = .ok (.ifnull 24, 3) := by decide +kernel
theorem dX4_knowsUp_9 : decode cX4_knowsUp 9 = .ok (.aload_n 0, 1) := by decide +kernel
theorem dX4_knowsUp_10 : decode cX4_knowsUp 10 = .ok (.getfield 11, 3) := by decide +kernel
theorem dX4_knowsUp_13 : decode cX4_knowsUp 13 = .ok (.iload_n 1, 1) := by decide +kernel
theorem dX4_knowsUp_14 : decode cX4_knowsUp 14 = .ok (.aaload, 1) := by decide +kernel
theorem dX4_knowsUp_15 : decode cX4_knowsUp 15 = .ok (.getfield 55, 3) := by decide +kernel
theorem dX4_knowsUp_18 : decode cX4_knowsUp 18 = .ok (.iload_n 2, 1) := by decide +kernel
theorem dX4_knowsUp_19 : decode cX4_knowsUp 19 = .ok (.ishr, 1) := by decide +kernel
theorem dX4_knowsUp_20 : decode cX4_knowsUp 20 = .ok (.iconst 1, 1) := by decide +kernel
theorem dX4_knowsUp_21 : decode cX4_knowsUp 21 = .ok (.iand, 1) := by decide +kernel
theorem dX4_knowsUp_22 : decode cX4_knowsUp 22 = .ok (.iconst 1, 1) := by decide +kernel
theorem dX4_knowsUp_23 : decode cX4_knowsUp 23 = .ok (.if_icmp .ne 7, 3) := by decide +kernel
theorem dX4_knowsUp_26 : decode cX4_knowsUp 26 = .ok (.iconst 1, 1) := by decide +kernel
theorem dX4_knowsUp_27 : decode cX4_knowsUp 27 = .ok (.goto 4, 3) := by decide +kernel
theorem dX4_knowsUp_30 : decode cX4_knowsUp 30 = .ok (.iconst 0, 1) := by decide +kernel
theorem dX4_knowsUp_31 : decode cX4_knowsUp 31 = .ok (.ireturn, 1) := by decide +kernel
theorem dX4_forgetDistances_0 : decode cX4_forgetDistances 0 = .ok (.iconst 0, 1) := by decide +kernel
theorem dX4_forgetDistances_1 : decode cX4_forgetDistances 1 = .ok (.istore_n 1, 1) := by decide +kernel
theorem dX4_forgetDistances_2 : decode cX4_forgetDistances 2 = .ok (.iload_n 1, 1) := by decide +kernel
theorem dX4_forgetDistances_3 : decode cX4_forgetDistances 3 = .ok (.bipush 8, 2) := by decide +kernel
theorem dX4_forgetDistances_5 : decode cX4_forgetDistances 5 = .ok (.if_icmp .ge 42, 3) := by decide +kernel
theorem dX4_forgetDistances_8 : decode cX4_forgetDistances 8 = .ok (.iconst 0, 1) := by decide +kernel
theorem dX4_forgetDistances_9 : decode cX4_forgetDistances 9 = .ok (.istore_n 2, 1) := by decide +kernel
theorem dX4_forgetDistances_10 : decode cX4_forgetDistances 10 = .ok (.iload_n 2, 1) := by decide +kernel
theorem dX4_forgetDistances_11 : decode cX4_forgetDistances 11 = .ok (.bipush 8, 2) := by decide +kernel
theorem dX4_forgetDistances_13 : decode cX4_forgetDistances 13 = .ok (.if_icmp .ge 28, 3) := by decide +kernel
theorem dX4_forgetDistances_16 : decode cX4_forgetDistances 16 = .ok (.aload_n 0, 1) := by decide +kernel
theorem dX4_forgetDistances_17 : decode cX4_forgetDistances 17 = .ok (.getfield 19, 3) := by decide +kernel
theorem dX4_forgetDistances_20 : decode cX4_forgetDistances 20 = .ok (.iload_n 1, 1) := by decide +kernel
theorem dX4_forgetDistances_21 : decode cX4_forgetDistances 21 = .ok (.aaload, 1) := by decide +kernel
theorem dX4_forgetDistances_22 : decode cX4_forgetDistances 22 = .ok (.iload_n 2, 1) := by decide +kernel
theorem dX4_forgetDistances_23 : decode cX4_forgetDistances 23 = .ok (.iload_n 1, 1) := by decide +kernel
theorem dX4_forgetDistances_24 : decode cX4_forgetDistances 24 = .ok (.iload_n 2, 1) := by decide +kernel
theorem dX4_forgetDistances_25 : decode cX4_forgetDistances 25 = .ok (.if_icmp .ne 7, 3) := by decide +kernel
theorem dX4_forgetDistances_28 : decode cX4_forgetDistances 28 = .ok (.iconst 0, 1) := by decide +kernel
theorem dX4_forgetDistances_29 : decode cX4_forgetDistances 29 = .ok (.goto 5, 3) := by decide +kernel
theorem dX4_forgetDistances_32 : decode cX4_forgetDistances 32 = .ok (.ldc 58, 2) := by decide +kernel
theorem dX4_forgetDistances_34 : decode cX4_forgetDistances 34 = .ok (.iastore, 1) := by decide +kernel
theorem dX4_forgetDistances_35 : decode cX4_forgetDistances 35 = .ok (.iinc 2 1, 3) := by decide +kernel
theorem dX4_forgetDistances_38 : decode cX4_forgetDistances 38 = .ok (.goto (-28), 3) := by decide +kernel
theorem dX4_forgetDistances_41 : decode cX4_forgetDistances 41 = .ok (.iinc 1 1, 3) := by decide +kernel
theorem dX4_forgetDistances_44 : decode cX4_forgetDistances 44 = .ok (.goto (-42), 3) := by decide +kernel
theorem dX4_forgetDistances_47 : decode cX4_forgetDistances 47 = .ok (.return_, 1) := by decide +kernel
theorem dX4_takeStep_0 : decode cX4_takeStep 0 = .ok (.aload_n 0, 1) := by decide +kernel
theorem dX4_takeStep_1 : decode cX4_takeStep 1 = .ok (.getfield 19, 3) := by decide +kernel
theorem dX4_takeStep_4 : decode cX4_takeStep 4 = .ok (.iload_n 1, 1) := by decide +kernel
theorem dX4_takeStep_5 : decode cX4_takeStep 5 = .ok (.aaload, 1) := by decide +kernel
theorem dX4_takeStep_6 : decode cX4_takeStep 6 = .ok (.iload_n 2, 1) := by decide +kernel
theorem dX4_takeStep_7 : decode cX4_takeStep 7 = .ok (.iaload, 1) := by decide +kernel
theorem dX4_takeStep_8 : decode cX4_takeStep 8 = .ok (.iload_n 3, 1) := by decide +kernel
theorem dX4_takeStep_9 : decode cX4_takeStep 9 = .ok (.invokestatic 59, 3) := by decide +kernel
theorem dX4_takeStep_12 : decode cX4_takeStep 12 = .ok (.istore 4, 2) := by decide +kernel
theorem dX4_takeStep_14 : decode cX4_takeStep 14 = .ok (.aload_n 0, 1) := by decide +kernel
theorem dX4_takeStep_15 : decode cX4_takeStep 15 = .ok (.getfield 19, 3) := by decide +kernel
theorem dX4_takeStep_18 : decode cX4_takeStep 18 = .ok (.iload_n 1, 1) := by decide +kernel
theorem dX4_takeStep_19 : decode cX4_takeStep 19 = .ok (.aaload, 1) := by decide +kernel
theorem dX4_takeStep_20 : decode cX4_takeStep 20 = .ok (.iload_n 2, 1) := by decide +kernel
theorem dX4_takeStep_21 : decode cX4_takeStep 21 = .ok (.iload 4, 2) := by decide +kernel
theorem dX4_takeStep_23 : decode cX4_takeStep 23 = .ok (.iastore, 1) := by decide +kernel
theorem dX4_takeStep_24 : decode cX4_takeStep 24 = .ok (.aload_n 0, 1) := by decide +kernel
theorem dX4_takeStep_25 : decode cX4_takeStep 25 = .ok (.getfield 19, 3) := by decide +kernel
theorem dX4_takeStep_28 : decode cX4_takeStep 28 = .ok (.iload_n 2, 1) := by decide +kernel
theorem dX4_takeStep_29 : decode cX4_takeStep 29 = .ok (.aaload, 1) := by decide +kernel
theorem dX4_takeStep_30 : decode cX4_takeStep 30 = .ok (.iload_n 1, 1) := by decide +kernel
theorem dX4_takeStep_31 : decode cX4_takeStep 31 = .ok (.iload 4, 2) := by decide +kernel
theorem dX4_takeStep_33 : decode cX4_takeStep 33 = .ok (.iastore, 1) := by decide +kernel
theorem dX4_takeStep_34 : decode cX4_takeStep 34 = .ok (.return_, 1) := by decide +kernel
theorem dX4_joinSteps_0 : decode cX4_joinSteps 0 = .ok (.iconst 0, 1) := by decide +kernel
theorem dX4_joinSteps_1 : decode cX4_joinSteps 1 = .ok (.istore_n 1, 1) := by decide +kernel
theorem dX4_joinSteps_2 : decode cX4_joinSteps 2 = .ok (.iload_n 1, 1) := by decide +kernel
theorem dX4_joinSteps_3 : decode cX4_joinSteps 3 = .ok (.bipush 8, 2) := by decide +kernel
theorem dX4_joinSteps_5 : decode cX4_joinSteps 5 = .ok (.if_icmp .ge 42, 3) := by decide +kernel
theorem dX4_joinSteps_8 : decode cX4_joinSteps 8 = .ok (.iconst 0, 1) := by decide +kernel
theorem dX4_joinSteps_9 : decode cX4_joinSteps 9 = .ok (.istore_n 2, 1) := by decide +kernel
theorem dX4_joinSteps_10 : decode cX4_joinSteps 10 = .ok (.iload_n 2, 1) := by decide +kernel
theorem dX4_joinSteps_11 : decode cX4_joinSteps 11 = .ok (.bipush 8, 2) := by decide +kernel
theorem dX4_joinSteps_13 : decode cX4_joinSteps 13 = .ok (.if_icmp .ge 28, 3) := by decide +kernel
theorem dX4_joinSteps_16 : decode cX4_joinSteps 16 = .ok (.aload_n 0, 1) := by decide +kernel
theorem dX4_joinSteps_17 : decode cX4_joinSteps 17 = .ok (.getfield 19, 3) := by decide +kernel
theorem dX4_joinSteps_20 : decode cX4_joinSteps 20 = .ok (.iload_n 2, 1) := by decide +kernel
theorem dX4_joinSteps_21 : decode cX4_joinSteps 21 = .ok (.aaload, 1) := by decide +kernel
theorem dX4_joinSteps_22 : decode cX4_joinSteps 22 = .ok (.iload_n 1, 1) := by decide +kernel
theorem dX4_joinSteps_23 : decode cX4_joinSteps 23 = .ok (.iaload, 1) := by decide +kernel
theorem dX4_joinSteps_24 : decode cX4_joinSteps 24 = .ok (.ldc 58, 2) := by decide +kernel
theorem dX4_joinSteps_26 : decode cX4_joinSteps 26 = .ok (.if_icmp .ge 9, 3) := by decide +kernel
theorem dX4_joinSteps_29 : decode cX4_joinSteps 29 = .ok (.aload_n 0, 1) := by decide +kernel
theorem dX4_joinSteps_30 : decode cX4_joinSteps 30 = .ok (.iload_n 2, 1) := by decide +kernel
theorem dX4_joinSteps_31 : decode cX4_joinSteps 31 = .ok (.iload_n 1, 1) := by decide +kernel
theorem dX4_joinSteps_32 : decode cX4_joinSteps 32 = .ok (.invokevirtual 65, 3) := by decide +kernel
theorem dX4_joinSteps_35 : decode cX4_joinSteps 35 = .ok (.iinc 2 1, 3) := by decide +kernel
theorem dX4_joinSteps_38 : decode cX4_joinSteps 38 = .ok (.goto (-28), 3) := by decide +kernel
theorem dX4_joinSteps_41 : decode cX4_joinSteps 41 = .ok (.iinc 1 1, 3) := by decide +kernel
theorem dX4_joinSteps_44 : decode cX4_joinSteps 44 = .ok (.goto (-42), 3) := by decide +kernel
theorem dX4_joinSteps_47 : decode cX4_joinSteps 47 = .ok (.return_, 1) := by decide +kernel
theorem dX4_joinAt_0 : decode cX4_joinAt 0 = .ok (.iconst 0, 1) := by decide +kernel
theorem dX4_joinAt_1 : decode cX4_joinAt 1 = .ok (.istore_n 3, 1) := by decide +kernel
theorem dX4_joinAt_2 : decode cX4_joinAt 2 = .ok (.iload_n 3, 1) := by decide +kernel
theorem dX4_joinAt_3 : decode cX4_joinAt 3 = .ok (.bipush 8, 2) := by decide +kernel
theorem dX4_joinAt_5 : decode cX4_joinAt 5 = .ok (.if_icmp .ge 45, 3) := by decide +kernel
theorem dX4_joinAt_8 : decode cX4_joinAt 8 = .ok (.aload_n 0, 1) := by decide +kernel
theorem dX4_joinAt_9 : decode cX4_joinAt 9 = .ok (.getfield 19, 3) := by decide +kernel
theorem dX4_joinAt_12 : decode cX4_joinAt 12 = .ok (.iload_n 1, 1) := by decide +kernel
theorem dX4_joinAt_13 : decode cX4_joinAt 13 = .ok (.aaload, 1) := by decide +kernel
theorem dX4_joinAt_14 : decode cX4_joinAt 14 = .ok (.iload_n 3, 1) := by decide +kernel
theorem dX4_joinAt_15 : decode cX4_joinAt 15 = .ok (.aload_n 0, 1) := by decide +kernel
theorem dX4_joinAt_16 : decode cX4_joinAt 16 = .ok (.getfield 19, 3) := by decide +kernel
theorem dX4_joinAt_19 : decode cX4_joinAt 19 = .ok (.iload_n 1, 1) := by decide +kernel
theorem dX4_joinAt_20 : decode cX4_joinAt 20 = .ok (.aaload, 1) := by decide +kernel
theorem dX4_joinAt_21 : decode cX4_joinAt 21 = .ok (.iload_n 3, 1) := by decide +kernel
theorem dX4_joinAt_22 : decode cX4_joinAt 22 = .ok (.iaload, 1) := by decide +kernel
theorem dX4_joinAt_23 : decode cX4_joinAt 23 = .ok (.aload_n 0, 1) := by decide +kernel
theorem dX4_joinAt_24 : decode cX4_joinAt 24 = .ok (.getfield 19, 3) := by decide +kernel
theorem dX4_joinAt_27 : decode cX4_joinAt 27 = .ok (.iload_n 1, 1) := by decide +kernel
theorem dX4_joinAt_28 : decode cX4_joinAt 28 = .ok (.aaload, 1) := by decide +kernel
theorem dX4_joinAt_29 : decode cX4_joinAt 29 = .ok (.iload_n 2, 1) := by decide +kernel
theorem dX4_joinAt_30 : decode cX4_joinAt 30 = .ok (.iaload, 1) := by decide +kernel
theorem dX4_joinAt_31 : decode cX4_joinAt 31 = .ok (.aload_n 0, 1) := by decide +kernel
theorem dX4_joinAt_32 : decode cX4_joinAt 32 = .ok (.getfield 19, 3) := by decide +kernel
theorem dX4_joinAt_35 : decode cX4_joinAt 35 = .ok (.iload_n 2, 1) := by decide +kernel
theorem dX4_joinAt_36 : decode cX4_joinAt 36 = .ok (.aaload, 1) := by decide +kernel
theorem dX4_joinAt_37 : decode cX4_joinAt 37 = .ok (.iload_n 3, 1) := by decide +kernel
theorem dX4_joinAt_38 : decode cX4_joinAt 38 = .ok (.iaload, 1) := by decide +kernel
theorem dX4_joinAt_39 : decode cX4_joinAt 39 = .ok (.iadd, 1) := by decide +kernel
theorem dX4_joinAt_40 : decode cX4_joinAt 40 = .ok (.invokestatic 59, 3) := by decide +kernel
theorem dX4_joinAt_43 : decode cX4_joinAt 43 = .ok (.iastore, 1) := by decide +kernel
theorem dX4_joinAt_44 : decode cX4_joinAt 44 = .ok (.iinc 3 1, 3) := by decide +kernel
theorem dX4_joinAt_47 : decode cX4_joinAt 47 = .ok (.goto (-45), 3) := by decide +kernel
theorem dX4_joinAt_50 : decode cX4_joinAt 50 = .ok (.return_, 1) := by decide +kernel
theorem dX4_egress_0 : decode cX4_egress 0 = .ok (.iconst 0, 1) := by decide +kernel
theorem dX4_egress_1 : decode cX4_egress 1 = .ok (.istore_n 2, 1) := by decide +kernel
theorem dX4_egress_2 : decode cX4_egress 2 = .ok (.iload_n 2, 1) := by decide +kernel
theorem dX4_egress_3 : decode cX4_egress 3 = .ok (.bipush 8, 2) := by decide +kernel
theorem dX4_egress_5 : decode cX4_egress 5 = .ok (.if_icmp .ge 50, 3) := by decide +kernel
theorem dX4_egress_8 : decode cX4_egress 8 = .ok (.aload_n 0, 1) := by decide +kernel
theorem dX4_egress_9 : decode cX4_egress 9 = .ok (.getfield 11, 3) := by decide +kernel
theorem dX4_egress_12 : decode cX4_egress 12 = .ok (.iload_n 2, 1) := by decide +kernel
theorem dX4_egress_13 : decode cX4_egress 13 = .ok (.aaload, 1) := by decide +kernel
theorem dX4_egress_14 : decode cX4_egress 14 = .ok (.astore_n 3, 1) := by decide +kernel
theorem dX4_egress_15 : decode cX4_egress 15 = .ok (.aload_n 3, 1) := by decide +kernel
theorem dX4_egress_16 : decode cX4_egress 16 = .ok (.ifnull 33, 3) := by decide +kernel
theorem dX4_egress_19 : decode cX4_egress 19 = .ok (.aload_n 3, 1) := by decide +kernel
theorem dX4_egress_20 : decode cX4_egress 20 = .ok (.getfield 68, 3) := by decide +kernel
theorem dX4_egress_23 : decode cX4_egress 23 = .ok (.iload_n 1, 1) := by decide +kernel
theorem dX4_egress_24 : decode cX4_egress 24 = .ok (.ishr, 1) := by decide +kernel
theorem dX4_egress_25 : decode cX4_egress 25 = .ok (.iconst 1, 1) := by decide +kernel
theorem dX4_egress_26 : decode cX4_egress 26 = .ok (.iand, 1) := by decide +kernel
theorem dX4_egress_27 : decode cX4_egress 27 = .ok (.iconst 1, 1) := by decide +kernel
theorem dX4_egress_28 : decode cX4_egress 28 = .ok (.if_icmp .ne 21, 3) := by decide +kernel
theorem dX4_egress_31 : decode cX4_egress 31 = .ok (.aload_n 0, 1) := by decide +kernel
theorem dX4_egress_32 : decode cX4_egress 32 = .ok (.getfield 19, 3) := by decide +kernel
theorem dX4_egress_35 : decode cX4_egress 35 = .ok (.aload_n 0, 1) := by decide +kernel
theorem dX4_egress_36 : decode cX4_egress 36 = .ok (.getfield 41, 3) := by decide +kernel
theorem dX4_egress_39 : decode cX4_egress 39 = .ok (.aaload, 1) := by decide +kernel
theorem dX4_egress_40 : decode cX4_egress 40 = .ok (.iload_n 2, 1) := by decide +kernel
theorem dX4_egress_41 : decode cX4_egress 41 = .ok (.iaload, 1) := by decide +kernel
theorem dX4_egress_42 : decode cX4_egress 42 = .ok (.ldc 58, 2) := by decide +kernel
theorem dX4_egress_44 : decode cX4_egress 44 = .ok (.if_icmp .ge 5, 3) := by decide +kernel
theorem dX4_egress_47 : decode cX4_egress 47 = .ok (.iload_n 2, 1) := by decide +kernel
theorem dX4_egress_48 : decode cX4_egress 48 = .ok (.ireturn, 1) := by decide +kernel
theorem dX4_egress_49 : decode cX4_egress 49 = .ok (.iinc 2 1, 3) := by decide +kernel
theorem dX4_egress_52 : decode cX4_egress 52 = .ok (.goto (-50), 3) := by decide +kernel
theorem dX4_egress_55 : decode cX4_egress 55 = .ok (.iconst (-1), 1) := by decide +kernel
theorem dX4_egress_56 : decode cX4_egress 56 = .ok (.ireturn, 1) := by decide +kernel
theorem dX4_forgetMapping_0 : decode cX4_forgetMapping 0 = .ok (.aload_n 0, 1) := by decide +kernel
theorem dX4_forgetMapping_1 : decode cX4_forgetMapping 1 = .ok (.getfield 22, 3) := by decide +kernel
theorem dX4_forgetMapping_4 : decode cX4_forgetMapping 4 = .ok (.iload_n 1, 1) := by decide +kernel
theorem dX4_forgetMapping_5 : decode cX4_forgetMapping 5 = .ok (.aaload, 1) := by decide +kernel
theorem dX4_forgetMapping_6 : decode cX4_forgetMapping 6 = .ok (.iload_n 2, 1) := by decide +kernel
theorem dX4_forgetMapping_7 : decode cX4_forgetMapping 7 = .ok (.iconst (-1), 1) := by decide +kernel
theorem dX4_forgetMapping_8 : decode cX4_forgetMapping 8 = .ok (.iastore, 1) := by decide +kernel
theorem dX4_forgetMapping_9 : decode cX4_forgetMapping 9 = .ok (.aload_n 0, 1) := by decide +kernel
theorem dX4_forgetMapping_10 : decode cX4_forgetMapping 10 = .ok (.getfield 25, 3) := by decide +kernel
theorem dX4_forgetMapping_13 : decode cX4_forgetMapping 13 = .ok (.iload_n 1, 1) := by decide +kernel
theorem dX4_forgetMapping_14 : decode cX4_forgetMapping 14 = .ok (.aaload, 1) := by decide +kernel
theorem dX4_forgetMapping_15 : decode cX4_forgetMapping 15 = .ok (.iload_n 2, 1) := by decide +kernel
theorem dX4_forgetMapping_16 : decode cX4_forgetMapping 16 = .ok (.iconst (-1), 1) := by decide +kernel
theorem dX4_forgetMapping_17 : decode cX4_forgetMapping 17 = .ok (.iastore, 1) := by decide +kernel
theorem dX4_forgetMapping_18 : decode cX4_forgetMapping 18 = .ok (.return_, 1) := by decide +kernel
theorem dX4_forgetLink_0 : decode cX4_forgetLink 0 = .ok (.iconst 0, 1) := by decide +kernel
theorem dX4_forgetLink_1 : decode cX4_forgetLink 1 = .ok (.istore_n 2, 1) := by decide +kernel
theorem dX4_forgetLink_2 : decode cX4_forgetLink 2 = .ok (.iload_n 2, 1) := by decide +kernel
theorem dX4_forgetLink_3 : decode cX4_forgetLink 3 = .ok (.bipush 8, 2) := by decide +kernel
theorem dX4_forgetLink_5 : decode cX4_forgetLink 5 = .ok (.if_icmp .ge 15, 3) := by decide +kernel
theorem dX4_forgetLink_8 : decode cX4_forgetLink 8 = .ok (.aload_n 0, 1) := by decide +kernel
theorem dX4_forgetLink_9 : decode cX4_forgetLink 9 = .ok (.iload_n 2, 1) := by decide +kernel
theorem dX4_forgetLink_10 : decode cX4_forgetLink 10 = .ok (.iload_n 1, 1) := by decide +kernel
theorem dX4_forgetLink_11 : decode cX4_forgetLink 11 = .ok (.invokevirtual 51, 3) := by decide +kernel
theorem dX4_forgetLink_14 : decode cX4_forgetLink 14 = .ok (.iinc 2 1, 3) := by decide +kernel
theorem dX4_forgetLink_17 : decode cX4_forgetLink 17 = .ok (.goto (-15), 3) := by decide +kernel
theorem dX4_forgetLink_20 : decode cX4_forgetLink 20 = .ok (.bipush 16, 2) := by decide +kernel
theorem dX4_forgetLink_22 : decode cX4_forgetLink 22 = .ok (.istore_n 2, 1) := by decide +kernel
theorem dX4_forgetLink_23 : decode cX4_forgetLink 23 = .ok (.iload_n 2, 1) := by decide +kernel
theorem dX4_forgetLink_24 : decode cX4_forgetLink 24 = .ok (.bipush 80, 2) := by decide +kernel
theorem dX4_forgetLink_26 : decode cX4_forgetLink 26 = .ok (.if_icmp .ge 28, 3) := by decide +kernel
theorem dX4_forgetLink_29 : decode cX4_forgetLink 29 = .ok (.aload_n 0, 1) := by decide +kernel
theorem dX4_forgetLink_30 : decode cX4_forgetLink 30 = .ok (.getfield 38, 3) := by decide +kernel
theorem dX4_forgetLink_33 : decode cX4_forgetLink 33 = .ok (.iload_n 2, 1) := by decide +kernel
theorem dX4_forgetLink_34 : decode cX4_forgetLink 34 = .ok (.dup2, 1) := by decide +kernel
theorem dX4_forgetLink_35 : decode cX4_forgetLink 35 = .ok (.iaload, 1) := by decide +kernel
theorem dX4_forgetLink_36 : decode cX4_forgetLink 36 = .ok (.iconst 1, 1) := by decide +kernel
theorem dX4_forgetLink_37 : decode cX4_forgetLink 37 = .ok (.iload_n 1, 1) := by decide +kernel
theorem dX4_forgetLink_38 : decode cX4_forgetLink 38 = .ok (.ishl, 1) := by decide +kernel
theorem dX4_forgetLink_39 : decode cX4_forgetLink 39 = .ok (.iconst (-1), 1) := by decide +kernel
theorem dX4_forgetLink_40 : decode cX4_forgetLink 40 = .ok (.ixor, 1) := by decide +kernel
theorem dX4_forgetLink_41 : decode cX4_forgetLink 41 = .ok (.iand, 1) := by decide +kernel
theorem dX4_forgetLink_42 : decode cX4_forgetLink 42 = .ok (.iastore, 1) := by decide +kernel
theorem dX4_forgetLink_43 : decode cX4_forgetLink 43 = .ok (.aload_n 0, 1) := by decide +kernel
theorem dX4_forgetLink_44 : decode cX4_forgetLink 44 = .ok (.iload_n 2, 1) := by decide +kernel
theorem dX4_forgetLink_45 : decode cX4_forgetLink 45 = .ok (.invokevirtual 71, 3) := by decide +kernel
theorem dX4_forgetLink_48 : decode cX4_forgetLink 48 = .ok (.iinc 2 1, 3) := by decide +kernel
theorem dX4_forgetLink_51 : decode cX4_forgetLink 51 = .ok (.goto (-28), 3) := by decide +kernel
theorem dX4_forgetLink_54 : decode cX4_forgetLink 54 = .ok (.return_, 1) := by decide +kernel
theorem dX4_labelFor_0 : decode cX4_labelFor 0 = .ok (.iload_n 2, 1) := by decide +kernel
theorem dX4_labelFor_1 : decode cX4_labelFor 1 = .ok (.iconst (-1), 1) := by decide +kernel
theorem dX4_labelFor_2 : decode cX4_labelFor 2 = .ok (.if_icmp .ne 5, 3) := by decide +kernel
theorem dX4_labelFor_5 : decode cX4_labelFor 5 = .ok (.iconst (-1), 1) := by decide +kernel
theorem dX4_labelFor_6 : decode cX4_labelFor 6 = .ok (.ireturn, 1) := by decide +kernel
theorem dX4_labelFor_7 : decode cX4_labelFor 7 = .ok (.iload_n 2, 1) := by decide +kernel
theorem dX4_labelFor_8 : decode cX4_labelFor 8 = .ok (.iconst 1, 1) := by decide +kernel
theorem dX4_labelFor_9 : decode cX4_labelFor 9 = .ok (.aload_n 0, 1) := by decide +kernel
theorem dX4_labelFor_10 : decode cX4_labelFor 10 = .ok (.getfield 41, 3) := by decide +kernel
theorem dX4_labelFor_13 : decode cX4_labelFor 13 = .ok (.ishl, 1) := by decide +kernel
theorem dX4_labelFor_14 : decode cX4_labelFor 14 = .ok (.if_icmp .ne 5, 3) := by decide +kernel
theorem dX4_labelFor_17 : decode cX4_labelFor 17 = .ok (.iconst 3, 1) := by decide +kernel
theorem dX4_labelFor_18 : decode cX4_labelFor 18 = .ok (.ireturn, 1) := by decide +kernel
theorem dX4_labelFor_19 : decode cX4_labelFor 19 = .ok (.iload_n 1, 1) := by decide +kernel
theorem dX4_labelFor_20 : decode cX4_labelFor 20 = .ok (.bipush 16, 2) := by decide +kernel
theorem dX4_labelFor_22 : decode cX4_labelFor 22 = .ok (.if_icmp .lt 7, 3) := by decide +kernel
theorem dX4_labelFor_25 : decode cX4_labelFor 25 = .ok (.iload_n 1, 1) := by decide +kernel
theorem dX4_labelFor_26 : decode cX4_labelFor 26 = .ok (.goto 7, 3) := by decide +kernel
theorem dX4_labelFor_29 : decode cX4_labelFor 29 = .ok (.aload_n 0, 1) := by decide +kernel
theorem dX4_labelFor_30 : decode cX4_labelFor 30 = .ok (.invokevirtual 75, 3) := by decide +kernel
theorem dX4_labelFor_33 : decode cX4_labelFor 33 = .ok (.ireturn, 1) := by decide +kernel
theorem dX4_leastFreeLabel_0 : decode cX4_leastFreeLabel 0 = .ok (.bipush 16, 2) := by decide +kernel
theorem dX4_leastFreeLabel_2 : decode cX4_leastFreeLabel 2 = .ok (.istore_n 1, 1) := by decide +kernel
theorem dX4_leastFreeLabel_3 : decode cX4_leastFreeLabel 3 = .ok (.iload_n 1, 1) := by decide +kernel
theorem dX4_leastFreeLabel_4 : decode cX4_leastFreeLabel 4 = .ok (.bipush 80, 2) := by decide +kernel
theorem dX4_leastFreeLabel_6 : decode cX4_leastFreeLabel 6 = .ok (.if_icmp .ge 21, 3) := by decide +kernel
theorem dX4_leastFreeLabel_9 : decode cX4_leastFreeLabel 9 = .ok (.aload_n 0, 1) := by decide +kernel
theorem dX4_leastFreeLabel_10 : decode cX4_leastFreeLabel 10 = .ok (.getfield 35, 3) := by decide +kernel
theorem dX4_leastFreeLabel_13 : decode cX4_leastFreeLabel 13 = .ok (.iload_n 1, 1) := by decide +kernel
theorem dX4_leastFreeLabel_14 : decode cX4_leastFreeLabel 14 = .ok (.iaload, 1) := by decide +kernel
theorem dX4_leastFreeLabel_15 : decode cX4_leastFreeLabel 15 = .ok (.iconst (-1), 1) := by decide +kernel
theorem dX4_leastFreeLabel_16 : decode cX4_leastFreeLabel 16 = .ok (.if_icmp .ne 5, 3) := by decide +kernel
theorem dX4_leastFreeLabel_19 : decode cX4_leastFreeLabel 19 = .ok (.iload_n 1, 1) := by decide +kernel
theorem dX4_leastFreeLabel_20 : decode cX4_leastFreeLabel 20 = .ok (.ireturn, 1) := by decide +kernel
theorem dX4_leastFreeLabel_21 : decode cX4_leastFreeLabel 21 = .ok (.iinc 1 1, 3) := by decide +kernel
theorem dX4_leastFreeLabel_24 : decode cX4_leastFreeLabel 24 = .ok (.goto (-21), 3) := by decide +kernel
theorem dX4_leastFreeLabel_27 : decode cX4_leastFreeLabel 27 = .ok (.iconst (-1), 1) := by decide +kernel
theorem dX4_leastFreeLabel_28 : decode cX4_leastFreeLabel 28 = .ok (.ireturn, 1) := by decide +kernel
theorem dX4_bind_0 : decode cX4_bind 0 = .ok (.aload_n 0, 1) := by decide +kernel
theorem dX4_bind_1 : decode cX4_bind 1 = .ok (.getfield 28, 3) := by decide +kernel
theorem dX4_bind_4 : decode cX4_bind 4 = .ok (.iload_n 1, 1) := by decide +kernel
theorem dX4_bind_5 : decode cX4_bind 5 = .ok (.iload_n 2, 1) := by decide +kernel
theorem dX4_bind_6 : decode cX4_bind 6 = .ok (.iastore, 1) := by decide +kernel
theorem dX4_bind_7 : decode cX4_bind 7 = .ok (.aload_n 0, 1) := by decide +kernel
theorem dX4_bind_8 : decode cX4_bind 8 = .ok (.getfield 32, 3) := by decide +kernel
theorem dX4_bind_11 : decode cX4_bind 11 = .ok (.iload_n 1, 1) := by decide +kernel
theorem dX4_bind_12 : decode cX4_bind 12 = .ok (.iload_n 3, 1) := by decide +kernel
theorem dX4_bind_13 : decode cX4_bind 13 = .ok (.iastore, 1) := by decide +kernel
theorem dX4_bind_14 : decode cX4_bind 14 = .ok (.iload_n 2, 1) := by decide +kernel
theorem dX4_bind_15 : decode cX4_bind 15 = .ok (.invokestatic 79, 3) := by decide +kernel
theorem dX4_bind_18 : decode cX4_bind 18 = .ok (.ifCond .eq 10, 3) := by decide +kernel
theorem dX4_bind_21 : decode cX4_bind 21 = .ok (.aload_n 0, 1) := by decide +kernel
theorem dX4_bind_22 : decode cX4_bind 22 = .ok (.getfield 35, 3) := by decide +kernel
theorem dX4_bind_25 : decode cX4_bind 25 = .ok (.iload_n 2, 1) := by decide +kernel
theorem dX4_bind_26 : decode cX4_bind 26 = .ok (.iload_n 1, 1) := by decide +kernel
theorem dX4_bind_27 : decode cX4_bind 27 = .ok (.iastore, 1) := by decide +kernel
theorem dX4_bind_28 : decode cX4_bind 28 = .ok (.return_, 1) := by decide +kernel
theorem dX4_isOwnLabel_0 : decode cX4_isOwnLabel 0 = .ok (.iload_n 0, 1) := by decide +kernel
theorem dX4_isOwnLabel_1 : decode cX4_isOwnLabel 1 = .ok (.bipush 16, 2) := by decide +kernel
theorem dX4_isOwnLabel_3 : decode cX4_isOwnLabel 3 = .ok (.if_icmp .lt 13, 3) := by decide +kernel
theorem dX4_isOwnLabel_6 : decode cX4_isOwnLabel 6 = .ok (.iload_n 0, 1) := by decide +kernel
theorem dX4_isOwnLabel_7 : decode cX4_isOwnLabel 7 = .ok (.bipush 80, 2) := by decide +kernel
theorem dX4_isOwnLabel_9 : decode cX4_isOwnLabel 9 = .ok (.if_icmp .ge 7, 3) := by decide +kernel
theorem dX4_isOwnLabel_12 : decode cX4_isOwnLabel 12 = .ok (.iconst 1, 1) := by decide +kernel
theorem dX4_isOwnLabel_13 : decode cX4_isOwnLabel 13 = .ok (.goto 4, 3) := by decide +kernel
theorem dX4_isOwnLabel_16 : decode cX4_isOwnLabel 16 = .ok (.iconst 0, 1) := by decide +kernel
theorem dX4_isOwnLabel_17 : decode cX4_isOwnLabel 17 = .ok (.ireturn, 1) := by decide +kernel
theorem dX4_releaseCounts_0 : decode cX4_releaseCounts 0 = .ok (.iload_n 2, 1) := by decide +kernel
theorem dX4_releaseCounts_1 : decode cX4_releaseCounts 1 = .ok (.invokestatic 79, 3) := by decide +kernel
theorem dX4_releaseCounts_4 : decode cX4_releaseCounts 4 = .ok (.ifCond .eq 13, 3) := by decide +kernel
theorem dX4_releaseCounts_7 : decode cX4_releaseCounts 7 = .ok (.aload_n 0, 1) := by decide +kernel
theorem dX4_releaseCounts_8 : decode cX4_releaseCounts 8 = .ok (.getfield 35, 3) := by decide +kernel
theorem dX4_releaseCounts_11 : decode cX4_releaseCounts 11 = .ok (.iload_n 2, 1) := by decide +kernel
theorem dX4_releaseCounts_12 : decode cX4_releaseCounts 12 = .ok (.iaload, 1) := by decide +kernel
theorem dX4_releaseCounts_13 : decode cX4_releaseCounts 13 = .ok (.iload_n 1, 1) := by decide +kernel
theorem dX4_releaseCounts_14 : decode cX4_releaseCounts 14 = .ok (.if_icmp .eq 5, 3) := by decide +kernel
theorem dX4_releaseCounts_17 : decode cX4_releaseCounts 17 = .ok (.iconst 0, 1) := by decide +kernel
theorem dX4_releaseCounts_18 : decode cX4_releaseCounts 18 = .ok (.ireturn, 1) := by decide +kernel
theorem dX4_releaseCounts_19 : decode cX4_releaseCounts 19 = .ok (.aload_n 0, 1) := by decide +kernel
theorem dX4_releaseCounts_20 : decode cX4_releaseCounts 20 = .ok (.getfield 38, 3) := by decide +kernel
theorem dX4_releaseCounts_23 : decode cX4_releaseCounts 23 = .ok (.iload_n 2, 1) := by decide +kernel
theorem dX4_releaseCounts_24 : decode cX4_releaseCounts 24 = .ok (.dup2, 1) := by decide +kernel
theorem dX4_releaseCounts_25 : decode cX4_releaseCounts 25 = .ok (.iaload, 1) := by decide +kernel
theorem dX4_releaseCounts_26 : decode cX4_releaseCounts 26 = .ok (.iconst 1, 1) := by decide +kernel
theorem dX4_releaseCounts_27 : decode cX4_releaseCounts 27 = .ok (.iload_n 3, 1) := by decide +kernel
theorem dX4_releaseCounts_28 : decode cX4_releaseCounts 28 = .ok (.ishl, 1) := by decide +kernel
theorem dX4_releaseCounts_29 : decode cX4_releaseCounts 29 = .ok (.iconst (-1), 1) := by decide +kernel
theorem dX4_releaseCounts_30 : decode cX4_releaseCounts 30 = .ok (.ixor, 1) := by decide +kernel
theorem dX4_releaseCounts_31 : decode cX4_releaseCounts 31 = .ok (.iand, 1) := by decide +kernel
theorem dX4_releaseCounts_32 : decode cX4_releaseCounts 32 = .ok (.iastore, 1) := by decide +kernel
theorem dX4_releaseCounts_33 : decode cX4_releaseCounts 33 = .ok (.aload_n 0, 1) := by decide +kernel
theorem dX4_releaseCounts_34 : decode cX4_releaseCounts 34 = .ok (.iload_n 2, 1) := by decide +kernel
theorem dX4_releaseCounts_35 : decode cX4_releaseCounts 35 = .ok (.invokevirtual 71, 3) := by decide +kernel
theorem dX4_releaseCounts_38 : decode cX4_releaseCounts 38 = .ok (.iconst 1, 1) := by decide +kernel
theorem dX4_releaseCounts_39 : decode cX4_releaseCounts 39 = .ok (.ireturn, 1) := by decide +kernel
theorem dX4_freeIfReleased_0 : decode cX4_freeIfReleased 0 = .ok (.iload_n 1, 1) := by decide +kernel
theorem dX4_freeIfReleased_1 : decode cX4_freeIfReleased 1 = .ok (.invokestatic 79, 3) := by decide +kernel
theorem dX4_freeIfReleased_4 : decode cX4_freeIfReleased 4 = .ok (.ifCond .eq 44, 3) := by decide +kernel
theorem dX4_freeIfReleased_7 : decode cX4_freeIfReleased 7 = .ok (.aload_n 0, 1) := by decide +kernel
theorem dX4_freeIfReleased_8 : decode cX4_freeIfReleased 8 = .ok (.getfield 35, 3) := by decide +kernel
theorem dX4_freeIfReleased_11 : decode cX4_freeIfReleased 11 = .ok (.iload_n 1, 1) := by decide +kernel
theorem dX4_freeIfReleased_12 : decode cX4_freeIfReleased 12 = .ok (.iaload, 1) := by decide +kernel
theorem dX4_freeIfReleased_13 : decode cX4_freeIfReleased 13 = .ok (.iconst (-1), 1) := by decide +kernel
theorem dX4_freeIfReleased_14 : decode cX4_freeIfReleased 14 = .ok (.if_icmp .eq 34, 3) := by decide +kernel
theorem dX4_freeIfReleased_17 : decode cX4_freeIfReleased 17 = .ok (.aload_n 0, 1) := by decide +kernel
theorem dX4_freeIfReleased_18 : decode cX4_freeIfReleased 18 = .ok (.getfield 38, 3) := by decide +kernel
theorem dX4_freeIfReleased_21 : decode cX4_freeIfReleased 21 = .ok (.iload_n 1, 1) := by decide +kernel
theorem dX4_freeIfReleased_22 : decode cX4_freeIfReleased 22 = .ok (.iaload, 1) := by decide +kernel
theorem dX4_freeIfReleased_23 : decode cX4_freeIfReleased 23 = .ok (.ifCond .ne 25, 3) := by decide +kernel
theorem dX4_freeIfReleased_26 : decode cX4_freeIfReleased 26 = .ok (.aload_n 0, 1) := by decide +kernel
theorem dX4_freeIfReleased_27 : decode cX4_freeIfReleased 27 = .ok (.getfield 28, 3) := by decide +kernel
theorem dX4_freeIfReleased_30 : decode cX4_freeIfReleased 30 = .ok (.aload_n 0, 1) := by decide +kernel
theorem dX4_freeIfReleased_31 : decode cX4_freeIfReleased 31 = .ok (.getfield 35, 3) := by decide +kernel
theorem dX4_freeIfReleased_34 : decode cX4_freeIfReleased 34 = .ok (.iload_n 1, 1) := by decide +kernel
theorem dX4_freeIfReleased_35 : decode cX4_freeIfReleased 35 = .ok (.iaload, 1) := by decide +kernel
theorem dX4_freeIfReleased_36 : decode cX4_freeIfReleased 36 = .ok (.iaload, 1) := by decide +kernel
theorem dX4_freeIfReleased_37 : decode cX4_freeIfReleased 37 = .ok (.iload_n 1, 1) := by decide +kernel
theorem dX4_freeIfReleased_38 : decode cX4_freeIfReleased 38 = .ok (.if_icmp .eq 10, 3) := by decide +kernel
theorem dX4_freeIfReleased_41 : decode cX4_freeIfReleased 41 = .ok (.aload_n 0, 1) := by decide +kernel
theorem dX4_freeIfReleased_42 : decode cX4_freeIfReleased 42 = .ok (.getfield 35, 3) := by decide +kernel
theorem dX4_freeIfReleased_45 : decode cX4_freeIfReleased 45 = .ok (.iload_n 1, 1) := by decide +kernel
theorem dX4_freeIfReleased_46 : decode cX4_freeIfReleased 46 = .ok (.iconst (-1), 1) := by decide +kernel
theorem dX4_freeIfReleased_47 : decode cX4_freeIfReleased 47 = .ok (.iastore, 1) := by decide +kernel
theorem dX4_freeIfReleased_48 : decode cX4_freeIfReleased 48 = .ok (.return_, 1) := by decide +kernel
theorem dX4_prefixOfLabel_0 : decode cX4_prefixOfLabel 0 = .ok (.iconst 0, 1) := by decide +kernel
theorem dX4_prefixOfLabel_1 : decode cX4_prefixOfLabel 1 = .ok (.istore_n 2, 1) := by decide +kernel
theorem dX4_prefixOfLabel_2 : decode cX4_prefixOfLabel 2 = .ok (.iload_n 2, 1) := by decide +kernel
theorem dX4_prefixOfLabel_3 : decode cX4_prefixOfLabel 3 = .ok (.bipush 8, 2) := by decide +kernel
theorem dX4_prefixOfLabel_5 : decode cX4_prefixOfLabel 5 = .ok (.if_icmp .ge 21, 3) := by decide +kernel
theorem dX4_prefixOfLabel_8 : decode cX4_prefixOfLabel 8 = .ok (.aload_n 0, 1) := by decide +kernel
theorem dX4_prefixOfLabel_9 : decode cX4_prefixOfLabel 9 = .ok (.getfield 28, 3) := by decide +kernel
theorem dX4_prefixOfLabel_12 : decode cX4_prefixOfLabel 12 = .ok (.iload_n 2, 1) := by decide +kernel
theorem dX4_prefixOfLabel_13 : decode cX4_prefixOfLabel 13 = .ok (.iaload, 1) := by decide +kernel
theorem dX4_prefixOfLabel_14 : decode cX4_prefixOfLabel 14 = .ok (.iload_n 1, 1) := by decide +kernel
theorem dX4_prefixOfLabel_15 : decode cX4_prefixOfLabel 15 = .ok (.if_icmp .ne 5, 3) := by decide +kernel
theorem dX4_prefixOfLabel_18 : decode cX4_prefixOfLabel 18 = .ok (.iload_n 2, 1) := by decide +kernel
theorem dX4_prefixOfLabel_19 : decode cX4_prefixOfLabel 19 = .ok (.ireturn, 1) := by decide +kernel
theorem dX4_prefixOfLabel_20 : decode cX4_prefixOfLabel 20 = .ok (.iinc 2 1, 3) := by decide +kernel
theorem dX4_prefixOfLabel_23 : decode cX4_prefixOfLabel 23 = .ok (.goto (-21), 3) := by decide +kernel
theorem dX4_prefixOfLabel_26 : decode cX4_prefixOfLabel 26 = .ok (.iconst (-1), 1) := by decide +kernel
theorem dX4_prefixOfLabel_27 : decode cX4_prefixOfLabel 27 = .ok (.ireturn, 1) := by decide +kernel
theorem dX4_labelsInUse_0 : decode cX4_labelsInUse 0 = .ok (.iconst 0, 1) := by decide +kernel
theorem dX4_labelsInUse_1 : decode cX4_labelsInUse 1 = .ok (.istore_n 1, 1) := by decide +kernel
theorem dX4_labelsInUse_2 : decode cX4_labelsInUse 2 = .ok (.bipush 16, 2) := by decide +kernel
theorem dX4_labelsInUse_4 : decode cX4_labelsInUse 4 = .ok (.istore_n 2, 1) := by decide +kernel
theorem dX4_labelsInUse_5 : decode cX4_labelsInUse 5 = .ok (.iload_n 2, 1) := by decide +kernel
theorem dX4_labelsInUse_6 : decode cX4_labelsInUse 6 = .ok (.bipush 80, 2) := by decide +kernel
theorem dX4_labelsInUse_8 : decode cX4_labelsInUse 8 = .ok (.if_icmp .ge 22, 3) := by decide +kernel
theorem dX4_labelsInUse_11 : decode cX4_labelsInUse 11 = .ok (.aload_n 0, 1) := by decide +kernel
theorem dX4_labelsInUse_12 : decode cX4_labelsInUse 12 = .ok (.getfield 35, 3) := by decide +kernel
theorem dX4_labelsInUse_15 : decode cX4_labelsInUse 15 = .ok (.iload_n 2, 1) := by decide +kernel
theorem dX4_labelsInUse_16 : decode cX4_labelsInUse 16 = .ok (.iaload, 1) := by decide +kernel
theorem dX4_labelsInUse_17 : decode cX4_labelsInUse 17 = .ok (.iconst (-1), 1) := by decide +kernel
theorem dX4_labelsInUse_18 : decode cX4_labelsInUse 18 = .ok (.if_icmp .eq 6, 3) := by decide +kernel
theorem dX4_labelsInUse_21 : decode cX4_labelsInUse 21 = .ok (.iinc 1 1, 3) := by decide +kernel
theorem dX4_labelsInUse_24 : decode cX4_labelsInUse 24 = .ok (.iinc 2 1, 3) := by decide +kernel
theorem dX4_labelsInUse_27 : decode cX4_labelsInUse 27 = .ok (.goto (-22), 3) := by decide +kernel
theorem dX4_labelsInUse_30 : decode cX4_labelsInUse 30 = .ok (.iload_n 1, 1) := by decide +kernel
theorem dX4_labelsInUse_31 : decode cX4_labelsInUse 31 = .ok (.ireturn, 1) := by decide +kernel
theorem dX5_init_0 : decode cX5_init 0 = .ok (.aload_n 0, 1) := by decide +kernel
theorem dX5_init_1 : decode cX5_init 1 = .ok (.invokespecial 1, 3) := by decide +kernel
theorem dX5_init_4 : decode cX5_init 4 = .ok (.aload_n 0, 1) := by decide +kernel
theorem dX5_init_5 : decode cX5_init 5 = .ok (.iload_n 1, 1) := by decide +kernel
theorem dX5_init_6 : decode cX5_init 6 = .ok (.putfield 7, 3) := by decide +kernel
theorem dX5_init_9 : decode cX5_init 9 = .ok (.aload_n 0, 1) := by decide +kernel
theorem dX5_init_10 : decode cX5_init 10 = .ok (.iload_n 2, 1) := by decide +kernel
theorem dX5_init_11 : decode cX5_init 11 = .ok (.putfield 13, 3) := by decide +kernel
theorem dX5_init_14 : decode cX5_init 14 = .ok (.aload_n 0, 1) := by decide +kernel
theorem dX5_init_15 : decode cX5_init 15 = .ok (.iload_n 3, 1) := by decide +kernel
theorem dX5_init_16 : decode cX5_init 16 = .ok (.putfield 16, 3) := by decide +kernel
theorem dX5_init_19 : decode cX5_init 19 = .ok (.aload_n 0, 1) := by decide +kernel
theorem dX5_init_20 : decode cX5_init 20 = .ok (.iload 4, 2) := by decide +kernel
theorem dX5_init_22 : decode cX5_init 22 = .ok (.putfield 19, 3) := by decide +kernel
theorem dX5_init_25 : decode cX5_init 25 = .ok (.return_, 1) := by decide +kernel
end
section
theorem dX6_init_0 : decode cX6_init 0 = .ok (.aload_n 0, 1) := by decide +kernel
theorem dX6_init_1 : decode cX6_init 1 = .ok (.invokespecial 1, 3) := by decide +kernel
theorem dX6_init_4 : decode cX6_init 4 = .ok (.aload_n 0, 1) := by decide +kernel
theorem dX6_init_5 : decode cX6_init 5 = .ok (.bipush 12, 2) := by decide +kernel
theorem dX6_init_7 : decode cX6_init 7 = .ok (.anewarray 9, 3) := by decide +kernel
theorem dX6_init_10 : decode cX6_init 10 = .ok (.putfield 11, 3) := by decide +kernel
theorem dX6_init_13 : decode cX6_init 13 = .ok (.aload_n 0, 1) := by decide +kernel
theorem dX6_init_14 : decode cX6_init 14 = .ok (.bipush 8, 2) := by decide +kernel
theorem dX6_init_16 : decode cX6_init 16 = .ok (.newarray .int, 2) := by decide +kernel
theorem dX6_init_18 : decode cX6_init 18 = .ok (.putfield 15, 3) := by decide +kernel
theorem dX6_init_21 : decode cX6_init 21 = .ok (.aload_n 0, 1) := by decide +kernel
theorem dX6_init_22 : decode cX6_init 22 = .ok (.bipush 64, 2) := by decide +kernel
theorem dX6_init_24 : decode cX6_init 24 = .ok (.anewarray 19, 3) := by decide +kernel
theorem dX6_init_27 : decode cX6_init 27 = .ok (.putfield 21, 3) := by decide +kernel
theorem dX6_init_30 : decode cX6_init 30 = .ok (.aload_n 0, 1) := by decide +kernel
theorem dX6_init_31 : decode cX6_init 31 = .ok (.iconst 0, 1) := by decide +kernel
theorem dX6_init_32 : decode cX6_init 32 = .ok (.putfield 25, 3) := by decide +kernel
theorem dX6_init_35 : decode cX6_init 35 = .ok (.aload_n 0, 1) := by decide +kernel
theorem dX6_init_36 : decode cX6_init 36 = .ok (.iconst 0, 1) := by decide +kernel
theorem dX6_init_37 : decode cX6_init 37 = .ok (.putfield 29, 3) := by decide +kernel
theorem dX6_init_40 : decode cX6_init 40 = .ok (.aload_n 0, 1) := by decide +kernel
theorem dX6_init_41 : decode cX6_init 41 = .ok (.new 32, 3) := by decide +kernel
theorem dX6_init_44 : decode cX6_init 44 = .ok (.dup, 1) := by decide +kernel
theorem dX6_init_45 : decode cX6_init 45 = .ok (.invokespecial 34, 3) := by decide +kernel
theorem dX6_init_48 : decode cX6_init 48 = .ok (.putfield 35, 3) := by decide +kernel
theorem dX6_init_51 : decode cX6_init 51 = .ok (.iconst 2, 1) := by decide +kernel
theorem dX6_init_52 : decode cX6_init 52 = .ok (.bipush 8, 2) := by decide +kernel
theorem dX6_init_54 : decode cX6_init 54 = .ok (.iload_n 1, 1) := by decide +kernel
theorem dX6_init_55 : decode cX6_init 55 = .ok (.invokestatic 39, 3) := by decide +kernel
theorem dX6_init_58 : decode cX6_init 58 = .ok (.invokestatic 45, 3) := by decide +kernel
theorem dX6_init_61 : decode cX6_init 61 = .ok (.istore_n 2, 1) := by decide +kernel
theorem dX6_init_62 : decode cX6_init 62 = .ok (.aload_n 0, 1) := by decide +kernel
theorem dX6_init_63 : decode cX6_init 63 = .ok (.iload_n 2, 1) := by decide +kernel
theorem dX6_init_64 : decode cX6_init 64 = .ok (.anewarray 48, 3) := by decide +kernel
theorem dX6_init_67 : decode cX6_init 67 = .ok (.putfield 50, 3) := by decide +kernel
theorem dX6_init_70 : decode cX6_init 70 = .ok (.iconst 0, 1) := by decide +kernel
theorem dX6_init_71 : decode cX6_init 71 = .ok (.istore_n 3, 1) := by decide +kernel
theorem dX6_init_72 : decode cX6_init 72 = .ok (.iload_n 3, 1) := by decide +kernel
theorem dX6_init_73 : decode cX6_init 73 = .ok (.iload_n 2, 1) := by decide +kernel
theorem dX6_init_74 : decode cX6_init 74 = .ok (.if_icmp .ge 23, 3) := by decide +kernel
theorem dX6_init_77 : decode cX6_init 77 = .ok (.aload_n 0, 1) := by decide +kernel
theorem dX6_init_78 : decode cX6_init 78 = .ok (.getfield 50, 3) := by decide +kernel
theorem dX6_init_81 : decode cX6_init 81 = .ok (.iload_n 3, 1) := by decide +kernel
theorem dX6_init_82 : decode cX6_init 82 = .ok (.new 48, 3) := by decide +kernel
theorem dX6_init_85 : decode cX6_init 85 = .ok (.dup, 1) := by decide +kernel
theorem dX6_init_86 : decode cX6_init 86 = .ok (.iload_n 3, 1) := by decide +kernel
theorem dX6_init_87 : decode cX6_init 87 = .ok (.invokespecial 54, 3) := by decide +kernel
theorem dX6_init_90 : decode cX6_init 90 = .ok (.aastore, 1) := by decide +kernel
theorem dX6_init_91 : decode cX6_init 91 = .ok (.iinc 3 1, 3) := by decide +kernel
theorem dX6_init_94 : decode cX6_init 94 = .ok (.goto (-22), 3) := by decide +kernel
theorem dX6_init_97 : decode cX6_init 97 = .ok (.iconst 0, 1) := by decide +kernel
theorem dX6_init_98 : decode cX6_init 98 = .ok (.istore_n 3, 1) := by decide +kernel
theorem dX6_init_99 : decode cX6_init 99 = .ok (.iload_n 3, 1) := by decide +kernel
theorem dX6_init_100 : decode cX6_init 100 = .ok (.bipush 12, 2) := by decide +kernel
theorem dX6_init_102 : decode cX6_init 102 = .ok (.if_icmp .ge 22, 3) := by decide +kernel
theorem dX6_init_105 : decode cX6_init 105 = .ok (.aload_n 0, 1) := by decide +kernel
theorem dX6_init_106 : decode cX6_init 106 = .ok (.getfield 11, 3) := by decide +kernel
theorem dX6_init_109 : decode cX6_init 109 = .ok (.iload_n 3, 1) := by decide +kernel
theorem dX6_init_110 : decode cX6_init 110 = .ok (.new 9, 3) := by decide +kernel
theorem dX6_init_113 : decode cX6_init 113 = .ok (.dup, 1) := by decide +kernel
theorem dX6_init_114 : decode cX6_init 114 = .ok (.invokespecial 57, 3) := by decide +kernel
theorem dX6_init_117 : decode cX6_init 117 = .ok (.aastore, 1) := by decide +kernel
theorem dX6_init_118 : decode cX6_init 118 = .ok (.iinc 3 1, 3) := by decide +kernel
theorem dX6_init_121 : decode cX6_init 121 = .ok (.goto (-22), 3) := by decide +kernel
theorem dX6_init_124 : decode cX6_init 124 = .ok (.iconst 0, 1) := by decide +kernel
theorem dX6_init_125 : decode cX6_init 125 = .ok (.istore_n 3, 1) := by decide +kernel
theorem dX6_init_126 : decode cX6_init 126 = .ok (.iload_n 3, 1) := by decide +kernel
theorem dX6_init_127 : decode cX6_init 127 = .ok (.bipush 8, 2) := by decide +kernel
theorem dX6_init_129 : decode cX6_init 129 = .ok (.if_icmp .ge 16, 3) := by decide +kernel
theorem dX6_init_132 : decode cX6_init 132 = .ok (.aload_n 0, 1) := by decide +kernel
theorem dX6_init_133 : decode cX6_init 133 = .ok (.getfield 15, 3) := by decide +kernel
theorem dX6_init_136 : decode cX6_init 136 = .ok (.iload_n 3, 1) := by decide +kernel
theorem dX6_init_137 : decode cX6_init 137 = .ok (.iconst (-1), 1) := by decide +kernel
theorem dX6_init_138 : decode cX6_init 138 = .ok (.iastore, 1) := by decide +kernel
theorem dX6_init_139 : decode cX6_init 139 = .ok (.iinc 3 1, 3) := by decide +kernel
theorem dX6_init_142 : decode cX6_init 142 = .ok (.goto (-16), 3) := by decide +kernel
theorem dX6_init_145 : decode cX6_init 145 = .ok (.return_, 1) := by decide +kernel
theorem dX6_lay_0 : decode cX6_lay 0 = .ok (.iload_n 1, 1) := by decide +kernel
theorem dX6_lay_1 : decode cX6_lay 1 = .ok (.invokestatic 58, 3) := by decide +kernel
theorem dX6_lay_4 : decode cX6_lay 4 = .ok (.ifCond .eq 19, 3) := by decide +kernel
theorem dX6_lay_7 : decode cX6_lay 7 = .ok (.aload_n 0, 1) := by decide +kernel
theorem dX6_lay_8 : decode cX6_lay 8 = .ok (.iload_n 2, 1) := by decide +kernel
theorem dX6_lay_9 : decode cX6_lay 9 = .ok (.invokevirtual 62, 3) := by decide +kernel
theorem dX6_lay_12 : decode cX6_lay 12 = .ok (.ifCond .eq 11, 3) := by decide +kernel
theorem dX6_lay_15 : decode cX6_lay 15 = .ok (.aload_n 0, 1) := by decide +kernel
theorem dX6_lay_16 : decode cX6_lay 16 = .ok (.iload_n 3, 1) := by decide +kernel
theorem dX6_lay_17 : decode cX6_lay 17 = .ok (.invokevirtual 62, 3) := by decide +kernel
theorem dX6_lay_20 : decode cX6_lay 20 = .ok (.ifCond .ne 13, 3) := by decide +kernel
theorem dX6_lay_23 : decode cX6_lay 23 = .ok (.new 65, 3) := by decide +kernel
theorem dX6_lay_26 : decode cX6_lay 26 = .ok (.dup, 1) := by decide +kernel
theorem dX6_lay_27 : decode cX6_lay 27 = .ok (.ldc 67, 2) := by decide +kernel
theorem dX6_lay_29 : decode cX6_lay 29 = .ok (.invokespecial 69, 3) := by decide +kernel
theorem dX6_lay_32 : decode cX6_lay 32 = .ok (.athrow, 1) := by decide +kernel
theorem dX6_lay_33 : decode cX6_lay 33 = .ok (.aload_n 0, 1) := by decide +kernel
theorem dX6_lay_34 : decode cX6_lay 34 = .ok (.getfield 11, 3) := by decide +kernel
theorem dX6_lay_37 : decode cX6_lay 37 = .ok (.iload_n 1, 1) := by decide +kernel
theorem dX6_lay_38 : decode cX6_lay 38 = .ok (.aaload, 1) := by decide +kernel
theorem dX6_lay_39 : decode cX6_lay 39 = .ok (.getfield 72, 3) := by decide +kernel
theorem dX6_lay_42 : decode cX6_lay 42 = .ok (.ifCond .ne 21, 3) := by decide +kernel
theorem dX6_lay_45 : decode cX6_lay 45 = .ok (.iload_n 2, 1) := by decide +kernel
theorem dX6_lay_46 : decode cX6_lay 46 = .ok (.iload_n 3, 1) := by decide +kernel
theorem dX6_lay_47 : decode cX6_lay 47 = .ok (.if_icmp .eq 16, 3) := by decide +kernel
theorem dX6_lay_50 : decode cX6_lay 50 = .ok (.iload 4, 2) := by decide +kernel
theorem dX6_lay_52 : decode cX6_lay 52 = .ok (.iconst 1, 1) := by decide +kernel
theorem dX6_lay_53 : decode cX6_lay 53 = .ok (.if_icmp .lt 10, 3) := by decide +kernel
theorem dX6_lay_56 : decode cX6_lay 56 = .ok (.iload 4, 2) := by decide +kernel
theorem dX6_lay_58 : decode cX6_lay 58 = .ok (.bipush 60, 2) := by decide +kernel
theorem dX6_lay_60 : decode cX6_lay 60 = .ok (.if_icmp .le 13, 3) := by decide +kernel
theorem dX6_lay_63 : decode cX6_lay 63 = .ok (.new 76, 3) := by decide +kernel
theorem dX6_lay_66 : decode cX6_lay 66 = .ok (.dup, 1) := by decide +kernel
theorem dX6_lay_67 : decode cX6_lay 67 = .ok (.ldc 78, 2) := by decide +kernel
theorem dX6_lay_69 : decode cX6_lay 69 = .ok (.invokespecial 80, 3) := by decide +kernel
theorem dX6_lay_72 : decode cX6_lay 72 = .ok (.athrow, 1) := by decide +kernel
theorem dX6_lay_73 : decode cX6_lay 73 = .ok (.aload_n 0, 1) := by decide +kernel
theorem dX6_lay_74 : decode cX6_lay 74 = .ok (.getfield 11, 3) := by decide +kernel
theorem dX6_lay_77 : decode cX6_lay 77 = .ok (.iload_n 1, 1) := by decide +kernel
theorem dX6_lay_78 : decode cX6_lay 78 = .ok (.aaload, 1) := by decide +kernel
theorem dX6_lay_79 : decode cX6_lay 79 = .ok (.astore 5, 2) := by decide +kernel
theorem dX6_lay_81 : decode cX6_lay 81 = .ok (.aload 5, 2) := by decide +kernel
theorem dX6_lay_83 : decode cX6_lay 83 = .ok (.iconst 1, 1) := by decide +kernel
theorem dX6_lay_84 : decode cX6_lay 84 = .ok (.putfield 72, 3) := by decide +kernel
theorem dX6_lay_87 : decode cX6_lay 87 = .ok (.aload 5, 2) := by decide +kernel
theorem dX6_lay_89 : decode cX6_lay 89 = .ok (.iload_n 2, 1) := by decide +kernel
theorem dX6_lay_90 : decode cX6_lay 90 = .ok (.iload_n 3, 1) := by decide +kernel
theorem dX6_lay_91 : decode cX6_lay 91 = .ok (.invokestatic 39, 3) := by decide +kernel
theorem dX6_lay_94 : decode cX6_lay 94 = .ok (.putfield 81, 3) := by decide +kernel
theorem dX6_lay_97 : decode cX6_lay 97 = .ok (.aload 5, 2) := by decide +kernel
theorem dX6_lay_99 : decode cX6_lay 99 = .ok (.iload_n 2, 1) := by decide +kernel
theorem dX6_lay_100 : decode cX6_lay 100 = .ok (.iload_n 3, 1) := by decide +kernel
theorem dX6_lay_101 : decode cX6_lay 101 = .ok (.invokestatic 45, 3) := by decide +kernel
theorem dX6_lay_104 : decode cX6_lay 104 = .ok (.putfield 84, 3) := by decide +kernel
theorem dX6_lay_107 : decode cX6_lay 107 = .ok (.aload 5, 2) := by decide +kernel
theorem dX6_lay_109 : decode cX6_lay 109 = .ok (.iload 4, 2) := by decide +kernel
theorem dX6_lay_111 : decode cX6_lay 111 = .ok (.putfield 87, 3) := by decide +kernel
theorem dX6_lay_114 : decode cX6_lay 114 = .ok (.return_, 1) := by decide +kernel
theorem dX6_turn_0 : decode cX6_turn 0 = .ok (.iload_n 1, 1) := by decide +kernel
theorem dX6_turn_1 : decode cX6_turn 1 = .ok (.invokestatic 58, 3) := by decide +kernel
theorem dX6_turn_4 : decode cX6_turn 4 = .ok (.ifCond .ne 13, 3) := by decide +kernel
theorem dX6_turn_7 : decode cX6_turn 7 = .ok (.new 65, 3) := by decide +kernel
theorem dX6_turn_10 : decode cX6_turn 10 = .ok (.dup, 1) := by decide +kernel
theorem dX6_turn_11 : decode cX6_turn 11 = .ok (.ldc 90, 2) := by decide +kernel
theorem dX6_turn_13 : decode cX6_turn 13 = .ok (.invokespecial 69, 3) := by decide +kernel
theorem dX6_turn_16 : decode cX6_turn 16 = .ok (.athrow, 1) := by decide +kernel
theorem dX6_turn_17 : decode cX6_turn 17 = .ok (.aload_n 0, 1) := by decide +kernel
theorem dX6_turn_18 : decode cX6_turn 18 = .ok (.getfield 11, 3) := by decide +kernel
theorem dX6_turn_21 : decode cX6_turn 21 = .ok (.iload_n 1, 1) := by decide +kernel
theorem dX6_turn_22 : decode cX6_turn 22 = .ok (.aaload, 1) := by decide +kernel
theorem dX6_turn_23 : decode cX6_turn 23 = .ok (.getfield 72, 3) := by decide +kernel
theorem dX6_turn_26 : decode cX6_turn 26 = .ok (.ifCond .eq 16, 3) := by decide +kernel
theorem dX6_turn_29 : decode cX6_turn 29 = .ok (.aload_n 0, 1) := by decide +kernel
theorem dX6_turn_30 : decode cX6_turn 30 = .ok (.getfield 11, 3) := by decide +kernel
theorem dX6_turn_33 : decode cX6_turn 33 = .ok (.iload_n 1, 1) := by decide +kernel
theorem dX6_turn_34 : decode cX6_turn 34 = .ok (.aaload, 1) := by decide +kernel
theorem dX6_turn_35 : decode cX6_turn 35 = .ok (.getfield 92, 3) := by decide +kernel
theorem dX6_turn_38 : decode cX6_turn 38 = .ok (.iload_n 2, 1) := by decide +kernel
theorem dX6_turn_39 : decode cX6_turn 39 = .ok (.if_icmp .ne 13, 3) := by decide +kernel
theorem dX6_turn_42 : decode cX6_turn 42 = .ok (.new 76, 3) := by decide +kernel
theorem dX6_turn_45 : decode cX6_turn 45 = .ok (.dup, 1) := by decide +kernel
theorem dX6_turn_46 : decode cX6_turn 46 = .ok (.ldc 95, 2) := by decide +kernel
theorem dX6_turn_48 : decode cX6_turn 48 = .ok (.invokespecial 80, 3) := by decide +kernel
theorem dX6_turn_51 : decode cX6_turn 51 = .ok (.athrow, 1) := by decide +kernel
theorem dX6_turn_52 : decode cX6_turn 52 = .ok (.iload_n 2, 1) := by decide +kernel
theorem dX6_turn_53 : decode cX6_turn 53 = .ok (.ifCond .eq 11, 3) := by decide +kernel
theorem dX6_turn_56 : decode cX6_turn 56 = .ok (.aload_n 0, 1) := by decide +kernel
theorem dX6_turn_57 : decode cX6_turn 57 = .ok (.iload_n 1, 1) := by decide +kernel
theorem dX6_turn_58 : decode cX6_turn 58 = .ok (.invokevirtual 97, 3) := by decide +kernel
theorem dX6_turn_61 : decode cX6_turn 61 = .ok (.goto 8, 3) := by decide +kernel
theorem dX6_turn_64 : decode cX6_turn 64 = .ok (.aload_n 0, 1) := by decide +kernel
theorem dX6_turn_65 : decode cX6_turn 65 = .ok (.iload_n 1, 1) := by decide +kernel
theorem dX6_turn_66 : decode cX6_turn 66 = .ok (.invokevirtual 100, 3) := by decide +kernel
theorem dX6_turn_69 : decode cX6_turn 69 = .ok (.return_, 1) := by decide +kernel
theorem dX6_attach_0 : decode cX6_attach 0 = .ok (.iload_n 1, 1) := by decide +kernel
theorem dX6_attach_1 : decode cX6_attach 1 = .ok (.invokestatic 103, 3) := by decide +kernel
theorem dX6_attach_4 : decode cX6_attach 4 = .ok (.ifCond .eq 16, 3) := by decide +kernel
theorem dX6_attach_7 : decode cX6_attach 7 = .ok (.iload_n 2, 1) := by decide +kernel
theorem dX6_attach_8 : decode cX6_attach 8 = .ok (.iconst (-1), 1) := by decide +kernel
theorem dX6_attach_9 : decode cX6_attach 9 = .ok (.if_icmp .eq 21, 3) := by decide +kernel
theorem dX6_attach_12 : decode cX6_attach 12 = .ok (.aload_n 0, 1) := by decide +kernel
theorem dX6_attach_13 : decode cX6_attach 13 = .ok (.iload_n 2, 1) := by decide +kernel
theorem dX6_attach_14 : decode cX6_attach 14 = .ok (.invokevirtual 62, 3) := by decide +kernel
theorem dX6_attach_17 : decode cX6_attach 17 = .ok (.ifCond .ne 13, 3) := by decide +kernel
theorem dX6_attach_20 : decode cX6_attach 20 = .ok (.new 65, 3) := by decide +kernel
theorem dX6_attach_23 : decode cX6_attach 23 = .ok (.dup, 1) := by decide +kernel
theorem dX6_attach_24 : decode cX6_attach 24 = .ok (.ldc 106, 2) := by decide +kernel
theorem dX6_attach_26 : decode cX6_attach 26 = .ok (.invokespecial 69, 3) := by decide +kernel
theorem dX6_attach_29 : decode cX6_attach 29 = .ok (.athrow, 1) := by decide +kernel
theorem dX6_attach_30 : decode cX6_attach 30 = .ok (.aload_n 0, 1) := by decide +kernel
theorem dX6_attach_31 : decode cX6_attach 31 = .ok (.getfield 15, 3) := by decide +kernel
theorem dX6_attach_34 : decode cX6_attach 34 = .ok (.iload_n 1, 1) := by decide +kernel
theorem dX6_attach_35 : decode cX6_attach 35 = .ok (.iaload, 1) := by decide +kernel
theorem dX6_attach_36 : decode cX6_attach 36 = .ok (.istore_n 3, 1) := by decide +kernel
theorem dX6_attach_37 : decode cX6_attach 37 = .ok (.iload_n 3, 1) := by decide +kernel
theorem dX6_attach_38 : decode cX6_attach 38 = .ok (.iload_n 2, 1) := by decide +kernel
theorem dX6_attach_39 : decode cX6_attach 39 = .ok (.if_icmp .ne 13, 3) := by decide +kernel
theorem dX6_attach_42 : decode cX6_attach 42 = .ok (.new 76, 3) := by decide +kernel
theorem dX6_attach_45 : decode cX6_attach 45 = .ok (.dup, 1) := by decide +kernel
theorem dX6_attach_46 : decode cX6_attach 46 = .ok (.ldc 108, 2) := by decide +kernel
theorem dX6_attach_48 : decode cX6_attach 48 = .ok (.invokespecial 80, 3) := by decide +kernel
theorem dX6_attach_51 : decode cX6_attach 51 = .ok (.athrow, 1) := by decide +kernel
theorem dX6_attach_52 : decode cX6_attach 52 = .ok (.aload_n 0, 1) := by decide +kernel
theorem dX6_attach_53 : decode cX6_attach 53 = .ok (.getfield 15, 3) := by decide +kernel
theorem dX6_attach_56 : decode cX6_attach 56 = .ok (.iload_n 1, 1) := by decide +kernel
theorem dX6_attach_57 : decode cX6_attach 57 = .ok (.iload_n 2, 1) := by decide +kernel
theorem dX6_attach_58 : decode cX6_attach 58 = .ok (.iastore, 1) := by decide +kernel
theorem dX6_attach_59 : decode cX6_attach 59 = .ok (.iload_n 3, 1) := by decide +kernel
theorem dX6_attach_60 : decode cX6_attach 60 = .ok (.iconst (-1), 1) := by decide +kernel
theorem dX6_attach_61 : decode cX6_attach 61 = .ok (.if_icmp .eq 23, 3) := by decide +kernel
theorem dX6_attach_64 : decode cX6_attach 64 = .ok (.aload_n 0, 1) := by decide +kernel
theorem dX6_attach_65 : decode cX6_attach 65 = .ok (.aload_n 0, 1) := by decide +kernel
theorem dX6_attach_66 : decode cX6_attach 66 = .ok (.getfield 50, 3) := by decide +kernel
theorem dX6_attach_69 : decode cX6_attach 69 = .ok (.iload_n 3, 1) := by decide +kernel
theorem dX6_attach_70 : decode cX6_attach 70 = .ok (.aaload, 1) := by decide +kernel
theorem dX6_attach_71 : decode cX6_attach 71 = .ok (.invokevirtual 110, 3) := by decide +kernel
theorem dX6_attach_74 : decode cX6_attach 74 = .ok (.aload_n 0, 1) := by decide +kernel
theorem dX6_attach_75 : decode cX6_attach 75 = .ok (.aload_n 0, 1) := by decide +kernel
theorem dX6_attach_76 : decode cX6_attach 76 = .ok (.getfield 50, 3) := by decide +kernel
theorem dX6_attach_79 : decode cX6_attach 79 = .ok (.iload_n 3, 1) := by decide +kernel
theorem dX6_attach_80 : decode cX6_attach 80 = .ok (.aaload, 1) := by decide +kernel
theorem dX6_attach_81 : decode cX6_attach 81 = .ok (.invokevirtual 114, 3) := by decide +kernel
theorem dX6_attach_84 : decode cX6_attach 84 = .ok (.iload_n 2, 1) := by decide +kernel
theorem dX6_attach_85 : decode cX6_attach 85 = .ok (.iconst (-1), 1) := by decide +kernel
theorem dX6_attach_86 : decode cX6_attach 86 = .ok (.if_icmp .eq 23, 3) := by decide +kernel
theorem dX6_attach_89 : decode cX6_attach 89 = .ok (.aload_n 0, 1) := by decide +kernel
theorem dX6_attach_90 : decode cX6_attach 90 = .ok (.aload_n 0, 1) := by decide +kernel
theorem dX6_attach_91 : decode cX6_attach 91 = .ok (.getfield 50, 3) := by decide +kernel
theorem dX6_attach_94 : decode cX6_attach 94 = .ok (.iload_n 2, 1) := by decide +kernel
theorem dX6_attach_95 : decode cX6_attach 95 = .ok (.aaload, 1) := by decide +kernel
theorem dX6_attach_96 : decode cX6_attach 96 = .ok (.invokevirtual 110, 3) := by decide +kernel
theorem dX6_attach_99 : decode cX6_attach 99 = .ok (.aload_n 0, 1) := by decide +kernel
theorem dX6_attach_100 : decode cX6_attach 100 = .ok (.aload_n 0, 1) := by decide +kernel
theorem dX6_attach_101 : decode cX6_attach 101 = .ok (.getfield 50, 3) := by decide +kernel
theorem dX6_attach_104 : decode cX6_attach 104 = .ok (.iload_n 2, 1) := by decide +kernel
theorem dX6_attach_105 : decode cX6_attach 105 = .ok (.aaload, 1) := by decide +kernel
theorem dX6_attach_106 : decode cX6_attach 106 = .ok (.invokevirtual 114, 3) := by decide +kernel
theorem dX6_attach_109 : decode cX6_attach 109 = .ok (.return_, 1) := by decide +kernel
theorem dX6_deliver_0 : decode cX6_deliver 0 = .ok (.iload_n 1, 1) := by decide +kernel
theorem dX6_deliver_1 : decode cX6_deliver 1 = .ok (.invokestatic 58, 3) := by decide +kernel
theorem dX6_deliver_4 : decode cX6_deliver 4 = .ok (.ifCond .eq 10, 3) := by decide +kernel
theorem dX6_deliver_7 : decode cX6_deliver 7 = .ok (.iload_n 2, 1) := by decide +kernel
theorem dX6_deliver_8 : decode cX6_deliver 8 = .ok (.invokestatic 117, 3) := by decide +kernel
theorem dX6_deliver_11 : decode cX6_deliver 11 = .ok (.ifCond .ne 13, 3) := by decide +kernel
theorem dX6_deliver_14 : decode cX6_deliver 14 = .ok (.new 65, 3) := by decide +kernel
theorem dX6_deliver_17 : decode cX6_deliver 17 = .ok (.dup, 1) := by decide +kernel
theorem dX6_deliver_18 : decode cX6_deliver 18 = .ok (.ldc 120, 2) := by decide +kernel
theorem dX6_deliver_20 : decode cX6_deliver 20 = .ok (.invokespecial 69, 3) := by decide +kernel
theorem dX6_deliver_23 : decode cX6_deliver 23 = .ok (.athrow, 1) := by decide +kernel
theorem dX6_deliver_24 : decode cX6_deliver 24 = .ok (.aload_n 0, 1) := by decide +kernel
theorem dX6_deliver_25 : decode cX6_deliver 25 = .ok (.iload_n 1, 1) := by decide +kernel
theorem dX6_deliver_26 : decode cX6_deliver 26 = .ok (.iload_n 2, 1) := by decide +kernel
theorem dX6_deliver_27 : decode cX6_deliver 27 = .ok (.invokevirtual 122, 3) := by decide +kernel
theorem dX6_deliver_30 : decode cX6_deliver 30 = .ok (.ireturn, 1) := by decide +kernel
theorem dX6_run_0 : decode cX6_run 0 = .ok (.iload_n 1, 1) := by decide +kernel
theorem dX6_run_1 : decode cX6_run 1 = .ok (.ifCond .lt 10, 3) := by decide +kernel
theorem dX6_run_4 : decode cX6_run 4 = .ok (.iload_n 1, 1) := by decide +kernel
theorem dX6_run_5 : decode cX6_run 5 = .ok (.sipush 500, 3) := by decide +kernel
theorem dX6_run_8 : decode cX6_run 8 = .ok (.if_icmp .le 13, 3) := by decide +kernel
theorem dX6_run_11 : decode cX6_run 11 = .ok (.new 76, 3) := by decide +kernel
theorem dX6_run_14 : decode cX6_run 14 = .ok (.dup, 1) := by decide +kernel
theorem dX6_run_15 : decode cX6_run 15 = .ok (.ldc 125, 2) := by decide +kernel
theorem dX6_run_17 : decode cX6_run 17 = .ok (.invokespecial 80, 3) := by decide +kernel
theorem dX6_run_20 : decode cX6_run 20 = .ok (.athrow, 1) := by decide +kernel
theorem dX6_run_21 : decode cX6_run 21 = .ok (.iconst 0, 1) := by decide +kernel
theorem dX6_run_22 : decode cX6_run 22 = .ok (.istore_n 2, 1) := by decide +kernel
theorem dX6_run_23 : decode cX6_run 23 = .ok (.iload_n 2, 1) := by decide +kernel
theorem dX6_run_24 : decode cX6_run 24 = .ok (.iload_n 1, 1) := by decide +kernel
theorem dX6_run_25 : decode cX6_run 25 = .ok (.if_icmp .ge 32, 3) := by decide +kernel
theorem dX6_run_28 : decode cX6_run 28 = .ok (.aload_n 0, 1) := by decide +kernel
theorem dX6_run_29 : decode cX6_run 29 = .ok (.invokevirtual 127, 3) := by decide +kernel
theorem dX6_run_32 : decode cX6_run 32 = .ok (.istore_n 3, 1) := by decide +kernel
theorem dX6_run_33 : decode cX6_run 33 = .ok (.iload_n 3, 1) := by decide +kernel
theorem dX6_run_34 : decode cX6_run 34 = .ok (.iconst (-1), 1) := by decide +kernel
theorem dX6_run_35 : decode cX6_run 35 = .ok (.if_icmp .ne 5, 3) := by decide +kernel
theorem dX6_run_38 : decode cX6_run 38 = .ok (.iload_n 2, 1) := by decide +kernel
theorem dX6_run_39 : decode cX6_run 39 = .ok (.ireturn, 1) := by decide +kernel
theorem dX6_run_40 : decode cX6_run 40 = .ok (.aload_n 0, 1) := by decide +kernel
theorem dX6_run_41 : decode cX6_run 41 = .ok (.iload_n 3, 1) := by decide +kernel
theorem dX6_run_42 : decode cX6_run 42 = .ok (.iconst 2, 1) := by decide +kernel
theorem dX6_run_43 : decode cX6_run 43 = .ok (.idiv, 1) := by decide +kernel
theorem dX6_run_44 : decode cX6_run 44 = .ok (.iload_n 3, 1) := by decide +kernel
theorem dX6_run_45 : decode cX6_run 45 = .ok (.iconst 2, 1) := by decide +kernel
theorem dX6_run_46 : decode cX6_run 46 = .ok (.irem, 1) := by decide +kernel
theorem dX6_run_47 : decode cX6_run 47 = .ok (.invokevirtual 122, 3) := by decide +kernel
theorem dX6_run_50 : decode cX6_run 50 = .ok (.pop, 1) := by decide +kernel
theorem dX6_run_51 : decode cX6_run 51 = .ok (.iinc 2 1, 3) := by decide +kernel
theorem dX6_run_54 : decode cX6_run 54 = .ok (.goto (-31), 3) := by decide +kernel
theorem dX6_run_57 : decode cX6_run 57 = .ok (.iload_n 1, 1) := by decide +kernel
theorem dX6_run_58 : decode cX6_run 58 = .ok (.ireturn, 1) := by decide +kernel
theorem dX6_spoil_0 : decode cX6_spoil 0 = .ok (.iload_n 1, 1) := by decide +kernel
theorem dX6_spoil_1 : decode cX6_spoil 1 = .ok (.invokestatic 58, 3) := by decide +kernel
theorem dX6_spoil_4 : decode cX6_spoil 4 = .ok (.ifCond .eq 10, 3) := by decide +kernel
theorem dX6_spoil_7 : decode cX6_spoil 7 = .ok (.iload_n 2, 1) := by decide +kernel
theorem dX6_spoil_8 : decode cX6_spoil 8 = .ok (.invokestatic 117, 3) := by decide +kernel
theorem dX6_spoil_11 : decode cX6_spoil 11 = .ok (.ifCond .ne 13, 3) := by decide +kernel
theorem dX6_spoil_14 : decode cX6_spoil 14 = .ok (.new 65, 3) := by decide +kernel
theorem dX6_spoil_17 : decode cX6_spoil 17 = .ok (.dup, 1) := by decide +kernel
theorem dX6_spoil_18 : decode cX6_spoil 18 = .ok (.ldc 120, 2) := by decide +kernel
theorem dX6_spoil_20 : decode cX6_spoil 20 = .ok (.invokespecial 69, 3) := by decide +kernel
theorem dX6_spoil_23 : decode cX6_spoil 23 = .ok (.athrow, 1) := by decide +kernel
theorem dX6_spoil_24 : decode cX6_spoil 24 = .ok (.aload_n 0, 1) := by decide +kernel
theorem dX6_spoil_25 : decode cX6_spoil 25 = .ok (.getfield 11, 3) := by decide +kernel
theorem dX6_spoil_28 : decode cX6_spoil 28 = .ok (.iload_n 1, 1) := by decide +kernel
theorem dX6_spoil_29 : decode cX6_spoil 29 = .ok (.aaload, 1) := by decide +kernel
theorem dX6_spoil_30 : decode cX6_spoil 30 = .ok (.getfield 131, 3) := by decide +kernel
theorem dX6_spoil_33 : decode cX6_spoil 33 = .ok (.iload_n 2, 1) := by decide +kernel
theorem dX6_spoil_34 : decode cX6_spoil 34 = .ok (.aaload, 1) := by decide +kernel
theorem dX6_spoil_35 : decode cX6_spoil 35 = .ok (.iload_n 3, 1) := by decide +kernel
theorem dX6_spoil_36 : decode cX6_spoil 36 = .ok (.invokevirtual 135, 3) := by decide +kernel
theorem dX6_spoil_39 : decode cX6_spoil 39 = .ok (.astore 4, 2) := by decide +kernel
theorem dX6_spoil_41 : decode cX6_spoil 41 = .ok (.aload 4, 2) := by decide +kernel
theorem dX6_spoil_43 : decode cX6_spoil 43 = .ok (.ifnonnull 5, 3) := by decide +kernel
theorem dX6_spoil_46 : decode cX6_spoil 46 = .ok (.iconst 0, 1) := by decide +kernel
theorem dX6_spoil_47 : decode cX6_spoil 47 = .ok (.ireturn, 1) := by decide +kernel
theorem dX6_spoil_48 : decode cX6_spoil 48 = .ok (.aload 4, 2) := by decide +kernel
theorem dX6_spoil_50 : decode cX6_spoil 50 = .ok (.iconst 1, 1) := by decide +kernel
theorem dX6_spoil_51 : decode cX6_spoil 51 = .ok (.putfield 141, 3) := by decide +kernel
theorem dX6_spoil_54 : decode cX6_spoil 54 = .ok (.iconst 1, 1) := by decide +kernel
theorem dX6_spoil_55 : decode cX6_spoil 55 = .ok (.ireturn, 1) := by decide +kernel
theorem dX6_inject_0 : decode cX6_inject 0 = .ok (.aload_n 0, 1) := by decide +kernel
theorem dX6_inject_1 : decode cX6_inject 1 = .ok (.iload_n 1, 1) := by decide +kernel
theorem dX6_inject_2 : decode cX6_inject 2 = .ok (.invokevirtual 62, 3) := by decide +kernel
theorem dX6_inject_5 : decode cX6_inject 5 = .ok (.ifCond .eq 10, 3) := by decide +kernel
theorem dX6_inject_8 : decode cX6_inject 8 = .ok (.iload_n 2, 1) := by decide +kernel
theorem dX6_inject_9 : decode cX6_inject 9 = .ok (.invokestatic 103, 3) := by decide +kernel
theorem dX6_inject_12 : decode cX6_inject 12 = .ok (.ifCond .ne 13, 3) := by decide +kernel
theorem dX6_inject_15 : decode cX6_inject 15 = .ok (.new 65, 3) := by decide +kernel
theorem dX6_inject_18 : decode cX6_inject 18 = .ok (.dup, 1) := by decide +kernel
theorem dX6_inject_19 : decode cX6_inject 19 = .ok (.ldc 144, 2) := by decide +kernel
theorem dX6_inject_21 : decode cX6_inject 21 = .ok (.invokespecial 69, 3) := by decide +kernel
theorem dX6_inject_24 : decode cX6_inject 24 = .ok (.athrow, 1) := by decide +kernel
theorem dX6_inject_25 : decode cX6_inject 25 = .ok (.iload_n 3, 1) := by decide +kernel
theorem dX6_inject_26 : decode cX6_inject 26 = .ok (.ifCond .lt 18, 3) := by decide +kernel
theorem dX6_inject_29 : decode cX6_inject 29 = .ok (.iload_n 3, 1) := by decide +kernel
theorem dX6_inject_30 : decode cX6_inject 30 = .ok (.bipush 60, 2) := by decide +kernel
theorem dX6_inject_32 : decode cX6_inject 32 = .ok (.if_icmp .gt 12, 3) := by decide +kernel
theorem dX6_inject_35 : decode cX6_inject 35 = .ok (.aload_n 0, 1) := by decide +kernel
theorem dX6_inject_36 : decode cX6_inject 36 = .ok (.getfield 25, 3) := by decide +kernel
theorem dX6_inject_39 : decode cX6_inject 39 = .ok (.bipush 64, 2) := by decide +kernel
theorem dX6_inject_41 : decode cX6_inject 41 = .ok (.if_icmp .lt 13, 3) := by decide +kernel
theorem dX6_inject_44 : decode cX6_inject 44 = .ok (.new 76, 3) := by decide +kernel
theorem dX6_inject_47 : decode cX6_inject 47 = .ok (.dup, 1) := by decide +kernel
theorem dX6_inject_48 : decode cX6_inject 48 = .ok (.ldc 146, 2) := by decide +kernel
theorem dX6_inject_50 : decode cX6_inject 50 = .ok (.invokespecial 80, 3) := by decide +kernel
theorem dX6_inject_53 : decode cX6_inject 53 = .ok (.athrow, 1) := by decide +kernel
theorem dX6_inject_54 : decode cX6_inject 54 = .ok (.aload_n 0, 1) := by decide +kernel
theorem dX6_inject_55 : decode cX6_inject 55 = .ok (.getfield 25, 3) := by decide +kernel
theorem dX6_inject_58 : decode cX6_inject 58 = .ok (.istore 4, 2) := by decide +kernel
theorem dX6_inject_60 : decode cX6_inject 60 = .ok (.aload_n 0, 1) := by decide +kernel
theorem dX6_inject_61 : decode cX6_inject 61 = .ok (.getfield 21, 3) := by decide +kernel
theorem dX6_inject_64 : decode cX6_inject 64 = .ok (.iload 4, 2) := by decide +kernel
theorem dX6_inject_66 : decode cX6_inject 66 = .ok (.new 19, 3) := by decide +kernel
theorem dX6_inject_69 : decode cX6_inject 69 = .ok (.dup, 1) := by decide +kernel
theorem dX6_inject_70 : decode cX6_inject 70 = .ok (.iload_n 2, 1) := by decide +kernel
theorem dX6_inject_71 : decode cX6_inject 71 = .ok (.iload_n 3, 1) := by decide +kernel
theorem dX6_inject_72 : decode cX6_inject 72 = .ok (.invokespecial 148, 3) := by decide +kernel
theorem dX6_inject_75 : decode cX6_inject 75 = .ok (.aastore, 1) := by decide +kernel
theorem dX6_inject_76 : decode cX6_inject 76 = .ok (.aload_n 0, 1) := by decide +kernel
theorem dX6_inject_77 : decode cX6_inject 77 = .ok (.dup, 1) := by decide +kernel
theorem dX6_inject_78 : decode cX6_inject 78 = .ok (.getfield 25, 3) := by decide +kernel
theorem dX6_inject_81 : decode cX6_inject 81 = .ok (.iconst 1, 1) := by decide +kernel
theorem dX6_inject_82 : decode cX6_inject 82 = .ok (.iadd, 1) := by decide +kernel
theorem dX6_inject_83 : decode cX6_inject 83 = .ok (.putfield 25, 3) := by decide +kernel
theorem dX6_inject_86 : decode cX6_inject 86 = .ok (.aload_n 0, 1) := by decide +kernel
theorem dX6_inject_87 : decode cX6_inject 87 = .ok (.aload_n 0, 1) := by decide +kernel
theorem dX6_inject_88 : decode cX6_inject 88 = .ok (.getfield 50, 3) := by decide +kernel
theorem dX6_inject_91 : decode cX6_inject 91 = .ok (.iload_n 1, 1) := by decide +kernel
theorem dX6_inject_92 : decode cX6_inject 92 = .ok (.aaload, 1) := by decide +kernel
theorem dX6_inject_93 : decode cX6_inject 93 = .ok (.iload 4, 2) := by decide +kernel
theorem dX6_inject_95 : decode cX6_inject 95 = .ok (.iconst (-1), 1) := by decide +kernel
theorem dX6_inject_96 : decode cX6_inject 96 = .ok (.invokevirtual 151, 3) := by decide +kernel
theorem dX6_inject_99 : decode cX6_inject 99 = .ok (.iload 4, 2) := by decide +kernel
theorem dX6_inject_101 : decode cX6_inject 101 = .ok (.ireturn, 1) := by decide +kernel
theorem dX6_packet_0 : decode cX6_packet 0 = .ok (.iload_n 1, 1) := by decide +kernel
theorem dX6_packet_1 : decode cX6_packet 1 = .ok (.ifCond .lt 11, 3) := by decide +kernel
theorem dX6_packet_4 : decode cX6_packet 4 = .ok (.iload_n 1, 1) := by decide +kernel
theorem dX6_packet_5 : decode cX6_packet 5 = .ok (.aload_n 0, 1) := by decide +kernel
theorem dX6_packet_6 : decode cX6_packet 6 = .ok (.getfield 25, 3) := by decide +kernel
theorem dX6_packet_9 : decode cX6_packet 9 = .ok (.if_icmp .lt 5, 3) := by decide +kernel
theorem dX6_packet_12 : decode cX6_packet 12 = .ok (.iconst (-1), 1) := by decide +kernel
theorem dX6_packet_13 : decode cX6_packet 13 = .ok (.ireturn, 1) := by decide +kernel
theorem dX6_packet_14 : decode cX6_packet 14 = .ok (.aload_n 0, 1) := by decide +kernel
theorem dX6_packet_15 : decode cX6_packet 15 = .ok (.getfield 21, 3) := by decide +kernel
theorem dX6_packet_18 : decode cX6_packet 18 = .ok (.iload_n 1, 1) := by decide +kernel
theorem dX6_packet_19 : decode cX6_packet 19 = .ok (.aaload, 1) := by decide +kernel
theorem dX6_packet_20 : decode cX6_packet 20 = .ok (.astore_n 3, 1) := by decide +kernel
theorem dX6_packet_21 : decode cX6_packet 21 = .ok (.iload_n 2, 1) := by decide +kernel
theorem dX6_packet_22 : decode cX6_packet 22 = .ok (.tableswitch 59 0 4 #[34, 39, 44, 49, 54], 34) := by decide +kernel
theorem dX6_packet_56 : decode cX6_packet 56 = .ok (.aload_n 3, 1) := by decide +kernel
theorem dX6_packet_57 : decode cX6_packet 57 = .ok (.getfield 155, 3) := by decide +kernel
theorem dX6_packet_60 : decode cX6_packet 60 = .ok (.ireturn, 1) := by decide +kernel
theorem dX6_packet_61 : decode cX6_packet 61 = .ok (.aload_n 3, 1) := by decide +kernel
theorem dX6_packet_62 : decode cX6_packet 62 = .ok (.getfield 158, 3) := by decide +kernel
theorem dX6_packet_65 : decode cX6_packet 65 = .ok (.ireturn, 1) := by decide +kernel
theorem dX6_packet_66 : decode cX6_packet 66 = .ok (.aload_n 3, 1) := by decide +kernel
theorem dX6_packet_67 : decode cX6_packet 67 = .ok (.getfield 161, 3) := by decide +kernel
theorem dX6_packet_70 : decode cX6_packet 70 = .ok (.ireturn, 1) := by decide +kernel
theorem dX6_packet_71 : decode cX6_packet 71 = .ok (.aload_n 3, 1) := by decide +kernel
theorem dX6_packet_72 : decode cX6_packet 72 = .ok (.getfield 164, 3) := by decide +kernel
theorem dX6_packet_75 : decode cX6_packet 75 = .ok (.ireturn, 1) := by decide +kernel
theorem dX6_packet_76 : decode cX6_packet 76 = .ok (.aload_n 3, 1) := by decide +kernel
theorem dX6_packet_77 : decode cX6_packet 77 = .ok (.getfield 167, 3) := by decide +kernel
theorem dX6_packet_80 : decode cX6_packet 80 = .ok (.ireturn, 1) := by decide +kernel
theorem dX6_packet_81 : decode cX6_packet 81 = .ok (.iconst (-1), 1) := by decide +kernel
theorem dX6_packet_82 : decode cX6_packet 82 = .ok (.ireturn, 1) := by decide +kernel
theorem dX6_queue_0 : decode cX6_queue 0 = .ok (.iload_n 1, 1) := by decide +kernel
theorem dX6_queue_1 : decode cX6_queue 1 = .ok (.invokestatic 58, 3) := by decide +kernel
theorem dX6_queue_4 : decode cX6_queue 4 = .ok (.ifCond .eq 10, 3) := by decide +kernel
theorem dX6_queue_7 : decode cX6_queue 7 = .ok (.iload_n 2, 1) := by decide +kernel
theorem dX6_queue_8 : decode cX6_queue 8 = .ok (.invokestatic 117, 3) := by decide +kernel
theorem dX6_queue_11 : decode cX6_queue 11 = .ok (.ifCond .ne 5, 3) := by decide +kernel
theorem dX6_queue_14 : decode cX6_queue 14 = .ok (.iconst (-1), 1) := by decide +kernel
theorem dX6_queue_15 : decode cX6_queue 15 = .ok (.ireturn, 1) := by decide +kernel
theorem dX6_queue_16 : decode cX6_queue 16 = .ok (.aload_n 0, 1) := by decide +kernel
theorem dX6_queue_17 : decode cX6_queue 17 = .ok (.getfield 11, 3) := by decide +kernel
theorem dX6_queue_20 : decode cX6_queue 20 = .ok (.iload_n 1, 1) := by decide +kernel
theorem dX6_queue_21 : decode cX6_queue 21 = .ok (.aaload, 1) := by decide +kernel
theorem dX6_queue_22 : decode cX6_queue 22 = .ok (.getfield 131, 3) := by decide +kernel
theorem dX6_queue_25 : decode cX6_queue 25 = .ok (.iload_n 2, 1) := by decide +kernel
theorem dX6_queue_26 : decode cX6_queue 26 = .ok (.aaload, 1) := by decide +kernel
theorem dX6_queue_27 : decode cX6_queue 27 = .ok (.astore 4, 2) := by decide +kernel
theorem dX6_queue_29 : decode cX6_queue 29 = .ok (.iload_n 3, 1) := by decide +kernel
theorem dX6_queue_30 : decode cX6_queue 30 = .ok (.ifCond .ne 9, 3) := by decide +kernel
theorem dX6_queue_33 : decode cX6_queue 33 = .ok (.aload 4, 2) := by decide +kernel
theorem dX6_queue_35 : decode cX6_queue 35 = .ok (.getfield 170, 3) := by decide +kernel
theorem dX6_queue_38 : decode cX6_queue 38 = .ok (.ireturn, 1) := by decide +kernel
theorem dX6_queue_39 : decode cX6_queue 39 = .ok (.aload 4, 2) := by decide +kernel
theorem dX6_queue_41 : decode cX6_queue 41 = .ok (.iconst 0, 1) := by decide +kernel
theorem dX6_queue_42 : decode cX6_queue 42 = .ok (.invokevirtual 135, 3) := by decide +kernel
theorem dX6_queue_45 : decode cX6_queue 45 = .ok (.astore 5, 2) := by decide +kernel
theorem dX6_queue_47 : decode cX6_queue 47 = .ok (.aload 5, 2) := by decide +kernel
theorem dX6_queue_49 : decode cX6_queue 49 = .ok (.ifnonnull 5, 3) := by decide +kernel
theorem dX6_queue_52 : decode cX6_queue 52 = .ok (.iconst (-1), 1) := by decide +kernel
theorem dX6_queue_53 : decode cX6_queue 53 = .ok (.ireturn, 1) := by decide +kernel
theorem dX6_queue_54 : decode cX6_queue 54 = .ok (.iload_n 3, 1) := by decide +kernel
theorem dX6_queue_55 : decode cX6_queue 55 = .ok (.tableswitch 53 1 4 #[29, 35, 41, 47], 29) := by decide +kernel
theorem dX6_queue_84 : decode cX6_queue 84 = .ok (.aload 5, 2) := by decide +kernel
theorem dX6_queue_86 : decode cX6_queue 86 = .ok (.invokevirtual 173, 3) := by decide +kernel
theorem dX6_queue_89 : decode cX6_queue 89 = .ok (.ireturn, 1) := by decide +kernel
theorem dX6_queue_90 : decode cX6_queue 90 = .ok (.aload 5, 2) := by decide +kernel
theorem dX6_queue_92 : decode cX6_queue 92 = .ok (.getfield 176, 3) := by decide +kernel
theorem dX6_queue_95 : decode cX6_queue 95 = .ok (.ireturn, 1) := by decide +kernel
theorem dX6_queue_96 : decode cX6_queue 96 = .ok (.aload 5, 2) := by decide +kernel
theorem dX6_queue_98 : decode cX6_queue 98 = .ok (.getfield 179, 3) := by decide +kernel
theorem dX6_queue_101 : decode cX6_queue 101 = .ok (.ireturn, 1) := by decide +kernel
theorem dX6_queue_102 : decode cX6_queue 102 = .ok (.aload 5, 2) := by decide +kernel
theorem dX6_queue_104 : decode cX6_queue 104 = .ok (.getfield 182, 3) := by decide +kernel
theorem dX6_queue_107 : decode cX6_queue 107 = .ok (.ireturn, 1) := by decide +kernel
theorem dX6_queue_108 : decode cX6_queue 108 = .ok (.iconst (-1), 1) := by decide +kernel
theorem dX6_queue_109 : decode cX6_queue 109 = .ok (.ireturn, 1) := by decide +kernel
theorem dX6_knows_0 : decode cX6_knows 0 = .ok (.aload_n 0, 1) := by decide +kernel
theorem dX6_knows_1 : decode cX6_knows 1 = .ok (.iload_n 1, 1) := by decide +kernel
theorem dX6_knows_2 : decode cX6_knows 2 = .ok (.invokevirtual 62, 3) := by decide +kernel
theorem dX6_knows_5 : decode cX6_knows 5 = .ok (.ifCond .eq 11, 3) := by decide +kernel
theorem dX6_knows_8 : decode cX6_knows 8 = .ok (.aload_n 0, 1) := by decide +kernel
theorem dX6_knows_9 : decode cX6_knows 9 = .ok (.iload_n 2, 1) := by decide +kernel
theorem dX6_knows_10 : decode cX6_knows 10 = .ok (.invokevirtual 62, 3) := by decide +kernel
theorem dX6_knows_13 : decode cX6_knows 13 = .ok (.ifCond .ne 5, 3) := by decide +kernel
theorem dX6_knows_16 : decode cX6_knows 16 = .ok (.iconst (-1), 1) := by decide +kernel
theorem dX6_knows_17 : decode cX6_knows 17 = .ok (.ireturn, 1) := by decide +kernel
theorem dX6_knows_18 : decode cX6_knows 18 = .ok (.aload_n 0, 1) := by decide +kernel
theorem dX6_knows_19 : decode cX6_knows 19 = .ok (.getfield 50, 3) := by decide +kernel
theorem dX6_knows_22 : decode cX6_knows 22 = .ok (.iload_n 1, 1) := by decide +kernel
theorem dX6_knows_23 : decode cX6_knows 23 = .ok (.aaload, 1) := by decide +kernel
theorem dX6_knows_24 : decode cX6_knows 24 = .ok (.getfield 185, 3) := by decide +kernel
theorem dX6_knows_27 : decode cX6_knows 27 = .ok (.iload_n 2, 1) := by decide +kernel
theorem dX6_knows_28 : decode cX6_knows 28 = .ok (.aaload, 1) := by decide +kernel
theorem dX6_knows_29 : decode cX6_knows 29 = .ok (.astore_n 3, 1) := by decide +kernel
theorem dX6_knows_30 : decode cX6_knows 30 = .ok (.aload_n 3, 1) := by decide +kernel
theorem dX6_knows_31 : decode cX6_knows 31 = .ok (.ifnonnull 7, 3) := by decide +kernel
theorem dX6_knows_34 : decode cX6_knows 34 = .ok (.iconst 0, 1) := by decide +kernel
theorem dX6_knows_35 : decode cX6_knows 35 = .ok (.goto 7, 3) := by decide +kernel
theorem dX6_knows_38 : decode cX6_knows 38 = .ok (.aload_n 3, 1) := by decide +kernel
theorem dX6_knows_39 : decode cX6_knows 39 = .ok (.getfield 189, 3) := by decide +kernel
theorem dX6_knows_42 : decode cX6_knows 42 = .ok (.ireturn, 1) := by decide +kernel
theorem dX6_way_0 : decode cX6_way 0 = .ok (.aload_n 0, 1) := by decide +kernel
theorem dX6_way_1 : decode cX6_way 1 = .ok (.iload_n 1, 1) := by decide +kernel
theorem dX6_way_2 : decode cX6_way 2 = .ok (.invokevirtual 62, 3) := by decide +kernel
theorem dX6_way_5 : decode cX6_way 5 = .ok (.ifCond .eq 11, 3) := by decide +kernel
theorem dX6_way_8 : decode cX6_way 8 = .ok (.aload_n 0, 1) := by decide +kernel
theorem dX6_way_9 : decode cX6_way 9 = .ok (.iload_n 2, 1) := by decide +kernel
theorem dX6_way_10 : decode cX6_way 10 = .ok (.invokevirtual 62, 3) := by decide +kernel
theorem dX6_way_13 : decode cX6_way 13 = .ok (.ifCond .ne 5, 3) := by decide +kernel
theorem dX6_way_16 : decode cX6_way 16 = .ok (.iconst (-1), 1) := by decide +kernel
theorem dX6_way_17 : decode cX6_way 17 = .ok (.ireturn, 1) := by decide +kernel
theorem dX6_way_18 : decode cX6_way 18 = .ok (.iload_n 3, 1) := by decide +kernel
theorem dX6_way_19 : decode cX6_way 19 = .ok (.ifCond .ne 32, 3) := by decide +kernel
theorem dX6_way_22 : decode cX6_way 22 = .ok (.aload_n 0, 1) := by decide +kernel
theorem dX6_way_23 : decode cX6_way 23 = .ok (.getfield 50, 3) := by decide +kernel
theorem dX6_way_26 : decode cX6_way 26 = .ok (.iload_n 1, 1) := by decide +kernel
theorem dX6_way_27 : decode cX6_way 27 = .ok (.aaload, 1) := by decide +kernel
theorem dX6_way_28 : decode cX6_way 28 = .ok (.getfield 194, 3) := by decide +kernel
theorem dX6_way_31 : decode cX6_way 31 = .ok (.iload_n 1, 1) := by decide +kernel
theorem dX6_way_32 : decode cX6_way 32 = .ok (.aaload, 1) := by decide +kernel
theorem dX6_way_33 : decode cX6_way 33 = .ok (.iload_n 2, 1) := by decide +kernel
theorem dX6_way_34 : decode cX6_way 34 = .ok (.iaload, 1) := by decide +kernel
theorem dX6_way_35 : decode cX6_way 35 = .ok (.istore 4, 2) := by decide +kernel
theorem dX6_way_37 : decode cX6_way 37 = .ok (.iload 4, 2) := by decide +kernel
theorem dX6_way_39 : decode cX6_way 39 = .ok (.ldc 198, 2) := by decide +kernel
theorem dX6_way_41 : decode cX6_way 41 = .ok (.if_icmp .ge 8, 3) := by decide +kernel
theorem dX6_way_44 : decode cX6_way 44 = .ok (.iload 4, 2) := by decide +kernel
theorem dX6_way_46 : decode cX6_way 46 = .ok (.goto 4, 3) := by decide +kernel
theorem dX6_way_49 : decode cX6_way 49 = .ok (.iconst (-1), 1) := by decide +kernel
theorem dX6_way_50 : decode cX6_way 50 = .ok (.ireturn, 1) := by decide +kernel
theorem dX6_way_51 : decode cX6_way 51 = .ok (.iload_n 3, 1) := by decide +kernel
theorem dX6_way_52 : decode cX6_way 52 = .ok (.iconst 1, 1) := by decide +kernel
theorem dX6_way_53 : decode cX6_way 53 = .ok (.if_icmp .ne 17, 3) := by decide +kernel
theorem dX6_way_56 : decode cX6_way 56 = .ok (.aload_n 0, 1) := by decide +kernel
theorem dX6_way_57 : decode cX6_way 57 = .ok (.aload_n 0, 1) := by decide +kernel
theorem dX6_way_58 : decode cX6_way 58 = .ok (.getfield 50, 3) := by decide +kernel
theorem dX6_way_61 : decode cX6_way 61 = .ok (.iload_n 1, 1) := by decide +kernel
theorem dX6_way_62 : decode cX6_way 62 = .ok (.aaload, 1) := by decide +kernel
theorem dX6_way_63 : decode cX6_way 63 = .ok (.iload_n 2, 1) := by decide +kernel
theorem dX6_way_64 : decode cX6_way 64 = .ok (.invokevirtual 199, 3) := by decide +kernel
theorem dX6_way_67 : decode cX6_way 67 = .ok (.goto 4, 3) := by decide +kernel
theorem dX6_way_70 : decode cX6_way 70 = .ok (.iconst (-1), 1) := by decide +kernel
theorem dX6_way_71 : decode cX6_way 71 = .ok (.ireturn, 1) := by decide +kernel
theorem dX6_label_0 : decode cX6_label 0 = .ok (.aload_n 0, 1) := by decide +kernel
theorem dX6_label_1 : decode cX6_label 1 = .ok (.iload_n 1, 1) := by decide +kernel
theorem dX6_label_2 : decode cX6_label 2 = .ok (.invokevirtual 62, 3) := by decide +kernel
theorem dX6_label_5 : decode cX6_label 5 = .ok (.ifCond .eq 10, 3) := by decide +kernel
theorem dX6_label_8 : decode cX6_label 8 = .ok (.iload_n 2, 1) := by decide +kernel
theorem dX6_label_9 : decode cX6_label 9 = .ok (.invokestatic 103, 3) := by decide +kernel
theorem dX6_label_12 : decode cX6_label 12 = .ok (.ifCond .ne 5, 3) := by decide +kernel
theorem dX6_label_15 : decode cX6_label 15 = .ok (.iconst (-1), 1) := by decide +kernel
theorem dX6_label_16 : decode cX6_label 16 = .ok (.ireturn, 1) := by decide +kernel
theorem dX6_label_17 : decode cX6_label 17 = .ok (.aload_n 0, 1) := by decide +kernel
theorem dX6_label_18 : decode cX6_label 18 = .ok (.getfield 50, 3) := by decide +kernel
theorem dX6_label_21 : decode cX6_label 21 = .ok (.iload_n 1, 1) := by decide +kernel
theorem dX6_label_22 : decode cX6_label 22 = .ok (.aaload, 1) := by decide +kernel
theorem dX6_label_23 : decode cX6_label 23 = .ok (.astore 5, 2) := by decide +kernel
theorem dX6_label_25 : decode cX6_label 25 = .ok (.iload 4, 2) := by decide +kernel
theorem dX6_label_27 : decode cX6_label 27 = .ok (.tableswitch 84 0 4 #[33, 40, 48, 56, 70], 33) := by decide +kernel
theorem dX6_label_60 : decode cX6_label 60 = .ok (.aload 5, 2) := by decide +kernel
theorem dX6_label_62 : decode cX6_label 62 = .ok (.iload_n 2, 1) := by decide +kernel
theorem dX6_label_63 : decode cX6_label 63 = .ok (.invokevirtual 203, 3) := by decide +kernel
theorem dX6_label_66 : decode cX6_label 66 = .ok (.ireturn, 1) := by decide +kernel
theorem dX6_label_67 : decode cX6_label 67 = .ok (.aload 5, 2) := by decide +kernel
theorem dX6_label_69 : decode cX6_label 69 = .ok (.getfield 207, 3) := by decide +kernel
theorem dX6_label_72 : decode cX6_label 72 = .ok (.iload_n 2, 1) := by decide +kernel
theorem dX6_label_73 : decode cX6_label 73 = .ok (.iaload, 1) := by decide +kernel
theorem dX6_label_74 : decode cX6_label 74 = .ok (.ireturn, 1) := by decide +kernel
theorem dX6_label_75 : decode cX6_label 75 = .ok (.aload 5, 2) := by decide +kernel
theorem dX6_label_77 : decode cX6_label 77 = .ok (.getfield 210, 3) := by decide +kernel
theorem dX6_label_80 : decode cX6_label 80 = .ok (.iload_n 2, 1) := by decide +kernel
theorem dX6_label_81 : decode cX6_label 81 = .ok (.iaload, 1) := by decide +kernel
theorem dX6_label_82 : decode cX6_label 82 = .ok (.ireturn, 1) := by decide +kernel
theorem dX6_label_83 : decode cX6_label 83 = .ok (.aload_n 0, 1) := by decide +kernel
theorem dX6_label_84 : decode cX6_label 84 = .ok (.aload 5, 2) := by decide +kernel
theorem dX6_label_86 : decode cX6_label 86 = .ok (.iload_n 2, 1) := by decide +kernel
theorem dX6_label_87 : decode cX6_label 87 = .ok (.iload_n 3, 1) := by decide +kernel
theorem dX6_label_88 : decode cX6_label 88 = .ok (.aload 5, 2) := by decide +kernel
theorem dX6_label_90 : decode cX6_label 90 = .ok (.getfield 213, 3) := by decide +kernel
theorem dX6_label_93 : decode cX6_label 93 = .ok (.invokevirtual 216, 3) := by decide +kernel
theorem dX6_label_96 : decode cX6_label 96 = .ok (.ireturn, 1) := by decide +kernel
theorem dX6_label_97 : decode cX6_label 97 = .ok (.aload_n 0, 1) := by decide +kernel
theorem dX6_label_98 : decode cX6_label 98 = .ok (.aload 5, 2) := by decide +kernel
theorem dX6_label_100 : decode cX6_label 100 = .ok (.iload_n 2, 1) := by decide +kernel
theorem dX6_label_101 : decode cX6_label 101 = .ok (.iload_n 3, 1) := by decide +kernel
theorem dX6_label_102 : decode cX6_label 102 = .ok (.aload 5, 2) := by decide +kernel
theorem dX6_label_104 : decode cX6_label 104 = .ok (.getfield 220, 3) := by decide +kernel
theorem dX6_label_107 : decode cX6_label 107 = .ok (.invokevirtual 216, 3) := by decide +kernel
theorem dX6_label_110 : decode cX6_label 110 = .ok (.ireturn, 1) := by decide +kernel
theorem dX6_label_111 : decode cX6_label 111 = .ok (.iconst (-1), 1) := by decide +kernel
theorem dX6_label_112 : decode cX6_label 112 = .ok (.ireturn, 1) := by decide +kernel
theorem dX6_count_0 : decode cX6_count 0 = .ok (.iload_n 2, 1) := by decide +kernel
theorem dX6_count_1 : decode cX6_count 1 = .ok (.tableswitch 68 0 3 #[31, 53, 58, 63], 31) := by decide +kernel
theorem dX6_count_32 : decode cX6_count 32 = .ok (.aload_n 0, 1) := by decide +kernel
theorem dX6_count_33 : decode cX6_count 33 = .ok (.iload_n 1, 1) := by decide +kernel
theorem dX6_count_34 : decode cX6_count 34 = .ok (.invokevirtual 62, 3) := by decide +kernel
theorem dX6_count_37 : decode cX6_count 37 = .ok (.ifCond .eq 15, 3) := by decide +kernel
theorem dX6_count_40 : decode cX6_count 40 = .ok (.aload_n 0, 1) := by decide +kernel
theorem dX6_count_41 : decode cX6_count 41 = .ok (.getfield 50, 3) := by decide +kernel
theorem dX6_count_44 : decode cX6_count 44 = .ok (.iload_n 1, 1) := by decide +kernel
theorem dX6_count_45 : decode cX6_count 45 = .ok (.aaload, 1) := by decide +kernel
theorem dX6_count_46 : decode cX6_count 46 = .ok (.invokevirtual 223, 3) := by decide +kernel
theorem dX6_count_49 : decode cX6_count 49 = .ok (.goto 4, 3) := by decide +kernel
theorem dX6_count_52 : decode cX6_count 52 = .ok (.iconst (-1), 1) := by decide +kernel
theorem dX6_count_53 : decode cX6_count 53 = .ok (.ireturn, 1) := by decide +kernel
theorem dX6_count_54 : decode cX6_count 54 = .ok (.aload_n 0, 1) := by decide +kernel
theorem dX6_count_55 : decode cX6_count 55 = .ok (.getfield 29, 3) := by decide +kernel
theorem dX6_count_58 : decode cX6_count 58 = .ok (.ireturn, 1) := by decide +kernel
theorem dX6_count_59 : decode cX6_count 59 = .ok (.aload_n 0, 1) := by decide +kernel
theorem dX6_count_60 : decode cX6_count 60 = .ok (.invokevirtual 226, 3) := by decide +kernel
theorem dX6_count_63 : decode cX6_count 63 = .ok (.ireturn, 1) := by decide +kernel
theorem dX6_count_64 : decode cX6_count 64 = .ok (.aload_n 0, 1) := by decide +kernel
theorem dX6_count_65 : decode cX6_count 65 = .ok (.invokevirtual 229, 3) := by decide +kernel
theorem dX6_count_68 : decode cX6_count 68 = .ok (.ireturn, 1) := by decide +kernel
theorem dX6_count_69 : decode cX6_count 69 = .ok (.iconst (-1), 1) := by decide +kernel
theorem dX6_count_70 : decode cX6_count 70 = .ok (.ireturn, 1) := by decide +kernel
theorem dX6_isLink_0 : decode cX6_isLink 0 = .ok (.iload_n 0, 1) := by decide +kernel
theorem dX6_isLink_1 : decode cX6_isLink 1 = .ok (.ifCond .lt 13, 3) := by decide +kernel
theorem dX6_isLink_4 : decode cX6_isLink 4 = .ok (.iload_n 0, 1) := by decide +kernel
theorem dX6_isLink_5 : decode cX6_isLink 5 = .ok (.bipush 12, 2) := by decide +kernel
theorem dX6_isLink_7 : decode cX6_isLink 7 = .ok (.if_icmp .ge 7, 3) := by decide +kernel
theorem dX6_isLink_10 : decode cX6_isLink 10 = .ok (.iconst 1, 1) := by decide +kernel
theorem dX6_isLink_11 : decode cX6_isLink 11 = .ok (.goto 4, 3) := by decide +kernel
theorem dX6_isLink_14 : decode cX6_isLink 14 = .ok (.iconst 0, 1) := by decide +kernel
theorem dX6_isLink_15 : decode cX6_isLink 15 = .ok (.ireturn, 1) := by decide +kernel
theorem dX6_isEnd_0 : decode cX6_isEnd 0 = .ok (.iload_n 0, 1) := by decide +kernel
theorem dX6_isEnd_1 : decode cX6_isEnd 1 = .ok (.ifCond .lt 12, 3) := by decide +kernel
theorem dX6_isEnd_4 : decode cX6_isEnd 4 = .ok (.iload_n 0, 1) := by decide +kernel
theorem dX6_isEnd_5 : decode cX6_isEnd 5 = .ok (.iconst 2, 1) := by decide +kernel
theorem dX6_isEnd_6 : decode cX6_isEnd 6 = .ok (.if_icmp .ge 7, 3) := by decide +kernel
theorem dX6_isEnd_9 : decode cX6_isEnd 9 = .ok (.iconst 1, 1) := by decide +kernel
theorem dX6_isEnd_10 : decode cX6_isEnd 10 = .ok (.goto 4, 3) := by decide +kernel
theorem dX6_isEnd_13 : decode cX6_isEnd 13 = .ok (.iconst 0, 1) := by decide +kernel
theorem dX6_isEnd_14 : decode cX6_isEnd 14 = .ok (.ireturn, 1) := by decide +kernel
theorem dX6_isPrefix_0 : decode cX6_isPrefix 0 = .ok (.iload_n 0, 1) := by decide +kernel
theorem dX6_isPrefix_1 : decode cX6_isPrefix 1 = .ok (.ifCond .lt 13, 3) := by decide +kernel
theorem dX6_isPrefix_4 : decode cX6_isPrefix 4 = .ok (.iload_n 0, 1) := by decide +kernel
theorem dX6_isPrefix_5 : decode cX6_isPrefix 5 = .ok (.bipush 8, 2) := by decide +kernel
theorem dX6_isPrefix_7 : decode cX6_isPrefix 7 = .ok (.if_icmp .ge 7, 3) := by decide +kernel
theorem dX6_isPrefix_10 : decode cX6_isPrefix 10 = .ok (.iconst 1, 1) := by decide +kernel
theorem dX6_isPrefix_11 : decode cX6_isPrefix 11 = .ok (.goto 4, 3) := by decide +kernel
theorem dX6_isPrefix_14 : decode cX6_isPrefix 14 = .ok (.iconst 0, 1) := by decide +kernel
theorem dX6_isPrefix_15 : decode cX6_isPrefix 15 = .ok (.ireturn, 1) := by decide +kernel
theorem dX6_isRouter_0 : decode cX6_isRouter 0 = .ok (.iload_n 1, 1) := by decide +kernel
theorem dX6_isRouter_1 : decode cX6_isRouter 1 = .ok (.ifCond .lt 16, 3) := by decide +kernel
theorem dX6_isRouter_4 : decode cX6_isRouter 4 = .ok (.iload_n 1, 1) := by decide +kernel
theorem dX6_isRouter_5 : decode cX6_isRouter 5 = .ok (.aload_n 0, 1) := by decide +kernel
theorem dX6_isRouter_6 : decode cX6_isRouter 6 = .ok (.getfield 50, 3) := by decide +kernel
theorem dX6_isRouter_9 : decode cX6_isRouter 9 = .ok (.arraylength, 1) := by decide +kernel
theorem dX6_isRouter_10 : decode cX6_isRouter 10 = .ok (.if_icmp .ge 7, 3) := by decide +kernel
theorem dX6_isRouter_13 : decode cX6_isRouter 13 = .ok (.iconst 1, 1) := by decide +kernel
theorem dX6_isRouter_14 : decode cX6_isRouter 14 = .ok (.goto 4, 3) := by decide +kernel
theorem dX6_isRouter_17 : decode cX6_isRouter 17 = .ok (.iconst 0, 1) := by decide +kernel
theorem dX6_isRouter_18 : decode cX6_isRouter 18 = .ok (.ireturn, 1) := by decide +kernel
theorem dX6_packetsUnderWay_0 : decode cX6_packetsUnderWay 0 = .ok (.iconst 0, 1) := by decide +kernel
theorem dX6_packetsUnderWay_1 : decode cX6_packetsUnderWay 1 = .ok (.istore_n 1, 1) := by decide +kernel
theorem dX6_packetsUnderWay_2 : decode cX6_packetsUnderWay 2 = .ok (.iconst 0, 1) := by decide +kernel
theorem dX6_packetsUnderWay_3 : decode cX6_packetsUnderWay 3 = .ok (.istore_n 2, 1) := by decide +kernel
theorem dX6_packetsUnderWay_4 : decode cX6_packetsUnderWay 4 = .ok (.iload_n 2, 1) := by decide +kernel
theorem dX6_packetsUnderWay_5 : decode cX6_packetsUnderWay 5 = .ok (.aload_n 0, 1) := by decide +kernel
theorem dX6_packetsUnderWay_6 : decode cX6_packetsUnderWay 6 = .ok (.getfield 25, 3) := by decide +kernel
theorem dX6_packetsUnderWay_9 : decode cX6_packetsUnderWay 9 = .ok (.if_icmp .ge 24, 3) := by decide +kernel
theorem dX6_packetsUnderWay_12 : decode cX6_packetsUnderWay 12 = .ok (.aload_n 0, 1) := by decide +kernel
theorem dX6_packetsUnderWay_13 : decode cX6_packetsUnderWay 13 = .ok (.getfield 21, 3) := by decide +kernel
theorem dX6_packetsUnderWay_16 : decode cX6_packetsUnderWay 16 = .ok (.iload_n 2, 1) := by decide +kernel
theorem dX6_packetsUnderWay_17 : decode cX6_packetsUnderWay 17 = .ok (.aaload, 1) := by decide +kernel
theorem dX6_packetsUnderWay_18 : decode cX6_packetsUnderWay 18 = .ok (.getfield 155, 3) := by decide +kernel
theorem dX6_packetsUnderWay_21 : decode cX6_packetsUnderWay 21 = .ok (.ifCond .ne 6, 3) := by decide +kernel
theorem dX6_packetsUnderWay_24 : decode cX6_packetsUnderWay 24 = .ok (.iinc 1 1, 3) := by decide +kernel
theorem dX6_packetsUnderWay_27 : decode cX6_packetsUnderWay 27 = .ok (.iinc 2 1, 3) := by decide +kernel
theorem dX6_packetsUnderWay_30 : decode cX6_packetsUnderWay 30 = .ok (.goto (-26), 3) := by decide +kernel
theorem dX6_packetsUnderWay_33 : decode cX6_packetsUnderWay 33 = .ok (.iload_n 1, 1) := by decide +kernel
theorem dX6_packetsUnderWay_34 : decode cX6_packetsUnderWay 34 = .ok (.ireturn, 1) := by decide +kernel
theorem dX6_linksUp_0 : decode cX6_linksUp 0 = .ok (.iconst 0, 1) := by decide +kernel
theorem dX6_linksUp_1 : decode cX6_linksUp 1 = .ok (.istore_n 1, 1) := by decide +kernel
theorem dX6_linksUp_2 : decode cX6_linksUp 2 = .ok (.iconst 0, 1) := by decide +kernel
theorem dX6_linksUp_3 : decode cX6_linksUp 3 = .ok (.istore_n 2, 1) := by decide +kernel
theorem dX6_linksUp_4 : decode cX6_linksUp 4 = .ok (.iload_n 2, 1) := by decide +kernel
theorem dX6_linksUp_5 : decode cX6_linksUp 5 = .ok (.bipush 12, 2) := by decide +kernel
theorem dX6_linksUp_7 : decode cX6_linksUp 7 = .ok (.if_icmp .ge 24, 3) := by decide +kernel
theorem dX6_linksUp_10 : decode cX6_linksUp 10 = .ok (.aload_n 0, 1) := by decide +kernel
theorem dX6_linksUp_11 : decode cX6_linksUp 11 = .ok (.getfield 11, 3) := by decide +kernel
theorem dX6_linksUp_14 : decode cX6_linksUp 14 = .ok (.iload_n 2, 1) := by decide +kernel
theorem dX6_linksUp_15 : decode cX6_linksUp 15 = .ok (.aaload, 1) := by decide +kernel
theorem dX6_linksUp_16 : decode cX6_linksUp 16 = .ok (.getfield 92, 3) := by decide +kernel
theorem dX6_linksUp_19 : decode cX6_linksUp 19 = .ok (.ifCond .eq 6, 3) := by decide +kernel
theorem dX6_linksUp_22 : decode cX6_linksUp 22 = .ok (.iinc 1 1, 3) := by decide +kernel
theorem dX6_linksUp_25 : decode cX6_linksUp 25 = .ok (.iinc 2 1, 3) := by decide +kernel
theorem dX6_linksUp_28 : decode cX6_linksUp 28 = .ok (.goto (-24), 3) := by decide +kernel
theorem dX6_linksUp_31 : decode cX6_linksUp 31 = .ok (.iload_n 1, 1) := by decide +kernel
theorem dX6_linksUp_32 : decode cX6_linksUp 32 = .ok (.ireturn, 1) := by decide +kernel
theorem dX6_comesUp_0 : decode cX6_comesUp 0 = .ok (.aload_n 0, 1) := by decide +kernel
theorem dX6_comesUp_1 : decode cX6_comesUp 1 = .ok (.getfield 11, 3) := by decide +kernel
theorem dX6_comesUp_4 : decode cX6_comesUp 4 = .ok (.iload_n 1, 1) := by decide +kernel
theorem dX6_comesUp_5 : decode cX6_comesUp 5 = .ok (.aaload, 1) := by decide +kernel
theorem dX6_comesUp_6 : decode cX6_comesUp 6 = .ok (.astore_n 2, 1) := by decide +kernel
theorem dX6_comesUp_7 : decode cX6_comesUp 7 = .ok (.aload_n 0, 1) := by decide +kernel
theorem dX6_comesUp_8 : decode cX6_comesUp 8 = .ok (.getfield 50, 3) := by decide +kernel
theorem dX6_comesUp_11 : decode cX6_comesUp 11 = .ok (.aload_n 2, 1) := by decide +kernel
theorem dX6_comesUp_12 : decode cX6_comesUp 12 = .ok (.getfield 81, 3) := by decide +kernel
theorem dX6_comesUp_15 : decode cX6_comesUp 15 = .ok (.aaload, 1) := by decide +kernel
theorem dX6_comesUp_16 : decode cX6_comesUp 16 = .ok (.astore_n 3, 1) := by decide +kernel
theorem dX6_comesUp_17 : decode cX6_comesUp 17 = .ok (.aload_n 0, 1) := by decide +kernel
theorem dX6_comesUp_18 : decode cX6_comesUp 18 = .ok (.getfield 50, 3) := by decide +kernel
theorem dX6_comesUp_21 : decode cX6_comesUp 21 = .ok (.aload_n 2, 1) := by decide +kernel
theorem dX6_comesUp_22 : decode cX6_comesUp 22 = .ok (.getfield 84, 3) := by decide +kernel
theorem dX6_comesUp_25 : decode cX6_comesUp 25 = .ok (.aaload, 1) := by decide +kernel
theorem dX6_comesUp_26 : decode cX6_comesUp 26 = .ok (.astore 4, 2) := by decide +kernel
theorem dX6_comesUp_28 : decode cX6_comesUp 28 = .ok (.aload_n 2, 1) := by decide +kernel
theorem dX6_comesUp_29 : decode cX6_comesUp 29 = .ok (.iconst 1, 1) := by decide +kernel
theorem dX6_comesUp_30 : decode cX6_comesUp 30 = .ok (.putfield 92, 3) := by decide +kernel
theorem dX6_comesUp_33 : decode cX6_comesUp 33 = .ok (.aload_n 0, 1) := by decide +kernel
theorem dX6_comesUp_34 : decode cX6_comesUp 34 = .ok (.aload_n 3, 1) := by decide +kernel
theorem dX6_comesUp_35 : decode cX6_comesUp 35 = .ok (.invokevirtual 110, 3) := by decide +kernel
theorem dX6_comesUp_38 : decode cX6_comesUp 38 = .ok (.aload_n 0, 1) := by decide +kernel
theorem dX6_comesUp_39 : decode cX6_comesUp 39 = .ok (.aload 4, 2) := by decide +kernel
theorem dX6_comesUp_41 : decode cX6_comesUp 41 = .ok (.invokevirtual 110, 3) := by decide +kernel
theorem dX6_comesUp_44 : decode cX6_comesUp 44 = .ok (.aload_n 0, 1) := by decide +kernel
theorem dX6_comesUp_45 : decode cX6_comesUp 45 = .ok (.aload_n 3, 1) := by decide +kernel
theorem dX6_comesUp_46 : decode cX6_comesUp 46 = .ok (.iload_n 1, 1) := by decide +kernel
theorem dX6_comesUp_47 : decode cX6_comesUp 47 = .ok (.invokevirtual 232, 3) := by decide +kernel
theorem dX6_comesUp_50 : decode cX6_comesUp 50 = .ok (.aload_n 0, 1) := by decide +kernel
theorem dX6_comesUp_51 : decode cX6_comesUp 51 = .ok (.aload 4, 2) := by decide +kernel
theorem dX6_comesUp_53 : decode cX6_comesUp 53 = .ok (.iload_n 1, 1) := by decide +kernel
theorem dX6_comesUp_54 : decode cX6_comesUp 54 = .ok (.invokevirtual 232, 3) := by decide +kernel
theorem dX6_comesUp_57 : decode cX6_comesUp 57 = .ok (.aload_n 0, 1) := by decide +kernel
theorem dX6_comesUp_58 : decode cX6_comesUp 58 = .ok (.aload_n 3, 1) := by decide +kernel
theorem dX6_comesUp_59 : decode cX6_comesUp 59 = .ok (.iload_n 1, 1) := by decide +kernel
theorem dX6_comesUp_60 : decode cX6_comesUp 60 = .ok (.invokevirtual 236, 3) := by decide +kernel
theorem dX6_comesUp_63 : decode cX6_comesUp 63 = .ok (.aload_n 0, 1) := by decide +kernel
theorem dX6_comesUp_64 : decode cX6_comesUp 64 = .ok (.aload 4, 2) := by decide +kernel
theorem dX6_comesUp_66 : decode cX6_comesUp 66 = .ok (.iload_n 1, 1) := by decide +kernel
theorem dX6_comesUp_67 : decode cX6_comesUp 67 = .ok (.invokevirtual 236, 3) := by decide +kernel
theorem dX6_comesUp_70 : decode cX6_comesUp 70 = .ok (.aload_n 0, 1) := by decide +kernel
theorem dX6_comesUp_71 : decode cX6_comesUp 71 = .ok (.aload_n 3, 1) := by decide +kernel
theorem dX6_comesUp_72 : decode cX6_comesUp 72 = .ok (.invokevirtual 114, 3) := by decide +kernel
theorem dX6_comesUp_75 : decode cX6_comesUp 75 = .ok (.aload_n 0, 1) := by decide +kernel
theorem dX6_comesUp_76 : decode cX6_comesUp 76 = .ok (.aload 4, 2) := by decide +kernel
theorem dX6_comesUp_78 : decode cX6_comesUp 78 = .ok (.invokevirtual 114, 3) := by decide +kernel
theorem dX6_comesUp_81 : decode cX6_comesUp 81 = .ok (.return_, 1) := by decide +kernel
theorem dX6_goesDown_0 : decode cX6_goesDown 0 = .ok (.aload_n 0, 1) := by decide +kernel
theorem dX6_goesDown_1 : decode cX6_goesDown 1 = .ok (.getfield 11, 3) := by decide +kernel
theorem dX6_goesDown_4 : decode cX6_goesDown 4 = .ok (.iload_n 1, 1) := by decide +kernel
theorem dX6_goesDown_5 : decode cX6_goesDown 5 = .ok (.aaload, 1) := by decide +kernel
theorem dX6_goesDown_6 : decode cX6_goesDown 6 = .ok (.astore_n 2, 1) := by decide +kernel
theorem dX6_goesDown_7 : decode cX6_goesDown 7 = .ok (.aload_n 0, 1) := by decide +kernel
theorem dX6_goesDown_8 : decode cX6_goesDown 8 = .ok (.getfield 50, 3) := by decide +kernel
theorem dX6_goesDown_11 : decode cX6_goesDown 11 = .ok (.aload_n 2, 1) := by decide +kernel
theorem dX6_goesDown_12 : decode cX6_goesDown 12 = .ok (.getfield 81, 3) := by decide +kernel
theorem dX6_goesDown_15 : decode cX6_goesDown 15 = .ok (.aaload, 1) := by decide +kernel
theorem dX6_goesDown_16 : decode cX6_goesDown 16 = .ok (.astore_n 3, 1) := by decide +kernel
theorem dX6_goesDown_17 : decode cX6_goesDown 17 = .ok (.aload_n 0, 1) := by decide +kernel
theorem dX6_goesDown_18 : decode cX6_goesDown 18 = .ok (.getfield 50, 3) := by decide +kernel
theorem dX6_goesDown_21 : decode cX6_goesDown 21 = .ok (.aload_n 2, 1) := by decide +kernel
theorem dX6_goesDown_22 : decode cX6_goesDown 22 = .ok (.getfield 84, 3) := by decide +kernel
theorem dX6_goesDown_25 : decode cX6_goesDown 25 = .ok (.aaload, 1) := by decide +kernel
theorem dX6_goesDown_26 : decode cX6_goesDown 26 = .ok (.astore 4, 2) := by decide +kernel
theorem dX6_goesDown_28 : decode cX6_goesDown 28 = .ok (.aload_n 2, 1) := by decide +kernel
theorem dX6_goesDown_29 : decode cX6_goesDown 29 = .ok (.iconst 0, 1) := by decide +kernel
theorem dX6_goesDown_30 : decode cX6_goesDown 30 = .ok (.putfield 92, 3) := by decide +kernel
theorem dX6_goesDown_33 : decode cX6_goesDown 33 = .ok (.aload_n 0, 1) := by decide +kernel
theorem dX6_goesDown_34 : decode cX6_goesDown 34 = .ok (.aload_n 2, 1) := by decide +kernel
theorem dX6_goesDown_35 : decode cX6_goesDown 35 = .ok (.getfield 131, 3) := by decide +kernel
theorem dX6_goesDown_38 : decode cX6_goesDown 38 = .ok (.iconst 0, 1) := by decide +kernel
theorem dX6_goesDown_39 : decode cX6_goesDown 39 = .ok (.aaload, 1) := by decide +kernel
theorem dX6_goesDown_40 : decode cX6_goesDown 40 = .ok (.invokevirtual 239, 3) := by decide +kernel
theorem dX6_goesDown_43 : decode cX6_goesDown 43 = .ok (.aload_n 0, 1) := by decide +kernel
theorem dX6_goesDown_44 : decode cX6_goesDown 44 = .ok (.aload_n 2, 1) := by decide +kernel
theorem dX6_goesDown_45 : decode cX6_goesDown 45 = .ok (.getfield 131, 3) := by decide +kernel
theorem dX6_goesDown_48 : decode cX6_goesDown 48 = .ok (.iconst 1, 1) := by decide +kernel
theorem dX6_goesDown_49 : decode cX6_goesDown 49 = .ok (.aaload, 1) := by decide +kernel
theorem dX6_goesDown_50 : decode cX6_goesDown 50 = .ok (.invokevirtual 239, 3) := by decide +kernel
theorem dX6_goesDown_53 : decode cX6_goesDown 53 = .ok (.aload_n 0, 1) := by decide +kernel
theorem dX6_goesDown_54 : decode cX6_goesDown 54 = .ok (.aload_n 3, 1) := by decide +kernel
theorem dX6_goesDown_55 : decode cX6_goesDown 55 = .ok (.invokevirtual 110, 3) := by decide +kernel
theorem dX6_goesDown_58 : decode cX6_goesDown 58 = .ok (.aload_n 0, 1) := by decide +kernel
theorem dX6_goesDown_59 : decode cX6_goesDown 59 = .ok (.aload 4, 2) := by decide +kernel
theorem dX6_goesDown_61 : decode cX6_goesDown 61 = .ok (.invokevirtual 110, 3) := by decide +kernel
theorem dX6_goesDown_64 : decode cX6_goesDown 64 = .ok (.aload_n 3, 1) := by decide +kernel
theorem dX6_goesDown_65 : decode cX6_goesDown 65 = .ok (.iload_n 1, 1) := by decide +kernel
theorem dX6_goesDown_66 : decode cX6_goesDown 66 = .ok (.invokevirtual 243, 3) := by decide +kernel
theorem dX6_goesDown_69 : decode cX6_goesDown 69 = .ok (.aload 4, 2) := by decide +kernel
theorem dX6_goesDown_71 : decode cX6_goesDown 71 = .ok (.iload_n 1, 1) := by decide +kernel
theorem dX6_goesDown_72 : decode cX6_goesDown 72 = .ok (.invokevirtual 243, 3) := by decide +kernel
theorem dX6_goesDown_75 : decode cX6_goesDown 75 = .ok (.aload_n 0, 1) := by decide +kernel
theorem dX6_goesDown_76 : decode cX6_goesDown 76 = .ok (.aload_n 3, 1) := by decide +kernel
theorem dX6_goesDown_77 : decode cX6_goesDown 77 = .ok (.invokevirtual 114, 3) := by decide +kernel
theorem dX6_goesDown_80 : decode cX6_goesDown 80 = .ok (.aload_n 0, 1) := by decide +kernel
theorem dX6_goesDown_81 : decode cX6_goesDown 81 = .ok (.aload 4, 2) := by decide +kernel
theorem dX6_goesDown_83 : decode cX6_goesDown 83 = .ok (.invokevirtual 114, 3) := by decide +kernel
theorem dX6_goesDown_86 : decode cX6_goesDown 86 = .ok (.return_, 1) := by decide +kernel
theorem dX6_cut_0 : decode cX6_cut 0 = .ok (.iconst 0, 1) := by decide +kernel
theorem dX6_cut_1 : decode cX6_cut 1 = .ok (.istore_n 2, 1) := by decide +kernel
theorem dX6_cut_2 : decode cX6_cut 2 = .ok (.iload_n 2, 1) := by decide +kernel
theorem dX6_cut_3 : decode cX6_cut 3 = .ok (.aload_n 1, 1) := by decide +kernel
theorem dX6_cut_4 : decode cX6_cut 4 = .ok (.getfield 170, 3) := by decide +kernel
theorem dX6_cut_7 : decode cX6_cut 7 = .ok (.if_icmp .ge 41, 3) := by decide +kernel
theorem dX6_cut_10 : decode cX6_cut 10 = .ok (.aload_n 1, 1) := by decide +kernel
theorem dX6_cut_11 : decode cX6_cut 11 = .ok (.iload_n 2, 1) := by decide +kernel
theorem dX6_cut_12 : decode cX6_cut 12 = .ok (.invokevirtual 135, 3) := by decide +kernel
theorem dX6_cut_15 : decode cX6_cut 15 = .ok (.astore_n 3, 1) := by decide +kernel
theorem dX6_cut_16 : decode cX6_cut 16 = .ok (.aload_n 3, 1) := by decide +kernel
theorem dX6_cut_17 : decode cX6_cut 17 = .ok (.ifnull 25, 3) := by decide +kernel
theorem dX6_cut_20 : decode cX6_cut 20 = .ok (.aload_n 3, 1) := by decide +kernel
theorem dX6_cut_21 : decode cX6_cut 21 = .ok (.getfield 246, 3) := by decide +kernel
theorem dX6_cut_24 : decode cX6_cut 24 = .ok (.iconst 4, 1) := by decide +kernel
theorem dX6_cut_25 : decode cX6_cut 25 = .ok (.if_icmp .ne 17, 3) := by decide +kernel
theorem dX6_cut_28 : decode cX6_cut 28 = .ok (.aload_n 0, 1) := by decide +kernel
theorem dX6_cut_29 : decode cX6_cut 29 = .ok (.getfield 21, 3) := by decide +kernel
theorem dX6_cut_32 : decode cX6_cut 32 = .ok (.aload_n 3, 1) := by decide +kernel
theorem dX6_cut_33 : decode cX6_cut 33 = .ok (.getfield 176, 3) := by decide +kernel
theorem dX6_cut_36 : decode cX6_cut 36 = .ok (.aaload, 1) := by decide +kernel
theorem dX6_cut_37 : decode cX6_cut 37 = .ok (.bipush 6, 2) := by decide +kernel
theorem dX6_cut_39 : decode cX6_cut 39 = .ok (.putfield 155, 3) := by decide +kernel
theorem dX6_cut_42 : decode cX6_cut 42 = .ok (.iinc 2 1, 3) := by decide +kernel
theorem dX6_cut_45 : decode cX6_cut 45 = .ok (.goto (-43), 3) := by decide +kernel
theorem dX6_cut_48 : decode cX6_cut 48 = .ok (.aload_n 1, 1) := by decide +kernel
theorem dX6_cut_49 : decode cX6_cut 49 = .ok (.iconst 0, 1) := by decide +kernel
theorem dX6_cut_50 : decode cX6_cut 50 = .ok (.putfield 170, 3) := by decide +kernel
theorem dX6_cut_53 : decode cX6_cut 53 = .ok (.return_, 1) := by decide +kernel
theorem dX6_tell_0 : decode cX6_tell 0 = .ok (.aload_n 1, 1) := by decide +kernel
theorem dX6_tell_1 : decode cX6_tell 1 = .ok (.getfield 185, 3) := by decide +kernel
theorem dX6_tell_4 : decode cX6_tell 4 = .ok (.aload_n 1, 1) := by decide +kernel
theorem dX6_tell_5 : decode cX6_tell 5 = .ok (.getfield 249, 3) := by decide +kernel
theorem dX6_tell_8 : decode cX6_tell 8 = .ok (.aaload, 1) := by decide +kernel
theorem dX6_tell_9 : decode cX6_tell 9 = .ok (.astore_n 2, 1) := by decide +kernel
theorem dX6_tell_10 : decode cX6_tell 10 = .ok (.aload_n 2, 1) := by decide +kernel
theorem dX6_tell_11 : decode cX6_tell 11 = .ok (.ifnonnull 7, 3) := by decide +kernel
theorem dX6_tell_14 : decode cX6_tell 14 = .ok (.iconst 1, 1) := by decide +kernel
theorem dX6_tell_15 : decode cX6_tell 15 = .ok (.goto 9, 3) := by decide +kernel
theorem dX6_tell_18 : decode cX6_tell 18 = .ok (.aload_n 2, 1) := by decide +kernel
theorem dX6_tell_19 : decode cX6_tell 19 = .ok (.getfield 189, 3) := by decide +kernel
theorem dX6_tell_22 : decode cX6_tell 22 = .ok (.iconst 1, 1) := by decide +kernel
theorem dX6_tell_23 : decode cX6_tell 23 = .ok (.iadd, 1) := by decide +kernel
theorem dX6_tell_24 : decode cX6_tell 24 = .ok (.istore_n 3, 1) := by decide +kernel
theorem dX6_tell_25 : decode cX6_tell 25 = .ok (.new 190, 3) := by decide +kernel
theorem dX6_tell_28 : decode cX6_tell 28 = .ok (.dup, 1) := by decide +kernel
theorem dX6_tell_29 : decode cX6_tell 29 = .ok (.aload_n 1, 1) := by decide +kernel
theorem dX6_tell_30 : decode cX6_tell 30 = .ok (.getfield 249, 3) := by decide +kernel
theorem dX6_tell_33 : decode cX6_tell 33 = .ok (.iload_n 3, 1) := by decide +kernel
theorem dX6_tell_34 : decode cX6_tell 34 = .ok (.aload_n 0, 1) := by decide +kernel
theorem dX6_tell_35 : decode cX6_tell 35 = .ok (.aload_n 1, 1) := by decide +kernel
theorem dX6_tell_36 : decode cX6_tell 36 = .ok (.getfield 249, 3) := by decide +kernel
theorem dX6_tell_39 : decode cX6_tell 39 = .ok (.invokevirtual 252, 3) := by decide +kernel
theorem dX6_tell_42 : decode cX6_tell 42 = .ok (.aload_n 0, 1) := by decide +kernel
theorem dX6_tell_43 : decode cX6_tell 43 = .ok (.aload_n 1, 1) := by decide +kernel
theorem dX6_tell_44 : decode cX6_tell 44 = .ok (.getfield 249, 3) := by decide +kernel
theorem dX6_tell_47 : decode cX6_tell 47 = .ok (.invokevirtual 255, 3) := by decide +kernel
theorem dX6_tell_50 : decode cX6_tell 50 = .ok (.invokespecial 258, 3) := by decide +kernel
theorem dX6_tell_53 : decode cX6_tell 53 = .ok (.astore 4, 2) := by decide +kernel
theorem dX6_tell_55 : decode cX6_tell 55 = .ok (.aload_n 0, 1) := by decide +kernel
theorem dX6_tell_56 : decode cX6_tell 56 = .ok (.aload_n 1, 1) := by decide +kernel
theorem dX6_tell_57 : decode cX6_tell 57 = .ok (.aload 4, 2) := by decide +kernel
theorem dX6_tell_59 : decode cX6_tell 59 = .ok (.invokevirtual 261, 3) := by decide +kernel
theorem dX6_tell_62 : decode cX6_tell 62 = .ok (.aload_n 0, 1) := by decide +kernel
theorem dX6_tell_63 : decode cX6_tell 63 = .ok (.aload_n 1, 1) := by decide +kernel
theorem dX6_tell_64 : decode cX6_tell 64 = .ok (.aload_n 0, 1) := by decide +kernel
theorem dX6_tell_65 : decode cX6_tell 65 = .ok (.getfield 35, 3) := by decide +kernel
theorem dX6_tell_68 : decode cX6_tell 68 = .ok (.aload 4, 2) := by decide +kernel
theorem dX6_tell_70 : decode cX6_tell 70 = .ok (.invokevirtual 265, 3) := by decide +kernel
theorem dX6_tell_73 : decode cX6_tell 73 = .ok (.iconst (-1), 1) := by decide +kernel
theorem dX6_tell_74 : decode cX6_tell 74 = .ok (.invokevirtual 269, 3) := by decide +kernel
theorem dX6_tell_77 : decode cX6_tell 77 = .ok (.return_, 1) := by decide +kernel
theorem dX6_linksUpAt_0 : decode cX6_linksUpAt 0 = .ok (.iconst 0, 1) := by decide +kernel
theorem dX6_linksUpAt_1 : decode cX6_linksUpAt 1 = .ok (.istore_n 2, 1) := by decide +kernel
theorem dX6_linksUpAt_2 : decode cX6_linksUpAt 2 = .ok (.iconst 0, 1) := by decide +kernel
theorem dX6_linksUpAt_3 : decode cX6_linksUpAt 3 = .ok (.istore_n 3, 1) := by decide +kernel
theorem dX6_linksUpAt_4 : decode cX6_linksUpAt 4 = .ok (.iload_n 3, 1) := by decide +kernel
theorem dX6_linksUpAt_5 : decode cX6_linksUpAt 5 = .ok (.bipush 12, 2) := by decide +kernel
theorem dX6_linksUpAt_7 : decode cX6_linksUpAt 7 = .ok (.if_icmp .ge 28, 3) := by decide +kernel
theorem dX6_linksUpAt_10 : decode cX6_linksUpAt 10 = .ok (.aload_n 0, 1) := by decide +kernel
theorem dX6_linksUpAt_11 : decode cX6_linksUpAt 11 = .ok (.getfield 11, 3) := by decide +kernel
theorem dX6_linksUpAt_14 : decode cX6_linksUpAt 14 = .ok (.iload_n 3, 1) := by decide +kernel
theorem dX6_linksUpAt_15 : decode cX6_linksUpAt 15 = .ok (.aaload, 1) := by decide +kernel
theorem dX6_linksUpAt_16 : decode cX6_linksUpAt 16 = .ok (.iload_n 1, 1) := by decide +kernel
theorem dX6_linksUpAt_17 : decode cX6_linksUpAt 17 = .ok (.invokevirtual 273, 3) := by decide +kernel
theorem dX6_linksUpAt_20 : decode cX6_linksUpAt 20 = .ok (.ifCond .eq 9, 3) := by decide +kernel
theorem dX6_linksUpAt_23 : decode cX6_linksUpAt 23 = .ok (.iload_n 2, 1) := by decide +kernel
theorem dX6_linksUpAt_24 : decode cX6_linksUpAt 24 = .ok (.iconst 1, 1) := by decide +kernel
theorem dX6_linksUpAt_25 : decode cX6_linksUpAt 25 = .ok (.iload_n 3, 1) := by decide +kernel
theorem dX6_linksUpAt_26 : decode cX6_linksUpAt 26 = .ok (.ishl, 1) := by decide +kernel
theorem dX6_linksUpAt_27 : decode cX6_linksUpAt 27 = .ok (.ior, 1) := by decide +kernel
theorem dX6_linksUpAt_28 : decode cX6_linksUpAt 28 = .ok (.istore_n 2, 1) := by decide +kernel
theorem dX6_linksUpAt_29 : decode cX6_linksUpAt 29 = .ok (.iinc 3 1, 3) := by decide +kernel
theorem dX6_linksUpAt_32 : decode cX6_linksUpAt 32 = .ok (.goto (-28), 3) := by decide +kernel
theorem dX6_linksUpAt_35 : decode cX6_linksUpAt 35 = .ok (.iload_n 2, 1) := by decide +kernel
theorem dX6_linksUpAt_36 : decode cX6_linksUpAt 36 = .ok (.ireturn, 1) := by decide +kernel
theorem dX6_prefixesAt_0 : decode cX6_prefixesAt 0 = .ok (.iconst 0, 1) := by decide +kernel
theorem dX6_prefixesAt_1 : decode cX6_prefixesAt 1 = .ok (.istore_n 2, 1) := by decide +kernel
theorem dX6_prefixesAt_2 : decode cX6_prefixesAt 2 = .ok (.iconst 0, 1) := by decide +kernel
theorem dX6_prefixesAt_3 : decode cX6_prefixesAt 3 = .ok (.istore_n 3, 1) := by decide +kernel
theorem dX6_prefixesAt_4 : decode cX6_prefixesAt 4 = .ok (.iload_n 3, 1) := by decide +kernel
theorem dX6_prefixesAt_5 : decode cX6_prefixesAt 5 = .ok (.bipush 8, 2) := by decide +kernel
theorem dX6_prefixesAt_7 : decode cX6_prefixesAt 7 = .ok (.if_icmp .ge 25, 3) := by decide +kernel
theorem dX6_prefixesAt_10 : decode cX6_prefixesAt 10 = .ok (.aload_n 0, 1) := by decide +kernel
theorem dX6_prefixesAt_11 : decode cX6_prefixesAt 11 = .ok (.getfield 15, 3) := by decide +kernel
theorem dX6_prefixesAt_14 : decode cX6_prefixesAt 14 = .ok (.iload_n 3, 1) := by decide +kernel
theorem dX6_prefixesAt_15 : decode cX6_prefixesAt 15 = .ok (.iaload, 1) := by decide +kernel
theorem dX6_prefixesAt_16 : decode cX6_prefixesAt 16 = .ok (.iload_n 1, 1) := by decide +kernel
theorem dX6_prefixesAt_17 : decode cX6_prefixesAt 17 = .ok (.if_icmp .ne 9, 3) := by decide +kernel
theorem dX6_prefixesAt_20 : decode cX6_prefixesAt 20 = .ok (.iload_n 2, 1) := by decide +kernel
theorem dX6_prefixesAt_21 : decode cX6_prefixesAt 21 = .ok (.iconst 1, 1) := by decide +kernel
theorem dX6_prefixesAt_22 : decode cX6_prefixesAt 22 = .ok (.iload_n 3, 1) := by decide +kernel
theorem dX6_prefixesAt_23 : decode cX6_prefixesAt 23 = .ok (.ishl, 1) := by decide +kernel
theorem dX6_prefixesAt_24 : decode cX6_prefixesAt 24 = .ok (.ior, 1) := by decide +kernel
theorem dX6_prefixesAt_25 : decode cX6_prefixesAt 25 = .ok (.istore_n 2, 1) := by decide +kernel
theorem dX6_prefixesAt_26 : decode cX6_prefixesAt 26 = .ok (.iinc 3 1, 3) := by decide +kernel
theorem dX6_prefixesAt_29 : decode cX6_prefixesAt 29 = .ok (.goto (-25), 3) := by decide +kernel
theorem dX6_prefixesAt_32 : decode cX6_prefixesAt 32 = .ok (.iload_n 2, 1) := by decide +kernel
theorem dX6_prefixesAt_33 : decode cX6_prefixesAt 33 = .ok (.ireturn, 1) := by decide +kernel
theorem dX6_putKnownNotes_0 : decode cX6_putKnownNotes 0 = .ok (.iconst 0, 1) := by decide +kernel
theorem dX6_putKnownNotes_1 : decode cX6_putKnownNotes 1 = .ok (.istore_n 3, 1) := by decide +kernel
theorem dX6_putKnownNotes_2 : decode cX6_putKnownNotes 2 = .ok (.iload_n 3, 1) := by decide +kernel
theorem dX6_putKnownNotes_3 : decode cX6_putKnownNotes 3 = .ok (.aload_n 0, 1) := by decide +kernel
theorem dX6_putKnownNotes_4 : decode cX6_putKnownNotes 4 = .ok (.getfield 50, 3) := by decide +kernel
theorem dX6_putKnownNotes_7 : decode cX6_putKnownNotes 7 = .ok (.arraylength, 1) := by decide +kernel
theorem dX6_putKnownNotes_8 : decode cX6_putKnownNotes 8 = .ok (.if_icmp .ge 46, 3) := by decide +kernel
theorem dX6_putKnownNotes_11 : decode cX6_putKnownNotes 11 = .ok (.aload_n 1, 1) := by decide +kernel
theorem dX6_putKnownNotes_12 : decode cX6_putKnownNotes 12 = .ok (.getfield 185, 3) := by decide +kernel
theorem dX6_putKnownNotes_15 : decode cX6_putKnownNotes 15 = .ok (.iload_n 3, 1) := by decide +kernel
theorem dX6_putKnownNotes_16 : decode cX6_putKnownNotes 16 = .ok (.aaload, 1) := by decide +kernel
theorem dX6_putKnownNotes_17 : decode cX6_putKnownNotes 17 = .ok (.astore 4, 2) := by decide +kernel
theorem dX6_putKnownNotes_19 : decode cX6_putKnownNotes 19 = .ok (.iload_n 3, 1) := by decide +kernel
theorem dX6_putKnownNotes_20 : decode cX6_putKnownNotes 20 = .ok (.aload_n 1, 1) := by decide +kernel
theorem dX6_putKnownNotes_21 : decode cX6_putKnownNotes 21 = .ok (.getfield 249, 3) := by decide +kernel
theorem dX6_putKnownNotes_24 : decode cX6_putKnownNotes 24 = .ok (.if_icmp .eq 24, 3) := by decide +kernel
theorem dX6_putKnownNotes_27 : decode cX6_putKnownNotes 27 = .ok (.aload 4, 2) := by decide +kernel
theorem dX6_putKnownNotes_29 : decode cX6_putKnownNotes 29 = .ok (.ifnull 19, 3) := by decide +kernel
theorem dX6_putKnownNotes_32 : decode cX6_putKnownNotes 32 = .ok (.aload_n 0, 1) := by decide +kernel
theorem dX6_putKnownNotes_33 : decode cX6_putKnownNotes 33 = .ok (.aload_n 1, 1) := by decide +kernel
theorem dX6_putKnownNotes_34 : decode cX6_putKnownNotes 34 = .ok (.iload_n 2, 1) := by decide +kernel
theorem dX6_putKnownNotes_35 : decode cX6_putKnownNotes 35 = .ok (.aload_n 0, 1) := by decide +kernel
theorem dX6_putKnownNotes_36 : decode cX6_putKnownNotes 36 = .ok (.getfield 35, 3) := by decide +kernel
theorem dX6_putKnownNotes_39 : decode cX6_putKnownNotes 39 = .ok (.aload 4, 2) := by decide +kernel
theorem dX6_putKnownNotes_41 : decode cX6_putKnownNotes 41 = .ok (.invokevirtual 265, 3) := by decide +kernel
theorem dX6_putKnownNotes_44 : decode cX6_putKnownNotes 44 = .ok (.invokevirtual 276, 3) := by decide +kernel
theorem dX6_putKnownNotes_47 : decode cX6_putKnownNotes 47 = .ok (.pop, 1) := by decide +kernel
theorem dX6_putKnownNotes_48 : decode cX6_putKnownNotes 48 = .ok (.iinc 3 1, 3) := by decide +kernel
theorem dX6_putKnownNotes_51 : decode cX6_putKnownNotes 51 = .ok (.goto (-49), 3) := by decide +kernel
theorem dX6_putKnownNotes_54 : decode cX6_putKnownNotes 54 = .ok (.return_, 1) := by decide +kernel
theorem dX6_putMappings_0 : decode cX6_putMappings 0 = .ok (.iconst 0, 1) := by decide +kernel
theorem dX6_putMappings_1 : decode cX6_putMappings 1 = .ok (.istore_n 3, 1) := by decide +kernel
theorem dX6_putMappings_2 : decode cX6_putMappings 2 = .ok (.iload_n 3, 1) := by decide +kernel
theorem dX6_putMappings_3 : decode cX6_putMappings 3 = .ok (.bipush 8, 2) := by decide +kernel
theorem dX6_putMappings_5 : decode cX6_putMappings 5 = .ok (.if_icmp .ge 47, 3) := by decide +kernel
theorem dX6_putMappings_8 : decode cX6_putMappings 8 = .ok (.aload_n 1, 1) := by decide +kernel
theorem dX6_putMappings_9 : decode cX6_putMappings 9 = .ok (.getfield 207, 3) := by decide +kernel
theorem dX6_putMappings_12 : decode cX6_putMappings 12 = .ok (.iload_n 3, 1) := by decide +kernel
theorem dX6_putMappings_13 : decode cX6_putMappings 13 = .ok (.iaload, 1) := by decide +kernel
theorem dX6_putMappings_14 : decode cX6_putMappings 14 = .ok (.iconst (-1), 1) := by decide +kernel
theorem dX6_putMappings_15 : decode cX6_putMappings 15 = .ok (.if_icmp .eq 31, 3) := by decide +kernel
theorem dX6_putMappings_18 : decode cX6_putMappings 18 = .ok (.aload_n 0, 1) := by decide +kernel
theorem dX6_putMappings_19 : decode cX6_putMappings 19 = .ok (.aload_n 1, 1) := by decide +kernel
theorem dX6_putMappings_20 : decode cX6_putMappings 20 = .ok (.iload_n 2, 1) := by decide +kernel
theorem dX6_putMappings_21 : decode cX6_putMappings 21 = .ok (.aload_n 0, 1) := by decide +kernel
theorem dX6_putMappings_22 : decode cX6_putMappings 22 = .ok (.getfield 35, 3) := by decide +kernel
theorem dX6_putMappings_25 : decode cX6_putMappings 25 = .ok (.iconst 1, 1) := by decide +kernel
theorem dX6_putMappings_26 : decode cX6_putMappings 26 = .ok (.iload_n 3, 1) := by decide +kernel
theorem dX6_putMappings_27 : decode cX6_putMappings 27 = .ok (.aload_n 1, 1) := by decide +kernel
theorem dX6_putMappings_28 : decode cX6_putMappings 28 = .ok (.getfield 207, 3) := by decide +kernel
theorem dX6_putMappings_31 : decode cX6_putMappings 31 = .ok (.iload_n 3, 1) := by decide +kernel
theorem dX6_putMappings_32 : decode cX6_putMappings 32 = .ok (.iaload, 1) := by decide +kernel
theorem dX6_putMappings_33 : decode cX6_putMappings 33 = .ok (.aload_n 1, 1) := by decide +kernel
theorem dX6_putMappings_34 : decode cX6_putMappings 34 = .ok (.getfield 210, 3) := by decide +kernel
theorem dX6_putMappings_37 : decode cX6_putMappings 37 = .ok (.iload_n 3, 1) := by decide +kernel
theorem dX6_putMappings_38 : decode cX6_putMappings 38 = .ok (.iaload, 1) := by decide +kernel
theorem dX6_putMappings_39 : decode cX6_putMappings 39 = .ok (.invokevirtual 280, 3) := by decide +kernel
theorem dX6_putMappings_42 : decode cX6_putMappings 42 = .ok (.invokevirtual 276, 3) := by decide +kernel
theorem dX6_putMappings_45 : decode cX6_putMappings 45 = .ok (.pop, 1) := by decide +kernel
theorem dX6_putMappings_46 : decode cX6_putMappings 46 = .ok (.iinc 3 1, 3) := by decide +kernel
theorem dX6_putMappings_49 : decode cX6_putMappings 49 = .ok (.goto (-47), 3) := by decide +kernel
theorem dX6_putMappings_52 : decode cX6_putMappings 52 = .ok (.return_, 1) := by decide +kernel
theorem dX6_learn_0 : decode cX6_learn 0 = .ok (.aload_n 1, 1) := by decide +kernel
theorem dX6_learn_1 : decode cX6_learn 1 = .ok (.getfield 185, 3) := by decide +kernel
theorem dX6_learn_4 : decode cX6_learn 4 = .ok (.aload_n 2, 1) := by decide +kernel
theorem dX6_learn_5 : decode cX6_learn 5 = .ok (.getfield 284, 3) := by decide +kernel
theorem dX6_learn_8 : decode cX6_learn 8 = .ok (.aload_n 2, 1) := by decide +kernel
theorem dX6_learn_9 : decode cX6_learn 9 = .ok (.aastore, 1) := by decide +kernel
theorem dX6_learn_10 : decode cX6_learn 10 = .ok (.aload_n 1, 1) := by decide +kernel
theorem dX6_learn_11 : decode cX6_learn 11 = .ok (.invokevirtual 285, 3) := by decide +kernel
theorem dX6_learn_14 : decode cX6_learn 14 = .ok (.iconst 0, 1) := by decide +kernel
theorem dX6_learn_15 : decode cX6_learn 15 = .ok (.istore_n 3, 1) := by decide +kernel
theorem dX6_learn_16 : decode cX6_learn 16 = .ok (.iload_n 3, 1) := by decide +kernel
theorem dX6_learn_17 : decode cX6_learn 17 = .ok (.bipush 12, 2) := by decide +kernel
theorem dX6_learn_19 : decode cX6_learn 19 = .ok (.if_icmp .ge 70, 3) := by decide +kernel
theorem dX6_learn_22 : decode cX6_learn 22 = .ok (.aload_n 0, 1) := by decide +kernel
theorem dX6_learn_23 : decode cX6_learn 23 = .ok (.getfield 11, 3) := by decide +kernel
theorem dX6_learn_26 : decode cX6_learn 26 = .ok (.iload_n 3, 1) := by decide +kernel
theorem dX6_learn_27 : decode cX6_learn 27 = .ok (.aaload, 1) := by decide +kernel
theorem dX6_learn_28 : decode cX6_learn 28 = .ok (.astore 4, 2) := by decide +kernel
theorem dX6_learn_30 : decode cX6_learn 30 = .ok (.aload 4, 2) := by decide +kernel
theorem dX6_learn_32 : decode cX6_learn 32 = .ok (.getfield 72, 3) := by decide +kernel
theorem dX6_learn_35 : decode cX6_learn 35 = .ok (.ifCond .eq 48, 3) := by decide +kernel
theorem dX6_learn_38 : decode cX6_learn 38 = .ok (.aload_n 1, 1) := by decide +kernel
theorem dX6_learn_39 : decode cX6_learn 39 = .ok (.aload 4, 2) := by decide +kernel
theorem dX6_learn_41 : decode cX6_learn 41 = .ok (.getfield 81, 3) := by decide +kernel
theorem dX6_learn_44 : decode cX6_learn 44 = .ok (.iload_n 3, 1) := by decide +kernel
theorem dX6_learn_45 : decode cX6_learn 45 = .ok (.invokevirtual 288, 3) := by decide +kernel
theorem dX6_learn_48 : decode cX6_learn 48 = .ok (.ifCond .eq 35, 3) := by decide +kernel
theorem dX6_learn_51 : decode cX6_learn 51 = .ok (.aload_n 1, 1) := by decide +kernel
theorem dX6_learn_52 : decode cX6_learn 52 = .ok (.aload 4, 2) := by decide +kernel
theorem dX6_learn_54 : decode cX6_learn 54 = .ok (.getfield 84, 3) := by decide +kernel
theorem dX6_learn_57 : decode cX6_learn 57 = .ok (.iload_n 3, 1) := by decide +kernel
theorem dX6_learn_58 : decode cX6_learn 58 = .ok (.invokevirtual 288, 3) := by decide +kernel
theorem dX6_learn_61 : decode cX6_learn 61 = .ok (.ifCond .eq 22, 3) := by decide +kernel
theorem dX6_learn_64 : decode cX6_learn 64 = .ok (.aload_n 1, 1) := by decide +kernel
theorem dX6_learn_65 : decode cX6_learn 65 = .ok (.aload 4, 2) := by decide +kernel
theorem dX6_learn_67 : decode cX6_learn 67 = .ok (.getfield 81, 3) := by decide +kernel
theorem dX6_learn_70 : decode cX6_learn 70 = .ok (.aload 4, 2) := by decide +kernel
theorem dX6_learn_72 : decode cX6_learn 72 = .ok (.getfield 84, 3) := by decide +kernel
theorem dX6_learn_75 : decode cX6_learn 75 = .ok (.aload 4, 2) := by decide +kernel
theorem dX6_learn_77 : decode cX6_learn 77 = .ok (.getfield 87, 3) := by decide +kernel
theorem dX6_learn_80 : decode cX6_learn 80 = .ok (.invokevirtual 292, 3) := by decide +kernel
theorem dX6_learn_83 : decode cX6_learn 83 = .ok (.iinc 3 1, 3) := by decide +kernel
theorem dX6_learn_86 : decode cX6_learn 86 = .ok (.goto (-70), 3) := by decide +kernel
theorem dX6_learn_89 : decode cX6_learn 89 = .ok (.aload_n 1, 1) := by decide +kernel
theorem dX6_learn_90 : decode cX6_learn 90 = .ok (.invokevirtual 296, 3) := by decide +kernel
theorem dX6_learn_93 : decode cX6_learn 93 = .ok (.return_, 1) := by decide +kernel
theorem dX6_hop_0 : decode cX6_hop 0 = .ok (.aload_n 1, 1) := by decide +kernel
theorem dX6_hop_1 : decode cX6_hop 1 = .ok (.getfield 194, 3) := by decide +kernel
theorem dX6_hop_4 : decode cX6_hop 4 = .ok (.aload_n 1, 1) := by decide +kernel
theorem dX6_hop_5 : decode cX6_hop 5 = .ok (.getfield 249, 3) := by decide +kernel
theorem dX6_hop_8 : decode cX6_hop 8 = .ok (.aaload, 1) := by decide +kernel
theorem dX6_hop_9 : decode cX6_hop 9 = .ok (.iload_n 2, 1) := by decide +kernel
theorem dX6_hop_10 : decode cX6_hop 10 = .ok (.iaload, 1) := by decide +kernel
theorem dX6_hop_11 : decode cX6_hop 11 = .ok (.istore_n 3, 1) := by decide +kernel
theorem dX6_hop_12 : decode cX6_hop 12 = .ok (.iload_n 2, 1) := by decide +kernel
theorem dX6_hop_13 : decode cX6_hop 13 = .ok (.aload_n 1, 1) := by decide +kernel
theorem dX6_hop_14 : decode cX6_hop 14 = .ok (.getfield 249, 3) := by decide +kernel
theorem dX6_hop_17 : decode cX6_hop 17 = .ok (.if_icmp .eq 9, 3) := by decide +kernel
theorem dX6_hop_20 : decode cX6_hop 20 = .ok (.iload_n 3, 1) := by decide +kernel
theorem dX6_hop_21 : decode cX6_hop 21 = .ok (.ldc 198, 2) := by decide +kernel
theorem dX6_hop_23 : decode cX6_hop 23 = .ok (.if_icmp .lt 5, 3) := by decide +kernel
theorem dX6_hop_26 : decode cX6_hop 26 = .ok (.iconst (-1), 1) := by decide +kernel
theorem dX6_hop_27 : decode cX6_hop 27 = .ok (.ireturn, 1) := by decide +kernel
theorem dX6_hop_28 : decode cX6_hop 28 = .ok (.iconst 0, 1) := by decide +kernel
theorem dX6_hop_29 : decode cX6_hop 29 = .ok (.istore 4, 2) := by decide +kernel
theorem dX6_hop_31 : decode cX6_hop 31 = .ok (.iload 4, 2) := by decide +kernel
theorem dX6_hop_33 : decode cX6_hop 33 = .ok (.bipush 12, 2) := by decide +kernel
theorem dX6_hop_35 : decode cX6_hop 35 = .ok (.if_icmp .ge 72, 3) := by decide +kernel
theorem dX6_hop_38 : decode cX6_hop 38 = .ok (.aload_n 0, 1) := by decide +kernel
theorem dX6_hop_39 : decode cX6_hop 39 = .ok (.getfield 11, 3) := by decide +kernel
theorem dX6_hop_42 : decode cX6_hop 42 = .ok (.iload 4, 2) := by decide +kernel
theorem dX6_hop_44 : decode cX6_hop 44 = .ok (.aaload, 1) := by decide +kernel
theorem dX6_hop_45 : decode cX6_hop 45 = .ok (.astore 5, 2) := by decide +kernel
theorem dX6_hop_47 : decode cX6_hop 47 = .ok (.aload 5, 2) := by decide +kernel
theorem dX6_hop_49 : decode cX6_hop 49 = .ok (.aload_n 1, 1) := by decide +kernel
theorem dX6_hop_50 : decode cX6_hop 50 = .ok (.getfield 249, 3) := by decide +kernel
theorem dX6_hop_53 : decode cX6_hop 53 = .ok (.invokevirtual 273, 3) := by decide +kernel
theorem dX6_hop_56 : decode cX6_hop 56 = .ok (.ifCond .eq 45, 3) := by decide +kernel
theorem dX6_hop_59 : decode cX6_hop 59 = .ok (.aload_n 1, 1) := by decide +kernel
theorem dX6_hop_60 : decode cX6_hop 60 = .ok (.aload_n 1, 1) := by decide +kernel
theorem dX6_hop_61 : decode cX6_hop 61 = .ok (.getfield 249, 3) := by decide +kernel
theorem dX6_hop_64 : decode cX6_hop 64 = .ok (.iload 4, 2) := by decide +kernel
theorem dX6_hop_66 : decode cX6_hop 66 = .ok (.invokevirtual 288, 3) := by decide +kernel
theorem dX6_hop_69 : decode cX6_hop 69 = .ok (.ifCond .eq 32, 3) := by decide +kernel
theorem dX6_hop_72 : decode cX6_hop 72 = .ok (.aload 5, 2) := by decide +kernel
theorem dX6_hop_74 : decode cX6_hop 74 = .ok (.getfield 87, 3) := by decide +kernel
theorem dX6_hop_77 : decode cX6_hop 77 = .ok (.aload_n 1, 1) := by decide +kernel
theorem dX6_hop_78 : decode cX6_hop 78 = .ok (.getfield 194, 3) := by decide +kernel
theorem dX6_hop_81 : decode cX6_hop 81 = .ok (.aload 5, 2) := by decide +kernel
theorem dX6_hop_83 : decode cX6_hop 83 = .ok (.aload_n 1, 1) := by decide +kernel
theorem dX6_hop_84 : decode cX6_hop 84 = .ok (.getfield 249, 3) := by decide +kernel
theorem dX6_hop_87 : decode cX6_hop 87 = .ok (.invokevirtual 299, 3) := by decide +kernel
theorem dX6_hop_90 : decode cX6_hop 90 = .ok (.aaload, 1) := by decide +kernel
theorem dX6_hop_91 : decode cX6_hop 91 = .ok (.iload_n 2, 1) := by decide +kernel
theorem dX6_hop_92 : decode cX6_hop 92 = .ok (.iaload, 1) := by decide +kernel
theorem dX6_hop_93 : decode cX6_hop 93 = .ok (.iadd, 1) := by decide +kernel
theorem dX6_hop_94 : decode cX6_hop 94 = .ok (.iload_n 3, 1) := by decide +kernel
theorem dX6_hop_95 : decode cX6_hop 95 = .ok (.if_icmp .ne 6, 3) := by decide +kernel
theorem dX6_hop_98 : decode cX6_hop 98 = .ok (.iload 4, 2) := by decide +kernel
theorem dX6_hop_100 : decode cX6_hop 100 = .ok (.ireturn, 1) := by decide +kernel
theorem dX6_hop_101 : decode cX6_hop 101 = .ok (.iinc 4 1, 3) := by decide +kernel
theorem dX6_hop_104 : decode cX6_hop 104 = .ok (.goto (-73), 3) := by decide +kernel
theorem dX6_hop_107 : decode cX6_hop 107 = .ok (.iconst (-1), 1) := by decide +kernel
theorem dX6_hop_108 : decode cX6_hop 108 = .ok (.ireturn, 1) := by decide +kernel
theorem dX6_hopToEgress_0 : decode cX6_hopToEgress 0 = .ok (.aload_n 1, 1) := by decide +kernel
theorem dX6_hopToEgress_1 : decode cX6_hopToEgress 1 = .ok (.iload_n 2, 1) := by decide +kernel
theorem dX6_hopToEgress_2 : decode cX6_hopToEgress 2 = .ok (.invokevirtual 203, 3) := by decide +kernel
theorem dX6_hopToEgress_5 : decode cX6_hopToEgress 5 = .ok (.istore_n 3, 1) := by decide +kernel
theorem dX6_hopToEgress_6 : decode cX6_hopToEgress 6 = .ok (.iload_n 3, 1) := by decide +kernel
theorem dX6_hopToEgress_7 : decode cX6_hopToEgress 7 = .ok (.iconst (-1), 1) := by decide +kernel
theorem dX6_hopToEgress_8 : decode cX6_hopToEgress 8 = .ok (.if_icmp .ne 7, 3) := by decide +kernel
theorem dX6_hopToEgress_11 : decode cX6_hopToEgress 11 = .ok (.iconst (-1), 1) := by decide +kernel
theorem dX6_hopToEgress_12 : decode cX6_hopToEgress 12 = .ok (.goto 9, 3) := by decide +kernel
theorem dX6_hopToEgress_15 : decode cX6_hopToEgress 15 = .ok (.aload_n 0, 1) := by decide +kernel
theorem dX6_hopToEgress_16 : decode cX6_hopToEgress 16 = .ok (.aload_n 1, 1) := by decide +kernel
theorem dX6_hopToEgress_17 : decode cX6_hopToEgress 17 = .ok (.iload_n 3, 1) := by decide +kernel
theorem dX6_hopToEgress_18 : decode cX6_hopToEgress 18 = .ok (.invokevirtual 199, 3) := by decide +kernel
theorem dX6_hopToEgress_21 : decode cX6_hopToEgress 21 = .ok (.ireturn, 1) := by decide +kernel
theorem dX6_sendOnAll_0 : decode cX6_sendOnAll 0 = .ok (.iconst 0, 1) := by decide +kernel
theorem dX6_sendOnAll_1 : decode cX6_sendOnAll 1 = .ok (.istore 4, 2) := by decide +kernel
theorem dX6_sendOnAll_3 : decode cX6_sendOnAll 3 = .ok (.iload 4, 2) := by decide +kernel
theorem dX6_sendOnAll_5 : decode cX6_sendOnAll 5 = .ok (.bipush 12, 2) := by decide +kernel
theorem dX6_sendOnAll_7 : decode cX6_sendOnAll 7 = .ok (.if_icmp .ge 41, 3) := by decide +kernel
theorem dX6_sendOnAll_10 : decode cX6_sendOnAll 10 = .ok (.iload 4, 2) := by decide +kernel
theorem dX6_sendOnAll_12 : decode cX6_sendOnAll 12 = .ok (.iload_n 3, 1) := by decide +kernel
theorem dX6_sendOnAll_13 : decode cX6_sendOnAll 13 = .ok (.if_icmp .eq 29, 3) := by decide +kernel
theorem dX6_sendOnAll_16 : decode cX6_sendOnAll 16 = .ok (.aload_n 0, 1) := by decide +kernel
theorem dX6_sendOnAll_17 : decode cX6_sendOnAll 17 = .ok (.getfield 11, 3) := by decide +kernel
theorem dX6_sendOnAll_20 : decode cX6_sendOnAll 20 = .ok (.iload 4, 2) := by decide +kernel
theorem dX6_sendOnAll_22 : decode cX6_sendOnAll 22 = .ok (.aaload, 1) := by decide +kernel
theorem dX6_sendOnAll_23 : decode cX6_sendOnAll 23 = .ok (.aload_n 1, 1) := by decide +kernel
theorem dX6_sendOnAll_24 : decode cX6_sendOnAll 24 = .ok (.getfield 249, 3) := by decide +kernel
theorem dX6_sendOnAll_27 : decode cX6_sendOnAll 27 = .ok (.invokevirtual 273, 3) := by decide +kernel
theorem dX6_sendOnAll_30 : decode cX6_sendOnAll 30 = .ok (.ifCond .eq 12, 3) := by decide +kernel
theorem dX6_sendOnAll_33 : decode cX6_sendOnAll 33 = .ok (.aload_n 0, 1) := by decide +kernel
theorem dX6_sendOnAll_34 : decode cX6_sendOnAll 34 = .ok (.aload_n 1, 1) := by decide +kernel
theorem dX6_sendOnAll_35 : decode cX6_sendOnAll 35 = .ok (.iload 4, 2) := by decide +kernel
theorem dX6_sendOnAll_37 : decode cX6_sendOnAll 37 = .ok (.aload_n 2, 1) := by decide +kernel
theorem dX6_sendOnAll_38 : decode cX6_sendOnAll 38 = .ok (.invokevirtual 276, 3) := by decide +kernel
theorem dX6_sendOnAll_41 : decode cX6_sendOnAll 41 = .ok (.pop, 1) := by decide +kernel
theorem dX6_sendOnAll_42 : decode cX6_sendOnAll 42 = .ok (.iinc 4 1, 3) := by decide +kernel
theorem dX6_sendOnAll_45 : decode cX6_sendOnAll 45 = .ok (.goto (-42), 3) := by decide +kernel
theorem dX6_sendOnAll_48 : decode cX6_sendOnAll 48 = .ok (.return_, 1) := by decide +kernel
theorem dX6_put_0 : decode cX6_put 0 = .ok (.aload_n 3, 1) := by decide +kernel
theorem dX6_put_1 : decode cX6_put 1 = .ok (.getfield 246, 3) := by decide +kernel
theorem dX6_put_4 : decode cX6_put 4 = .ok (.iconst 1, 1) := by decide +kernel
theorem dX6_put_5 : decode cX6_put 5 = .ok (.if_icmp .ne 28, 3) := by decide +kernel
theorem dX6_put_8 : decode cX6_put 8 = .ok (.aload_n 3, 1) := by decide +kernel
theorem dX6_put_9 : decode cX6_put 9 = .ok (.getfield 179, 3) := by decide +kernel
theorem dX6_put_12 : decode cX6_put 12 = .ok (.invokestatic 302, 3) := by decide +kernel
theorem dX6_put_15 : decode cX6_put 15 = .ok (.ifCond .eq 18, 3) := by decide +kernel
theorem dX6_put_18 : decode cX6_put 18 = .ok (.aload_n 1, 1) := by decide +kernel
theorem dX6_put_19 : decode cX6_put 19 = .ok (.getfield 305, 3) := by decide +kernel
theorem dX6_put_22 : decode cX6_put 22 = .ok (.aload_n 3, 1) := by decide +kernel
theorem dX6_put_23 : decode cX6_put 23 = .ok (.getfield 179, 3) := by decide +kernel
theorem dX6_put_26 : decode cX6_put 26 = .ok (.dup2, 1) := by decide +kernel
theorem dX6_put_27 : decode cX6_put 27 = .ok (.iaload, 1) := by decide +kernel
theorem dX6_put_28 : decode cX6_put 28 = .ok (.iconst 1, 1) := by decide +kernel
theorem dX6_put_29 : decode cX6_put 29 = .ok (.iload_n 2, 1) := by decide +kernel
theorem dX6_put_30 : decode cX6_put 30 = .ok (.ishl, 1) := by decide +kernel
theorem dX6_put_31 : decode cX6_put 31 = .ok (.ior, 1) := by decide +kernel
theorem dX6_put_32 : decode cX6_put 32 = .ok (.iastore, 1) := by decide +kernel
theorem dX6_put_33 : decode cX6_put 33 = .ok (.aload_n 0, 1) := by decide +kernel
theorem dX6_put_34 : decode cX6_put 34 = .ok (.getfield 11, 3) := by decide +kernel
theorem dX6_put_37 : decode cX6_put 37 = .ok (.iload_n 2, 1) := by decide +kernel
theorem dX6_put_38 : decode cX6_put 38 = .ok (.aaload, 1) := by decide +kernel
theorem dX6_put_39 : decode cX6_put 39 = .ok (.aload_n 1, 1) := by decide +kernel
theorem dX6_put_40 : decode cX6_put 40 = .ok (.getfield 249, 3) := by decide +kernel
theorem dX6_put_43 : decode cX6_put 43 = .ok (.invokevirtual 308, 3) := by decide +kernel
theorem dX6_put_46 : decode cX6_put 46 = .ok (.invokevirtual 312, 3) := by decide +kernel
theorem dX6_put_49 : decode cX6_put 49 = .ok (.astore 4, 2) := by decide +kernel
theorem dX6_put_51 : decode cX6_put 51 = .ok (.aload 4, 2) := by decide +kernel
theorem dX6_put_53 : decode cX6_put 53 = .ok (.ifnonnull 23, 3) := by decide +kernel
theorem dX6_put_56 : decode cX6_put 56 = .ok (.aload_n 3, 1) := by decide +kernel
theorem dX6_put_57 : decode cX6_put 57 = .ok (.getfield 246, 3) := by decide +kernel
theorem dX6_put_60 : decode cX6_put 60 = .ok (.iconst 4, 1) := by decide +kernel
theorem dX6_put_61 : decode cX6_put 61 = .ok (.if_icmp .eq 13, 3) := by decide +kernel
theorem dX6_put_64 : decode cX6_put 64 = .ok (.aload_n 0, 1) := by decide +kernel
theorem dX6_put_65 : decode cX6_put 65 = .ok (.dup, 1) := by decide +kernel
theorem dX6_put_66 : decode cX6_put 66 = .ok (.getfield 29, 3) := by decide +kernel
theorem dX6_put_69 : decode cX6_put 69 = .ok (.iconst 1, 1) := by decide +kernel
theorem dX6_put_70 : decode cX6_put 70 = .ok (.iadd, 1) := by decide +kernel
theorem dX6_put_71 : decode cX6_put 71 = .ok (.putfield 29, 3) := by decide +kernel
theorem dX6_put_74 : decode cX6_put 74 = .ok (.iconst 0, 1) := by decide +kernel
theorem dX6_put_75 : decode cX6_put 75 = .ok (.ireturn, 1) := by decide +kernel
theorem dX6_put_76 : decode cX6_put 76 = .ok (.aload 4, 2) := by decide +kernel
theorem dX6_put_78 : decode cX6_put 78 = .ok (.aload_n 3, 1) := by decide +kernel
theorem dX6_put_79 : decode cX6_put 79 = .ok (.invokevirtual 316, 3) := by decide +kernel
theorem dX6_put_82 : decode cX6_put 82 = .ok (.iconst 1, 1) := by decide +kernel
theorem dX6_put_83 : decode cX6_put 83 = .ok (.ireturn, 1) := by decide +kernel
theorem dX6_firstThatWaits_0 : decode cX6_firstThatWaits 0 = .ok (.iconst 0, 1) := by decide +kernel
theorem dX6_firstThatWaits_1 : decode cX6_firstThatWaits 1 = .ok (.istore_n 1, 1) := by decide +kernel
theorem dX6_firstThatWaits_2 : decode cX6_firstThatWaits 2 = .ok (.iload_n 1, 1) := by decide +kernel
theorem dX6_firstThatWaits_3 : decode cX6_firstThatWaits 3 = .ok (.bipush 12, 2) := by decide +kernel
theorem dX6_firstThatWaits_5 : decode cX6_firstThatWaits 5 = .ok (.if_icmp .ge 45, 3) := by decide +kernel
theorem dX6_firstThatWaits_8 : decode cX6_firstThatWaits 8 = .ok (.iconst 0, 1) := by decide +kernel
theorem dX6_firstThatWaits_9 : decode cX6_firstThatWaits 9 = .ok (.istore_n 2, 1) := by decide +kernel
theorem dX6_firstThatWaits_10 : decode cX6_firstThatWaits 10 = .ok (.iload_n 2, 1) := by decide +kernel
theorem dX6_firstThatWaits_11 : decode cX6_firstThatWaits 11 = .ok (.iconst 2, 1) := by decide +kernel
theorem dX6_firstThatWaits_12 : decode cX6_firstThatWaits 12 = .ok (.if_icmp .ge 32, 3) := by decide +kernel
theorem dX6_firstThatWaits_15 : decode cX6_firstThatWaits 15 = .ok (.aload_n 0, 1) := by decide +kernel
theorem dX6_firstThatWaits_16 : decode cX6_firstThatWaits 16 = .ok (.getfield 11, 3) := by decide +kernel
theorem dX6_firstThatWaits_19 : decode cX6_firstThatWaits 19 = .ok (.iload_n 1, 1) := by decide +kernel
theorem dX6_firstThatWaits_20 : decode cX6_firstThatWaits 20 = .ok (.aaload, 1) := by decide +kernel
theorem dX6_firstThatWaits_21 : decode cX6_firstThatWaits 21 = .ok (.getfield 131, 3) := by decide +kernel
theorem dX6_firstThatWaits_24 : decode cX6_firstThatWaits 24 = .ok (.iload_n 2, 1) := by decide +kernel
theorem dX6_firstThatWaits_25 : decode cX6_firstThatWaits 25 = .ok (.aaload, 1) := by decide +kernel
theorem dX6_firstThatWaits_26 : decode cX6_firstThatWaits 26 = .ok (.getfield 170, 3) := by decide +kernel
theorem dX6_firstThatWaits_29 : decode cX6_firstThatWaits 29 = .ok (.ifCond .le 9, 3) := by decide +kernel
theorem dX6_firstThatWaits_32 : decode cX6_firstThatWaits 32 = .ok (.iload_n 1, 1) := by decide +kernel
theorem dX6_firstThatWaits_33 : decode cX6_firstThatWaits 33 = .ok (.iconst 2, 1) := by decide +kernel
theorem dX6_firstThatWaits_34 : decode cX6_firstThatWaits 34 = .ok (.imul, 1) := by decide +kernel
theorem dX6_firstThatWaits_35 : decode cX6_firstThatWaits 35 = .ok (.iload_n 2, 1) := by decide +kernel
theorem dX6_firstThatWaits_36 : decode cX6_firstThatWaits 36 = .ok (.iadd, 1) := by decide +kernel
theorem dX6_firstThatWaits_37 : decode cX6_firstThatWaits 37 = .ok (.ireturn, 1) := by decide +kernel
theorem dX6_firstThatWaits_38 : decode cX6_firstThatWaits 38 = .ok (.iinc 2 1, 3) := by decide +kernel
theorem dX6_firstThatWaits_41 : decode cX6_firstThatWaits 41 = .ok (.goto (-31), 3) := by decide +kernel
theorem dX6_firstThatWaits_44 : decode cX6_firstThatWaits 44 = .ok (.iinc 1 1, 3) := by decide +kernel
theorem dX6_firstThatWaits_47 : decode cX6_firstThatWaits 47 = .ok (.goto (-45), 3) := by decide +kernel
theorem dX6_firstThatWaits_50 : decode cX6_firstThatWaits 50 = .ok (.iconst (-1), 1) := by decide +kernel
theorem dX6_firstThatWaits_51 : decode cX6_firstThatWaits 51 = .ok (.ireturn, 1) := by decide +kernel
theorem dX6_handOver_0 : decode cX6_handOver 0 = .ok (.aload_n 0, 1) := by decide +kernel
theorem dX6_handOver_1 : decode cX6_handOver 1 = .ok (.getfield 11, 3) := by decide +kernel
theorem dX6_handOver_4 : decode cX6_handOver 4 = .ok (.iload_n 1, 1) := by decide +kernel
theorem dX6_handOver_5 : decode cX6_handOver 5 = .ok (.aaload, 1) := by decide +kernel
theorem dX6_handOver_6 : decode cX6_handOver 6 = .ok (.getfield 131, 3) := by decide +kernel
theorem dX6_handOver_9 : decode cX6_handOver 9 = .ok (.iload_n 2, 1) := by decide +kernel
theorem dX6_handOver_10 : decode cX6_handOver 10 = .ok (.aaload, 1) := by decide +kernel
theorem dX6_handOver_11 : decode cX6_handOver 11 = .ok (.astore_n 3, 1) := by decide +kernel
theorem dX6_handOver_12 : decode cX6_handOver 12 = .ok (.aload_n 3, 1) := by decide +kernel
theorem dX6_handOver_13 : decode cX6_handOver 13 = .ok (.iconst 0, 1) := by decide +kernel
theorem dX6_handOver_14 : decode cX6_handOver 14 = .ok (.invokevirtual 135, 3) := by decide +kernel
theorem dX6_handOver_17 : decode cX6_handOver 17 = .ok (.astore 4, 2) := by decide +kernel
theorem dX6_handOver_19 : decode cX6_handOver 19 = .ok (.aload 4, 2) := by decide +kernel
theorem dX6_handOver_21 : decode cX6_handOver 21 = .ok (.ifnonnull 5, 3) := by decide +kernel
theorem dX6_handOver_24 : decode cX6_handOver 24 = .ok (.iconst (-1), 1) := by decide +kernel
theorem dX6_handOver_25 : decode cX6_handOver 25 = .ok (.ireturn, 1) := by decide +kernel
theorem dX6_handOver_26 : decode cX6_handOver 26 = .ok (.aload_n 3, 1) := by decide +kernel
theorem dX6_handOver_27 : decode cX6_handOver 27 = .ok (.invokevirtual 320, 3) := by decide +kernel
theorem dX6_handOver_30 : decode cX6_handOver 30 = .ok (.aload 4, 2) := by decide +kernel
theorem dX6_handOver_32 : decode cX6_handOver 32 = .ok (.getfield 141, 3) := by decide +kernel
theorem dX6_handOver_35 : decode cX6_handOver 35 = .ok (.ifCond .eq 33, 3) := by decide +kernel
theorem dX6_handOver_38 : decode cX6_handOver 38 = .ok (.aload 4, 2) := by decide +kernel
theorem dX6_handOver_40 : decode cX6_handOver 40 = .ok (.getfield 246, 3) := by decide +kernel
theorem dX6_handOver_43 : decode cX6_handOver 43 = .ok (.iconst 4, 1) := by decide +kernel
theorem dX6_handOver_44 : decode cX6_handOver 44 = .ok (.if_icmp .ne 18, 3) := by decide +kernel
theorem dX6_handOver_47 : decode cX6_handOver 47 = .ok (.aload_n 0, 1) := by decide +kernel
theorem dX6_handOver_48 : decode cX6_handOver 48 = .ok (.getfield 21, 3) := by decide +kernel
theorem dX6_handOver_51 : decode cX6_handOver 51 = .ok (.aload 4, 2) := by decide +kernel
theorem dX6_handOver_53 : decode cX6_handOver 53 = .ok (.getfield 176, 3) := by decide +kernel
theorem dX6_handOver_56 : decode cX6_handOver 56 = .ok (.aaload, 1) := by decide +kernel
theorem dX6_handOver_57 : decode cX6_handOver 57 = .ok (.bipush 7, 2) := by decide +kernel
theorem dX6_handOver_59 : decode cX6_handOver 59 = .ok (.putfield 155, 3) := by decide +kernel
theorem dX6_handOver_62 : decode cX6_handOver 62 = .ok (.aload 4, 2) := by decide +kernel
theorem dX6_handOver_64 : decode cX6_handOver 64 = .ok (.invokevirtual 173, 3) := by decide +kernel
theorem dX6_handOver_67 : decode cX6_handOver 67 = .ok (.ireturn, 1) := by decide +kernel
theorem dX6_handOver_68 : decode cX6_handOver 68 = .ok (.aload_n 0, 1) := by decide +kernel
theorem dX6_handOver_69 : decode cX6_handOver 69 = .ok (.getfield 50, 3) := by decide +kernel
theorem dX6_handOver_72 : decode cX6_handOver 72 = .ok (.iload_n 2, 1) := by decide +kernel
theorem dX6_handOver_73 : decode cX6_handOver 73 = .ok (.ifCond .ne 15, 3) := by decide +kernel
theorem dX6_handOver_76 : decode cX6_handOver 76 = .ok (.aload_n 0, 1) := by decide +kernel
theorem dX6_handOver_77 : decode cX6_handOver 77 = .ok (.getfield 11, 3) := by decide +kernel
theorem dX6_handOver_80 : decode cX6_handOver 80 = .ok (.iload_n 1, 1) := by decide +kernel
theorem dX6_handOver_81 : decode cX6_handOver 81 = .ok (.aaload, 1) := by decide +kernel
theorem dX6_handOver_82 : decode cX6_handOver 82 = .ok (.getfield 84, 3) := by decide +kernel
theorem dX6_handOver_85 : decode cX6_handOver 85 = .ok (.goto 12, 3) := by decide +kernel
theorem dX6_handOver_88 : decode cX6_handOver 88 = .ok (.aload_n 0, 1) := by decide +kernel
theorem dX6_handOver_89 : decode cX6_handOver 89 = .ok (.getfield 11, 3) := by decide +kernel
theorem dX6_handOver_92 : decode cX6_handOver 92 = .ok (.iload_n 1, 1) := by decide +kernel
theorem dX6_handOver_93 : decode cX6_handOver 93 = .ok (.aaload, 1) := by decide +kernel
theorem dX6_handOver_94 : decode cX6_handOver 94 = .ok (.getfield 81, 3) := by decide +kernel
theorem dX6_handOver_97 : decode cX6_handOver 97 = .ok (.aaload, 1) := by decide +kernel
theorem dX6_handOver_98 : decode cX6_handOver 98 = .ok (.astore 5, 2) := by decide +kernel
theorem dX6_handOver_100 : decode cX6_handOver 100 = .ok (.iconst 1, 1) := by decide +kernel
theorem dX6_handOver_101 : decode cX6_handOver 101 = .ok (.istore 6, 2) := by decide +kernel
theorem dX6_handOver_103 : decode cX6_handOver 103 = .ok (.aload 4, 2) := by decide +kernel
theorem dX6_handOver_105 : decode cX6_handOver 105 = .ok (.getfield 246, 3) := by decide +kernel
theorem dX6_handOver_108 : decode cX6_handOver 108 = .ok (.tableswitch 94 0 3 #[32, 49, 61, 73], 32) := by decide +kernel
theorem dX6_handOver_140 : decode cX6_handOver 140 = .ok (.aload_n 0, 1) := by decide +kernel
theorem dX6_handOver_141 : decode cX6_handOver 141 = .ok (.aload 5, 2) := by decide +kernel
theorem dX6_handOver_143 : decode cX6_handOver 143 = .ok (.iload_n 1, 1) := by decide +kernel
theorem dX6_handOver_144 : decode cX6_handOver 144 = .ok (.aload 4, 2) := by decide +kernel
theorem dX6_handOver_146 : decode cX6_handOver 146 = .ok (.getfield 323, 3) := by decide +kernel
theorem dX6_handOver_149 : decode cX6_handOver 149 = .ok (.invokevirtual 327, 3) := by decide +kernel
theorem dX6_handOver_152 : decode cX6_handOver 152 = .ok (.istore 6, 2) := by decide +kernel
theorem dX6_handOver_154 : decode cX6_handOver 154 = .ok (.goto 67, 3) := by decide +kernel
theorem dX6_handOver_157 : decode cX6_handOver 157 = .ok (.aload_n 0, 1) := by decide +kernel
theorem dX6_handOver_158 : decode cX6_handOver 158 = .ok (.aload 5, 2) := by decide +kernel
theorem dX6_handOver_160 : decode cX6_handOver 160 = .ok (.iload_n 1, 1) := by decide +kernel
theorem dX6_handOver_161 : decode cX6_handOver 161 = .ok (.aload 4, 2) := by decide +kernel
theorem dX6_handOver_163 : decode cX6_handOver 163 = .ok (.invokevirtual 331, 3) := by decide +kernel
theorem dX6_handOver_166 : decode cX6_handOver 166 = .ok (.goto 55, 3) := by decide +kernel
theorem dX6_handOver_169 : decode cX6_handOver 169 = .ok (.aload_n 0, 1) := by decide +kernel
theorem dX6_handOver_170 : decode cX6_handOver 170 = .ok (.aload 5, 2) := by decide +kernel
theorem dX6_handOver_172 : decode cX6_handOver 172 = .ok (.iload_n 1, 1) := by decide +kernel
theorem dX6_handOver_173 : decode cX6_handOver 173 = .ok (.aload 4, 2) := by decide +kernel
theorem dX6_handOver_175 : decode cX6_handOver 175 = .ok (.invokevirtual 335, 3) := by decide +kernel
theorem dX6_handOver_178 : decode cX6_handOver 178 = .ok (.goto 43, 3) := by decide +kernel
theorem dX6_handOver_181 : decode cX6_handOver 181 = .ok (.aload 5, 2) := by decide +kernel
theorem dX6_handOver_183 : decode cX6_handOver 183 = .ok (.aload 4, 2) := by decide +kernel
theorem dX6_handOver_185 : decode cX6_handOver 185 = .ok (.getfield 176, 3) := by decide +kernel
theorem dX6_handOver_188 : decode cX6_handOver 188 = .ok (.aload 4, 2) := by decide +kernel
theorem dX6_handOver_190 : decode cX6_handOver 190 = .ok (.getfield 179, 3) := by decide +kernel
theorem dX6_handOver_193 : decode cX6_handOver 193 = .ok (.iload_n 1, 1) := by decide +kernel
theorem dX6_handOver_194 : decode cX6_handOver 194 = .ok (.invokevirtual 338, 3) := by decide +kernel
theorem dX6_handOver_197 : decode cX6_handOver 197 = .ok (.istore 6, 2) := by decide +kernel
theorem dX6_handOver_199 : decode cX6_handOver 199 = .ok (.goto 22, 3) := by decide +kernel
theorem dX6_handOver_202 : decode cX6_handOver 202 = .ok (.iconst 0, 1) := by decide +kernel
theorem dX6_handOver_203 : decode cX6_handOver 203 = .ok (.istore 6, 2) := by decide +kernel
theorem dX6_handOver_205 : decode cX6_handOver 205 = .ok (.aload_n 0, 1) := by decide +kernel
theorem dX6_handOver_206 : decode cX6_handOver 206 = .ok (.aload 5, 2) := by decide +kernel
theorem dX6_handOver_208 : decode cX6_handOver 208 = .ok (.aload 4, 2) := by decide +kernel
theorem dX6_handOver_210 : decode cX6_handOver 210 = .ok (.getfield 176, 3) := by decide +kernel
theorem dX6_handOver_213 : decode cX6_handOver 213 = .ok (.aload 4, 2) := by decide +kernel
theorem dX6_handOver_215 : decode cX6_handOver 215 = .ok (.getfield 179, 3) := by decide +kernel
theorem dX6_handOver_218 : decode cX6_handOver 218 = .ok (.invokevirtual 151, 3) := by decide +kernel
theorem dX6_handOver_221 : decode cX6_handOver 221 = .ok (.iload 6, 2) := by decide +kernel
theorem dX6_handOver_223 : decode cX6_handOver 223 = .ok (.ifCond .eq 9, 3) := by decide +kernel
theorem dX6_handOver_226 : decode cX6_handOver 226 = .ok (.aload_n 0, 1) := by decide +kernel
theorem dX6_handOver_227 : decode cX6_handOver 227 = .ok (.aload 5, 2) := by decide +kernel
theorem dX6_handOver_229 : decode cX6_handOver 229 = .ok (.invokevirtual 114, 3) := by decide +kernel
theorem dX6_handOver_232 : decode cX6_handOver 232 = .ok (.aload 4, 2) := by decide +kernel
theorem dX6_handOver_234 : decode cX6_handOver 234 = .ok (.getfield 246, 3) := by decide +kernel
theorem dX6_handOver_237 : decode cX6_handOver 237 = .ok (.ireturn, 1) := by decide +kernel
theorem dX6_noteComes_0 : decode cX6_noteComes 0 = .ok (.aload_n 3, 1) := by decide +kernel
theorem dX6_noteComes_1 : decode cX6_noteComes 1 = .ok (.ifnull 14, 3) := by decide +kernel
theorem dX6_noteComes_4 : decode cX6_noteComes 4 = .ok (.aload_n 3, 1) := by decide +kernel
theorem dX6_noteComes_5 : decode cX6_noteComes 5 = .ok (.getfield 284, 3) := by decide +kernel
theorem dX6_noteComes_8 : decode cX6_noteComes 8 = .ok (.aload_n 1, 1) := by decide +kernel
theorem dX6_noteComes_9 : decode cX6_noteComes 9 = .ok (.getfield 249, 3) := by decide +kernel
theorem dX6_noteComes_12 : decode cX6_noteComes 12 = .ok (.if_icmp .ne 5, 3) := by decide +kernel
theorem dX6_noteComes_15 : decode cX6_noteComes 15 = .ok (.iconst 0, 1) := by decide +kernel
theorem dX6_noteComes_16 : decode cX6_noteComes 16 = .ok (.ireturn, 1) := by decide +kernel
theorem dX6_noteComes_17 : decode cX6_noteComes 17 = .ok (.aload_n 1, 1) := by decide +kernel
theorem dX6_noteComes_18 : decode cX6_noteComes 18 = .ok (.getfield 185, 3) := by decide +kernel
theorem dX6_noteComes_21 : decode cX6_noteComes 21 = .ok (.aload_n 3, 1) := by decide +kernel
theorem dX6_noteComes_22 : decode cX6_noteComes 22 = .ok (.getfield 284, 3) := by decide +kernel
theorem dX6_noteComes_25 : decode cX6_noteComes 25 = .ok (.aaload, 1) := by decide +kernel
theorem dX6_noteComes_26 : decode cX6_noteComes 26 = .ok (.astore 4, 2) := by decide +kernel
theorem dX6_noteComes_28 : decode cX6_noteComes 28 = .ok (.aload 4, 2) := by decide +kernel
theorem dX6_noteComes_30 : decode cX6_noteComes 30 = .ok (.ifnull 15, 3) := by decide +kernel
theorem dX6_noteComes_33 : decode cX6_noteComes 33 = .ok (.aload_n 3, 1) := by decide +kernel
theorem dX6_noteComes_34 : decode cX6_noteComes 34 = .ok (.getfield 189, 3) := by decide +kernel
theorem dX6_noteComes_37 : decode cX6_noteComes 37 = .ok (.aload 4, 2) := by decide +kernel
theorem dX6_noteComes_39 : decode cX6_noteComes 39 = .ok (.getfield 189, 3) := by decide +kernel
theorem dX6_noteComes_42 : decode cX6_noteComes 42 = .ok (.if_icmp .le 25, 3) := by decide +kernel
theorem dX6_noteComes_45 : decode cX6_noteComes 45 = .ok (.aload_n 0, 1) := by decide +kernel
theorem dX6_noteComes_46 : decode cX6_noteComes 46 = .ok (.aload_n 1, 1) := by decide +kernel
theorem dX6_noteComes_47 : decode cX6_noteComes 47 = .ok (.aload_n 3, 1) := by decide +kernel
theorem dX6_noteComes_48 : decode cX6_noteComes 48 = .ok (.invokevirtual 261, 3) := by decide +kernel
theorem dX6_noteComes_51 : decode cX6_noteComes 51 = .ok (.aload_n 0, 1) := by decide +kernel
theorem dX6_noteComes_52 : decode cX6_noteComes 52 = .ok (.aload_n 1, 1) := by decide +kernel
theorem dX6_noteComes_53 : decode cX6_noteComes 53 = .ok (.aload_n 0, 1) := by decide +kernel
theorem dX6_noteComes_54 : decode cX6_noteComes 54 = .ok (.getfield 35, 3) := by decide +kernel
theorem dX6_noteComes_57 : decode cX6_noteComes 57 = .ok (.aload_n 3, 1) := by decide +kernel
theorem dX6_noteComes_58 : decode cX6_noteComes 58 = .ok (.invokevirtual 265, 3) := by decide +kernel
theorem dX6_noteComes_61 : decode cX6_noteComes 61 = .ok (.iload_n 2, 1) := by decide +kernel
theorem dX6_noteComes_62 : decode cX6_noteComes 62 = .ok (.invokevirtual 269, 3) := by decide +kernel
theorem dX6_noteComes_65 : decode cX6_noteComes 65 = .ok (.iconst 1, 1) := by decide +kernel
theorem dX6_noteComes_66 : decode cX6_noteComes 66 = .ok (.ireturn, 1) := by decide +kernel
theorem dX6_noteComes_67 : decode cX6_noteComes 67 = .ok (.aload_n 3, 1) := by decide +kernel
theorem dX6_noteComes_68 : decode cX6_noteComes 68 = .ok (.getfield 189, 3) := by decide +kernel
theorem dX6_noteComes_71 : decode cX6_noteComes 71 = .ok (.aload 4, 2) := by decide +kernel
theorem dX6_noteComes_73 : decode cX6_noteComes 73 = .ok (.getfield 189, 3) := by decide +kernel
theorem dX6_noteComes_76 : decode cX6_noteComes 76 = .ok (.if_icmp .ge 19, 3) := by decide +kernel
theorem dX6_noteComes_79 : decode cX6_noteComes 79 = .ok (.aload_n 0, 1) := by decide +kernel
theorem dX6_noteComes_80 : decode cX6_noteComes 80 = .ok (.aload_n 1, 1) := by decide +kernel
theorem dX6_noteComes_81 : decode cX6_noteComes 81 = .ok (.iload_n 2, 1) := by decide +kernel
theorem dX6_noteComes_82 : decode cX6_noteComes 82 = .ok (.aload_n 0, 1) := by decide +kernel
theorem dX6_noteComes_83 : decode cX6_noteComes 83 = .ok (.getfield 35, 3) := by decide +kernel
theorem dX6_noteComes_86 : decode cX6_noteComes 86 = .ok (.aload 4, 2) := by decide +kernel
theorem dX6_noteComes_88 : decode cX6_noteComes 88 = .ok (.invokevirtual 265, 3) := by decide +kernel
theorem dX6_noteComes_91 : decode cX6_noteComes 91 = .ok (.invokevirtual 276, 3) := by decide +kernel
theorem dX6_noteComes_94 : decode cX6_noteComes 94 = .ok (.pop, 1) := by decide +kernel
theorem dX6_noteComes_95 : decode cX6_noteComes 95 = .ok (.iconst 0, 1) := by decide +kernel
theorem dX6_noteComes_96 : decode cX6_noteComes 96 = .ok (.ireturn, 1) := by decide +kernel
theorem dX6_mappingComes_0 : decode cX6_mappingComes 0 = .ok (.aload_n 3, 1) := by decide +kernel
theorem dX6_mappingComes_1 : decode cX6_mappingComes 1 = .ok (.getfield 176, 3) := by decide +kernel
theorem dX6_mappingComes_4 : decode cX6_mappingComes 4 = .ok (.istore 4, 2) := by decide +kernel
theorem dX6_mappingComes_6 : decode cX6_mappingComes 6 = .ok (.aload_n 3, 1) := by decide +kernel
theorem dX6_mappingComes_7 : decode cX6_mappingComes 7 = .ok (.getfield 182, 3) := by decide +kernel
theorem dX6_mappingComes_10 : decode cX6_mappingComes 10 = .ok (.iconst 1, 1) := by decide +kernel
theorem dX6_mappingComes_11 : decode cX6_mappingComes 11 = .ok (.aload_n 1, 1) := by decide +kernel
theorem dX6_mappingComes_12 : decode cX6_mappingComes 12 = .ok (.getfield 249, 3) := by decide +kernel
theorem dX6_mappingComes_15 : decode cX6_mappingComes 15 = .ok (.ishl, 1) := by decide +kernel
theorem dX6_mappingComes_16 : decode cX6_mappingComes 16 = .ok (.iand, 1) := by decide +kernel
theorem dX6_mappingComes_17 : decode cX6_mappingComes 17 = .ok (.ifCond .eq 35, 3) := by decide +kernel
theorem dX6_mappingComes_20 : decode cX6_mappingComes 20 = .ok (.aload_n 0, 1) := by decide +kernel
theorem dX6_mappingComes_21 : decode cX6_mappingComes 21 = .ok (.aload_n 1, 1) := by decide +kernel
theorem dX6_mappingComes_22 : decode cX6_mappingComes 22 = .ok (.iload_n 2, 1) := by decide +kernel
theorem dX6_mappingComes_23 : decode cX6_mappingComes 23 = .ok (.aload_n 0, 1) := by decide +kernel
theorem dX6_mappingComes_24 : decode cX6_mappingComes 24 = .ok (.getfield 35, 3) := by decide +kernel
theorem dX6_mappingComes_27 : decode cX6_mappingComes 27 = .ok (.iconst 3, 1) := by decide +kernel
theorem dX6_mappingComes_28 : decode cX6_mappingComes 28 = .ok (.iload 4, 2) := by decide +kernel
theorem dX6_mappingComes_30 : decode cX6_mappingComes 30 = .ok (.aload_n 3, 1) := by decide +kernel
theorem dX6_mappingComes_31 : decode cX6_mappingComes 31 = .ok (.getfield 179, 3) := by decide +kernel
theorem dX6_mappingComes_34 : decode cX6_mappingComes 34 = .ok (.iconst 0, 1) := by decide +kernel
theorem dX6_mappingComes_35 : decode cX6_mappingComes 35 = .ok (.invokevirtual 280, 3) := by decide +kernel
theorem dX6_mappingComes_38 : decode cX6_mappingComes 38 = .ok (.invokevirtual 276, 3) := by decide +kernel
theorem dX6_mappingComes_41 : decode cX6_mappingComes 41 = .ok (.pop, 1) := by decide +kernel
theorem dX6_mappingComes_42 : decode cX6_mappingComes 42 = .ok (.aload_n 1, 1) := by decide +kernel
theorem dX6_mappingComes_43 : decode cX6_mappingComes 43 = .ok (.iload 4, 2) := by decide +kernel
theorem dX6_mappingComes_45 : decode cX6_mappingComes 45 = .ok (.iload_n 2, 1) := by decide +kernel
theorem dX6_mappingComes_46 : decode cX6_mappingComes 46 = .ok (.invokevirtual 342, 3) := by decide +kernel
theorem dX6_mappingComes_49 : decode cX6_mappingComes 49 = .ok (.goto 29, 3) := by decide +kernel
theorem dX6_mappingComes_52 : decode cX6_mappingComes 52 = .ok (.aload_n 1, 1) := by decide +kernel
theorem dX6_mappingComes_53 : decode cX6_mappingComes 53 = .ok (.getfield 213, 3) := by decide +kernel
theorem dX6_mappingComes_56 : decode cX6_mappingComes 56 = .ok (.iload 4, 2) := by decide +kernel
theorem dX6_mappingComes_58 : decode cX6_mappingComes 58 = .ok (.aaload, 1) := by decide +kernel
theorem dX6_mappingComes_59 : decode cX6_mappingComes 59 = .ok (.iload_n 2, 1) := by decide +kernel
theorem dX6_mappingComes_60 : decode cX6_mappingComes 60 = .ok (.aload_n 3, 1) := by decide +kernel
theorem dX6_mappingComes_61 : decode cX6_mappingComes 61 = .ok (.getfield 179, 3) := by decide +kernel
theorem dX6_mappingComes_64 : decode cX6_mappingComes 64 = .ok (.iastore, 1) := by decide +kernel
theorem dX6_mappingComes_65 : decode cX6_mappingComes 65 = .ok (.aload_n 1, 1) := by decide +kernel
theorem dX6_mappingComes_66 : decode cX6_mappingComes 66 = .ok (.getfield 220, 3) := by decide +kernel
theorem dX6_mappingComes_69 : decode cX6_mappingComes 69 = .ok (.iload 4, 2) := by decide +kernel
theorem dX6_mappingComes_71 : decode cX6_mappingComes 71 = .ok (.aaload, 1) := by decide +kernel
theorem dX6_mappingComes_72 : decode cX6_mappingComes 72 = .ok (.iload_n 2, 1) := by decide +kernel
theorem dX6_mappingComes_73 : decode cX6_mappingComes 73 = .ok (.aload_n 3, 1) := by decide +kernel
theorem dX6_mappingComes_74 : decode cX6_mappingComes 74 = .ok (.getfield 182, 3) := by decide +kernel
theorem dX6_mappingComes_77 : decode cX6_mappingComes 77 = .ok (.iastore, 1) := by decide +kernel
theorem dX6_mappingComes_78 : decode cX6_mappingComes 78 = .ok (.return_, 1) := by decide +kernel
theorem dX6_withdrawComes_0 : decode cX6_withdrawComes 0 = .ok (.aload_n 3, 1) := by decide +kernel
theorem dX6_withdrawComes_1 : decode cX6_withdrawComes 1 = .ok (.getfield 176, 3) := by decide +kernel
theorem dX6_withdrawComes_4 : decode cX6_withdrawComes 4 = .ok (.istore 4, 2) := by decide +kernel
theorem dX6_withdrawComes_6 : decode cX6_withdrawComes 6 = .ok (.aload_n 1, 1) := by decide +kernel
theorem dX6_withdrawComes_7 : decode cX6_withdrawComes 7 = .ok (.getfield 213, 3) := by decide +kernel
theorem dX6_withdrawComes_10 : decode cX6_withdrawComes 10 = .ok (.iload 4, 2) := by decide +kernel
theorem dX6_withdrawComes_12 : decode cX6_withdrawComes 12 = .ok (.aaload, 1) := by decide +kernel
theorem dX6_withdrawComes_13 : decode cX6_withdrawComes 13 = .ok (.iload_n 2, 1) := by decide +kernel
theorem dX6_withdrawComes_14 : decode cX6_withdrawComes 14 = .ok (.iaload, 1) := by decide +kernel
theorem dX6_withdrawComes_15 : decode cX6_withdrawComes 15 = .ok (.aload_n 3, 1) := by decide +kernel
theorem dX6_withdrawComes_16 : decode cX6_withdrawComes 16 = .ok (.getfield 179, 3) := by decide +kernel
theorem dX6_withdrawComes_19 : decode cX6_withdrawComes 19 = .ok (.if_icmp .ne 10, 3) := by decide +kernel
theorem dX6_withdrawComes_22 : decode cX6_withdrawComes 22 = .ok (.aload_n 1, 1) := by decide +kernel
theorem dX6_withdrawComes_23 : decode cX6_withdrawComes 23 = .ok (.iload 4, 2) := by decide +kernel
theorem dX6_withdrawComes_25 : decode cX6_withdrawComes 25 = .ok (.iload_n 2, 1) := by decide +kernel
theorem dX6_withdrawComes_26 : decode cX6_withdrawComes 26 = .ok (.invokevirtual 342, 3) := by decide +kernel
theorem dX6_withdrawComes_29 : decode cX6_withdrawComes 29 = .ok (.aload_n 0, 1) := by decide +kernel
theorem dX6_withdrawComes_30 : decode cX6_withdrawComes 30 = .ok (.aload_n 1, 1) := by decide +kernel
theorem dX6_withdrawComes_31 : decode cX6_withdrawComes 31 = .ok (.iload_n 2, 1) := by decide +kernel
theorem dX6_withdrawComes_32 : decode cX6_withdrawComes 32 = .ok (.aload_n 0, 1) := by decide +kernel
theorem dX6_withdrawComes_33 : decode cX6_withdrawComes 33 = .ok (.getfield 35, 3) := by decide +kernel
theorem dX6_withdrawComes_36 : decode cX6_withdrawComes 36 = .ok (.iconst 3, 1) := by decide +kernel
theorem dX6_withdrawComes_37 : decode cX6_withdrawComes 37 = .ok (.iload 4, 2) := by decide +kernel
theorem dX6_withdrawComes_39 : decode cX6_withdrawComes 39 = .ok (.aload_n 3, 1) := by decide +kernel
theorem dX6_withdrawComes_40 : decode cX6_withdrawComes 40 = .ok (.getfield 179, 3) := by decide +kernel
theorem dX6_withdrawComes_43 : decode cX6_withdrawComes 43 = .ok (.iconst 0, 1) := by decide +kernel
theorem dX6_withdrawComes_44 : decode cX6_withdrawComes 44 = .ok (.invokevirtual 280, 3) := by decide +kernel
theorem dX6_withdrawComes_47 : decode cX6_withdrawComes 47 = .ok (.invokevirtual 276, 3) := by decide +kernel
theorem dX6_withdrawComes_50 : decode cX6_withdrawComes 50 = .ok (.pop, 1) := by decide +kernel
theorem dX6_withdrawComes_51 : decode cX6_withdrawComes 51 = .ok (.return_, 1) := by decide +kernel
theorem dX6_check_0 : decode cX6_check 0 = .ok (.iconst 0, 1) := by decide +kernel
theorem dX6_check_1 : decode cX6_check 1 = .ok (.istore_n 2, 1) := by decide +kernel
theorem dX6_check_2 : decode cX6_check 2 = .ok (.iload_n 2, 1) := by decide +kernel
theorem dX6_check_3 : decode cX6_check 3 = .ok (.bipush 8, 2) := by decide +kernel
theorem dX6_check_5 : decode cX6_check 5 = .ok (.if_icmp .ge 15, 3) := by decide +kernel
theorem dX6_check_8 : decode cX6_check 8 = .ok (.aload_n 0, 1) := by decide +kernel
theorem dX6_check_9 : decode cX6_check 9 = .ok (.aload_n 1, 1) := by decide +kernel
theorem dX6_check_10 : decode cX6_check 10 = .ok (.iload_n 2, 1) := by decide +kernel
theorem dX6_check_11 : decode cX6_check 11 = .ok (.invokevirtual 345, 3) := by decide +kernel
theorem dX6_check_14 : decode cX6_check 14 = .ok (.iinc 2 1, 3) := by decide +kernel
theorem dX6_check_17 : decode cX6_check 17 = .ok (.goto (-15), 3) := by decide +kernel
theorem dX6_check_20 : decode cX6_check 20 = .ok (.return_, 1) := by decide +kernel
theorem dX6_checkPrefix_0 : decode cX6_checkPrefix 0 = .ok (.aload_n 1, 1) := by decide +kernel
theorem dX6_checkPrefix_1 : decode cX6_checkPrefix 1 = .ok (.getfield 207, 3) := by decide +kernel
theorem dX6_checkPrefix_4 : decode cX6_checkPrefix 4 = .ok (.iload_n 2, 1) := by decide +kernel
theorem dX6_checkPrefix_5 : decode cX6_checkPrefix 5 = .ok (.iaload, 1) := by decide +kernel
theorem dX6_checkPrefix_6 : decode cX6_checkPrefix 6 = .ok (.istore_n 3, 1) := by decide +kernel
theorem dX6_checkPrefix_7 : decode cX6_checkPrefix 7 = .ok (.aload_n 1, 1) := by decide +kernel
theorem dX6_checkPrefix_8 : decode cX6_checkPrefix 8 = .ok (.getfield 210, 3) := by decide +kernel
theorem dX6_checkPrefix_11 : decode cX6_checkPrefix 11 = .ok (.iload_n 2, 1) := by decide +kernel
theorem dX6_checkPrefix_12 : decode cX6_checkPrefix 12 = .ok (.iaload, 1) := by decide +kernel
theorem dX6_checkPrefix_13 : decode cX6_checkPrefix 13 = .ok (.istore 4, 2) := by decide +kernel
theorem dX6_checkPrefix_15 : decode cX6_checkPrefix 15 = .ok (.aload_n 0, 1) := by decide +kernel
theorem dX6_checkPrefix_16 : decode cX6_checkPrefix 16 = .ok (.aload_n 1, 1) := by decide +kernel
theorem dX6_checkPrefix_17 : decode cX6_checkPrefix 17 = .ok (.iload_n 2, 1) := by decide +kernel
theorem dX6_checkPrefix_18 : decode cX6_checkPrefix 18 = .ok (.invokevirtual 348, 3) := by decide +kernel
theorem dX6_checkPrefix_21 : decode cX6_checkPrefix 21 = .ok (.istore 5, 2) := by decide +kernel
theorem dX6_checkPrefix_23 : decode cX6_checkPrefix 23 = .ok (.aload_n 1, 1) := by decide +kernel
theorem dX6_checkPrefix_24 : decode cX6_checkPrefix 24 = .ok (.iload_n 3, 1) := by decide +kernel
theorem dX6_checkPrefix_25 : decode cX6_checkPrefix 25 = .ok (.iload 5, 2) := by decide +kernel
theorem dX6_checkPrefix_27 : decode cX6_checkPrefix 27 = .ok (.invokevirtual 351, 3) := by decide +kernel
theorem dX6_checkPrefix_30 : decode cX6_checkPrefix 30 = .ok (.istore 6, 2) := by decide +kernel
theorem dX6_checkPrefix_32 : decode cX6_checkPrefix 32 = .ok (.iload 6, 2) := by decide +kernel
theorem dX6_checkPrefix_34 : decode cX6_checkPrefix 34 = .ok (.iconst (-1), 1) := by decide +kernel
theorem dX6_checkPrefix_35 : decode cX6_checkPrefix 35 = .ok (.if_icmp .ne 6, 3) := by decide +kernel
theorem dX6_checkPrefix_38 : decode cX6_checkPrefix 38 = .ok (.iconst (-1), 1) := by decide +kernel
theorem dX6_checkPrefix_39 : decode cX6_checkPrefix 39 = .ok (.istore 5, 2) := by decide +kernel
theorem dX6_checkPrefix_41 : decode cX6_checkPrefix 41 = .ok (.iload 6, 2) := by decide +kernel
theorem dX6_checkPrefix_43 : decode cX6_checkPrefix 43 = .ok (.iload_n 3, 1) := by decide +kernel
theorem dX6_checkPrefix_44 : decode cX6_checkPrefix 44 = .ok (.if_icmp .ne 11, 3) := by decide +kernel
theorem dX6_checkPrefix_47 : decode cX6_checkPrefix 47 = .ok (.iload 5, 2) := by decide +kernel
theorem dX6_checkPrefix_49 : decode cX6_checkPrefix 49 = .ok (.iload 4, 2) := by decide +kernel
theorem dX6_checkPrefix_51 : decode cX6_checkPrefix 51 = .ok (.if_icmp .ne 4, 3) := by decide +kernel
theorem dX6_checkPrefix_54 : decode cX6_checkPrefix 54 = .ok (.return_, 1) := by decide +kernel
theorem dX6_checkPrefix_55 : decode cX6_checkPrefix 55 = .ok (.aload_n 1, 1) := by decide +kernel
theorem dX6_checkPrefix_56 : decode cX6_checkPrefix 56 = .ok (.iload_n 2, 1) := by decide +kernel
theorem dX6_checkPrefix_57 : decode cX6_checkPrefix 57 = .ok (.iload 6, 2) := by decide +kernel
theorem dX6_checkPrefix_59 : decode cX6_checkPrefix 59 = .ok (.iload 5, 2) := by decide +kernel
theorem dX6_checkPrefix_61 : decode cX6_checkPrefix 61 = .ok (.invokevirtual 354, 3) := by decide +kernel
theorem dX6_checkPrefix_64 : decode cX6_checkPrefix 64 = .ok (.iload_n 3, 1) := by decide +kernel
theorem dX6_checkPrefix_65 : decode cX6_checkPrefix 65 = .ok (.iconst (-1), 1) := by decide +kernel
theorem dX6_checkPrefix_66 : decode cX6_checkPrefix 66 = .ok (.if_icmp .eq 31, 3) := by decide +kernel
theorem dX6_checkPrefix_69 : decode cX6_checkPrefix 69 = .ok (.iload_n 3, 1) := by decide +kernel
theorem dX6_checkPrefix_70 : decode cX6_checkPrefix 70 = .ok (.iload 6, 2) := by decide +kernel
theorem dX6_checkPrefix_72 : decode cX6_checkPrefix 72 = .ok (.if_icmp .eq 25, 3) := by decide +kernel
theorem dX6_checkPrefix_75 : decode cX6_checkPrefix 75 = .ok (.aload_n 0, 1) := by decide +kernel
theorem dX6_checkPrefix_76 : decode cX6_checkPrefix 76 = .ok (.aload_n 1, 1) := by decide +kernel
theorem dX6_checkPrefix_77 : decode cX6_checkPrefix 77 = .ok (.aload_n 0, 1) := by decide +kernel
theorem dX6_checkPrefix_78 : decode cX6_checkPrefix 78 = .ok (.getfield 35, 3) := by decide +kernel
theorem dX6_checkPrefix_81 : decode cX6_checkPrefix 81 = .ok (.iconst 2, 1) := by decide +kernel
theorem dX6_checkPrefix_82 : decode cX6_checkPrefix 82 = .ok (.iload_n 2, 1) := by decide +kernel
theorem dX6_checkPrefix_83 : decode cX6_checkPrefix 83 = .ok (.iload_n 3, 1) := by decide +kernel
theorem dX6_checkPrefix_84 : decode cX6_checkPrefix 84 = .ok (.iconst 0, 1) := by decide +kernel
theorem dX6_checkPrefix_85 : decode cX6_checkPrefix 85 = .ok (.invokevirtual 280, 3) := by decide +kernel
theorem dX6_checkPrefix_88 : decode cX6_checkPrefix 88 = .ok (.iconst (-1), 1) := by decide +kernel
theorem dX6_checkPrefix_89 : decode cX6_checkPrefix 89 = .ok (.invokevirtual 269, 3) := by decide +kernel
theorem dX6_checkPrefix_92 : decode cX6_checkPrefix 92 = .ok (.aload_n 1, 1) := by decide +kernel
theorem dX6_checkPrefix_93 : decode cX6_checkPrefix 93 = .ok (.iload_n 3, 1) := by decide +kernel
theorem dX6_checkPrefix_94 : decode cX6_checkPrefix 94 = .ok (.invokevirtual 357, 3) := by decide +kernel
theorem dX6_checkPrefix_97 : decode cX6_checkPrefix 97 = .ok (.iload 6, 2) := by decide +kernel
theorem dX6_checkPrefix_99 : decode cX6_checkPrefix 99 = .ok (.iconst (-1), 1) := by decide +kernel
theorem dX6_checkPrefix_100 : decode cX6_checkPrefix 100 = .ok (.if_icmp .eq 22, 3) := by decide +kernel
theorem dX6_checkPrefix_103 : decode cX6_checkPrefix 103 = .ok (.aload_n 0, 1) := by decide +kernel
theorem dX6_checkPrefix_104 : decode cX6_checkPrefix 104 = .ok (.aload_n 1, 1) := by decide +kernel
theorem dX6_checkPrefix_105 : decode cX6_checkPrefix 105 = .ok (.aload_n 0, 1) := by decide +kernel
theorem dX6_checkPrefix_106 : decode cX6_checkPrefix 106 = .ok (.getfield 35, 3) := by decide +kernel
theorem dX6_checkPrefix_109 : decode cX6_checkPrefix 109 = .ok (.iconst 1, 1) := by decide +kernel
theorem dX6_checkPrefix_110 : decode cX6_checkPrefix 110 = .ok (.iload_n 2, 1) := by decide +kernel
theorem dX6_checkPrefix_111 : decode cX6_checkPrefix 111 = .ok (.iload 6, 2) := by decide +kernel
theorem dX6_checkPrefix_113 : decode cX6_checkPrefix 113 = .ok (.iload 5, 2) := by decide +kernel
theorem dX6_checkPrefix_115 : decode cX6_checkPrefix 115 = .ok (.invokevirtual 280, 3) := by decide +kernel
theorem dX6_checkPrefix_118 : decode cX6_checkPrefix 118 = .ok (.iconst (-1), 1) := by decide +kernel
theorem dX6_checkPrefix_119 : decode cX6_checkPrefix 119 = .ok (.invokevirtual 269, 3) := by decide +kernel
theorem dX6_checkPrefix_122 : decode cX6_checkPrefix 122 = .ok (.return_, 1) := by decide +kernel
theorem dX6_pathNow_0 : decode cX6_pathNow 0 = .ok (.aload_n 1, 1) := by decide +kernel
theorem dX6_pathNow_1 : decode cX6_pathNow 1 = .ok (.iload_n 2, 1) := by decide +kernel
theorem dX6_pathNow_2 : decode cX6_pathNow 2 = .ok (.invokevirtual 203, 3) := by decide +kernel
theorem dX6_pathNow_5 : decode cX6_pathNow 5 = .ok (.istore_n 3, 1) := by decide +kernel
theorem dX6_pathNow_6 : decode cX6_pathNow 6 = .ok (.iload_n 3, 1) := by decide +kernel
theorem dX6_pathNow_7 : decode cX6_pathNow 7 = .ok (.iconst (-1), 1) := by decide +kernel
theorem dX6_pathNow_8 : decode cX6_pathNow 8 = .ok (.if_icmp .ne 5, 3) := by decide +kernel
theorem dX6_pathNow_11 : decode cX6_pathNow 11 = .ok (.iconst (-1), 1) := by decide +kernel
theorem dX6_pathNow_12 : decode cX6_pathNow 12 = .ok (.ireturn, 1) := by decide +kernel
theorem dX6_pathNow_13 : decode cX6_pathNow 13 = .ok (.iload_n 3, 1) := by decide +kernel
theorem dX6_pathNow_14 : decode cX6_pathNow 14 = .ok (.aload_n 1, 1) := by decide +kernel
theorem dX6_pathNow_15 : decode cX6_pathNow 15 = .ok (.getfield 249, 3) := by decide +kernel
theorem dX6_pathNow_18 : decode cX6_pathNow 18 = .ok (.if_icmp .ne 10, 3) := by decide +kernel
theorem dX6_pathNow_21 : decode cX6_pathNow 21 = .ok (.iconst 1, 1) := by decide +kernel
theorem dX6_pathNow_22 : decode cX6_pathNow 22 = .ok (.aload_n 1, 1) := by decide +kernel
theorem dX6_pathNow_23 : decode cX6_pathNow 23 = .ok (.getfield 249, 3) := by decide +kernel
theorem dX6_pathNow_26 : decode cX6_pathNow 26 = .ok (.ishl, 1) := by decide +kernel
theorem dX6_pathNow_27 : decode cX6_pathNow 27 = .ok (.ireturn, 1) := by decide +kernel
theorem dX6_pathNow_28 : decode cX6_pathNow 28 = .ok (.aload_n 0, 1) := by decide +kernel
theorem dX6_pathNow_29 : decode cX6_pathNow 29 = .ok (.aload_n 1, 1) := by decide +kernel
theorem dX6_pathNow_30 : decode cX6_pathNow 30 = .ok (.iload_n 3, 1) := by decide +kernel
theorem dX6_pathNow_31 : decode cX6_pathNow 31 = .ok (.invokevirtual 199, 3) := by decide +kernel
theorem dX6_pathNow_34 : decode cX6_pathNow 34 = .ok (.istore 4, 2) := by decide +kernel
theorem dX6_pathNow_36 : decode cX6_pathNow 36 = .ok (.iload 4, 2) := by decide +kernel
theorem dX6_pathNow_38 : decode cX6_pathNow 38 = .ok (.iconst (-1), 1) := by decide +kernel
theorem dX6_pathNow_39 : decode cX6_pathNow 39 = .ok (.if_icmp .eq 16, 3) := by decide +kernel
theorem dX6_pathNow_42 : decode cX6_pathNow 42 = .ok (.aload_n 1, 1) := by decide +kernel
theorem dX6_pathNow_43 : decode cX6_pathNow 43 = .ok (.getfield 213, 3) := by decide +kernel
theorem dX6_pathNow_46 : decode cX6_pathNow 46 = .ok (.iload_n 2, 1) := by decide +kernel
theorem dX6_pathNow_47 : decode cX6_pathNow 47 = .ok (.aaload, 1) := by decide +kernel
theorem dX6_pathNow_48 : decode cX6_pathNow 48 = .ok (.iload 4, 2) := by decide +kernel
theorem dX6_pathNow_50 : decode cX6_pathNow 50 = .ok (.iaload, 1) := by decide +kernel
theorem dX6_pathNow_51 : decode cX6_pathNow 51 = .ok (.iconst (-1), 1) := by decide +kernel
theorem dX6_pathNow_52 : decode cX6_pathNow 52 = .ok (.if_icmp .ne 5, 3) := by decide +kernel
theorem dX6_pathNow_55 : decode cX6_pathNow 55 = .ok (.iconst (-1), 1) := by decide +kernel
theorem dX6_pathNow_56 : decode cX6_pathNow 56 = .ok (.ireturn, 1) := by decide +kernel
theorem dX6_pathNow_57 : decode cX6_pathNow 57 = .ok (.aload_n 1, 1) := by decide +kernel
theorem dX6_pathNow_58 : decode cX6_pathNow 58 = .ok (.getfield 220, 3) := by decide +kernel
theorem dX6_pathNow_61 : decode cX6_pathNow 61 = .ok (.iload_n 2, 1) := by decide +kernel
theorem dX6_pathNow_62 : decode cX6_pathNow 62 = .ok (.aaload, 1) := by decide +kernel
theorem dX6_pathNow_63 : decode cX6_pathNow 63 = .ok (.iload 4, 2) := by decide +kernel
theorem dX6_pathNow_65 : decode cX6_pathNow 65 = .ok (.iaload, 1) := by decide +kernel
theorem dX6_pathNow_66 : decode cX6_pathNow 66 = .ok (.iconst 1, 1) := by decide +kernel
theorem dX6_pathNow_67 : decode cX6_pathNow 67 = .ok (.aload_n 1, 1) := by decide +kernel
theorem dX6_pathNow_68 : decode cX6_pathNow 68 = .ok (.getfield 249, 3) := by decide +kernel
theorem dX6_pathNow_71 : decode cX6_pathNow 71 = .ok (.ishl, 1) := by decide +kernel
theorem dX6_pathNow_72 : decode cX6_pathNow 72 = .ok (.ior, 1) := by decide +kernel
theorem dX6_pathNow_73 : decode cX6_pathNow 73 = .ok (.ireturn, 1) := by decide +kernel
theorem dX6_ofMapping_0 : decode cX6_ofMapping 0 = .ok (.iload_n 3, 1) := by decide +kernel
theorem dX6_ofMapping_1 : decode cX6_ofMapping 1 = .ok (.iconst (-1), 1) := by decide +kernel
theorem dX6_ofMapping_2 : decode cX6_ofMapping 2 = .ok (.if_icmp .ne 12, 3) := by decide +kernel
theorem dX6_ofMapping_5 : decode cX6_ofMapping 5 = .ok (.aload_n 0, 1) := by decide +kernel
theorem dX6_ofMapping_6 : decode cX6_ofMapping 6 = .ok (.aload_n 1, 1) := by decide +kernel
theorem dX6_ofMapping_7 : decode cX6_ofMapping 7 = .ok (.iload_n 2, 1) := by decide +kernel
theorem dX6_ofMapping_8 : decode cX6_ofMapping 8 = .ok (.invokevirtual 360, 3) := by decide +kernel
theorem dX6_ofMapping_11 : decode cX6_ofMapping 11 = .ok (.goto 4, 3) := by decide +kernel
theorem dX6_ofMapping_14 : decode cX6_ofMapping 14 = .ok (.iload_n 3, 1) := by decide +kernel
theorem dX6_ofMapping_15 : decode cX6_ofMapping 15 = .ok (.istore 5, 2) := by decide +kernel
theorem dX6_ofMapping_17 : decode cX6_ofMapping 17 = .ok (.iload 5, 2) := by decide +kernel
theorem dX6_ofMapping_19 : decode cX6_ofMapping 19 = .ok (.invokestatic 58, 3) := by decide +kernel
theorem dX6_ofMapping_22 : decode cX6_ofMapping 22 = .ok (.ifCond .eq 13, 3) := by decide +kernel
theorem dX6_ofMapping_25 : decode cX6_ofMapping 25 = .ok (.aload 4, 2) := by decide +kernel
theorem dX6_ofMapping_27 : decode cX6_ofMapping 27 = .ok (.iload_n 2, 1) := by decide +kernel
theorem dX6_ofMapping_28 : decode cX6_ofMapping 28 = .ok (.aaload, 1) := by decide +kernel
theorem dX6_ofMapping_29 : decode cX6_ofMapping 29 = .ok (.iload 5, 2) := by decide +kernel
theorem dX6_ofMapping_31 : decode cX6_ofMapping 31 = .ok (.iaload, 1) := by decide +kernel
theorem dX6_ofMapping_32 : decode cX6_ofMapping 32 = .ok (.goto 4, 3) := by decide +kernel
theorem dX6_ofMapping_35 : decode cX6_ofMapping 35 = .ok (.iconst (-1), 1) := by decide +kernel
theorem dX6_ofMapping_36 : decode cX6_ofMapping 36 = .ok (.ireturn, 1) := by decide +kernel
theorem dX6_packetComes_0 : decode cX6_packetComes 0 = .ok (.aload_n 0, 1) := by decide +kernel
theorem dX6_packetComes_1 : decode cX6_packetComes 1 = .ok (.getfield 21, 3) := by decide +kernel
theorem dX6_packetComes_4 : decode cX6_packetComes 4 = .ok (.iload_n 2, 1) := by decide +kernel
theorem dX6_packetComes_5 : decode cX6_packetComes 5 = .ok (.aaload, 1) := by decide +kernel
theorem dX6_packetComes_6 : decode cX6_packetComes 6 = .ok (.astore 4, 2) := by decide +kernel
theorem dX6_packetComes_8 : decode cX6_packetComes 8 = .ok (.aload 4, 2) := by decide +kernel
theorem dX6_packetComes_10 : decode cX6_packetComes 10 = .ok (.aload_n 1, 1) := by decide +kernel
theorem dX6_packetComes_11 : decode cX6_packetComes 11 = .ok (.getfield 249, 3) := by decide +kernel
theorem dX6_packetComes_14 : decode cX6_packetComes 14 = .ok (.putfield 158, 3) := by decide +kernel
theorem dX6_packetComes_17 : decode cX6_packetComes 17 = .ok (.iload_n 3, 1) := by decide +kernel
theorem dX6_packetComes_18 : decode cX6_packetComes 18 = .ok (.iconst (-1), 1) := by decide +kernel
theorem dX6_packetComes_19 : decode cX6_packetComes 19 = .ok (.if_icmp .eq 36, 3) := by decide +kernel
theorem dX6_packetComes_22 : decode cX6_packetComes 22 = .ok (.aload_n 1, 1) := by decide +kernel
theorem dX6_packetComes_23 : decode cX6_packetComes 23 = .ok (.iload_n 3, 1) := by decide +kernel
theorem dX6_packetComes_24 : decode cX6_packetComes 24 = .ok (.invokevirtual 363, 3) := by decide +kernel
theorem dX6_packetComes_27 : decode cX6_packetComes 27 = .ok (.istore 5, 2) := by decide +kernel
theorem dX6_packetComes_29 : decode cX6_packetComes 29 = .ok (.iload 5, 2) := by decide +kernel
theorem dX6_packetComes_31 : decode cX6_packetComes 31 = .ok (.iconst (-1), 1) := by decide +kernel
theorem dX6_packetComes_32 : decode cX6_packetComes 32 = .ok (.if_icmp .ne 12, 3) := by decide +kernel
theorem dX6_packetComes_35 : decode cX6_packetComes 35 = .ok (.aload 4, 2) := by decide +kernel
theorem dX6_packetComes_37 : decode cX6_packetComes 37 = .ok (.iconst 3, 1) := by decide +kernel
theorem dX6_packetComes_38 : decode cX6_packetComes 38 = .ok (.putfield 155, 3) := by decide +kernel
theorem dX6_packetComes_41 : decode cX6_packetComes 41 = .ok (.goto 11, 3) := by decide +kernel
theorem dX6_packetComes_44 : decode cX6_packetComes 44 = .ok (.aload_n 0, 1) := by decide +kernel
theorem dX6_packetComes_45 : decode cX6_packetComes 45 = .ok (.aload_n 1, 1) := by decide +kernel
theorem dX6_packetComes_46 : decode cX6_packetComes 46 = .ok (.iload_n 2, 1) := by decide +kernel
theorem dX6_packetComes_47 : decode cX6_packetComes 47 = .ok (.iload 5, 2) := by decide +kernel
theorem dX6_packetComes_49 : decode cX6_packetComes 49 = .ok (.invokevirtual 366, 3) := by decide +kernel
theorem dX6_packetComes_52 : decode cX6_packetComes 52 = .ok (.goto 40, 3) := by decide +kernel
theorem dX6_packetComes_55 : decode cX6_packetComes 55 = .ok (.aload_n 0, 1) := by decide +kernel
theorem dX6_packetComes_56 : decode cX6_packetComes 56 = .ok (.getfield 15, 3) := by decide +kernel
theorem dX6_packetComes_59 : decode cX6_packetComes 59 = .ok (.aload 4, 2) := by decide +kernel
theorem dX6_packetComes_61 : decode cX6_packetComes 61 = .ok (.getfield 167, 3) := by decide +kernel
theorem dX6_packetComes_64 : decode cX6_packetComes 64 = .ok (.iaload, 1) := by decide +kernel
theorem dX6_packetComes_65 : decode cX6_packetComes 65 = .ok (.aload_n 1, 1) := by decide +kernel
theorem dX6_packetComes_66 : decode cX6_packetComes 66 = .ok (.getfield 249, 3) := by decide +kernel
theorem dX6_packetComes_69 : decode cX6_packetComes 69 = .ok (.if_icmp .ne 12, 3) := by decide +kernel
theorem dX6_packetComes_72 : decode cX6_packetComes 72 = .ok (.aload 4, 2) := by decide +kernel
theorem dX6_packetComes_74 : decode cX6_packetComes 74 = .ok (.iconst 1, 1) := by decide +kernel
theorem dX6_packetComes_75 : decode cX6_packetComes 75 = .ok (.putfield 155, 3) := by decide +kernel
theorem dX6_packetComes_78 : decode cX6_packetComes 78 = .ok (.goto 14, 3) := by decide +kernel
theorem dX6_packetComes_81 : decode cX6_packetComes 81 = .ok (.aload_n 0, 1) := by decide +kernel
theorem dX6_packetComes_82 : decode cX6_packetComes 82 = .ok (.aload_n 1, 1) := by decide +kernel
theorem dX6_packetComes_83 : decode cX6_packetComes 83 = .ok (.iload_n 2, 1) := by decide +kernel
theorem dX6_packetComes_84 : decode cX6_packetComes 84 = .ok (.aload 4, 2) := by decide +kernel
theorem dX6_packetComes_86 : decode cX6_packetComes 86 = .ok (.getfield 167, 3) := by decide +kernel
theorem dX6_packetComes_89 : decode cX6_packetComes 89 = .ok (.invokevirtual 366, 3) := by decide +kernel
theorem dX6_packetComes_92 : decode cX6_packetComes 92 = .ok (.return_, 1) := by decide +kernel
theorem dX6_go_0 : decode cX6_go 0 = .ok (.aload_n 0, 1) := by decide +kernel
theorem dX6_go_1 : decode cX6_go 1 = .ok (.getfield 21, 3) := by decide +kernel
theorem dX6_go_4 : decode cX6_go 4 = .ok (.iload_n 2, 1) := by decide +kernel
theorem dX6_go_5 : decode cX6_go 5 = .ok (.aaload, 1) := by decide +kernel
theorem dX6_go_6 : decode cX6_go 6 = .ok (.astore 4, 2) := by decide +kernel
theorem dX6_go_8 : decode cX6_go 8 = .ok (.aload_n 0, 1) := by decide +kernel
theorem dX6_go_9 : decode cX6_go 9 = .ok (.aload_n 1, 1) := by decide +kernel
theorem dX6_go_10 : decode cX6_go 10 = .ok (.iload_n 3, 1) := by decide +kernel
theorem dX6_go_11 : decode cX6_go 11 = .ok (.invokevirtual 360, 3) := by decide +kernel
theorem dX6_go_14 : decode cX6_go 14 = .ok (.istore 5, 2) := by decide +kernel
theorem dX6_go_16 : decode cX6_go 16 = .ok (.iload 5, 2) := by decide +kernel
theorem dX6_go_18 : decode cX6_go 18 = .ok (.iconst (-1), 1) := by decide +kernel
theorem dX6_go_19 : decode cX6_go 19 = .ok (.if_icmp .ne 10, 3) := by decide +kernel
theorem dX6_go_22 : decode cX6_go 22 = .ok (.aload 4, 2) := by decide +kernel
theorem dX6_go_24 : decode cX6_go 24 = .ok (.iconst 2, 1) := by decide +kernel
theorem dX6_go_25 : decode cX6_go 25 = .ok (.putfield 155, 3) := by decide +kernel
theorem dX6_go_28 : decode cX6_go 28 = .ok (.return_, 1) := by decide +kernel
theorem dX6_go_29 : decode cX6_go 29 = .ok (.aload 4, 2) := by decide +kernel
theorem dX6_go_31 : decode cX6_go 31 = .ok (.getfield 161, 3) := by decide +kernel
theorem dX6_go_34 : decode cX6_go 34 = .ok (.ifCond .ne 10, 3) := by decide +kernel
theorem dX6_go_37 : decode cX6_go 37 = .ok (.aload 4, 2) := by decide +kernel
theorem dX6_go_39 : decode cX6_go 39 = .ok (.iconst 4, 1) := by decide +kernel
theorem dX6_go_40 : decode cX6_go 40 = .ok (.putfield 155, 3) := by decide +kernel
theorem dX6_go_43 : decode cX6_go 43 = .ok (.return_, 1) := by decide +kernel
theorem dX6_go_44 : decode cX6_go 44 = .ok (.aload 4, 2) := by decide +kernel
theorem dX6_go_46 : decode cX6_go 46 = .ok (.dup, 1) := by decide +kernel
theorem dX6_go_47 : decode cX6_go 47 = .ok (.getfield 161, 3) := by decide +kernel
theorem dX6_go_50 : decode cX6_go 50 = .ok (.iconst 1, 1) := by decide +kernel
theorem dX6_go_51 : decode cX6_go 51 = .ok (.isub, 1) := by decide +kernel
theorem dX6_go_52 : decode cX6_go 52 = .ok (.putfield 161, 3) := by decide +kernel
theorem dX6_go_55 : decode cX6_go 55 = .ok (.aload_n 1, 1) := by decide +kernel
theorem dX6_go_56 : decode cX6_go 56 = .ok (.getfield 213, 3) := by decide +kernel
theorem dX6_go_59 : decode cX6_go 59 = .ok (.iload_n 3, 1) := by decide +kernel
theorem dX6_go_60 : decode cX6_go 60 = .ok (.aaload, 1) := by decide +kernel
theorem dX6_go_61 : decode cX6_go 61 = .ok (.iload 5, 2) := by decide +kernel
theorem dX6_go_63 : decode cX6_go 63 = .ok (.iaload, 1) := by decide +kernel
theorem dX6_go_64 : decode cX6_go 64 = .ok (.istore 6, 2) := by decide +kernel
theorem dX6_go_66 : decode cX6_go 66 = .ok (.iload 6, 2) := by decide +kernel
theorem dX6_go_68 : decode cX6_go 68 = .ok (.iconst 3, 1) := by decide +kernel
theorem dX6_go_69 : decode cX6_go 69 = .ok (.if_icmp .ne 7, 3) := by decide +kernel
theorem dX6_go_72 : decode cX6_go 72 = .ok (.iconst (-1), 1) := by decide +kernel
theorem dX6_go_73 : decode cX6_go 73 = .ok (.goto 5, 3) := by decide +kernel
theorem dX6_go_76 : decode cX6_go 76 = .ok (.iload 6, 2) := by decide +kernel
theorem dX6_go_78 : decode cX6_go 78 = .ok (.istore 7, 2) := by decide +kernel
theorem dX6_go_80 : decode cX6_go 80 = .ok (.aload_n 0, 1) := by decide +kernel
theorem dX6_go_81 : decode cX6_go 81 = .ok (.aload_n 1, 1) := by decide +kernel
theorem dX6_go_82 : decode cX6_go 82 = .ok (.iload 5, 2) := by decide +kernel
theorem dX6_go_84 : decode cX6_go 84 = .ok (.aload_n 0, 1) := by decide +kernel
theorem dX6_go_85 : decode cX6_go 85 = .ok (.getfield 35, 3) := by decide +kernel
theorem dX6_go_88 : decode cX6_go 88 = .ok (.iconst 4, 1) := by decide +kernel
theorem dX6_go_89 : decode cX6_go 89 = .ok (.iload_n 2, 1) := by decide +kernel
theorem dX6_go_90 : decode cX6_go 90 = .ok (.iload 7, 2) := by decide +kernel
theorem dX6_go_92 : decode cX6_go 92 = .ok (.iconst 0, 1) := by decide +kernel
theorem dX6_go_93 : decode cX6_go 93 = .ok (.invokevirtual 280, 3) := by decide +kernel
theorem dX6_go_96 : decode cX6_go 96 = .ok (.invokevirtual 276, 3) := by decide +kernel
theorem dX6_go_99 : decode cX6_go 99 = .ok (.ifCond .eq 13, 3) := by decide +kernel
theorem dX6_go_102 : decode cX6_go 102 = .ok (.aload 4, 2) := by decide +kernel
theorem dX6_go_104 : decode cX6_go 104 = .ok (.iload 7, 2) := by decide +kernel
theorem dX6_go_106 : decode cX6_go 106 = .ok (.putfield 164, 3) := by decide +kernel
theorem dX6_go_109 : decode cX6_go 109 = .ok (.goto 9, 3) := by decide +kernel
theorem dX6_go_112 : decode cX6_go 112 = .ok (.aload 4, 2) := by decide +kernel
theorem dX6_go_114 : decode cX6_go 114 = .ok (.iconst 5, 1) := by decide +kernel
theorem dX6_go_115 : decode cX6_go 115 = .ok (.putfield 155, 3) := by decide +kernel
theorem dX6_go_118 : decode cX6_go 118 = .ok (.return_, 1) := by decide +kernel
end
section
theorem dX7_init_0 : decode cX7_init 0 = .ok (.aload_n 0, 1) := by decide +kernel
theorem dX7_init_1 : decode cX7_init 1 = .ok (.invokespecial 1, 3) := by decide +kernel
theorem dX7_init_4 : decode cX7_init 4 = .ok (.aload_n 0, 1) := by decide +kernel
theorem dX7_init_5 : decode cX7_init 5 = .ok (.bipush 12, 2) := by decide +kernel
theorem dX7_init_7 : decode cX7_init 7 = .ok (.newarray .boolean, 2) := by decide +kernel
theorem dX7_init_9 : decode cX7_init 9 = .ok (.putfield 7, 3) := by decide +kernel
theorem dX7_init_12 : decode cX7_init 12 = .ok (.aload_n 0, 1) := by decide +kernel
theorem dX7_init_13 : decode cX7_init 13 = .ok (.bipush 12, 2) := by decide +kernel
theorem dX7_init_15 : decode cX7_init 15 = .ok (.newarray .boolean, 2) := by decide +kernel
theorem dX7_init_17 : decode cX7_init 17 = .ok (.putfield 13, 3) := by decide +kernel
theorem dX7_init_20 : decode cX7_init 20 = .ok (.aload_n 0, 1) := by decide +kernel
theorem dX7_init_21 : decode cX7_init 21 = .ok (.bipush 12, 2) := by decide +kernel
theorem dX7_init_23 : decode cX7_init 23 = .ok (.newarray .int, 2) := by decide +kernel
theorem dX7_init_25 : decode cX7_init 25 = .ok (.putfield 16, 3) := by decide +kernel
theorem dX7_init_28 : decode cX7_init 28 = .ok (.aload_n 0, 1) := by decide +kernel
theorem dX7_init_29 : decode cX7_init 29 = .ok (.bipush 12, 2) := by decide +kernel
theorem dX7_init_31 : decode cX7_init 31 = .ok (.newarray .int, 2) := by decide +kernel
theorem dX7_init_33 : decode cX7_init 33 = .ok (.putfield 20, 3) := by decide +kernel
theorem dX7_init_36 : decode cX7_init 36 = .ok (.aload_n 0, 1) := by decide +kernel
theorem dX7_init_37 : decode cX7_init 37 = .ok (.bipush 12, 2) := by decide +kernel
theorem dX7_init_39 : decode cX7_init 39 = .ok (.newarray .int, 2) := by decide +kernel
theorem dX7_init_41 : decode cX7_init 41 = .ok (.putfield 23, 3) := by decide +kernel
theorem dX7_init_44 : decode cX7_init 44 = .ok (.aload_n 0, 1) := by decide +kernel
theorem dX7_init_45 : decode cX7_init 45 = .ok (.bipush 8, 2) := by decide +kernel
theorem dX7_init_47 : decode cX7_init 47 = .ok (.newarray .int, 2) := by decide +kernel
theorem dX7_init_49 : decode cX7_init 49 = .ok (.putfield 26, 3) := by decide +kernel
theorem dX7_init_52 : decode cX7_init 52 = .ok (.aload_n 0, 1) := by decide +kernel
theorem dX7_init_53 : decode cX7_init 53 = .ok (.bipush 64, 2) := by decide +kernel
theorem dX7_init_55 : decode cX7_init 55 = .ok (.newarray .int, 2) := by decide +kernel
theorem dX7_init_57 : decode cX7_init 57 = .ok (.putfield 29, 3) := by decide +kernel
theorem dX7_init_60 : decode cX7_init 60 = .ok (.aload_n 0, 1) := by decide +kernel
theorem dX7_init_61 : decode cX7_init 61 = .ok (.bipush 64, 2) := by decide +kernel
theorem dX7_init_63 : decode cX7_init 63 = .ok (.newarray .int, 2) := by decide +kernel
theorem dX7_init_65 : decode cX7_init 65 = .ok (.putfield 32, 3) := by decide +kernel
theorem dX7_init_68 : decode cX7_init 68 = .ok (.aload_n 0, 1) := by decide +kernel
theorem dX7_init_69 : decode cX7_init 69 = .ok (.bipush 64, 2) := by decide +kernel
theorem dX7_init_71 : decode cX7_init 71 = .ok (.newarray .int, 2) := by decide +kernel
theorem dX7_init_73 : decode cX7_init 73 = .ok (.putfield 35, 3) := by decide +kernel
theorem dX7_init_76 : decode cX7_init 76 = .ok (.aload_n 0, 1) := by decide +kernel
theorem dX7_init_77 : decode cX7_init 77 = .ok (.bipush 24, 2) := by decide +kernel
theorem dX7_init_79 : decode cX7_init 79 = .ok (.newarray .int, 2) := by decide +kernel
theorem dX7_init_81 : decode cX7_init 81 = .ok (.putfield 38, 3) := by decide +kernel
theorem dX7_init_84 : decode cX7_init 84 = .ok (.aload_n 0, 1) := by decide +kernel
theorem dX7_init_85 : decode cX7_init 85 = .ok (.sipush 384, 3) := by decide +kernel
theorem dX7_init_88 : decode cX7_init 88 = .ok (.newarray .int, 2) := by decide +kernel
theorem dX7_init_90 : decode cX7_init 90 = .ok (.putfield 41, 3) := by decide +kernel
theorem dX7_init_93 : decode cX7_init 93 = .ok (.aload_n 0, 1) := by decide +kernel
theorem dX7_init_94 : decode cX7_init 94 = .ok (.sipush 384, 3) := by decide +kernel
theorem dX7_init_97 : decode cX7_init 97 = .ok (.newarray .int, 2) := by decide +kernel
theorem dX7_init_99 : decode cX7_init 99 = .ok (.putfield 44, 3) := by decide +kernel
theorem dX7_init_102 : decode cX7_init 102 = .ok (.aload_n 0, 1) := by decide +kernel
theorem dX7_init_103 : decode cX7_init 103 = .ok (.sipush 384, 3) := by decide +kernel
theorem dX7_init_106 : decode cX7_init 106 = .ok (.newarray .int, 2) := by decide +kernel
theorem dX7_init_108 : decode cX7_init 108 = .ok (.putfield 47, 3) := by decide +kernel
theorem dX7_init_111 : decode cX7_init 111 = .ok (.aload_n 0, 1) := by decide +kernel
theorem dX7_init_112 : decode cX7_init 112 = .ok (.sipush 384, 3) := by decide +kernel
theorem dX7_init_115 : decode cX7_init 115 = .ok (.newarray .int, 2) := by decide +kernel
theorem dX7_init_117 : decode cX7_init 117 = .ok (.putfield 50, 3) := by decide +kernel
theorem dX7_init_120 : decode cX7_init 120 = .ok (.aload_n 0, 1) := by decide +kernel
theorem dX7_init_121 : decode cX7_init 121 = .ok (.sipush 384, 3) := by decide +kernel
theorem dX7_init_124 : decode cX7_init 124 = .ok (.newarray .boolean, 2) := by decide +kernel
theorem dX7_init_126 : decode cX7_init 126 = .ok (.putfield 53, 3) := by decide +kernel
theorem dX7_init_129 : decode cX7_init 129 = .ok (.aload_n 0, 1) := by decide +kernel
theorem dX7_init_130 : decode cX7_init 130 = .ok (.sipush 768, 3) := by decide +kernel
theorem dX7_init_133 : decode cX7_init 133 = .ok (.newarray .int, 2) := by decide +kernel
theorem dX7_init_135 : decode cX7_init 135 = .ok (.putfield 56, 3) := by decide +kernel
theorem dX7_init_138 : decode cX7_init 138 = .ok (.aload_n 0, 1) := by decide +kernel
theorem dX7_init_139 : decode cX7_init 139 = .ok (.sipush 768, 3) := by decide +kernel
theorem dX7_init_142 : decode cX7_init 142 = .ok (.newarray .int, 2) := by decide +kernel
theorem dX7_init_144 : decode cX7_init 144 = .ok (.putfield 59, 3) := by decide +kernel
theorem dX7_init_147 : decode cX7_init 147 = .ok (.aload_n 0, 1) := by decide +kernel
theorem dX7_init_148 : decode cX7_init 148 = .ok (.bipush 64, 2) := by decide +kernel
theorem dX7_init_150 : decode cX7_init 150 = .ok (.newarray .int, 2) := by decide +kernel
theorem dX7_init_152 : decode cX7_init 152 = .ok (.putfield 62, 3) := by decide +kernel
theorem dX7_init_155 : decode cX7_init 155 = .ok (.aload_n 0, 1) := by decide +kernel
theorem dX7_init_156 : decode cX7_init 156 = .ok (.bipush 64, 2) := by decide +kernel
theorem dX7_init_158 : decode cX7_init 158 = .ok (.newarray .int, 2) := by decide +kernel
theorem dX7_init_160 : decode cX7_init 160 = .ok (.putfield 65, 3) := by decide +kernel
theorem dX7_init_163 : decode cX7_init 163 = .ok (.aload_n 0, 1) := by decide +kernel
theorem dX7_init_164 : decode cX7_init 164 = .ok (.sipush 512, 3) := by decide +kernel
theorem dX7_init_167 : decode cX7_init 167 = .ok (.newarray .int, 2) := by decide +kernel
theorem dX7_init_169 : decode cX7_init 169 = .ok (.putfield 68, 3) := by decide +kernel
theorem dX7_init_172 : decode cX7_init 172 = .ok (.aload_n 0, 1) := by decide +kernel
theorem dX7_init_173 : decode cX7_init 173 = .ok (.sipush 512, 3) := by decide +kernel
theorem dX7_init_176 : decode cX7_init 176 = .ok (.newarray .int, 2) := by decide +kernel
theorem dX7_init_178 : decode cX7_init 178 = .ok (.putfield 71, 3) := by decide +kernel
theorem dX7_init_181 : decode cX7_init 181 = .ok (.aload_n 0, 1) := by decide +kernel
theorem dX7_init_182 : decode cX7_init 182 = .ok (.bipush 64, 2) := by decide +kernel
theorem dX7_init_184 : decode cX7_init 184 = .ok (.newarray .int, 2) := by decide +kernel
theorem dX7_init_186 : decode cX7_init 186 = .ok (.putfield 74, 3) := by decide +kernel
theorem dX7_init_189 : decode cX7_init 189 = .ok (.aload_n 0, 1) := by decide +kernel
theorem dX7_init_190 : decode cX7_init 190 = .ok (.bipush 64, 2) := by decide +kernel
theorem dX7_init_192 : decode cX7_init 192 = .ok (.newarray .int, 2) := by decide +kernel
theorem dX7_init_194 : decode cX7_init 194 = .ok (.putfield 77, 3) := by decide +kernel
theorem dX7_init_197 : decode cX7_init 197 = .ok (.aload_n 0, 1) := by decide +kernel
theorem dX7_init_198 : decode cX7_init 198 = .ok (.bipush 64, 2) := by decide +kernel
theorem dX7_init_200 : decode cX7_init 200 = .ok (.newarray .int, 2) := by decide +kernel
theorem dX7_init_202 : decode cX7_init 202 = .ok (.putfield 80, 3) := by decide +kernel
theorem dX7_init_205 : decode cX7_init 205 = .ok (.aload_n 0, 1) := by decide +kernel
theorem dX7_init_206 : decode cX7_init 206 = .ok (.bipush 64, 2) := by decide +kernel
theorem dX7_init_208 : decode cX7_init 208 = .ok (.newarray .int, 2) := by decide +kernel
theorem dX7_init_210 : decode cX7_init 210 = .ok (.putfield 83, 3) := by decide +kernel
theorem dX7_init_213 : decode cX7_init 213 = .ok (.aload_n 0, 1) := by decide +kernel
theorem dX7_init_214 : decode cX7_init 214 = .ok (.bipush 64, 2) := by decide +kernel
theorem dX7_init_216 : decode cX7_init 216 = .ok (.newarray .int, 2) := by decide +kernel
theorem dX7_init_218 : decode cX7_init 218 = .ok (.putfield 86, 3) := by decide +kernel
theorem dX7_init_221 : decode cX7_init 221 = .ok (.aload_n 0, 1) := by decide +kernel
theorem dX7_init_222 : decode cX7_init 222 = .ok (.bipush 64, 2) := by decide +kernel
theorem dX7_init_224 : decode cX7_init 224 = .ok (.newarray .int, 2) := by decide +kernel
theorem dX7_init_226 : decode cX7_init 226 = .ok (.putfield 89, 3) := by decide +kernel
theorem dX7_init_229 : decode cX7_init 229 = .ok (.aload_n 0, 1) := by decide +kernel
theorem dX7_init_230 : decode cX7_init 230 = .ok (.iload_n 1, 1) := by decide +kernel
theorem dX7_init_231 : decode cX7_init 231 = .ok (.iconst 2, 1) := by decide +kernel
theorem dX7_init_232 : decode cX7_init 232 = .ok (.if_icmp .ge 7, 3) := by decide +kernel
theorem dX7_init_235 : decode cX7_init 235 = .ok (.iconst 2, 1) := by decide +kernel
theorem dX7_init_236 : decode cX7_init 236 = .ok (.goto 15, 3) := by decide +kernel
theorem dX7_init_239 : decode cX7_init 239 = .ok (.iload_n 1, 1) := by decide +kernel
theorem dX7_init_240 : decode cX7_init 240 = .ok (.bipush 8, 2) := by decide +kernel
theorem dX7_init_242 : decode cX7_init 242 = .ok (.if_icmp .le 8, 3) := by decide +kernel
theorem dX7_init_245 : decode cX7_init 245 = .ok (.bipush 8, 2) := by decide +kernel
theorem dX7_init_247 : decode cX7_init 247 = .ok (.goto 4, 3) := by decide +kernel
theorem dX7_init_250 : decode cX7_init 250 = .ok (.iload_n 1, 1) := by decide +kernel
theorem dX7_init_251 : decode cX7_init 251 = .ok (.putfield 92, 3) := by decide +kernel
theorem dX7_init_254 : decode cX7_init 254 = .ok (.iconst 0, 1) := by decide +kernel
theorem dX7_init_255 : decode cX7_init 255 = .ok (.istore_n 2, 1) := by decide +kernel
theorem dX7_init_256 : decode cX7_init 256 = .ok (.iload_n 2, 1) := by decide +kernel
theorem dX7_init_257 : decode cX7_init 257 = .ok (.aload_n 0, 1) := by decide +kernel
theorem dX7_init_258 : decode cX7_init 258 = .ok (.getfield 92, 3) := by decide +kernel
theorem dX7_init_261 : decode cX7_init 261 = .ok (.if_icmp .ge 19, 3) := by decide +kernel
theorem dX7_init_264 : decode cX7_init 264 = .ok (.aload_n 0, 1) := by decide +kernel
theorem dX7_init_265 : decode cX7_init 265 = .ok (.getfield 29, 3) := by decide +kernel
theorem dX7_init_268 : decode cX7_init 268 = .ok (.bipush 9, 2) := by decide +kernel
theorem dX7_init_270 : decode cX7_init 270 = .ok (.iload_n 2, 1) := by decide +kernel
theorem dX7_init_271 : decode cX7_init 271 = .ok (.imul, 1) := by decide +kernel
theorem dX7_init_272 : decode cX7_init 272 = .ok (.iconst 1, 1) := by decide +kernel
theorem dX7_init_273 : decode cX7_init 273 = .ok (.iastore, 1) := by decide +kernel
theorem dX7_init_274 : decode cX7_init 274 = .ok (.iinc 2 1, 3) := by decide +kernel
theorem dX7_init_277 : decode cX7_init 277 = .ok (.goto (-21), 3) := by decide +kernel
theorem dX7_init_280 : decode cX7_init 280 = .ok (.iconst 0, 1) := by decide +kernel
theorem dX7_init_281 : decode cX7_init 281 = .ok (.istore_n 2, 1) := by decide +kernel
theorem dX7_init_282 : decode cX7_init 282 = .ok (.iload_n 2, 1) := by decide +kernel
theorem dX7_init_283 : decode cX7_init 283 = .ok (.bipush 8, 2) := by decide +kernel
theorem dX7_init_285 : decode cX7_init 285 = .ok (.if_icmp .ge 16, 3) := by decide +kernel
theorem dX7_init_288 : decode cX7_init 288 = .ok (.aload_n 0, 1) := by decide +kernel
theorem dX7_init_289 : decode cX7_init 289 = .ok (.getfield 26, 3) := by decide +kernel
theorem dX7_init_292 : decode cX7_init 292 = .ok (.iload_n 2, 1) := by decide +kernel
theorem dX7_init_293 : decode cX7_init 293 = .ok (.iconst (-1), 1) := by decide +kernel
theorem dX7_init_294 : decode cX7_init 294 = .ok (.iastore, 1) := by decide +kernel
theorem dX7_init_295 : decode cX7_init 295 = .ok (.iinc 2 1, 3) := by decide +kernel
theorem dX7_init_298 : decode cX7_init 298 = .ok (.goto (-16), 3) := by decide +kernel
theorem dX7_init_301 : decode cX7_init 301 = .ok (.iconst 0, 1) := by decide +kernel
theorem dX7_init_302 : decode cX7_init 302 = .ok (.istore_n 2, 1) := by decide +kernel
theorem dX7_init_303 : decode cX7_init 303 = .ok (.iload_n 2, 1) := by decide +kernel
theorem dX7_init_304 : decode cX7_init 304 = .ok (.bipush 64, 2) := by decide +kernel
theorem dX7_init_306 : decode cX7_init 306 = .ok (.if_icmp .ge 16, 3) := by decide +kernel
theorem dX7_init_309 : decode cX7_init 309 = .ok (.aload_n 0, 1) := by decide +kernel
theorem dX7_init_310 : decode cX7_init 310 = .ok (.getfield 62, 3) := by decide +kernel
theorem dX7_init_313 : decode cX7_init 313 = .ok (.iload_n 2, 1) := by decide +kernel
theorem dX7_init_314 : decode cX7_init 314 = .ok (.iconst (-1), 1) := by decide +kernel
theorem dX7_init_315 : decode cX7_init 315 = .ok (.iastore, 1) := by decide +kernel
theorem dX7_init_316 : decode cX7_init 316 = .ok (.iinc 2 1, 3) := by decide +kernel
theorem dX7_init_319 : decode cX7_init 319 = .ok (.goto (-16), 3) := by decide +kernel
theorem dX7_init_322 : decode cX7_init 322 = .ok (.iconst 0, 1) := by decide +kernel
theorem dX7_init_323 : decode cX7_init 323 = .ok (.istore_n 2, 1) := by decide +kernel
theorem dX7_init_324 : decode cX7_init 324 = .ok (.iload_n 2, 1) := by decide +kernel
theorem dX7_init_325 : decode cX7_init 325 = .ok (.sipush 768, 3) := by decide +kernel
theorem dX7_init_328 : decode cX7_init 328 = .ok (.if_icmp .ge 16, 3) := by decide +kernel
theorem dX7_init_331 : decode cX7_init 331 = .ok (.aload_n 0, 1) := by decide +kernel
theorem dX7_init_332 : decode cX7_init 332 = .ok (.getfield 56, 3) := by decide +kernel
theorem dX7_init_335 : decode cX7_init 335 = .ok (.iload_n 2, 1) := by decide +kernel
theorem dX7_init_336 : decode cX7_init 336 = .ok (.iconst (-1), 1) := by decide +kernel
theorem dX7_init_337 : decode cX7_init 337 = .ok (.iastore, 1) := by decide +kernel
theorem dX7_init_338 : decode cX7_init 338 = .ok (.iinc 2 1, 3) := by decide +kernel
theorem dX7_init_341 : decode cX7_init 341 = .ok (.goto (-17), 3) := by decide +kernel
theorem dX7_init_344 : decode cX7_init 344 = .ok (.return_, 1) := by decide +kernel
theorem dX7_thrown_0 : decode cX7_thrown 0 = .ok (.aload_n 0, 1) := by decide +kernel
theorem dX7_thrown_1 : decode cX7_thrown 1 = .ok (.getfield 96, 3) := by decide +kernel
theorem dX7_thrown_4 : decode cX7_thrown 4 = .ok (.ireturn, 1) := by decide +kernel
theorem dX7_goes_0 : decode cX7_goes 0 = .ok (.aload_n 0, 1) := by decide +kernel
theorem dX7_goes_1 : decode cX7_goes 1 = .ok (.iload_n 1, 1) := by decide +kernel
theorem dX7_goes_2 : decode cX7_goes 2 = .ok (.ifCond .ne 7, 3) := by decide +kernel
theorem dX7_goes_5 : decode cX7_goes 5 = .ok (.iconst 1, 1) := by decide +kernel
theorem dX7_goes_6 : decode cX7_goes 6 = .ok (.goto 12, 3) := by decide +kernel
theorem dX7_goes_9 : decode cX7_goes 9 = .ok (.iload_n 2, 1) := by decide +kernel
theorem dX7_goes_10 : decode cX7_goes 10 = .ok (.ifCond .ne 7, 3) := by decide +kernel
theorem dX7_goes_13 : decode cX7_goes 13 = .ok (.iconst 2, 1) := by decide +kernel
theorem dX7_goes_14 : decode cX7_goes 14 = .ok (.goto 4, 3) := by decide +kernel
theorem dX7_goes_17 : decode cX7_goes 17 = .ok (.iconst 0, 1) := by decide +kernel
theorem dX7_goes_18 : decode cX7_goes 18 = .ok (.putfield 96, 3) := by decide +kernel
theorem dX7_goes_21 : decode cX7_goes 21 = .ok (.aload_n 0, 1) := by decide +kernel
theorem dX7_goes_22 : decode cX7_goes 22 = .ok (.getfield 96, 3) := by decide +kernel
theorem dX7_goes_25 : decode cX7_goes 25 = .ok (.ifCond .ne 7, 3) := by decide +kernel
theorem dX7_goes_28 : decode cX7_goes 28 = .ok (.iconst 1, 1) := by decide +kernel
theorem dX7_goes_29 : decode cX7_goes 29 = .ok (.goto 4, 3) := by decide +kernel
theorem dX7_goes_32 : decode cX7_goes 32 = .ok (.iconst 0, 1) := by decide +kernel
theorem dX7_goes_33 : decode cX7_goes 33 = .ok (.ireturn, 1) := by decide +kernel
theorem dX7_in_0 : decode cX7_in 0 = .ok (.iload_n 0, 1) := by decide +kernel
theorem dX7_in_1 : decode cX7_in 1 = .ok (.ifCond .lt 12, 3) := by decide +kernel
theorem dX7_in_4 : decode cX7_in 4 = .ok (.iload_n 0, 1) := by decide +kernel
theorem dX7_in_5 : decode cX7_in 5 = .ok (.iload_n 1, 1) := by decide +kernel
theorem dX7_in_6 : decode cX7_in 6 = .ok (.if_icmp .ge 7, 3) := by decide +kernel
theorem dX7_in_9 : decode cX7_in 9 = .ok (.iconst 1, 1) := by decide +kernel
theorem dX7_in_10 : decode cX7_in 10 = .ok (.goto 4, 3) := by decide +kernel
theorem dX7_in_13 : decode cX7_in 13 = .ok (.iconst 0, 1) := by decide +kernel
theorem dX7_in_14 : decode cX7_in 14 = .ok (.ireturn, 1) := by decide +kernel
theorem dX7_isRouter_0 : decode cX7_isRouter 0 = .ok (.iload_n 1, 1) := by decide +kernel
theorem dX7_isRouter_1 : decode cX7_isRouter 1 = .ok (.aload_n 0, 1) := by decide +kernel
theorem dX7_isRouter_2 : decode cX7_isRouter 2 = .ok (.getfield 92, 3) := by decide +kernel
theorem dX7_isRouter_5 : decode cX7_isRouter 5 = .ok (.invokestatic 99, 3) := by decide +kernel
theorem dX7_isRouter_8 : decode cX7_isRouter 8 = .ok (.ireturn, 1) := by decide +kernel
theorem dX7_isUp_0 : decode cX7_isUp 0 = .ok (.aload_n 0, 1) := by decide +kernel
theorem dX7_isUp_1 : decode cX7_isUp 1 = .ok (.getfield 13, 3) := by decide +kernel
theorem dX7_isUp_4 : decode cX7_isUp 4 = .ok (.iload_n 2, 1) := by decide +kernel
theorem dX7_isUp_5 : decode cX7_isUp 5 = .ok (.baload, 1) := by decide +kernel
theorem dX7_isUp_6 : decode cX7_isUp 6 = .ok (.ifCond .eq 27, 3) := by decide +kernel
theorem dX7_isUp_9 : decode cX7_isUp 9 = .ok (.aload_n 0, 1) := by decide +kernel
theorem dX7_isUp_10 : decode cX7_isUp 10 = .ok (.getfield 16, 3) := by decide +kernel
theorem dX7_isUp_13 : decode cX7_isUp 13 = .ok (.iload_n 2, 1) := by decide +kernel
theorem dX7_isUp_14 : decode cX7_isUp 14 = .ok (.iaload, 1) := by decide +kernel
theorem dX7_isUp_15 : decode cX7_isUp 15 = .ok (.iload_n 1, 1) := by decide +kernel
theorem dX7_isUp_16 : decode cX7_isUp 16 = .ok (.if_icmp .eq 13, 3) := by decide +kernel
theorem dX7_isUp_19 : decode cX7_isUp 19 = .ok (.aload_n 0, 1) := by decide +kernel
theorem dX7_isUp_20 : decode cX7_isUp 20 = .ok (.getfield 20, 3) := by decide +kernel
theorem dX7_isUp_23 : decode cX7_isUp 23 = .ok (.iload_n 2, 1) := by decide +kernel
theorem dX7_isUp_24 : decode cX7_isUp 24 = .ok (.iaload, 1) := by decide +kernel
theorem dX7_isUp_25 : decode cX7_isUp 25 = .ok (.iload_n 1, 1) := by decide +kernel
theorem dX7_isUp_26 : decode cX7_isUp 26 = .ok (.if_icmp .ne 7, 3) := by decide +kernel
theorem dX7_isUp_29 : decode cX7_isUp 29 = .ok (.iconst 1, 1) := by decide +kernel
theorem dX7_isUp_30 : decode cX7_isUp 30 = .ok (.goto 4, 3) := by decide +kernel
theorem dX7_isUp_33 : decode cX7_isUp 33 = .ok (.iconst 0, 1) := by decide +kernel
theorem dX7_isUp_34 : decode cX7_isUp 34 = .ok (.ireturn, 1) := by decide +kernel
theorem dX7_other_0 : decode cX7_other 0 = .ok (.aload_n 0, 1) := by decide +kernel
theorem dX7_other_1 : decode cX7_other 1 = .ok (.getfield 16, 3) := by decide +kernel
theorem dX7_other_4 : decode cX7_other 4 = .ok (.iload_n 2, 1) := by decide +kernel
theorem dX7_other_5 : decode cX7_other 5 = .ok (.iaload, 1) := by decide +kernel
theorem dX7_other_6 : decode cX7_other 6 = .ok (.iload_n 1, 1) := by decide +kernel
theorem dX7_other_7 : decode cX7_other 7 = .ok (.if_icmp .ne 12, 3) := by decide +kernel
theorem dX7_other_10 : decode cX7_other 10 = .ok (.aload_n 0, 1) := by decide +kernel
theorem dX7_other_11 : decode cX7_other 11 = .ok (.getfield 20, 3) := by decide +kernel
theorem dX7_other_14 : decode cX7_other 14 = .ok (.iload_n 2, 1) := by decide +kernel
theorem dX7_other_15 : decode cX7_other 15 = .ok (.iaload, 1) := by decide +kernel
theorem dX7_other_16 : decode cX7_other 16 = .ok (.goto 9, 3) := by decide +kernel
theorem dX7_other_19 : decode cX7_other 19 = .ok (.aload_n 0, 1) := by decide +kernel
theorem dX7_other_20 : decode cX7_other 20 = .ok (.getfield 16, 3) := by decide +kernel
theorem dX7_other_23 : decode cX7_other 23 = .ok (.iload_n 2, 1) := by decide +kernel
theorem dX7_other_24 : decode cX7_other 24 = .ok (.iaload, 1) := by decide +kernel
theorem dX7_other_25 : decode cX7_other 25 = .ok (.ireturn, 1) := by decide +kernel
theorem dX7_put_0 : decode cX7_put 0 = .ok (.aload_n 0, 1) := by decide +kernel
theorem dX7_put_1 : decode cX7_put 1 = .ok (.getfield 16, 3) := by decide +kernel
theorem dX7_put_4 : decode cX7_put 4 = .ok (.iload_n 2, 1) := by decide +kernel
theorem dX7_put_5 : decode cX7_put 5 = .ok (.iaload, 1) := by decide +kernel
theorem dX7_put_6 : decode cX7_put 6 = .ok (.iload_n 1, 1) := by decide +kernel
theorem dX7_put_7 : decode cX7_put 7 = .ok (.if_icmp .ne 9, 3) := by decide +kernel
theorem dX7_put_10 : decode cX7_put 10 = .ok (.iconst 2, 1) := by decide +kernel
theorem dX7_put_11 : decode cX7_put 11 = .ok (.iload_n 2, 1) := by decide +kernel
theorem dX7_put_12 : decode cX7_put 12 = .ok (.imul, 1) := by decide +kernel
theorem dX7_put_13 : decode cX7_put 13 = .ok (.goto 8, 3) := by decide +kernel
theorem dX7_put_16 : decode cX7_put 16 = .ok (.iconst 2, 1) := by decide +kernel
theorem dX7_put_17 : decode cX7_put 17 = .ok (.iload_n 2, 1) := by decide +kernel
theorem dX7_put_18 : decode cX7_put 18 = .ok (.imul, 1) := by decide +kernel
theorem dX7_put_19 : decode cX7_put 19 = .ok (.iconst 1, 1) := by decide +kernel
theorem dX7_put_20 : decode cX7_put 20 = .ok (.iadd, 1) := by decide +kernel
theorem dX7_put_21 : decode cX7_put 21 = .ok (.istore 7, 2) := by decide +kernel
theorem dX7_put_23 : decode cX7_put 23 = .ok (.aload_n 0, 1) := by decide +kernel
theorem dX7_put_24 : decode cX7_put 24 = .ok (.getfield 38, 3) := by decide +kernel
theorem dX7_put_27 : decode cX7_put 27 = .ok (.iload 7, 2) := by decide +kernel
theorem dX7_put_29 : decode cX7_put 29 = .ok (.iaload, 1) := by decide +kernel
theorem dX7_put_30 : decode cX7_put 30 = .ok (.bipush 16, 2) := by decide +kernel
theorem dX7_put_32 : decode cX7_put 32 = .ok (.if_icmp .ne 5, 3) := by decide +kernel
theorem dX7_put_35 : decode cX7_put 35 = .ok (.iconst 0, 1) := by decide +kernel
theorem dX7_put_36 : decode cX7_put 36 = .ok (.ireturn, 1) := by decide +kernel
theorem dX7_put_37 : decode cX7_put 37 = .ok (.bipush 16, 2) := by decide +kernel
theorem dX7_put_39 : decode cX7_put 39 = .ok (.iload 7, 2) := by decide +kernel
theorem dX7_put_41 : decode cX7_put 41 = .ok (.imul, 1) := by decide +kernel
theorem dX7_put_42 : decode cX7_put 42 = .ok (.aload_n 0, 1) := by decide +kernel
theorem dX7_put_43 : decode cX7_put 43 = .ok (.getfield 38, 3) := by decide +kernel
theorem dX7_put_46 : decode cX7_put 46 = .ok (.iload 7, 2) := by decide +kernel
theorem dX7_put_48 : decode cX7_put 48 = .ok (.iaload, 1) := by decide +kernel
theorem dX7_put_49 : decode cX7_put 49 = .ok (.iadd, 1) := by decide +kernel
theorem dX7_put_50 : decode cX7_put 50 = .ok (.istore 8, 2) := by decide +kernel
theorem dX7_put_52 : decode cX7_put 52 = .ok (.aload_n 0, 1) := by decide +kernel
theorem dX7_put_53 : decode cX7_put 53 = .ok (.getfield 41, 3) := by decide +kernel
theorem dX7_put_56 : decode cX7_put 56 = .ok (.iload 8, 2) := by decide +kernel
theorem dX7_put_58 : decode cX7_put 58 = .ok (.iload_n 3, 1) := by decide +kernel
theorem dX7_put_59 : decode cX7_put 59 = .ok (.iastore, 1) := by decide +kernel
theorem dX7_put_60 : decode cX7_put 60 = .ok (.aload_n 0, 1) := by decide +kernel
theorem dX7_put_61 : decode cX7_put 61 = .ok (.getfield 44, 3) := by decide +kernel
theorem dX7_put_64 : decode cX7_put 64 = .ok (.iload 8, 2) := by decide +kernel
theorem dX7_put_66 : decode cX7_put 66 = .ok (.iload 4, 2) := by decide +kernel
theorem dX7_put_68 : decode cX7_put 68 = .ok (.iastore, 1) := by decide +kernel
theorem dX7_put_69 : decode cX7_put 69 = .ok (.aload_n 0, 1) := by decide +kernel
theorem dX7_put_70 : decode cX7_put 70 = .ok (.getfield 47, 3) := by decide +kernel
theorem dX7_put_73 : decode cX7_put 73 = .ok (.iload 8, 2) := by decide +kernel
theorem dX7_put_75 : decode cX7_put 75 = .ok (.iload 5, 2) := by decide +kernel
theorem dX7_put_77 : decode cX7_put 77 = .ok (.iastore, 1) := by decide +kernel
theorem dX7_put_78 : decode cX7_put 78 = .ok (.aload_n 0, 1) := by decide +kernel
theorem dX7_put_79 : decode cX7_put 79 = .ok (.getfield 50, 3) := by decide +kernel
theorem dX7_put_82 : decode cX7_put 82 = .ok (.iload 8, 2) := by decide +kernel
theorem dX7_put_84 : decode cX7_put 84 = .ok (.iload 6, 2) := by decide +kernel
theorem dX7_put_86 : decode cX7_put 86 = .ok (.iastore, 1) := by decide +kernel
theorem dX7_put_87 : decode cX7_put 87 = .ok (.aload_n 0, 1) := by decide +kernel
theorem dX7_put_88 : decode cX7_put 88 = .ok (.getfield 53, 3) := by decide +kernel
theorem dX7_put_91 : decode cX7_put 91 = .ok (.iload 8, 2) := by decide +kernel
theorem dX7_put_93 : decode cX7_put 93 = .ok (.iconst 0, 1) := by decide +kernel
theorem dX7_put_94 : decode cX7_put 94 = .ok (.bastore, 1) := by decide +kernel
theorem dX7_put_95 : decode cX7_put 95 = .ok (.aload_n 0, 1) := by decide +kernel
theorem dX7_put_96 : decode cX7_put 96 = .ok (.getfield 38, 3) := by decide +kernel
theorem dX7_put_99 : decode cX7_put 99 = .ok (.iload 7, 2) := by decide +kernel
theorem dX7_put_101 : decode cX7_put 101 = .ok (.dup2, 1) := by decide +kernel
theorem dX7_put_102 : decode cX7_put 102 = .ok (.iaload, 1) := by decide +kernel
theorem dX7_put_103 : decode cX7_put 103 = .ok (.iconst 1, 1) := by decide +kernel
theorem dX7_put_104 : decode cX7_put 104 = .ok (.iadd, 1) := by decide +kernel
theorem dX7_put_105 : decode cX7_put 105 = .ok (.iastore, 1) := by decide +kernel
theorem dX7_put_106 : decode cX7_put 106 = .ok (.iconst 1, 1) := by decide +kernel
theorem dX7_put_107 : decode cX7_put 107 = .ok (.ireturn, 1) := by decide +kernel
theorem dX7_send_0 : decode cX7_send 0 = .ok (.aload_n 0, 1) := by decide +kernel
theorem dX7_send_1 : decode cX7_send 1 = .ok (.iload_n 1, 1) := by decide +kernel
theorem dX7_send_2 : decode cX7_send 2 = .ok (.iload_n 2, 1) := by decide +kernel
theorem dX7_send_3 : decode cX7_send 3 = .ok (.iload_n 3, 1) := by decide +kernel
theorem dX7_send_4 : decode cX7_send 4 = .ok (.iload 4, 2) := by decide +kernel
theorem dX7_send_6 : decode cX7_send 6 = .ok (.iload 5, 2) := by decide +kernel
theorem dX7_send_8 : decode cX7_send 8 = .ok (.iload 6, 2) := by decide +kernel
theorem dX7_send_10 : decode cX7_send 10 = .ok (.invokevirtual 103, 3) := by decide +kernel
theorem dX7_send_13 : decode cX7_send 13 = .ok (.ifCond .ne 16, 3) := by decide +kernel
theorem dX7_send_16 : decode cX7_send 16 = .ok (.aload_n 0, 1) := by decide +kernel
theorem dX7_send_17 : decode cX7_send 17 = .ok (.dup, 1) := by decide +kernel
theorem dX7_send_18 : decode cX7_send 18 = .ok (.getfield 107, 3) := by decide +kernel
theorem dX7_send_21 : decode cX7_send 21 = .ok (.iconst 1, 1) := by decide +kernel
theorem dX7_send_22 : decode cX7_send 22 = .ok (.iadd, 1) := by decide +kernel
theorem dX7_send_23 : decode cX7_send 23 = .ok (.putfield 107, 3) := by decide +kernel
theorem dX7_send_26 : decode cX7_send 26 = .ok (.goto 36, 3) := by decide +kernel
theorem dX7_send_29 : decode cX7_send 29 = .ok (.iload_n 3, 1) := by decide +kernel
theorem dX7_send_30 : decode cX7_send 30 = .ok (.iconst 1, 1) := by decide +kernel
theorem dX7_send_31 : decode cX7_send 31 = .ok (.if_icmp .ne 31, 3) := by decide +kernel
theorem dX7_send_34 : decode cX7_send 34 = .ok (.iload 5, 2) := by decide +kernel
theorem dX7_send_36 : decode cX7_send 36 = .ok (.bipush 16, 2) := by decide +kernel
theorem dX7_send_38 : decode cX7_send 38 = .ok (.if_icmp .lt 24, 3) := by decide +kernel
theorem dX7_send_41 : decode cX7_send 41 = .ok (.aload_n 0, 1) := by decide +kernel
theorem dX7_send_42 : decode cX7_send 42 = .ok (.getfield 71, 3) := by decide +kernel
theorem dX7_send_45 : decode cX7_send 45 = .ok (.bipush 64, 2) := by decide +kernel
theorem dX7_send_47 : decode cX7_send 47 = .ok (.iload_n 1, 1) := by decide +kernel
theorem dX7_send_48 : decode cX7_send 48 = .ok (.imul, 1) := by decide +kernel
theorem dX7_send_49 : decode cX7_send 49 = .ok (.iload 5, 2) := by decide +kernel
theorem dX7_send_51 : decode cX7_send 51 = .ok (.iadd, 1) := by decide +kernel
theorem dX7_send_52 : decode cX7_send 52 = .ok (.bipush 16, 2) := by decide +kernel
theorem dX7_send_54 : decode cX7_send 54 = .ok (.isub, 1) := by decide +kernel
theorem dX7_send_55 : decode cX7_send 55 = .ok (.dup2, 1) := by decide +kernel
theorem dX7_send_56 : decode cX7_send 56 = .ok (.iaload, 1) := by decide +kernel
theorem dX7_send_57 : decode cX7_send 57 = .ok (.iconst 1, 1) := by decide +kernel
theorem dX7_send_58 : decode cX7_send 58 = .ok (.iload_n 2, 1) := by decide +kernel
theorem dX7_send_59 : decode cX7_send 59 = .ok (.ishl, 1) := by decide +kernel
theorem dX7_send_60 : decode cX7_send 60 = .ok (.ior, 1) := by decide +kernel
theorem dX7_send_61 : decode cX7_send 61 = .ok (.iastore, 1) := by decide +kernel
theorem dX7_send_62 : decode cX7_send 62 = .ok (.return_, 1) := by decide +kernel
theorem dX7_sendAll_0 : decode cX7_sendAll 0 = .ok (.iconst 0, 1) := by decide +kernel
theorem dX7_sendAll_1 : decode cX7_sendAll 1 = .ok (.istore 7, 2) := by decide +kernel
theorem dX7_sendAll_3 : decode cX7_sendAll 3 = .ok (.iload 7, 2) := by decide +kernel
theorem dX7_sendAll_5 : decode cX7_sendAll 5 = .ok (.bipush 12, 2) := by decide +kernel
theorem dX7_sendAll_7 : decode cX7_sendAll 7 = .ok (.if_icmp .ge 39, 3) := by decide +kernel
theorem dX7_sendAll_10 : decode cX7_sendAll 10 = .ok (.iload 7, 2) := by decide +kernel
theorem dX7_sendAll_12 : decode cX7_sendAll 12 = .ok (.iload_n 2, 1) := by decide +kernel
theorem dX7_sendAll_13 : decode cX7_sendAll 13 = .ok (.if_icmp .eq 27, 3) := by decide +kernel
theorem dX7_sendAll_16 : decode cX7_sendAll 16 = .ok (.aload_n 0, 1) := by decide +kernel
theorem dX7_sendAll_17 : decode cX7_sendAll 17 = .ok (.iload_n 1, 1) := by decide +kernel
theorem dX7_sendAll_18 : decode cX7_sendAll 18 = .ok (.iload 7, 2) := by decide +kernel
theorem dX7_sendAll_20 : decode cX7_sendAll 20 = .ok (.invokevirtual 110, 3) := by decide +kernel
theorem dX7_sendAll_23 : decode cX7_sendAll 23 = .ok (.ifCond .eq 17, 3) := by decide +kernel
theorem dX7_sendAll_26 : decode cX7_sendAll 26 = .ok (.aload_n 0, 1) := by decide +kernel
theorem dX7_sendAll_27 : decode cX7_sendAll 27 = .ok (.iload_n 1, 1) := by decide +kernel
theorem dX7_sendAll_28 : decode cX7_sendAll 28 = .ok (.iload 7, 2) := by decide +kernel
theorem dX7_sendAll_30 : decode cX7_sendAll 30 = .ok (.iload_n 3, 1) := by decide +kernel
theorem dX7_sendAll_31 : decode cX7_sendAll 31 = .ok (.iload 4, 2) := by decide +kernel
theorem dX7_sendAll_33 : decode cX7_sendAll 33 = .ok (.iload 5, 2) := by decide +kernel
theorem dX7_sendAll_35 : decode cX7_sendAll 35 = .ok (.iload 6, 2) := by decide +kernel
theorem dX7_sendAll_37 : decode cX7_sendAll 37 = .ok (.invokevirtual 113, 3) := by decide +kernel
theorem dX7_sendAll_40 : decode cX7_sendAll 40 = .ok (.iinc 7 1, 3) := by decide +kernel
theorem dX7_sendAll_43 : decode cX7_sendAll 43 = .ok (.goto (-40), 3) := by decide +kernel
theorem dX7_sendAll_46 : decode cX7_sendAll 46 = .ok (.return_, 1) := by decide +kernel
theorem dX7_bodyOf_0 : decode cX7_bodyOf 0 = .ok (.aload_n 0, 1) := by decide +kernel
theorem dX7_bodyOf_1 : decode cX7_bodyOf 1 = .ok (.getfield 32, 3) := by decide +kernel
theorem dX7_bodyOf_4 : decode cX7_bodyOf 4 = .ok (.bipush 8, 2) := by decide +kernel
theorem dX7_bodyOf_6 : decode cX7_bodyOf 6 = .ok (.iload_n 1, 1) := by decide +kernel
theorem dX7_bodyOf_7 : decode cX7_bodyOf 7 = .ok (.imul, 1) := by decide +kernel
theorem dX7_bodyOf_8 : decode cX7_bodyOf 8 = .ok (.iload_n 2, 1) := by decide +kernel
theorem dX7_bodyOf_9 : decode cX7_bodyOf 9 = .ok (.iadd, 1) := by decide +kernel
theorem dX7_bodyOf_10 : decode cX7_bodyOf 10 = .ok (.iaload, 1) := by decide +kernel
theorem dX7_bodyOf_11 : decode cX7_bodyOf 11 = .ok (.aload_n 0, 1) := by decide +kernel
theorem dX7_bodyOf_12 : decode cX7_bodyOf 12 = .ok (.getfield 35, 3) := by decide +kernel
theorem dX7_bodyOf_15 : decode cX7_bodyOf 15 = .ok (.bipush 8, 2) := by decide +kernel
theorem dX7_bodyOf_17 : decode cX7_bodyOf 17 = .ok (.iload_n 1, 1) := by decide +kernel
theorem dX7_bodyOf_18 : decode cX7_bodyOf 18 = .ok (.imul, 1) := by decide +kernel
theorem dX7_bodyOf_19 : decode cX7_bodyOf 19 = .ok (.iload_n 2, 1) := by decide +kernel
theorem dX7_bodyOf_20 : decode cX7_bodyOf 20 = .ok (.iadd, 1) := by decide +kernel
theorem dX7_bodyOf_21 : decode cX7_bodyOf 21 = .ok (.iaload, 1) := by decide +kernel
theorem dX7_bodyOf_22 : decode cX7_bodyOf 22 = .ok (.bipush 12, 2) := by decide +kernel
theorem dX7_bodyOf_24 : decode cX7_bodyOf 24 = .ok (.ishl, 1) := by decide +kernel
theorem dX7_bodyOf_25 : decode cX7_bodyOf 25 = .ok (.ior, 1) := by decide +kernel
theorem dX7_bodyOf_26 : decode cX7_bodyOf 26 = .ok (.ireturn, 1) := by decide +kernel
theorem dX7_tell_0 : decode cX7_tell 0 = .ok (.iconst 0, 1) := by decide +kernel
theorem dX7_tell_1 : decode cX7_tell 1 = .ok (.istore_n 2, 1) := by decide +kernel
theorem dX7_tell_2 : decode cX7_tell 2 = .ok (.iconst 0, 1) := by decide +kernel
theorem dX7_tell_3 : decode cX7_tell 3 = .ok (.istore_n 3, 1) := by decide +kernel
theorem dX7_tell_4 : decode cX7_tell 4 = .ok (.iconst 0, 1) := by decide +kernel
theorem dX7_tell_5 : decode cX7_tell 5 = .ok (.istore 4, 2) := by decide +kernel
theorem dX7_tell_7 : decode cX7_tell 7 = .ok (.iload 4, 2) := by decide +kernel
theorem dX7_tell_9 : decode cX7_tell 9 = .ok (.bipush 12, 2) := by decide +kernel
theorem dX7_tell_11 : decode cX7_tell 11 = .ok (.if_icmp .ge 30, 3) := by decide +kernel
theorem dX7_tell_14 : decode cX7_tell 14 = .ok (.iload_n 2, 1) := by decide +kernel
theorem dX7_tell_15 : decode cX7_tell 15 = .ok (.aload_n 0, 1) := by decide +kernel
theorem dX7_tell_16 : decode cX7_tell 16 = .ok (.iload_n 1, 1) := by decide +kernel
theorem dX7_tell_17 : decode cX7_tell 17 = .ok (.iload 4, 2) := by decide +kernel
theorem dX7_tell_19 : decode cX7_tell 19 = .ok (.invokevirtual 110, 3) := by decide +kernel
theorem dX7_tell_22 : decode cX7_tell 22 = .ok (.ifCond .eq 10, 3) := by decide +kernel
theorem dX7_tell_25 : decode cX7_tell 25 = .ok (.iconst 1, 1) := by decide +kernel
theorem dX7_tell_26 : decode cX7_tell 26 = .ok (.iload 4, 2) := by decide +kernel
theorem dX7_tell_28 : decode cX7_tell 28 = .ok (.ishl, 1) := by decide +kernel
theorem dX7_tell_29 : decode cX7_tell 29 = .ok (.goto 4, 3) := by decide +kernel
theorem dX7_tell_32 : decode cX7_tell 32 = .ok (.iconst 0, 1) := by decide +kernel
theorem dX7_tell_33 : decode cX7_tell 33 = .ok (.ior, 1) := by decide +kernel
theorem dX7_tell_34 : decode cX7_tell 34 = .ok (.istore_n 2, 1) := by decide +kernel
theorem dX7_tell_35 : decode cX7_tell 35 = .ok (.iinc 4 1, 3) := by decide +kernel
theorem dX7_tell_38 : decode cX7_tell 38 = .ok (.goto (-31), 3) := by decide +kernel
theorem dX7_tell_41 : decode cX7_tell 41 = .ok (.iconst 0, 1) := by decide +kernel
theorem dX7_tell_42 : decode cX7_tell 42 = .ok (.istore 4, 2) := by decide +kernel
theorem dX7_tell_44 : decode cX7_tell 44 = .ok (.iload 4, 2) := by decide +kernel
theorem dX7_tell_46 : decode cX7_tell 46 = .ok (.bipush 8, 2) := by decide +kernel
theorem dX7_tell_48 : decode cX7_tell 48 = .ok (.if_icmp .ge 31, 3) := by decide +kernel
theorem dX7_tell_51 : decode cX7_tell 51 = .ok (.iload_n 3, 1) := by decide +kernel
theorem dX7_tell_52 : decode cX7_tell 52 = .ok (.aload_n 0, 1) := by decide +kernel
theorem dX7_tell_53 : decode cX7_tell 53 = .ok (.getfield 26, 3) := by decide +kernel
theorem dX7_tell_56 : decode cX7_tell 56 = .ok (.iload 4, 2) := by decide +kernel
theorem dX7_tell_58 : decode cX7_tell 58 = .ok (.iaload, 1) := by decide +kernel
theorem dX7_tell_59 : decode cX7_tell 59 = .ok (.iload_n 1, 1) := by decide +kernel
theorem dX7_tell_60 : decode cX7_tell 60 = .ok (.if_icmp .ne 10, 3) := by decide +kernel
theorem dX7_tell_63 : decode cX7_tell 63 = .ok (.iconst 1, 1) := by decide +kernel
theorem dX7_tell_64 : decode cX7_tell 64 = .ok (.iload 4, 2) := by decide +kernel
theorem dX7_tell_66 : decode cX7_tell 66 = .ok (.ishl, 1) := by decide +kernel
theorem dX7_tell_67 : decode cX7_tell 67 = .ok (.goto 4, 3) := by decide +kernel
theorem dX7_tell_70 : decode cX7_tell 70 = .ok (.iconst 0, 1) := by decide +kernel
theorem dX7_tell_71 : decode cX7_tell 71 = .ok (.ior, 1) := by decide +kernel
theorem dX7_tell_72 : decode cX7_tell 72 = .ok (.istore_n 3, 1) := by decide +kernel
theorem dX7_tell_73 : decode cX7_tell 73 = .ok (.iinc 4 1, 3) := by decide +kernel
theorem dX7_tell_76 : decode cX7_tell 76 = .ok (.goto (-32), 3) := by decide +kernel
theorem dX7_tell_79 : decode cX7_tell 79 = .ok (.aload_n 0, 1) := by decide +kernel
theorem dX7_tell_80 : decode cX7_tell 80 = .ok (.getfield 29, 3) := by decide +kernel
theorem dX7_tell_83 : decode cX7_tell 83 = .ok (.bipush 9, 2) := by decide +kernel
theorem dX7_tell_85 : decode cX7_tell 85 = .ok (.iload_n 1, 1) := by decide +kernel
theorem dX7_tell_86 : decode cX7_tell 86 = .ok (.imul, 1) := by decide +kernel
theorem dX7_tell_87 : decode cX7_tell 87 = .ok (.dup2, 1) := by decide +kernel
theorem dX7_tell_88 : decode cX7_tell 88 = .ok (.iaload, 1) := by decide +kernel
theorem dX7_tell_89 : decode cX7_tell 89 = .ok (.iconst 1, 1) := by decide +kernel
theorem dX7_tell_90 : decode cX7_tell 90 = .ok (.iadd, 1) := by decide +kernel
theorem dX7_tell_91 : decode cX7_tell 91 = .ok (.iastore, 1) := by decide +kernel
theorem dX7_tell_92 : decode cX7_tell 92 = .ok (.aload_n 0, 1) := by decide +kernel
theorem dX7_tell_93 : decode cX7_tell 93 = .ok (.getfield 32, 3) := by decide +kernel
theorem dX7_tell_96 : decode cX7_tell 96 = .ok (.bipush 9, 2) := by decide +kernel
theorem dX7_tell_98 : decode cX7_tell 98 = .ok (.iload_n 1, 1) := by decide +kernel
theorem dX7_tell_99 : decode cX7_tell 99 = .ok (.imul, 1) := by decide +kernel
theorem dX7_tell_100 : decode cX7_tell 100 = .ok (.iload_n 2, 1) := by decide +kernel
theorem dX7_tell_101 : decode cX7_tell 101 = .ok (.iastore, 1) := by decide +kernel
theorem dX7_tell_102 : decode cX7_tell 102 = .ok (.aload_n 0, 1) := by decide +kernel
theorem dX7_tell_103 : decode cX7_tell 103 = .ok (.getfield 35, 3) := by decide +kernel
theorem dX7_tell_106 : decode cX7_tell 106 = .ok (.bipush 9, 2) := by decide +kernel
theorem dX7_tell_108 : decode cX7_tell 108 = .ok (.iload_n 1, 1) := by decide +kernel
theorem dX7_tell_109 : decode cX7_tell 109 = .ok (.imul, 1) := by decide +kernel
theorem dX7_tell_110 : decode cX7_tell 110 = .ok (.iload_n 3, 1) := by decide +kernel
theorem dX7_tell_111 : decode cX7_tell 111 = .ok (.iastore, 1) := by decide +kernel
theorem dX7_tell_112 : decode cX7_tell 112 = .ok (.aload_n 0, 1) := by decide +kernel
theorem dX7_tell_113 : decode cX7_tell 113 = .ok (.iload_n 1, 1) := by decide +kernel
theorem dX7_tell_114 : decode cX7_tell 114 = .ok (.iconst (-1), 1) := by decide +kernel
theorem dX7_tell_115 : decode cX7_tell 115 = .ok (.iconst 0, 1) := by decide +kernel
theorem dX7_tell_116 : decode cX7_tell 116 = .ok (.iload_n 1, 1) := by decide +kernel
theorem dX7_tell_117 : decode cX7_tell 117 = .ok (.aload_n 0, 1) := by decide +kernel
theorem dX7_tell_118 : decode cX7_tell 118 = .ok (.getfield 29, 3) := by decide +kernel
theorem dX7_tell_121 : decode cX7_tell 121 = .ok (.bipush 9, 2) := by decide +kernel
theorem dX7_tell_123 : decode cX7_tell 123 = .ok (.iload_n 1, 1) := by decide +kernel
theorem dX7_tell_124 : decode cX7_tell 124 = .ok (.imul, 1) := by decide +kernel
theorem dX7_tell_125 : decode cX7_tell 125 = .ok (.iaload, 1) := by decide +kernel
theorem dX7_tell_126 : decode cX7_tell 126 = .ok (.aload_n 0, 1) := by decide +kernel
theorem dX7_tell_127 : decode cX7_tell 127 = .ok (.iload_n 1, 1) := by decide +kernel
theorem dX7_tell_128 : decode cX7_tell 128 = .ok (.iload_n 1, 1) := by decide +kernel
theorem dX7_tell_129 : decode cX7_tell 129 = .ok (.invokevirtual 117, 3) := by decide +kernel
theorem dX7_tell_132 : decode cX7_tell 132 = .ok (.invokevirtual 121, 3) := by decide +kernel
theorem dX7_tell_135 : decode cX7_tell 135 = .ok (.return_, 1) := by decide +kernel
theorem dX7_isStep_0 : decode cX7_isStep 0 = .ok (.aload_n 0, 1) := by decide +kernel
theorem dX7_isStep_1 : decode cX7_isStep 1 = .ok (.getfield 7, 3) := by decide +kernel
theorem dX7_isStep_4 : decode cX7_isStep 4 = .ok (.iload_n 2, 1) := by decide +kernel
theorem dX7_isStep_5 : decode cX7_isStep 5 = .ok (.baload, 1) := by decide +kernel
theorem dX7_isStep_6 : decode cX7_isStep 6 = .ok (.ifCond .eq 55, 3) := by decide +kernel
theorem dX7_isStep_9 : decode cX7_isStep 9 = .ok (.aload_n 0, 1) := by decide +kernel
theorem dX7_isStep_10 : decode cX7_isStep 10 = .ok (.getfield 32, 3) := by decide +kernel
theorem dX7_isStep_13 : decode cX7_isStep 13 = .ok (.bipush 8, 2) := by decide +kernel
theorem dX7_isStep_15 : decode cX7_isStep 15 = .ok (.iload_n 1, 1) := by decide +kernel
theorem dX7_isStep_16 : decode cX7_isStep 16 = .ok (.imul, 1) := by decide +kernel
theorem dX7_isStep_17 : decode cX7_isStep 17 = .ok (.aload_n 0, 1) := by decide +kernel
theorem dX7_isStep_18 : decode cX7_isStep 18 = .ok (.getfield 16, 3) := by decide +kernel
theorem dX7_isStep_21 : decode cX7_isStep 21 = .ok (.iload_n 2, 1) := by decide +kernel
theorem dX7_isStep_22 : decode cX7_isStep 22 = .ok (.iaload, 1) := by decide +kernel
theorem dX7_isStep_23 : decode cX7_isStep 23 = .ok (.iadd, 1) := by decide +kernel
theorem dX7_isStep_24 : decode cX7_isStep 24 = .ok (.iaload, 1) := by decide +kernel
theorem dX7_isStep_25 : decode cX7_isStep 25 = .ok (.iload_n 2, 1) := by decide +kernel
theorem dX7_isStep_26 : decode cX7_isStep 26 = .ok (.ishr, 1) := by decide +kernel
theorem dX7_isStep_27 : decode cX7_isStep 27 = .ok (.iconst 1, 1) := by decide +kernel
theorem dX7_isStep_28 : decode cX7_isStep 28 = .ok (.iand, 1) := by decide +kernel
theorem dX7_isStep_29 : decode cX7_isStep 29 = .ok (.iconst 1, 1) := by decide +kernel
theorem dX7_isStep_30 : decode cX7_isStep 30 = .ok (.if_icmp .ne 31, 3) := by decide +kernel
theorem dX7_isStep_33 : decode cX7_isStep 33 = .ok (.aload_n 0, 1) := by decide +kernel
theorem dX7_isStep_34 : decode cX7_isStep 34 = .ok (.getfield 32, 3) := by decide +kernel
theorem dX7_isStep_37 : decode cX7_isStep 37 = .ok (.bipush 8, 2) := by decide +kernel
theorem dX7_isStep_39 : decode cX7_isStep 39 = .ok (.iload_n 1, 1) := by decide +kernel
theorem dX7_isStep_40 : decode cX7_isStep 40 = .ok (.imul, 1) := by decide +kernel
theorem dX7_isStep_41 : decode cX7_isStep 41 = .ok (.aload_n 0, 1) := by decide +kernel
theorem dX7_isStep_42 : decode cX7_isStep 42 = .ok (.getfield 20, 3) := by decide +kernel
theorem dX7_isStep_45 : decode cX7_isStep 45 = .ok (.iload_n 2, 1) := by decide +kernel
theorem dX7_isStep_46 : decode cX7_isStep 46 = .ok (.iaload, 1) := by decide +kernel
theorem dX7_isStep_47 : decode cX7_isStep 47 = .ok (.iadd, 1) := by decide +kernel
theorem dX7_isStep_48 : decode cX7_isStep 48 = .ok (.iaload, 1) := by decide +kernel
theorem dX7_isStep_49 : decode cX7_isStep 49 = .ok (.iload_n 2, 1) := by decide +kernel
theorem dX7_isStep_50 : decode cX7_isStep 50 = .ok (.ishr, 1) := by decide +kernel
theorem dX7_isStep_51 : decode cX7_isStep 51 = .ok (.iconst 1, 1) := by decide +kernel
theorem dX7_isStep_52 : decode cX7_isStep 52 = .ok (.iand, 1) := by decide +kernel
theorem dX7_isStep_53 : decode cX7_isStep 53 = .ok (.iconst 1, 1) := by decide +kernel
theorem dX7_isStep_54 : decode cX7_isStep 54 = .ok (.if_icmp .ne 7, 3) := by decide +kernel
theorem dX7_isStep_57 : decode cX7_isStep 57 = .ok (.iconst 1, 1) := by decide +kernel
theorem dX7_isStep_58 : decode cX7_isStep 58 = .ok (.goto 4, 3) := by decide +kernel
theorem dX7_isStep_61 : decode cX7_isStep 61 = .ok (.iconst 0, 1) := by decide +kernel
theorem dX7_isStep_62 : decode cX7_isStep 62 = .ok (.ireturn, 1) := by decide +kernel
theorem dX7_shorten_0 : decode cX7_shorten 0 = .ok (.iload_n 3, 1) := by decide +kernel
theorem dX7_shorten_1 : decode cX7_shorten 1 = .ok (.aload_n 0, 1) := by decide +kernel
theorem dX7_shorten_2 : decode cX7_shorten 2 = .ok (.getfield 89, 3) := by decide +kernel
theorem dX7_shorten_5 : decode cX7_shorten 5 = .ok (.bipush 8, 2) := by decide +kernel
theorem dX7_shorten_7 : decode cX7_shorten 7 = .ok (.iload_n 1, 1) := by decide +kernel
theorem dX7_shorten_8 : decode cX7_shorten 8 = .ok (.imul, 1) := by decide +kernel
theorem dX7_shorten_9 : decode cX7_shorten 9 = .ok (.iload_n 2, 1) := by decide +kernel
theorem dX7_shorten_10 : decode cX7_shorten 10 = .ok (.iadd, 1) := by decide +kernel
theorem dX7_shorten_11 : decode cX7_shorten 11 = .ok (.iaload, 1) := by decide +kernel
theorem dX7_shorten_12 : decode cX7_shorten 12 = .ok (.if_icmp .ge 15, 3) := by decide +kernel
theorem dX7_shorten_15 : decode cX7_shorten 15 = .ok (.aload_n 0, 1) := by decide +kernel
theorem dX7_shorten_16 : decode cX7_shorten 16 = .ok (.getfield 89, 3) := by decide +kernel
theorem dX7_shorten_19 : decode cX7_shorten 19 = .ok (.bipush 8, 2) := by decide +kernel
theorem dX7_shorten_21 : decode cX7_shorten 21 = .ok (.iload_n 1, 1) := by decide +kernel
theorem dX7_shorten_22 : decode cX7_shorten 22 = .ok (.imul, 1) := by decide +kernel
theorem dX7_shorten_23 : decode cX7_shorten 23 = .ok (.iload_n 2, 1) := by decide +kernel
theorem dX7_shorten_24 : decode cX7_shorten 24 = .ok (.iadd, 1) := by decide +kernel
theorem dX7_shorten_25 : decode cX7_shorten 25 = .ok (.iload_n 3, 1) := by decide +kernel
theorem dX7_shorten_26 : decode cX7_shorten 26 = .ok (.iastore, 1) := by decide +kernel
theorem dX7_shorten_27 : decode cX7_shorten 27 = .ok (.return_, 1) := by decide +kernel
theorem dX7_measure_0 : decode cX7_measure 0 = .ok (.iconst 0, 1) := by decide +kernel
theorem dX7_measure_1 : decode cX7_measure 1 = .ok (.istore_n 2, 1) := by decide +kernel
theorem dX7_measure_2 : decode cX7_measure 2 = .ok (.iload_n 2, 1) := by decide +kernel
theorem dX7_measure_3 : decode cX7_measure 3 = .ok (.bipush 64, 2) := by decide +kernel
theorem dX7_measure_5 : decode cX7_measure 5 = .ok (.if_icmp .ge 28, 3) := by decide +kernel
theorem dX7_measure_8 : decode cX7_measure 8 = .ok (.aload_n 0, 1) := by decide +kernel
theorem dX7_measure_9 : decode cX7_measure 9 = .ok (.getfield 89, 3) := by decide +kernel
theorem dX7_measure_12 : decode cX7_measure 12 = .ok (.iload_n 2, 1) := by decide +kernel
theorem dX7_measure_13 : decode cX7_measure 13 = .ok (.iload_n 2, 1) := by decide +kernel
theorem dX7_measure_14 : decode cX7_measure 14 = .ok (.bipush 9, 2) := by decide +kernel
theorem dX7_measure_16 : decode cX7_measure 16 = .ok (.irem, 1) := by decide +kernel
theorem dX7_measure_17 : decode cX7_measure 17 = .ok (.ifCond .ne 7, 3) := by decide +kernel
theorem dX7_measure_20 : decode cX7_measure 20 = .ok (.iconst 0, 1) := by decide +kernel
theorem dX7_measure_21 : decode cX7_measure 21 = .ok (.goto 5, 3) := by decide +kernel
theorem dX7_measure_24 : decode cX7_measure 24 = .ok (.ldc 124, 2) := by decide +kernel
theorem dX7_measure_26 : decode cX7_measure 26 = .ok (.iastore, 1) := by decide +kernel
theorem dX7_measure_27 : decode cX7_measure 27 = .ok (.iinc 2 1, 3) := by decide +kernel
theorem dX7_measure_30 : decode cX7_measure 30 = .ok (.goto (-28), 3) := by decide +kernel
theorem dX7_measure_33 : decode cX7_measure 33 = .ok (.iconst 0, 1) := by decide +kernel
theorem dX7_measure_34 : decode cX7_measure 34 = .ok (.istore_n 2, 1) := by decide +kernel
theorem dX7_measure_35 : decode cX7_measure 35 = .ok (.iload_n 2, 1) := by decide +kernel
theorem dX7_measure_36 : decode cX7_measure 36 = .ok (.bipush 12, 2) := by decide +kernel
theorem dX7_measure_38 : decode cX7_measure 38 = .ok (.if_icmp .ge 62, 3) := by decide +kernel
theorem dX7_measure_41 : decode cX7_measure 41 = .ok (.aload_n 0, 1) := by decide +kernel
theorem dX7_measure_42 : decode cX7_measure 42 = .ok (.iload_n 1, 1) := by decide +kernel
theorem dX7_measure_43 : decode cX7_measure 43 = .ok (.iload_n 2, 1) := by decide +kernel
theorem dX7_measure_44 : decode cX7_measure 44 = .ok (.invokevirtual 125, 3) := by decide +kernel
theorem dX7_measure_47 : decode cX7_measure 47 = .ok (.ifCond .eq 47, 3) := by decide +kernel
theorem dX7_measure_50 : decode cX7_measure 50 = .ok (.aload_n 0, 1) := by decide +kernel
theorem dX7_measure_51 : decode cX7_measure 51 = .ok (.aload_n 0, 1) := by decide +kernel
theorem dX7_measure_52 : decode cX7_measure 52 = .ok (.getfield 16, 3) := by decide +kernel
theorem dX7_measure_55 : decode cX7_measure 55 = .ok (.iload_n 2, 1) := by decide +kernel
theorem dX7_measure_56 : decode cX7_measure 56 = .ok (.iaload, 1) := by decide +kernel
theorem dX7_measure_57 : decode cX7_measure 57 = .ok (.aload_n 0, 1) := by decide +kernel
theorem dX7_measure_58 : decode cX7_measure 58 = .ok (.getfield 20, 3) := by decide +kernel
theorem dX7_measure_61 : decode cX7_measure 61 = .ok (.iload_n 2, 1) := by decide +kernel
theorem dX7_measure_62 : decode cX7_measure 62 = .ok (.iaload, 1) := by decide +kernel
theorem dX7_measure_63 : decode cX7_measure 63 = .ok (.aload_n 0, 1) := by decide +kernel
theorem dX7_measure_64 : decode cX7_measure 64 = .ok (.getfield 23, 3) := by decide +kernel
theorem dX7_measure_67 : decode cX7_measure 67 = .ok (.iload_n 2, 1) := by decide +kernel
theorem dX7_measure_68 : decode cX7_measure 68 = .ok (.iaload, 1) := by decide +kernel
theorem dX7_measure_69 : decode cX7_measure 69 = .ok (.invokevirtual 128, 3) := by decide +kernel
theorem dX7_measure_72 : decode cX7_measure 72 = .ok (.aload_n 0, 1) := by decide +kernel
theorem dX7_measure_73 : decode cX7_measure 73 = .ok (.aload_n 0, 1) := by decide +kernel
theorem dX7_measure_74 : decode cX7_measure 74 = .ok (.getfield 20, 3) := by decide +kernel
theorem dX7_measure_77 : decode cX7_measure 77 = .ok (.iload_n 2, 1) := by decide +kernel
theorem dX7_measure_78 : decode cX7_measure 78 = .ok (.iaload, 1) := by decide +kernel
theorem dX7_measure_79 : decode cX7_measure 79 = .ok (.aload_n 0, 1) := by decide +kernel
theorem dX7_measure_80 : decode cX7_measure 80 = .ok (.getfield 16, 3) := by decide +kernel
theorem dX7_measure_83 : decode cX7_measure 83 = .ok (.iload_n 2, 1) := by decide +kernel
theorem dX7_measure_84 : decode cX7_measure 84 = .ok (.iaload, 1) := by decide +kernel
theorem dX7_measure_85 : decode cX7_measure 85 = .ok (.aload_n 0, 1) := by decide +kernel
theorem dX7_measure_86 : decode cX7_measure 86 = .ok (.getfield 23, 3) := by decide +kernel
theorem dX7_measure_89 : decode cX7_measure 89 = .ok (.iload_n 2, 1) := by decide +kernel
theorem dX7_measure_90 : decode cX7_measure 90 = .ok (.iaload, 1) := by decide +kernel
theorem dX7_measure_91 : decode cX7_measure 91 = .ok (.invokevirtual 128, 3) := by decide +kernel
theorem dX7_measure_94 : decode cX7_measure 94 = .ok (.iinc 2 1, 3) := by decide +kernel
theorem dX7_measure_97 : decode cX7_measure 97 = .ok (.goto (-62), 3) := by decide +kernel
theorem dX7_measure_100 : decode cX7_measure 100 = .ok (.iconst 0, 1) := by decide +kernel
theorem dX7_measure_101 : decode cX7_measure 101 = .ok (.istore_n 2, 1) := by decide +kernel
theorem dX7_measure_102 : decode cX7_measure 102 = .ok (.iload_n 2, 1) := by decide +kernel
theorem dX7_measure_103 : decode cX7_measure 103 = .ok (.aload_n 0, 1) := by decide +kernel
theorem dX7_measure_104 : decode cX7_measure 104 = .ok (.getfield 92, 3) := by decide +kernel
theorem dX7_measure_107 : decode cX7_measure 107 = .ok (.if_icmp .ge 74, 3) := by decide +kernel
theorem dX7_measure_110 : decode cX7_measure 110 = .ok (.iconst 0, 1) := by decide +kernel
theorem dX7_measure_111 : decode cX7_measure 111 = .ok (.istore_n 3, 1) := by decide +kernel
theorem dX7_measure_112 : decode cX7_measure 112 = .ok (.iload_n 3, 1) := by decide +kernel
theorem dX7_measure_113 : decode cX7_measure 113 = .ok (.aload_n 0, 1) := by decide +kernel
theorem dX7_measure_114 : decode cX7_measure 114 = .ok (.getfield 92, 3) := by decide +kernel
theorem dX7_measure_117 : decode cX7_measure 117 = .ok (.if_icmp .ge 58, 3) := by decide +kernel
theorem dX7_measure_120 : decode cX7_measure 120 = .ok (.iconst 0, 1) := by decide +kernel
theorem dX7_measure_121 : decode cX7_measure 121 = .ok (.istore 4, 2) := by decide +kernel
theorem dX7_measure_123 : decode cX7_measure 123 = .ok (.iload 4, 2) := by decide +kernel
theorem dX7_measure_125 : decode cX7_measure 125 = .ok (.aload_n 0, 1) := by decide +kernel
theorem dX7_measure_126 : decode cX7_measure 126 = .ok (.getfield 92, 3) := by decide +kernel
theorem dX7_measure_129 : decode cX7_measure 129 = .ok (.if_icmp .ge 40, 3) := by decide +kernel
theorem dX7_measure_132 : decode cX7_measure 132 = .ok (.aload_n 0, 1) := by decide +kernel
theorem dX7_measure_133 : decode cX7_measure 133 = .ok (.iload_n 3, 1) := by decide +kernel
theorem dX7_measure_134 : decode cX7_measure 134 = .ok (.iload 4, 2) := by decide +kernel
theorem dX7_measure_136 : decode cX7_measure 136 = .ok (.aload_n 0, 1) := by decide +kernel
theorem dX7_measure_137 : decode cX7_measure 137 = .ok (.getfield 89, 3) := by decide +kernel
theorem dX7_measure_140 : decode cX7_measure 140 = .ok (.bipush 8, 2) := by decide +kernel
theorem dX7_measure_142 : decode cX7_measure 142 = .ok (.iload_n 3, 1) := by decide +kernel
theorem dX7_measure_143 : decode cX7_measure 143 = .ok (.imul, 1) := by decide +kernel
theorem dX7_measure_144 : decode cX7_measure 144 = .ok (.iload_n 2, 1) := by decide +kernel
theorem dX7_measure_145 : decode cX7_measure 145 = .ok (.iadd, 1) := by decide +kernel
theorem dX7_measure_146 : decode cX7_measure 146 = .ok (.iaload, 1) := by decide +kernel
theorem dX7_measure_147 : decode cX7_measure 147 = .ok (.aload_n 0, 1) := by decide +kernel
theorem dX7_measure_148 : decode cX7_measure 148 = .ok (.getfield 89, 3) := by decide +kernel
theorem dX7_measure_151 : decode cX7_measure 151 = .ok (.bipush 8, 2) := by decide +kernel
theorem dX7_measure_153 : decode cX7_measure 153 = .ok (.iload_n 2, 1) := by decide +kernel
theorem dX7_measure_154 : decode cX7_measure 154 = .ok (.imul, 1) := by decide +kernel
theorem dX7_measure_155 : decode cX7_measure 155 = .ok (.iload 4, 2) := by decide +kernel
theorem dX7_measure_157 : decode cX7_measure 157 = .ok (.iadd, 1) := by decide +kernel
theorem dX7_measure_158 : decode cX7_measure 158 = .ok (.iaload, 1) := by decide +kernel
theorem dX7_measure_159 : decode cX7_measure 159 = .ok (.iadd, 1) := by decide +kernel
theorem dX7_measure_160 : decode cX7_measure 160 = .ok (.invokevirtual 128, 3) := by decide +kernel
theorem dX7_measure_163 : decode cX7_measure 163 = .ok (.iinc 4 1, 3) := by decide +kernel
theorem dX7_measure_166 : decode cX7_measure 166 = .ok (.goto (-43), 3) := by decide +kernel
theorem dX7_measure_169 : decode cX7_measure 169 = .ok (.iinc 3 1, 3) := by decide +kernel
theorem dX7_measure_172 : decode cX7_measure 172 = .ok (.goto (-60), 3) := by decide +kernel
theorem dX7_measure_175 : decode cX7_measure 175 = .ok (.iinc 2 1, 3) := by decide +kernel
theorem dX7_measure_178 : decode cX7_measure 178 = .ok (.goto (-76), 3) := by decide +kernel
theorem dX7_measure_181 : decode cX7_measure 181 = .ok (.return_, 1) := by decide +kernel
theorem dX7_hop_0 : decode cX7_hop 0 = .ok (.iload_n 2, 1) := by decide +kernel
theorem dX7_hop_1 : decode cX7_hop 1 = .ok (.iload_n 1, 1) := by decide +kernel
theorem dX7_hop_2 : decode cX7_hop 2 = .ok (.if_icmp .eq 19, 3) := by decide +kernel
theorem dX7_hop_5 : decode cX7_hop 5 = .ok (.aload_n 0, 1) := by decide +kernel
theorem dX7_hop_6 : decode cX7_hop 6 = .ok (.getfield 89, 3) := by decide +kernel
theorem dX7_hop_9 : decode cX7_hop 9 = .ok (.bipush 8, 2) := by decide +kernel
theorem dX7_hop_11 : decode cX7_hop 11 = .ok (.iload_n 1, 1) := by decide +kernel
theorem dX7_hop_12 : decode cX7_hop 12 = .ok (.imul, 1) := by decide +kernel
theorem dX7_hop_13 : decode cX7_hop 13 = .ok (.iload_n 2, 1) := by decide +kernel
theorem dX7_hop_14 : decode cX7_hop 14 = .ok (.iadd, 1) := by decide +kernel
theorem dX7_hop_15 : decode cX7_hop 15 = .ok (.iaload, 1) := by decide +kernel
theorem dX7_hop_16 : decode cX7_hop 16 = .ok (.ldc 124, 2) := by decide +kernel
theorem dX7_hop_18 : decode cX7_hop 18 = .ok (.if_icmp .lt 5, 3) := by decide +kernel
theorem dX7_hop_21 : decode cX7_hop 21 = .ok (.iconst (-1), 1) := by decide +kernel
theorem dX7_hop_22 : decode cX7_hop 22 = .ok (.ireturn, 1) := by decide +kernel
theorem dX7_hop_23 : decode cX7_hop 23 = .ok (.iconst 0, 1) := by decide +kernel
theorem dX7_hop_24 : decode cX7_hop 24 = .ok (.istore_n 3, 1) := by decide +kernel
theorem dX7_hop_25 : decode cX7_hop 25 = .ok (.iload_n 3, 1) := by decide +kernel
theorem dX7_hop_26 : decode cX7_hop 26 = .ok (.bipush 12, 2) := by decide +kernel
theorem dX7_hop_28 : decode cX7_hop 28 = .ok (.if_icmp .ge 66, 3) := by decide +kernel
theorem dX7_hop_31 : decode cX7_hop 31 = .ok (.aload_n 0, 1) := by decide +kernel
theorem dX7_hop_32 : decode cX7_hop 32 = .ok (.iload_n 1, 1) := by decide +kernel
theorem dX7_hop_33 : decode cX7_hop 33 = .ok (.iload_n 3, 1) := by decide +kernel
theorem dX7_hop_34 : decode cX7_hop 34 = .ok (.invokevirtual 110, 3) := by decide +kernel
theorem dX7_hop_37 : decode cX7_hop 37 = .ok (.ifCond .eq 51, 3) := by decide +kernel
theorem dX7_hop_40 : decode cX7_hop 40 = .ok (.aload_n 0, 1) := by decide +kernel
theorem dX7_hop_41 : decode cX7_hop 41 = .ok (.iload_n 1, 1) := by decide +kernel
theorem dX7_hop_42 : decode cX7_hop 42 = .ok (.iload_n 3, 1) := by decide +kernel
theorem dX7_hop_43 : decode cX7_hop 43 = .ok (.invokevirtual 125, 3) := by decide +kernel
theorem dX7_hop_46 : decode cX7_hop 46 = .ok (.ifCond .eq 42, 3) := by decide +kernel
theorem dX7_hop_49 : decode cX7_hop 49 = .ok (.aload_n 0, 1) := by decide +kernel
theorem dX7_hop_50 : decode cX7_hop 50 = .ok (.getfield 23, 3) := by decide +kernel
theorem dX7_hop_53 : decode cX7_hop 53 = .ok (.iload_n 3, 1) := by decide +kernel
theorem dX7_hop_54 : decode cX7_hop 54 = .ok (.iaload, 1) := by decide +kernel
theorem dX7_hop_55 : decode cX7_hop 55 = .ok (.aload_n 0, 1) := by decide +kernel
theorem dX7_hop_56 : decode cX7_hop 56 = .ok (.getfield 89, 3) := by decide +kernel
theorem dX7_hop_59 : decode cX7_hop 59 = .ok (.bipush 8, 2) := by decide +kernel
theorem dX7_hop_61 : decode cX7_hop 61 = .ok (.aload_n 0, 1) := by decide +kernel
theorem dX7_hop_62 : decode cX7_hop 62 = .ok (.iload_n 1, 1) := by decide +kernel
theorem dX7_hop_63 : decode cX7_hop 63 = .ok (.iload_n 3, 1) := by decide +kernel
theorem dX7_hop_64 : decode cX7_hop 64 = .ok (.invokevirtual 132, 3) := by decide +kernel
theorem dX7_hop_67 : decode cX7_hop 67 = .ok (.imul, 1) := by decide +kernel
theorem dX7_hop_68 : decode cX7_hop 68 = .ok (.iload_n 2, 1) := by decide +kernel
theorem dX7_hop_69 : decode cX7_hop 69 = .ok (.iadd, 1) := by decide +kernel
theorem dX7_hop_70 : decode cX7_hop 70 = .ok (.iaload, 1) := by decide +kernel
theorem dX7_hop_71 : decode cX7_hop 71 = .ok (.iadd, 1) := by decide +kernel
theorem dX7_hop_72 : decode cX7_hop 72 = .ok (.aload_n 0, 1) := by decide +kernel
theorem dX7_hop_73 : decode cX7_hop 73 = .ok (.getfield 89, 3) := by decide +kernel
theorem dX7_hop_76 : decode cX7_hop 76 = .ok (.bipush 8, 2) := by decide +kernel
theorem dX7_hop_78 : decode cX7_hop 78 = .ok (.iload_n 1, 1) := by decide +kernel
theorem dX7_hop_79 : decode cX7_hop 79 = .ok (.imul, 1) := by decide +kernel
theorem dX7_hop_80 : decode cX7_hop 80 = .ok (.iload_n 2, 1) := by decide +kernel
theorem dX7_hop_81 : decode cX7_hop 81 = .ok (.iadd, 1) := by decide +kernel
theorem dX7_hop_82 : decode cX7_hop 82 = .ok (.iaload, 1) := by decide +kernel
theorem dX7_hop_83 : decode cX7_hop 83 = .ok (.if_icmp .ne 5, 3) := by decide +kernel
theorem dX7_hop_86 : decode cX7_hop 86 = .ok (.iload_n 3, 1) := by decide +kernel
theorem dX7_hop_87 : decode cX7_hop 87 = .ok (.ireturn, 1) := by decide +kernel
theorem dX7_hop_88 : decode cX7_hop 88 = .ok (.iinc 3 1, 3) := by decide +kernel
theorem dX7_hop_91 : decode cX7_hop 91 = .ok (.goto (-66), 3) := by decide +kernel
theorem dX7_hop_94 : decode cX7_hop 94 = .ok (.iconst (-1), 1) := by decide +kernel
theorem dX7_hop_95 : decode cX7_hop 95 = .ok (.ireturn, 1) := by decide +kernel
theorem dX7_egress_0 : decode cX7_egress 0 = .ok (.iconst 0, 1) := by decide +kernel
theorem dX7_egress_1 : decode cX7_egress 1 = .ok (.istore_n 3, 1) := by decide +kernel
theorem dX7_egress_2 : decode cX7_egress 2 = .ok (.iload_n 3, 1) := by decide +kernel
theorem dX7_egress_3 : decode cX7_egress 3 = .ok (.aload_n 0, 1) := by decide +kernel
theorem dX7_egress_4 : decode cX7_egress 4 = .ok (.getfield 92, 3) := by decide +kernel
theorem dX7_egress_7 : decode cX7_egress 7 = .ok (.if_icmp .ge 46, 3) := by decide +kernel
theorem dX7_egress_10 : decode cX7_egress 10 = .ok (.aload_n 0, 1) := by decide +kernel
theorem dX7_egress_11 : decode cX7_egress 11 = .ok (.getfield 35, 3) := by decide +kernel
theorem dX7_egress_14 : decode cX7_egress 14 = .ok (.bipush 8, 2) := by decide +kernel
theorem dX7_egress_16 : decode cX7_egress 16 = .ok (.iload_n 1, 1) := by decide +kernel
theorem dX7_egress_17 : decode cX7_egress 17 = .ok (.imul, 1) := by decide +kernel
theorem dX7_egress_18 : decode cX7_egress 18 = .ok (.iload_n 3, 1) := by decide +kernel
theorem dX7_egress_19 : decode cX7_egress 19 = .ok (.iadd, 1) := by decide +kernel
theorem dX7_egress_20 : decode cX7_egress 20 = .ok (.iaload, 1) := by decide +kernel
theorem dX7_egress_21 : decode cX7_egress 21 = .ok (.iload_n 2, 1) := by decide +kernel
theorem dX7_egress_22 : decode cX7_egress 22 = .ok (.ishr, 1) := by decide +kernel
theorem dX7_egress_23 : decode cX7_egress 23 = .ok (.iconst 1, 1) := by decide +kernel
theorem dX7_egress_24 : decode cX7_egress 24 = .ok (.iand, 1) := by decide +kernel
theorem dX7_egress_25 : decode cX7_egress 25 = .ok (.iconst 1, 1) := by decide +kernel
theorem dX7_egress_26 : decode cX7_egress 26 = .ok (.if_icmp .ne 21, 3) := by decide +kernel
theorem dX7_egress_29 : decode cX7_egress 29 = .ok (.aload_n 0, 1) := by decide +kernel
theorem dX7_egress_30 : decode cX7_egress 30 = .ok (.getfield 89, 3) := by decide +kernel
theorem dX7_egress_33 : decode cX7_egress 33 = .ok (.bipush 8, 2) := by decide +kernel
theorem dX7_egress_35 : decode cX7_egress 35 = .ok (.iload_n 1, 1) := by decide +kernel
theorem dX7_egress_36 : decode cX7_egress 36 = .ok (.imul, 1) := by decide +kernel
theorem dX7_egress_37 : decode cX7_egress 37 = .ok (.iload_n 3, 1) := by decide +kernel
theorem dX7_egress_38 : decode cX7_egress 38 = .ok (.iadd, 1) := by decide +kernel
theorem dX7_egress_39 : decode cX7_egress 39 = .ok (.iaload, 1) := by decide +kernel
theorem dX7_egress_40 : decode cX7_egress 40 = .ok (.ldc 124, 2) := by decide +kernel
theorem dX7_egress_42 : decode cX7_egress 42 = .ok (.if_icmp .ge 5, 3) := by decide +kernel
theorem dX7_egress_45 : decode cX7_egress 45 = .ok (.iload_n 3, 1) := by decide +kernel
theorem dX7_egress_46 : decode cX7_egress 46 = .ok (.ireturn, 1) := by decide +kernel
theorem dX7_egress_47 : decode cX7_egress 47 = .ok (.iinc 3 1, 3) := by decide +kernel
theorem dX7_egress_50 : decode cX7_egress 50 = .ok (.goto (-48), 3) := by decide +kernel
theorem dX7_egress_53 : decode cX7_egress 53 = .ok (.iconst (-1), 1) := by decide +kernel
theorem dX7_egress_54 : decode cX7_egress 54 = .ok (.ireturn, 1) := by decide +kernel
theorem dX7_slot_0 : decode cX7_slot 0 = .ok (.bipush 12, 2) := by decide +kernel
theorem dX7_slot_2 : decode cX7_slot 2 = .ok (.bipush 8, 2) := by decide +kernel
theorem dX7_slot_4 : decode cX7_slot 4 = .ok (.iload_n 1, 1) := by decide +kernel
theorem dX7_slot_5 : decode cX7_slot 5 = .ok (.imul, 1) := by decide +kernel
theorem dX7_slot_6 : decode cX7_slot 6 = .ok (.iload_n 2, 1) := by decide +kernel
theorem dX7_slot_7 : decode cX7_slot 7 = .ok (.iadd, 1) := by decide +kernel
theorem dX7_slot_8 : decode cX7_slot 8 = .ok (.imul, 1) := by decide +kernel
theorem dX7_slot_9 : decode cX7_slot 9 = .ok (.iload_n 3, 1) := by decide +kernel
theorem dX7_slot_10 : decode cX7_slot 10 = .ok (.iadd, 1) := by decide +kernel
theorem dX7_slot_11 : decode cX7_slot 11 = .ok (.ireturn, 1) := by decide +kernel
theorem dX7_settle_0 : decode cX7_settle 0 = .ok (.bipush 64, 2) := by decide +kernel
theorem dX7_settle_2 : decode cX7_settle 2 = .ok (.iload_n 1, 1) := by decide +kernel
theorem dX7_settle_3 : decode cX7_settle 3 = .ok (.imul, 1) := by decide +kernel
theorem dX7_settle_4 : decode cX7_settle 4 = .ok (.iload_n 2, 1) := by decide +kernel
theorem dX7_settle_5 : decode cX7_settle 5 = .ok (.iadd, 1) := by decide +kernel
theorem dX7_settle_6 : decode cX7_settle 6 = .ok (.istore_n 3, 1) := by decide +kernel
theorem dX7_settle_7 : decode cX7_settle 7 = .ok (.aload_n 0, 1) := by decide +kernel
theorem dX7_settle_8 : decode cX7_settle 8 = .ok (.getfield 68, 3) := by decide +kernel
theorem dX7_settle_11 : decode cX7_settle 11 = .ok (.iload_n 3, 1) := by decide +kernel
theorem dX7_settle_12 : decode cX7_settle 12 = .ok (.iaload, 1) := by decide +kernel
theorem dX7_settle_13 : decode cX7_settle 13 = .ok (.ifCond .le 44, 3) := by decide +kernel
theorem dX7_settle_16 : decode cX7_settle 16 = .ok (.aload_n 0, 1) := by decide +kernel
theorem dX7_settle_17 : decode cX7_settle 17 = .ok (.getfield 71, 3) := by decide +kernel
theorem dX7_settle_20 : decode cX7_settle 20 = .ok (.iload_n 3, 1) := by decide +kernel
theorem dX7_settle_21 : decode cX7_settle 21 = .ok (.iaload, 1) := by decide +kernel
theorem dX7_settle_22 : decode cX7_settle 22 = .ok (.ifCond .ne 35, 3) := by decide +kernel
theorem dX7_settle_25 : decode cX7_settle 25 = .ok (.aload_n 0, 1) := by decide +kernel
theorem dX7_settle_26 : decode cX7_settle 26 = .ok (.getfield 62, 3) := by decide +kernel
theorem dX7_settle_29 : decode cX7_settle 29 = .ok (.bipush 8, 2) := by decide +kernel
theorem dX7_settle_31 : decode cX7_settle 31 = .ok (.iload_n 1, 1) := by decide +kernel
theorem dX7_settle_32 : decode cX7_settle 32 = .ok (.imul, 1) := by decide +kernel
theorem dX7_settle_33 : decode cX7_settle 33 = .ok (.aload_n 0, 1) := by decide +kernel
theorem dX7_settle_34 : decode cX7_settle 34 = .ok (.getfield 68, 3) := by decide +kernel
theorem dX7_settle_37 : decode cX7_settle 37 = .ok (.iload_n 3, 1) := by decide +kernel
theorem dX7_settle_38 : decode cX7_settle 38 = .ok (.iaload, 1) := by decide +kernel
theorem dX7_settle_39 : decode cX7_settle 39 = .ok (.iadd, 1) := by decide +kernel
theorem dX7_settle_40 : decode cX7_settle 40 = .ok (.iconst 1, 1) := by decide +kernel
theorem dX7_settle_41 : decode cX7_settle 41 = .ok (.isub, 1) := by decide +kernel
theorem dX7_settle_42 : decode cX7_settle 42 = .ok (.iaload, 1) := by decide +kernel
theorem dX7_settle_43 : decode cX7_settle 43 = .ok (.bipush 16, 2) := by decide +kernel
theorem dX7_settle_45 : decode cX7_settle 45 = .ok (.iload_n 2, 1) := by decide +kernel
theorem dX7_settle_46 : decode cX7_settle 46 = .ok (.iadd, 1) := by decide +kernel
theorem dX7_settle_47 : decode cX7_settle 47 = .ok (.if_icmp .eq 10, 3) := by decide +kernel
theorem dX7_settle_50 : decode cX7_settle 50 = .ok (.aload_n 0, 1) := by decide +kernel
theorem dX7_settle_51 : decode cX7_settle 51 = .ok (.getfield 68, 3) := by decide +kernel
theorem dX7_settle_54 : decode cX7_settle 54 = .ok (.iload_n 3, 1) := by decide +kernel
theorem dX7_settle_55 : decode cX7_settle 55 = .ok (.iconst 0, 1) := by decide +kernel
theorem dX7_settle_56 : decode cX7_settle 56 = .ok (.iastore, 1) := by decide +kernel
theorem dX7_settle_57 : decode cX7_settle 57 = .ok (.return_, 1) := by decide +kernel
theorem dX7_withdraw_0 : decode cX7_withdraw 0 = .ok (.aload_n 0, 1) := by decide +kernel
theorem dX7_withdraw_1 : decode cX7_withdraw 1 = .ok (.getfield 62, 3) := by decide +kernel
theorem dX7_withdraw_4 : decode cX7_withdraw 4 = .ok (.bipush 8, 2) := by decide +kernel
theorem dX7_withdraw_6 : decode cX7_withdraw 6 = .ok (.iload_n 1, 1) := by decide +kernel
theorem dX7_withdraw_7 : decode cX7_withdraw 7 = .ok (.imul, 1) := by decide +kernel
theorem dX7_withdraw_8 : decode cX7_withdraw 8 = .ok (.iload_n 2, 1) := by decide +kernel
theorem dX7_withdraw_9 : decode cX7_withdraw 9 = .ok (.iadd, 1) := by decide +kernel
theorem dX7_withdraw_10 : decode cX7_withdraw 10 = .ok (.iaload, 1) := by decide +kernel
theorem dX7_withdraw_11 : decode cX7_withdraw 11 = .ok (.istore_n 3, 1) := by decide +kernel
theorem dX7_withdraw_12 : decode cX7_withdraw 12 = .ok (.aload_n 0, 1) := by decide +kernel
theorem dX7_withdraw_13 : decode cX7_withdraw 13 = .ok (.getfield 62, 3) := by decide +kernel
theorem dX7_withdraw_16 : decode cX7_withdraw 16 = .ok (.bipush 8, 2) := by decide +kernel
theorem dX7_withdraw_18 : decode cX7_withdraw 18 = .ok (.iload_n 1, 1) := by decide +kernel
theorem dX7_withdraw_19 : decode cX7_withdraw 19 = .ok (.imul, 1) := by decide +kernel
theorem dX7_withdraw_20 : decode cX7_withdraw 20 = .ok (.iload_n 2, 1) := by decide +kernel
theorem dX7_withdraw_21 : decode cX7_withdraw 21 = .ok (.iadd, 1) := by decide +kernel
theorem dX7_withdraw_22 : decode cX7_withdraw 22 = .ok (.iconst (-1), 1) := by decide +kernel
theorem dX7_withdraw_23 : decode cX7_withdraw 23 = .ok (.iastore, 1) := by decide +kernel
theorem dX7_withdraw_24 : decode cX7_withdraw 24 = .ok (.aload_n 0, 1) := by decide +kernel
theorem dX7_withdraw_25 : decode cX7_withdraw 25 = .ok (.iload_n 1, 1) := by decide +kernel
theorem dX7_withdraw_26 : decode cX7_withdraw 26 = .ok (.iconst (-1), 1) := by decide +kernel
theorem dX7_withdraw_27 : decode cX7_withdraw 27 = .ok (.iconst 2, 1) := by decide +kernel
theorem dX7_withdraw_28 : decode cX7_withdraw 28 = .ok (.iload_n 2, 1) := by decide +kernel
theorem dX7_withdraw_29 : decode cX7_withdraw 29 = .ok (.iload_n 3, 1) := by decide +kernel
theorem dX7_withdraw_30 : decode cX7_withdraw 30 = .ok (.iconst 0, 1) := by decide +kernel
theorem dX7_withdraw_31 : decode cX7_withdraw 31 = .ok (.invokevirtual 121, 3) := by decide +kernel
theorem dX7_withdraw_34 : decode cX7_withdraw 34 = .ok (.iload_n 3, 1) := by decide +kernel
theorem dX7_withdraw_35 : decode cX7_withdraw 35 = .ok (.bipush 16, 2) := by decide +kernel
theorem dX7_withdraw_37 : decode cX7_withdraw 37 = .ok (.if_icmp .lt 12, 3) := by decide +kernel
theorem dX7_withdraw_40 : decode cX7_withdraw 40 = .ok (.aload_n 0, 1) := by decide +kernel
theorem dX7_withdraw_41 : decode cX7_withdraw 41 = .ok (.iload_n 1, 1) := by decide +kernel
theorem dX7_withdraw_42 : decode cX7_withdraw 42 = .ok (.iload_n 3, 1) := by decide +kernel
theorem dX7_withdraw_43 : decode cX7_withdraw 43 = .ok (.bipush 16, 2) := by decide +kernel
theorem dX7_withdraw_45 : decode cX7_withdraw 45 = .ok (.isub, 1) := by decide +kernel
theorem dX7_withdraw_46 : decode cX7_withdraw 46 = .ok (.invokevirtual 135, 3) := by decide +kernel
theorem dX7_withdraw_49 : decode cX7_withdraw 49 = .ok (.return_, 1) := by decide +kernel
theorem dX7_free_0 : decode cX7_free 0 = .ok (.iconst 0, 1) := by decide +kernel
theorem dX7_free_1 : decode cX7_free 1 = .ok (.istore_n 2, 1) := by decide +kernel
theorem dX7_free_2 : decode cX7_free 2 = .ok (.iload_n 2, 1) := by decide +kernel
theorem dX7_free_3 : decode cX7_free 3 = .ok (.bipush 64, 2) := by decide +kernel
theorem dX7_free_5 : decode cX7_free 5 = .ok (.if_icmp .ge 25, 3) := by decide +kernel
theorem dX7_free_8 : decode cX7_free 8 = .ok (.aload_n 0, 1) := by decide +kernel
theorem dX7_free_9 : decode cX7_free 9 = .ok (.getfield 68, 3) := by decide +kernel
theorem dX7_free_12 : decode cX7_free 12 = .ok (.bipush 64, 2) := by decide +kernel
theorem dX7_free_14 : decode cX7_free 14 = .ok (.iload_n 1, 1) := by decide +kernel
theorem dX7_free_15 : decode cX7_free 15 = .ok (.imul, 1) := by decide +kernel
theorem dX7_free_16 : decode cX7_free 16 = .ok (.iload_n 2, 1) := by decide +kernel
theorem dX7_free_17 : decode cX7_free 17 = .ok (.iadd, 1) := by decide +kernel
theorem dX7_free_18 : decode cX7_free 18 = .ok (.iaload, 1) := by decide +kernel
theorem dX7_free_19 : decode cX7_free 19 = .ok (.ifCond .ne 5, 3) := by decide +kernel
theorem dX7_free_22 : decode cX7_free 22 = .ok (.iload_n 2, 1) := by decide +kernel
theorem dX7_free_23 : decode cX7_free 23 = .ok (.ireturn, 1) := by decide +kernel
theorem dX7_free_24 : decode cX7_free 24 = .ok (.iinc 2 1, 3) := by decide +kernel
theorem dX7_free_27 : decode cX7_free 27 = .ok (.goto (-25), 3) := by decide +kernel
theorem dX7_free_30 : decode cX7_free 30 = .ok (.iconst (-1), 1) := by decide +kernel
theorem dX7_free_31 : decode cX7_free 31 = .ok (.ireturn, 1) := by decide +kernel
theorem dX7_become_0 : decode cX7_become 0 = .ok (.aload_n 0, 1) := by decide +kernel
theorem dX7_become_1 : decode cX7_become 1 = .ok (.getfield 62, 3) := by decide +kernel
theorem dX7_become_4 : decode cX7_become 4 = .ok (.bipush 8, 2) := by decide +kernel
theorem dX7_become_6 : decode cX7_become 6 = .ok (.iload_n 1, 1) := by decide +kernel
theorem dX7_become_7 : decode cX7_become 7 = .ok (.imul, 1) := by decide +kernel
theorem dX7_become_8 : decode cX7_become 8 = .ok (.iload_n 2, 1) := by decide +kernel
theorem dX7_become_9 : decode cX7_become 9 = .ok (.iadd, 1) := by decide +kernel
theorem dX7_become_10 : decode cX7_become 10 = .ok (.iload_n 3, 1) := by decide +kernel
theorem dX7_become_11 : decode cX7_become 11 = .ok (.iastore, 1) := by decide +kernel
theorem dX7_become_12 : decode cX7_become 12 = .ok (.aload_n 0, 1) := by decide +kernel
theorem dX7_become_13 : decode cX7_become 13 = .ok (.getfield 65, 3) := by decide +kernel
theorem dX7_become_16 : decode cX7_become 16 = .ok (.bipush 8, 2) := by decide +kernel
theorem dX7_become_18 : decode cX7_become 18 = .ok (.iload_n 1, 1) := by decide +kernel
theorem dX7_become_19 : decode cX7_become 19 = .ok (.imul, 1) := by decide +kernel
theorem dX7_become_20 : decode cX7_become 20 = .ok (.iload_n 2, 1) := by decide +kernel
theorem dX7_become_21 : decode cX7_become 21 = .ok (.iadd, 1) := by decide +kernel
theorem dX7_become_22 : decode cX7_become 22 = .ok (.iload 4, 2) := by decide +kernel
theorem dX7_become_24 : decode cX7_become 24 = .ok (.iastore, 1) := by decide +kernel
theorem dX7_become_25 : decode cX7_become 25 = .ok (.aload_n 0, 1) := by decide +kernel
theorem dX7_become_26 : decode cX7_become 26 = .ok (.iload_n 1, 1) := by decide +kernel
theorem dX7_become_27 : decode cX7_become 27 = .ok (.iconst (-1), 1) := by decide +kernel
theorem dX7_become_28 : decode cX7_become 28 = .ok (.iconst 1, 1) := by decide +kernel
theorem dX7_become_29 : decode cX7_become 29 = .ok (.iload_n 2, 1) := by decide +kernel
theorem dX7_become_30 : decode cX7_become 30 = .ok (.iload_n 3, 1) := by decide +kernel
theorem dX7_become_31 : decode cX7_become 31 = .ok (.iload 4, 2) := by decide +kernel
theorem dX7_become_33 : decode cX7_become 33 = .ok (.invokevirtual 121, 3) := by decide +kernel
theorem dX7_become_36 : decode cX7_become 36 = .ok (.return_, 1) := by decide +kernel
theorem dX7_byHop_0 : decode cX7_byHop 0 = .ok (.aload_n 0, 1) := by decide +kernel
theorem dX7_byHop_1 : decode cX7_byHop 1 = .ok (.iload_n 1, 1) := by decide +kernel
theorem dX7_byHop_2 : decode cX7_byHop 2 = .ok (.iload_n 2, 1) := by decide +kernel
theorem dX7_byHop_3 : decode cX7_byHop 3 = .ok (.invokevirtual 139, 3) := by decide +kernel
theorem dX7_byHop_6 : decode cX7_byHop 6 = .ok (.istore_n 3, 1) := by decide +kernel
theorem dX7_byHop_7 : decode cX7_byHop 7 = .ok (.iload_n 3, 1) := by decide +kernel
theorem dX7_byHop_8 : decode cX7_byHop 8 = .ok (.iconst (-1), 1) := by decide +kernel
theorem dX7_byHop_9 : decode cX7_byHop 9 = .ok (.if_icmp .ne 7, 3) := by decide +kernel
theorem dX7_byHop_12 : decode cX7_byHop 12 = .ok (.iconst (-1), 1) := by decide +kernel
theorem dX7_byHop_13 : decode cX7_byHop 13 = .ok (.goto 9, 3) := by decide +kernel
theorem dX7_byHop_16 : decode cX7_byHop 16 = .ok (.aload_n 0, 1) := by decide +kernel
theorem dX7_byHop_17 : decode cX7_byHop 17 = .ok (.iload_n 1, 1) := by decide +kernel
theorem dX7_byHop_18 : decode cX7_byHop 18 = .ok (.iload_n 3, 1) := by decide +kernel
theorem dX7_byHop_19 : decode cX7_byHop 19 = .ok (.invokevirtual 142, 3) := by decide +kernel
theorem dX7_byHop_22 : decode cX7_byHop 22 = .ok (.istore 4, 2) := by decide +kernel
theorem dX7_byHop_24 : decode cX7_byHop 24 = .ok (.iload 4, 2) := by decide +kernel
theorem dX7_byHop_26 : decode cX7_byHop 26 = .ok (.iconst (-1), 1) := by decide +kernel
theorem dX7_byHop_27 : decode cX7_byHop 27 = .ok (.if_icmp .eq 20, 3) := by decide +kernel
theorem dX7_byHop_30 : decode cX7_byHop 30 = .ok (.aload_n 0, 1) := by decide +kernel
theorem dX7_byHop_31 : decode cX7_byHop 31 = .ok (.getfield 56, 3) := by decide +kernel
theorem dX7_byHop_34 : decode cX7_byHop 34 = .ok (.aload_n 0, 1) := by decide +kernel
theorem dX7_byHop_35 : decode cX7_byHop 35 = .ok (.iload_n 1, 1) := by decide +kernel
theorem dX7_byHop_36 : decode cX7_byHop 36 = .ok (.iload_n 2, 1) := by decide +kernel
theorem dX7_byHop_37 : decode cX7_byHop 37 = .ok (.iload 4, 2) := by decide +kernel
theorem dX7_byHop_39 : decode cX7_byHop 39 = .ok (.invokevirtual 145, 3) := by decide +kernel
theorem dX7_byHop_42 : decode cX7_byHop 42 = .ok (.iaload, 1) := by decide +kernel
theorem dX7_byHop_43 : decode cX7_byHop 43 = .ok (.iconst (-1), 1) := by decide +kernel
theorem dX7_byHop_44 : decode cX7_byHop 44 = .ok (.if_icmp .ne 7, 3) := by decide +kernel
theorem dX7_byHop_47 : decode cX7_byHop 47 = .ok (.iconst (-1), 1) := by decide +kernel
theorem dX7_byHop_48 : decode cX7_byHop 48 = .ok (.goto 11, 3) := by decide +kernel
theorem dX7_byHop_51 : decode cX7_byHop 51 = .ok (.aload_n 0, 1) := by decide +kernel
theorem dX7_byHop_52 : decode cX7_byHop 52 = .ok (.iload_n 1, 1) := by decide +kernel
theorem dX7_byHop_53 : decode cX7_byHop 53 = .ok (.iload_n 2, 1) := by decide +kernel
theorem dX7_byHop_54 : decode cX7_byHop 54 = .ok (.iload 4, 2) := by decide +kernel
theorem dX7_byHop_56 : decode cX7_byHop 56 = .ok (.invokevirtual 145, 3) := by decide +kernel
theorem dX7_byHop_59 : decode cX7_byHop 59 = .ok (.ireturn, 1) := by decide +kernel
theorem dX7_checkOne_0 : decode cX7_checkOne 0 = .ok (.aload_n 0, 1) := by decide +kernel
theorem dX7_checkOne_1 : decode cX7_checkOne 1 = .ok (.getfield 62, 3) := by decide +kernel
theorem dX7_checkOne_4 : decode cX7_checkOne 4 = .ok (.bipush 8, 2) := by decide +kernel
theorem dX7_checkOne_6 : decode cX7_checkOne 6 = .ok (.iload_n 1, 1) := by decide +kernel
theorem dX7_checkOne_7 : decode cX7_checkOne 7 = .ok (.imul, 1) := by decide +kernel
theorem dX7_checkOne_8 : decode cX7_checkOne 8 = .ok (.iload_n 2, 1) := by decide +kernel
theorem dX7_checkOne_9 : decode cX7_checkOne 9 = .ok (.iadd, 1) := by decide +kernel
theorem dX7_checkOne_10 : decode cX7_checkOne 10 = .ok (.iaload, 1) := by decide +kernel
theorem dX7_checkOne_11 : decode cX7_checkOne 11 = .ok (.istore_n 3, 1) := by decide +kernel
theorem dX7_checkOne_12 : decode cX7_checkOne 12 = .ok (.aload_n 0, 1) := by decide +kernel
theorem dX7_checkOne_13 : decode cX7_checkOne 13 = .ok (.iload_n 1, 1) := by decide +kernel
theorem dX7_checkOne_14 : decode cX7_checkOne 14 = .ok (.iload_n 2, 1) := by decide +kernel
theorem dX7_checkOne_15 : decode cX7_checkOne 15 = .ok (.invokevirtual 149, 3) := by decide +kernel
theorem dX7_checkOne_18 : decode cX7_checkOne 18 = .ok (.istore 4, 2) := by decide +kernel
theorem dX7_checkOne_20 : decode cX7_checkOne 20 = .ok (.aload_n 0, 1) := by decide +kernel
theorem dX7_checkOne_21 : decode cX7_checkOne 21 = .ok (.iload_n 1, 1) := by decide +kernel
theorem dX7_checkOne_22 : decode cX7_checkOne 22 = .ok (.iload_n 2, 1) := by decide +kernel
theorem dX7_checkOne_23 : decode cX7_checkOne 23 = .ok (.invokevirtual 139, 3) := by decide +kernel
theorem dX7_checkOne_26 : decode cX7_checkOne 26 = .ok (.iload_n 1, 1) := by decide +kernel
theorem dX7_checkOne_27 : decode cX7_checkOne 27 = .ok (.if_icmp .ne 31, 3) := by decide +kernel
theorem dX7_checkOne_30 : decode cX7_checkOne 30 = .ok (.iload_n 3, 1) := by decide +kernel
theorem dX7_checkOne_31 : decode cX7_checkOne 31 = .ok (.bipush 16, 2) := by decide +kernel
theorem dX7_checkOne_33 : decode cX7_checkOne 33 = .ok (.if_icmp .lt 9, 3) := by decide +kernel
theorem dX7_checkOne_36 : decode cX7_checkOne 36 = .ok (.aload_n 0, 1) := by decide +kernel
theorem dX7_checkOne_37 : decode cX7_checkOne 37 = .ok (.iload_n 1, 1) := by decide +kernel
theorem dX7_checkOne_38 : decode cX7_checkOne 38 = .ok (.iload_n 2, 1) := by decide +kernel
theorem dX7_checkOne_39 : decode cX7_checkOne 39 = .ok (.invokevirtual 152, 3) := by decide +kernel
theorem dX7_checkOne_42 : decode cX7_checkOne 42 = .ok (.iload_n 3, 1) := by decide +kernel
theorem dX7_checkOne_43 : decode cX7_checkOne 43 = .ok (.iconst 3, 1) := by decide +kernel
theorem dX7_checkOne_44 : decode cX7_checkOne 44 = .ok (.if_icmp .eq 13, 3) := by decide +kernel
theorem dX7_checkOne_47 : decode cX7_checkOne 47 = .ok (.aload_n 0, 1) := by decide +kernel
theorem dX7_checkOne_48 : decode cX7_checkOne 48 = .ok (.iload_n 1, 1) := by decide +kernel
theorem dX7_checkOne_49 : decode cX7_checkOne 49 = .ok (.iload_n 2, 1) := by decide +kernel
theorem dX7_checkOne_50 : decode cX7_checkOne 50 = .ok (.iconst 3, 1) := by decide +kernel
theorem dX7_checkOne_51 : decode cX7_checkOne 51 = .ok (.iconst 1, 1) := by decide +kernel
theorem dX7_checkOne_52 : decode cX7_checkOne 52 = .ok (.iload_n 1, 1) := by decide +kernel
theorem dX7_checkOne_53 : decode cX7_checkOne 53 = .ok (.ishl, 1) := by decide +kernel
theorem dX7_checkOne_54 : decode cX7_checkOne 54 = .ok (.invokevirtual 155, 3) := by decide +kernel
theorem dX7_checkOne_57 : decode cX7_checkOne 57 = .ok (.return_, 1) := by decide +kernel
theorem dX7_checkOne_58 : decode cX7_checkOne 58 = .ok (.iload_n 3, 1) := by decide +kernel
theorem dX7_checkOne_59 : decode cX7_checkOne 59 = .ok (.iconst (-1), 1) := by decide +kernel
theorem dX7_checkOne_60 : decode cX7_checkOne 60 = .ok (.if_icmp .eq 20, 3) := by decide +kernel
theorem dX7_checkOne_63 : decode cX7_checkOne 63 = .ok (.iload 4, 2) := by decide +kernel
theorem dX7_checkOne_65 : decode cX7_checkOne 65 = .ok (.iconst (-1), 1) := by decide +kernel
theorem dX7_checkOne_66 : decode cX7_checkOne 66 = .ok (.if_icmp .eq 8, 3) := by decide +kernel
theorem dX7_checkOne_69 : decode cX7_checkOne 69 = .ok (.iload_n 3, 1) := by decide +kernel
theorem dX7_checkOne_70 : decode cX7_checkOne 70 = .ok (.iconst 3, 1) := by decide +kernel
theorem dX7_checkOne_71 : decode cX7_checkOne 71 = .ok (.if_icmp .ne 9, 3) := by decide +kernel
theorem dX7_checkOne_74 : decode cX7_checkOne 74 = .ok (.aload_n 0, 1) := by decide +kernel
theorem dX7_checkOne_75 : decode cX7_checkOne 75 = .ok (.iload_n 1, 1) := by decide +kernel
theorem dX7_checkOne_76 : decode cX7_checkOne 76 = .ok (.iload_n 2, 1) := by decide +kernel
theorem dX7_checkOne_77 : decode cX7_checkOne 77 = .ok (.invokevirtual 152, 3) := by decide +kernel
theorem dX7_checkOne_80 : decode cX7_checkOne 80 = .ok (.iload 4, 2) := by decide +kernel
theorem dX7_checkOne_82 : decode cX7_checkOne 82 = .ok (.iconst (-1), 1) := by decide +kernel
theorem dX7_checkOne_83 : decode cX7_checkOne 83 = .ok (.if_icmp .ne 4, 3) := by decide +kernel
theorem dX7_checkOne_86 : decode cX7_checkOne 86 = .ok (.return_, 1) := by decide +kernel
theorem dX7_checkOne_87 : decode cX7_checkOne 87 = .ok (.aload_n 0, 1) := by decide +kernel
theorem dX7_checkOne_88 : decode cX7_checkOne 88 = .ok (.getfield 59, 3) := by decide +kernel
theorem dX7_checkOne_91 : decode cX7_checkOne 91 = .ok (.iload 4, 2) := by decide +kernel
theorem dX7_checkOne_93 : decode cX7_checkOne 93 = .ok (.iaload, 1) := by decide +kernel
theorem dX7_checkOne_94 : decode cX7_checkOne 94 = .ok (.iconst 1, 1) := by decide +kernel
theorem dX7_checkOne_95 : decode cX7_checkOne 95 = .ok (.iload_n 1, 1) := by decide +kernel
theorem dX7_checkOne_96 : decode cX7_checkOne 96 = .ok (.ishl, 1) := by decide +kernel
theorem dX7_checkOne_97 : decode cX7_checkOne 97 = .ok (.ior, 1) := by decide +kernel
theorem dX7_checkOne_98 : decode cX7_checkOne 98 = .ok (.istore 5, 2) := by decide +kernel
theorem dX7_checkOne_100 : decode cX7_checkOne 100 = .ok (.iload_n 3, 1) := by decide +kernel
theorem dX7_checkOne_101 : decode cX7_checkOne 101 = .ok (.bipush 16, 2) := by decide +kernel
theorem dX7_checkOne_103 : decode cX7_checkOne 103 = .ok (.if_icmp .lt 29, 3) := by decide +kernel
theorem dX7_checkOne_106 : decode cX7_checkOne 106 = .ok (.aload_n 0, 1) := by decide +kernel
theorem dX7_checkOne_107 : decode cX7_checkOne 107 = .ok (.getfield 65, 3) := by decide +kernel
theorem dX7_checkOne_110 : decode cX7_checkOne 110 = .ok (.bipush 8, 2) := by decide +kernel
theorem dX7_checkOne_112 : decode cX7_checkOne 112 = .ok (.iload_n 1, 1) := by decide +kernel
theorem dX7_checkOne_113 : decode cX7_checkOne 113 = .ok (.imul, 1) := by decide +kernel
theorem dX7_checkOne_114 : decode cX7_checkOne 114 = .ok (.iload_n 2, 1) := by decide +kernel
theorem dX7_checkOne_115 : decode cX7_checkOne 115 = .ok (.iadd, 1) := by decide +kernel
theorem dX7_checkOne_116 : decode cX7_checkOne 116 = .ok (.iaload, 1) := by decide +kernel
theorem dX7_checkOne_117 : decode cX7_checkOne 117 = .ok (.iload 5, 2) := by decide +kernel
theorem dX7_checkOne_119 : decode cX7_checkOne 119 = .ok (.if_icmp .eq 12, 3) := by decide +kernel
theorem dX7_checkOne_122 : decode cX7_checkOne 122 = .ok (.aload_n 0, 1) := by decide +kernel
theorem dX7_checkOne_123 : decode cX7_checkOne 123 = .ok (.iload_n 1, 1) := by decide +kernel
theorem dX7_checkOne_124 : decode cX7_checkOne 124 = .ok (.iload_n 2, 1) := by decide +kernel
theorem dX7_checkOne_125 : decode cX7_checkOne 125 = .ok (.iload_n 3, 1) := by decide +kernel
theorem dX7_checkOne_126 : decode cX7_checkOne 126 = .ok (.iload 5, 2) := by decide +kernel
theorem dX7_checkOne_128 : decode cX7_checkOne 128 = .ok (.invokevirtual 155, 3) := by decide +kernel
theorem dX7_checkOne_131 : decode cX7_checkOne 131 = .ok (.return_, 1) := by decide +kernel
theorem dX7_checkOne_132 : decode cX7_checkOne 132 = .ok (.aload_n 0, 1) := by decide +kernel
theorem dX7_checkOne_133 : decode cX7_checkOne 133 = .ok (.iload_n 1, 1) := by decide +kernel
theorem dX7_checkOne_134 : decode cX7_checkOne 134 = .ok (.invokevirtual 159, 3) := by decide +kernel
theorem dX7_checkOne_137 : decode cX7_checkOne 137 = .ok (.istore 6, 2) := by decide +kernel
theorem dX7_checkOne_139 : decode cX7_checkOne 139 = .ok (.iload 6, 2) := by decide +kernel
theorem dX7_checkOne_141 : decode cX7_checkOne 141 = .ok (.iconst (-1), 1) := by decide +kernel
theorem dX7_checkOne_142 : decode cX7_checkOne 142 = .ok (.if_icmp .eq 44, 3) := by decide +kernel
theorem dX7_checkOne_145 : decode cX7_checkOne 145 = .ok (.aload_n 0, 1) := by decide +kernel
theorem dX7_checkOne_146 : decode cX7_checkOne 146 = .ok (.getfield 68, 3) := by decide +kernel
theorem dX7_checkOne_149 : decode cX7_checkOne 149 = .ok (.bipush 64, 2) := by decide +kernel
theorem dX7_checkOne_151 : decode cX7_checkOne 151 = .ok (.iload_n 1, 1) := by decide +kernel
theorem dX7_checkOne_152 : decode cX7_checkOne 152 = .ok (.imul, 1) := by decide +kernel
theorem dX7_checkOne_153 : decode cX7_checkOne 153 = .ok (.iload 6, 2) := by decide +kernel
theorem dX7_checkOne_155 : decode cX7_checkOne 155 = .ok (.iadd, 1) := by decide +kernel
theorem dX7_checkOne_156 : decode cX7_checkOne 156 = .ok (.iload_n 2, 1) := by decide +kernel
theorem dX7_checkOne_157 : decode cX7_checkOne 157 = .ok (.iconst 1, 1) := by decide +kernel
theorem dX7_checkOne_158 : decode cX7_checkOne 158 = .ok (.iadd, 1) := by decide +kernel
theorem dX7_checkOne_159 : decode cX7_checkOne 159 = .ok (.iastore, 1) := by decide +kernel
theorem dX7_checkOne_160 : decode cX7_checkOne 160 = .ok (.aload_n 0, 1) := by decide +kernel
theorem dX7_checkOne_161 : decode cX7_checkOne 161 = .ok (.getfield 71, 3) := by decide +kernel
theorem dX7_checkOne_164 : decode cX7_checkOne 164 = .ok (.bipush 64, 2) := by decide +kernel
theorem dX7_checkOne_166 : decode cX7_checkOne 166 = .ok (.iload_n 1, 1) := by decide +kernel
theorem dX7_checkOne_167 : decode cX7_checkOne 167 = .ok (.imul, 1) := by decide +kernel
theorem dX7_checkOne_168 : decode cX7_checkOne 168 = .ok (.iload 6, 2) := by decide +kernel
theorem dX7_checkOne_170 : decode cX7_checkOne 170 = .ok (.iadd, 1) := by decide +kernel
theorem dX7_checkOne_171 : decode cX7_checkOne 171 = .ok (.iconst 0, 1) := by decide +kernel
theorem dX7_checkOne_172 : decode cX7_checkOne 172 = .ok (.iastore, 1) := by decide +kernel
theorem dX7_checkOne_173 : decode cX7_checkOne 173 = .ok (.aload_n 0, 1) := by decide +kernel
theorem dX7_checkOne_174 : decode cX7_checkOne 174 = .ok (.iload_n 1, 1) := by decide +kernel
theorem dX7_checkOne_175 : decode cX7_checkOne 175 = .ok (.iload_n 2, 1) := by decide +kernel
theorem dX7_checkOne_176 : decode cX7_checkOne 176 = .ok (.bipush 16, 2) := by decide +kernel
theorem dX7_checkOne_178 : decode cX7_checkOne 178 = .ok (.iload 6, 2) := by decide +kernel
theorem dX7_checkOne_180 : decode cX7_checkOne 180 = .ok (.iadd, 1) := by decide +kernel
theorem dX7_checkOne_181 : decode cX7_checkOne 181 = .ok (.iload 5, 2) := by decide +kernel
theorem dX7_checkOne_183 : decode cX7_checkOne 183 = .ok (.invokevirtual 155, 3) := by decide +kernel
theorem dX7_checkOne_186 : decode cX7_checkOne 186 = .ok (.return_, 1) := by decide +kernel
theorem dX7_check_0 : decode cX7_check 0 = .ok (.aload_n 0, 1) := by decide +kernel
theorem dX7_check_1 : decode cX7_check 1 = .ok (.iload_n 1, 1) := by decide +kernel
theorem dX7_check_2 : decode cX7_check 2 = .ok (.invokevirtual 163, 3) := by decide +kernel
theorem dX7_check_5 : decode cX7_check 5 = .ok (.iconst 0, 1) := by decide +kernel
theorem dX7_check_6 : decode cX7_check 6 = .ok (.istore_n 2, 1) := by decide +kernel
theorem dX7_check_7 : decode cX7_check 7 = .ok (.iload_n 2, 1) := by decide +kernel
theorem dX7_check_8 : decode cX7_check 8 = .ok (.bipush 8, 2) := by decide +kernel
theorem dX7_check_10 : decode cX7_check 10 = .ok (.if_icmp .ge 15, 3) := by decide +kernel
theorem dX7_check_13 : decode cX7_check 13 = .ok (.aload_n 0, 1) := by decide +kernel
theorem dX7_check_14 : decode cX7_check 14 = .ok (.iload_n 1, 1) := by decide +kernel
theorem dX7_check_15 : decode cX7_check 15 = .ok (.iload_n 2, 1) := by decide +kernel
theorem dX7_check_16 : decode cX7_check 16 = .ok (.invokevirtual 167, 3) := by decide +kernel
theorem dX7_check_19 : decode cX7_check 19 = .ok (.iinc 2 1, 3) := by decide +kernel
theorem dX7_check_22 : decode cX7_check 22 = .ok (.goto (-15), 3) := by decide +kernel
theorem dX7_check_25 : decode cX7_check 25 = .ok (.return_, 1) := by decide +kernel
theorem dX7_noted_0 : decode cX7_noted 0 = .ok (.aload_n 0, 1) := by decide +kernel
theorem dX7_noted_1 : decode cX7_noted 1 = .ok (.getfield 29, 3) := by decide +kernel
theorem dX7_noted_4 : decode cX7_noted 4 = .ok (.bipush 8, 2) := by decide +kernel
theorem dX7_noted_6 : decode cX7_noted 6 = .ok (.iload_n 1, 1) := by decide +kernel
theorem dX7_noted_7 : decode cX7_noted 7 = .ok (.imul, 1) := by decide +kernel
theorem dX7_noted_8 : decode cX7_noted 8 = .ok (.iload_n 3, 1) := by decide +kernel
theorem dX7_noted_9 : decode cX7_noted 9 = .ok (.iadd, 1) := by decide +kernel
theorem dX7_noted_10 : decode cX7_noted 10 = .ok (.iaload, 1) := by decide +kernel
theorem dX7_noted_11 : decode cX7_noted 11 = .ok (.istore 6, 2) := by decide +kernel
theorem dX7_noted_13 : decode cX7_noted 13 = .ok (.iload_n 3, 1) := by decide +kernel
theorem dX7_noted_14 : decode cX7_noted 14 = .ok (.iload_n 1, 1) := by decide +kernel
theorem dX7_noted_15 : decode cX7_noted 15 = .ok (.if_icmp .eq 10, 3) := by decide +kernel
theorem dX7_noted_18 : decode cX7_noted 18 = .ok (.iload 4, 2) := by decide +kernel
theorem dX7_noted_20 : decode cX7_noted 20 = .ok (.iload 6, 2) := by decide +kernel
theorem dX7_noted_22 : decode cX7_noted 22 = .ok (.if_icmp .ne 4, 3) := by decide +kernel
theorem dX7_noted_25 : decode cX7_noted 25 = .ok (.return_, 1) := by decide +kernel
theorem dX7_noted_26 : decode cX7_noted 26 = .ok (.iload 4, 2) := by decide +kernel
theorem dX7_noted_28 : decode cX7_noted 28 = .ok (.iload 6, 2) := by decide +kernel
theorem dX7_noted_30 : decode cX7_noted 30 = .ok (.if_icmp .ge 20, 3) := by decide +kernel
theorem dX7_noted_33 : decode cX7_noted 33 = .ok (.aload_n 0, 1) := by decide +kernel
theorem dX7_noted_34 : decode cX7_noted 34 = .ok (.iload_n 1, 1) := by decide +kernel
theorem dX7_noted_35 : decode cX7_noted 35 = .ok (.iload_n 2, 1) := by decide +kernel
theorem dX7_noted_36 : decode cX7_noted 36 = .ok (.iconst 0, 1) := by decide +kernel
theorem dX7_noted_37 : decode cX7_noted 37 = .ok (.iload_n 3, 1) := by decide +kernel
theorem dX7_noted_38 : decode cX7_noted 38 = .ok (.iload 6, 2) := by decide +kernel
theorem dX7_noted_40 : decode cX7_noted 40 = .ok (.aload_n 0, 1) := by decide +kernel
theorem dX7_noted_41 : decode cX7_noted 41 = .ok (.iload_n 1, 1) := by decide +kernel
theorem dX7_noted_42 : decode cX7_noted 42 = .ok (.iload_n 3, 1) := by decide +kernel
theorem dX7_noted_43 : decode cX7_noted 43 = .ok (.invokevirtual 117, 3) := by decide +kernel
theorem dX7_noted_46 : decode cX7_noted 46 = .ok (.invokevirtual 113, 3) := by decide +kernel
theorem dX7_noted_49 : decode cX7_noted 49 = .ok (.return_, 1) := by decide +kernel
theorem dX7_noted_50 : decode cX7_noted 50 = .ok (.aload_n 0, 1) := by decide +kernel
theorem dX7_noted_51 : decode cX7_noted 51 = .ok (.getfield 29, 3) := by decide +kernel
theorem dX7_noted_54 : decode cX7_noted 54 = .ok (.bipush 8, 2) := by decide +kernel
theorem dX7_noted_56 : decode cX7_noted 56 = .ok (.iload_n 1, 1) := by decide +kernel
theorem dX7_noted_57 : decode cX7_noted 57 = .ok (.imul, 1) := by decide +kernel
theorem dX7_noted_58 : decode cX7_noted 58 = .ok (.iload_n 3, 1) := by decide +kernel
theorem dX7_noted_59 : decode cX7_noted 59 = .ok (.iadd, 1) := by decide +kernel
theorem dX7_noted_60 : decode cX7_noted 60 = .ok (.iload 4, 2) := by decide +kernel
theorem dX7_noted_62 : decode cX7_noted 62 = .ok (.iastore, 1) := by decide +kernel
theorem dX7_noted_63 : decode cX7_noted 63 = .ok (.aload_n 0, 1) := by decide +kernel
theorem dX7_noted_64 : decode cX7_noted 64 = .ok (.getfield 32, 3) := by decide +kernel
theorem dX7_noted_67 : decode cX7_noted 67 = .ok (.bipush 8, 2) := by decide +kernel
theorem dX7_noted_69 : decode cX7_noted 69 = .ok (.iload_n 1, 1) := by decide +kernel
theorem dX7_noted_70 : decode cX7_noted 70 = .ok (.imul, 1) := by decide +kernel
theorem dX7_noted_71 : decode cX7_noted 71 = .ok (.iload_n 3, 1) := by decide +kernel
theorem dX7_noted_72 : decode cX7_noted 72 = .ok (.iadd, 1) := by decide +kernel
theorem dX7_noted_73 : decode cX7_noted 73 = .ok (.iload 5, 2) := by decide +kernel
theorem dX7_noted_75 : decode cX7_noted 75 = .ok (.sipush 4095, 3) := by decide +kernel
theorem dX7_noted_78 : decode cX7_noted 78 = .ok (.iand, 1) := by decide +kernel
theorem dX7_noted_79 : decode cX7_noted 79 = .ok (.iastore, 1) := by decide +kernel
theorem dX7_noted_80 : decode cX7_noted 80 = .ok (.aload_n 0, 1) := by decide +kernel
theorem dX7_noted_81 : decode cX7_noted 81 = .ok (.getfield 35, 3) := by decide +kernel
theorem dX7_noted_84 : decode cX7_noted 84 = .ok (.bipush 8, 2) := by decide +kernel
theorem dX7_noted_86 : decode cX7_noted 86 = .ok (.iload_n 1, 1) := by decide +kernel
theorem dX7_noted_87 : decode cX7_noted 87 = .ok (.imul, 1) := by decide +kernel
theorem dX7_noted_88 : decode cX7_noted 88 = .ok (.iload_n 3, 1) := by decide +kernel
theorem dX7_noted_89 : decode cX7_noted 89 = .ok (.iadd, 1) := by decide +kernel
theorem dX7_noted_90 : decode cX7_noted 90 = .ok (.iload 5, 2) := by decide +kernel
theorem dX7_noted_92 : decode cX7_noted 92 = .ok (.bipush 12, 2) := by decide +kernel
theorem dX7_noted_94 : decode cX7_noted 94 = .ok (.ishr, 1) := by decide +kernel
theorem dX7_noted_95 : decode cX7_noted 95 = .ok (.iastore, 1) := by decide +kernel
theorem dX7_noted_96 : decode cX7_noted 96 = .ok (.aload_n 0, 1) := by decide +kernel
theorem dX7_noted_97 : decode cX7_noted 97 = .ok (.iload_n 1, 1) := by decide +kernel
theorem dX7_noted_98 : decode cX7_noted 98 = .ok (.iload_n 2, 1) := by decide +kernel
theorem dX7_noted_99 : decode cX7_noted 99 = .ok (.iconst 0, 1) := by decide +kernel
theorem dX7_noted_100 : decode cX7_noted 100 = .ok (.iload_n 3, 1) := by decide +kernel
theorem dX7_noted_101 : decode cX7_noted 101 = .ok (.iload 4, 2) := by decide +kernel
theorem dX7_noted_103 : decode cX7_noted 103 = .ok (.iload 5, 2) := by decide +kernel
theorem dX7_noted_105 : decode cX7_noted 105 = .ok (.invokevirtual 121, 3) := by decide +kernel
theorem dX7_noted_108 : decode cX7_noted 108 = .ok (.aload_n 0, 1) := by decide +kernel
theorem dX7_noted_109 : decode cX7_noted 109 = .ok (.iload_n 1, 1) := by decide +kernel
theorem dX7_noted_110 : decode cX7_noted 110 = .ok (.invokevirtual 170, 3) := by decide +kernel
theorem dX7_noted_113 : decode cX7_noted 113 = .ok (.return_, 1) := by decide +kernel
theorem dX7_mapped_0 : decode cX7_mapped 0 = .ok (.iload 5, 2) := by decide +kernel
theorem dX7_mapped_2 : decode cX7_mapped 2 = .ok (.iload_n 1, 1) := by decide +kernel
theorem dX7_mapped_3 : decode cX7_mapped 3 = .ok (.ishr, 1) := by decide +kernel
theorem dX7_mapped_4 : decode cX7_mapped 4 = .ok (.iconst 1, 1) := by decide +kernel
theorem dX7_mapped_5 : decode cX7_mapped 5 = .ok (.iand, 1) := by decide +kernel
theorem dX7_mapped_6 : decode cX7_mapped 6 = .ok (.iconst 1, 1) := by decide +kernel
theorem dX7_mapped_7 : decode cX7_mapped 7 = .ok (.if_icmp .ne 7, 3) := by decide +kernel
theorem dX7_mapped_10 : decode cX7_mapped 10 = .ok (.iconst 1, 1) := by decide +kernel
theorem dX7_mapped_11 : decode cX7_mapped 11 = .ok (.goto 4, 3) := by decide +kernel
theorem dX7_mapped_14 : decode cX7_mapped 14 = .ok (.iconst 0, 1) := by decide +kernel
theorem dX7_mapped_15 : decode cX7_mapped 15 = .ok (.istore 6, 2) := by decide +kernel
theorem dX7_mapped_17 : decode cX7_mapped 17 = .ok (.aload_n 0, 1) := by decide +kernel
theorem dX7_mapped_18 : decode cX7_mapped 18 = .ok (.getfield 56, 3) := by decide +kernel
theorem dX7_mapped_21 : decode cX7_mapped 21 = .ok (.aload_n 0, 1) := by decide +kernel
theorem dX7_mapped_22 : decode cX7_mapped 22 = .ok (.iload_n 1, 1) := by decide +kernel
theorem dX7_mapped_23 : decode cX7_mapped 23 = .ok (.iload_n 3, 1) := by decide +kernel
theorem dX7_mapped_24 : decode cX7_mapped 24 = .ok (.iload_n 2, 1) := by decide +kernel
theorem dX7_mapped_25 : decode cX7_mapped 25 = .ok (.invokevirtual 145, 3) := by decide +kernel
theorem dX7_mapped_28 : decode cX7_mapped 28 = .ok (.iload 6, 2) := by decide +kernel
theorem dX7_mapped_30 : decode cX7_mapped 30 = .ok (.ifCond .eq 7, 3) := by decide +kernel
theorem dX7_mapped_33 : decode cX7_mapped 33 = .ok (.iconst (-1), 1) := by decide +kernel
theorem dX7_mapped_34 : decode cX7_mapped 34 = .ok (.goto 5, 3) := by decide +kernel
theorem dX7_mapped_37 : decode cX7_mapped 37 = .ok (.iload 4, 2) := by decide +kernel
theorem dX7_mapped_39 : decode cX7_mapped 39 = .ok (.iastore, 1) := by decide +kernel
theorem dX7_mapped_40 : decode cX7_mapped 40 = .ok (.aload_n 0, 1) := by decide +kernel
theorem dX7_mapped_41 : decode cX7_mapped 41 = .ok (.getfield 59, 3) := by decide +kernel
theorem dX7_mapped_44 : decode cX7_mapped 44 = .ok (.aload_n 0, 1) := by decide +kernel
theorem dX7_mapped_45 : decode cX7_mapped 45 = .ok (.iload_n 1, 1) := by decide +kernel
theorem dX7_mapped_46 : decode cX7_mapped 46 = .ok (.iload_n 3, 1) := by decide +kernel
theorem dX7_mapped_47 : decode cX7_mapped 47 = .ok (.iload_n 2, 1) := by decide +kernel
theorem dX7_mapped_48 : decode cX7_mapped 48 = .ok (.invokevirtual 145, 3) := by decide +kernel
theorem dX7_mapped_51 : decode cX7_mapped 51 = .ok (.iload 6, 2) := by decide +kernel
theorem dX7_mapped_53 : decode cX7_mapped 53 = .ok (.ifCond .eq 7, 3) := by decide +kernel
theorem dX7_mapped_56 : decode cX7_mapped 56 = .ok (.iconst 0, 1) := by decide +kernel
theorem dX7_mapped_57 : decode cX7_mapped 57 = .ok (.goto 5, 3) := by decide +kernel
theorem dX7_mapped_60 : decode cX7_mapped 60 = .ok (.iload 5, 2) := by decide +kernel
theorem dX7_mapped_62 : decode cX7_mapped 62 = .ok (.iastore, 1) := by decide +kernel
theorem dX7_mapped_63 : decode cX7_mapped 63 = .ok (.iload 6, 2) := by decide +kernel
theorem dX7_mapped_65 : decode cX7_mapped 65 = .ok (.ifCond .eq 14, 3) := by decide +kernel
theorem dX7_mapped_68 : decode cX7_mapped 68 = .ok (.aload_n 0, 1) := by decide +kernel
theorem dX7_mapped_69 : decode cX7_mapped 69 = .ok (.iload_n 1, 1) := by decide +kernel
theorem dX7_mapped_70 : decode cX7_mapped 70 = .ok (.iload_n 2, 1) := by decide +kernel
theorem dX7_mapped_71 : decode cX7_mapped 71 = .ok (.iconst 3, 1) := by decide +kernel
theorem dX7_mapped_72 : decode cX7_mapped 72 = .ok (.iload_n 3, 1) := by decide +kernel
theorem dX7_mapped_73 : decode cX7_mapped 73 = .ok (.iload 4, 2) := by decide +kernel
theorem dX7_mapped_75 : decode cX7_mapped 75 = .ok (.iconst 0, 1) := by decide +kernel
theorem dX7_mapped_76 : decode cX7_mapped 76 = .ok (.invokevirtual 113, 3) := by decide +kernel
theorem dX7_mapped_79 : decode cX7_mapped 79 = .ok (.aload_n 0, 1) := by decide +kernel
theorem dX7_mapped_80 : decode cX7_mapped 80 = .ok (.iload_n 1, 1) := by decide +kernel
theorem dX7_mapped_81 : decode cX7_mapped 81 = .ok (.invokevirtual 170, 3) := by decide +kernel
theorem dX7_mapped_84 : decode cX7_mapped 84 = .ok (.return_, 1) := by decide +kernel
theorem dX7_withdrawn_0 : decode cX7_withdrawn 0 = .ok (.aload_n 0, 1) := by decide +kernel
theorem dX7_withdrawn_1 : decode cX7_withdrawn 1 = .ok (.getfield 56, 3) := by decide +kernel
theorem dX7_withdrawn_4 : decode cX7_withdrawn 4 = .ok (.aload_n 0, 1) := by decide +kernel
theorem dX7_withdrawn_5 : decode cX7_withdrawn 5 = .ok (.iload_n 1, 1) := by decide +kernel
theorem dX7_withdrawn_6 : decode cX7_withdrawn 6 = .ok (.iload_n 3, 1) := by decide +kernel
theorem dX7_withdrawn_7 : decode cX7_withdrawn 7 = .ok (.iload_n 2, 1) := by decide +kernel
theorem dX7_withdrawn_8 : decode cX7_withdrawn 8 = .ok (.invokevirtual 145, 3) := by decide +kernel
theorem dX7_withdrawn_11 : decode cX7_withdrawn 11 = .ok (.iaload, 1) := by decide +kernel
theorem dX7_withdrawn_12 : decode cX7_withdrawn 12 = .ok (.iload 4, 2) := by decide +kernel
theorem dX7_withdrawn_14 : decode cX7_withdrawn 14 = .ok (.if_icmp .ne 16, 3) := by decide +kernel
theorem dX7_withdrawn_17 : decode cX7_withdrawn 17 = .ok (.aload_n 0, 1) := by decide +kernel
theorem dX7_withdrawn_18 : decode cX7_withdrawn 18 = .ok (.getfield 56, 3) := by decide +kernel
theorem dX7_withdrawn_21 : decode cX7_withdrawn 21 = .ok (.aload_n 0, 1) := by decide +kernel
theorem dX7_withdrawn_22 : decode cX7_withdrawn 22 = .ok (.iload_n 1, 1) := by decide +kernel
theorem dX7_withdrawn_23 : decode cX7_withdrawn 23 = .ok (.iload_n 3, 1) := by decide +kernel
theorem dX7_withdrawn_24 : decode cX7_withdrawn 24 = .ok (.iload_n 2, 1) := by decide +kernel
theorem dX7_withdrawn_25 : decode cX7_withdrawn 25 = .ok (.invokevirtual 145, 3) := by decide +kernel
theorem dX7_withdrawn_28 : decode cX7_withdrawn 28 = .ok (.iconst (-1), 1) := by decide +kernel
theorem dX7_withdrawn_29 : decode cX7_withdrawn 29 = .ok (.iastore, 1) := by decide +kernel
theorem dX7_withdrawn_30 : decode cX7_withdrawn 30 = .ok (.aload_n 0, 1) := by decide +kernel
theorem dX7_withdrawn_31 : decode cX7_withdrawn 31 = .ok (.iload_n 1, 1) := by decide +kernel
theorem dX7_withdrawn_32 : decode cX7_withdrawn 32 = .ok (.iload_n 2, 1) := by decide +kernel
theorem dX7_withdrawn_33 : decode cX7_withdrawn 33 = .ok (.iconst 3, 1) := by decide +kernel
theorem dX7_withdrawn_34 : decode cX7_withdrawn 34 = .ok (.iload_n 3, 1) := by decide +kernel
theorem dX7_withdrawn_35 : decode cX7_withdrawn 35 = .ok (.iload 4, 2) := by decide +kernel
theorem dX7_withdrawn_37 : decode cX7_withdrawn 37 = .ok (.iconst 0, 1) := by decide +kernel
theorem dX7_withdrawn_38 : decode cX7_withdrawn 38 = .ok (.invokevirtual 113, 3) := by decide +kernel
theorem dX7_withdrawn_41 : decode cX7_withdrawn 41 = .ok (.aload_n 0, 1) := by decide +kernel
theorem dX7_withdrawn_42 : decode cX7_withdrawn 42 = .ok (.iload_n 1, 1) := by decide +kernel
theorem dX7_withdrawn_43 : decode cX7_withdrawn 43 = .ok (.invokevirtual 170, 3) := by decide +kernel
theorem dX7_withdrawn_46 : decode cX7_withdrawn 46 = .ok (.return_, 1) := by decide +kernel
theorem dX7_released_0 : decode cX7_released 0 = .ok (.iload 4, 2) := by decide +kernel
theorem dX7_released_2 : decode cX7_released 2 = .ok (.bipush 16, 2) := by decide +kernel
theorem dX7_released_4 : decode cX7_released 4 = .ok (.if_icmp .lt 24, 3) := by decide +kernel
theorem dX7_released_7 : decode cX7_released 7 = .ok (.aload_n 0, 1) := by decide +kernel
theorem dX7_released_8 : decode cX7_released 8 = .ok (.getfield 68, 3) := by decide +kernel
theorem dX7_released_11 : decode cX7_released 11 = .ok (.bipush 64, 2) := by decide +kernel
theorem dX7_released_13 : decode cX7_released 13 = .ok (.iload_n 1, 1) := by decide +kernel
theorem dX7_released_14 : decode cX7_released 14 = .ok (.imul, 1) := by decide +kernel
theorem dX7_released_15 : decode cX7_released 15 = .ok (.iload 4, 2) := by decide +kernel
theorem dX7_released_17 : decode cX7_released 17 = .ok (.iadd, 1) := by decide +kernel
theorem dX7_released_18 : decode cX7_released 18 = .ok (.bipush 16, 2) := by decide +kernel
theorem dX7_released_20 : decode cX7_released 20 = .ok (.isub, 1) := by decide +kernel
theorem dX7_released_21 : decode cX7_released 21 = .ok (.iaload, 1) := by decide +kernel
theorem dX7_released_22 : decode cX7_released 22 = .ok (.iload_n 3, 1) := by decide +kernel
theorem dX7_released_23 : decode cX7_released 23 = .ok (.iconst 1, 1) := by decide +kernel
theorem dX7_released_24 : decode cX7_released 24 = .ok (.iadd, 1) := by decide +kernel
theorem dX7_released_25 : decode cX7_released 25 = .ok (.if_icmp .eq 4, 3) := by decide +kernel
theorem dX7_released_28 : decode cX7_released 28 = .ok (.return_, 1) := by decide +kernel
theorem dX7_released_29 : decode cX7_released 29 = .ok (.aload_n 0, 1) := by decide +kernel
theorem dX7_released_30 : decode cX7_released 30 = .ok (.getfield 71, 3) := by decide +kernel
theorem dX7_released_33 : decode cX7_released 33 = .ok (.bipush 64, 2) := by decide +kernel
theorem dX7_released_35 : decode cX7_released 35 = .ok (.iload_n 1, 1) := by decide +kernel
theorem dX7_released_36 : decode cX7_released 36 = .ok (.imul, 1) := by decide +kernel
theorem dX7_released_37 : decode cX7_released 37 = .ok (.iload 4, 2) := by decide +kernel
theorem dX7_released_39 : decode cX7_released 39 = .ok (.iadd, 1) := by decide +kernel
theorem dX7_released_40 : decode cX7_released 40 = .ok (.bipush 16, 2) := by decide +kernel
theorem dX7_released_42 : decode cX7_released 42 = .ok (.isub, 1) := by decide +kernel
theorem dX7_released_43 : decode cX7_released 43 = .ok (.dup2, 1) := by decide +kernel
theorem dX7_released_44 : decode cX7_released 44 = .ok (.iaload, 1) := by decide +kernel
theorem dX7_released_45 : decode cX7_released 45 = .ok (.iconst 1, 1) := by decide +kernel
theorem dX7_released_46 : decode cX7_released 46 = .ok (.iload_n 2, 1) := by decide +kernel
theorem dX7_released_47 : decode cX7_released 47 = .ok (.ishl, 1) := by decide +kernel
theorem dX7_released_48 : decode cX7_released 48 = .ok (.iconst (-1), 1) := by decide +kernel
theorem dX7_released_49 : decode cX7_released 49 = .ok (.ixor, 1) := by decide +kernel
theorem dX7_released_50 : decode cX7_released 50 = .ok (.iand, 1) := by decide +kernel
theorem dX7_released_51 : decode cX7_released 51 = .ok (.iastore, 1) := by decide +kernel
theorem dX7_released_52 : decode cX7_released 52 = .ok (.aload_n 0, 1) := by decide +kernel
theorem dX7_released_53 : decode cX7_released 53 = .ok (.iload_n 1, 1) := by decide +kernel
theorem dX7_released_54 : decode cX7_released 54 = .ok (.iload 4, 2) := by decide +kernel
theorem dX7_released_56 : decode cX7_released 56 = .ok (.bipush 16, 2) := by decide +kernel
theorem dX7_released_58 : decode cX7_released 58 = .ok (.isub, 1) := by decide +kernel
theorem dX7_released_59 : decode cX7_released 59 = .ok (.invokevirtual 135, 3) := by decide +kernel
theorem dX7_released_62 : decode cX7_released 62 = .ok (.aload_n 0, 1) := by decide +kernel
theorem dX7_released_63 : decode cX7_released 63 = .ok (.iload_n 1, 1) := by decide +kernel
theorem dX7_released_64 : decode cX7_released 64 = .ok (.invokevirtual 170, 3) := by decide +kernel
theorem dX7_released_67 : decode cX7_released 67 = .ok (.return_, 1) := by decide +kernel
theorem dX7_go_0 : decode cX7_go 0 = .ok (.aload_n 0, 1) := by decide +kernel
theorem dX7_go_1 : decode cX7_go 1 = .ok (.getfield 80, 3) := by decide +kernel
theorem dX7_go_4 : decode cX7_go 4 = .ok (.iload_n 1, 1) := by decide +kernel
theorem dX7_go_5 : decode cX7_go 5 = .ok (.iload_n 2, 1) := by decide +kernel
theorem dX7_go_6 : decode cX7_go 6 = .ok (.iastore, 1) := by decide +kernel
theorem dX7_go_7 : decode cX7_go 7 = .ok (.iload_n 3, 1) := by decide +kernel
theorem dX7_go_8 : decode cX7_go 8 = .ok (.iconst (-1), 1) := by decide +kernel
theorem dX7_go_9 : decode cX7_go 9 = .ok (.if_icmp .ne 12, 3) := by decide +kernel
theorem dX7_go_12 : decode cX7_go 12 = .ok (.aload_n 0, 1) := by decide +kernel
theorem dX7_go_13 : decode cX7_go 13 = .ok (.getfield 74, 3) := by decide +kernel
theorem dX7_go_16 : decode cX7_go 16 = .ok (.iload_n 1, 1) := by decide +kernel
theorem dX7_go_17 : decode cX7_go 17 = .ok (.iaload, 1) := by decide +kernel
theorem dX7_go_18 : decode cX7_go 18 = .ok (.goto 4, 3) := by decide +kernel
theorem dX7_go_21 : decode cX7_go 21 = .ok (.iconst (-1), 1) := by decide +kernel
theorem dX7_go_22 : decode cX7_go 22 = .ok (.istore 4, 2) := by decide +kernel
theorem dX7_go_24 : decode cX7_go 24 = .ok (.iconst 0, 1) := by decide +kernel
theorem dX7_go_25 : decode cX7_go 25 = .ok (.istore 5, 2) := by decide +kernel
theorem dX7_go_27 : decode cX7_go 27 = .ok (.iload 5, 2) := by decide +kernel
theorem dX7_go_29 : decode cX7_go 29 = .ok (.bipush 8, 2) := by decide +kernel
theorem dX7_go_31 : decode cX7_go 31 = .ok (.if_icmp .ge 40, 3) := by decide +kernel
theorem dX7_go_34 : decode cX7_go 34 = .ok (.iload_n 3, 1) := by decide +kernel
theorem dX7_go_35 : decode cX7_go 35 = .ok (.bipush 16, 2) := by decide +kernel
theorem dX7_go_37 : decode cX7_go 37 = .ok (.if_icmp .lt 34, 3) := by decide +kernel
theorem dX7_go_40 : decode cX7_go 40 = .ok (.aload_n 0, 1) := by decide +kernel
theorem dX7_go_41 : decode cX7_go 41 = .ok (.getfield 62, 3) := by decide +kernel
theorem dX7_go_44 : decode cX7_go 44 = .ok (.bipush 8, 2) := by decide +kernel
theorem dX7_go_46 : decode cX7_go 46 = .ok (.iload_n 2, 1) := by decide +kernel
theorem dX7_go_47 : decode cX7_go 47 = .ok (.imul, 1) := by decide +kernel
theorem dX7_go_48 : decode cX7_go 48 = .ok (.iload 5, 2) := by decide +kernel
theorem dX7_go_50 : decode cX7_go 50 = .ok (.iadd, 1) := by decide +kernel
theorem dX7_go_51 : decode cX7_go 51 = .ok (.iaload, 1) := by decide +kernel
theorem dX7_go_52 : decode cX7_go 52 = .ok (.iload_n 3, 1) := by decide +kernel
theorem dX7_go_53 : decode cX7_go 53 = .ok (.if_icmp .ne 8, 3) := by decide +kernel
theorem dX7_go_56 : decode cX7_go 56 = .ok (.iload 5, 2) := by decide +kernel
theorem dX7_go_58 : decode cX7_go 58 = .ok (.goto 5, 3) := by decide +kernel
theorem dX7_go_61 : decode cX7_go 61 = .ok (.iload 4, 2) := by decide +kernel
theorem dX7_go_63 : decode cX7_go 63 = .ok (.istore 4, 2) := by decide +kernel
theorem dX7_go_65 : decode cX7_go 65 = .ok (.iinc 5 1, 3) := by decide +kernel
theorem dX7_go_68 : decode cX7_go 68 = .ok (.goto (-41), 3) := by decide +kernel
theorem dX7_go_71 : decode cX7_go 71 = .ok (.aload_n 0, 1) := by decide +kernel
theorem dX7_go_72 : decode cX7_go 72 = .ok (.iload_n 2, 1) := by decide +kernel
theorem dX7_go_73 : decode cX7_go 73 = .ok (.invokevirtual 163, 3) := by decide +kernel
theorem dX7_go_76 : decode cX7_go 76 = .ok (.iload 4, 2) := by decide +kernel
theorem dX7_go_78 : decode cX7_go 78 = .ok (.iconst (-1), 1) := by decide +kernel
theorem dX7_go_79 : decode cX7_go 79 = .ok (.if_icmp .ne 7, 3) := by decide +kernel
theorem dX7_go_82 : decode cX7_go 82 = .ok (.iconst (-1), 1) := by decide +kernel
theorem dX7_go_83 : decode cX7_go 83 = .ok (.goto 10, 3) := by decide +kernel
theorem dX7_go_86 : decode cX7_go 86 = .ok (.aload_n 0, 1) := by decide +kernel
theorem dX7_go_87 : decode cX7_go 87 = .ok (.iload_n 2, 1) := by decide +kernel
theorem dX7_go_88 : decode cX7_go 88 = .ok (.iload 4, 2) := by decide +kernel
theorem dX7_go_90 : decode cX7_go 90 = .ok (.invokevirtual 139, 3) := by decide +kernel
theorem dX7_go_93 : decode cX7_go 93 = .ok (.istore 5, 2) := by decide +kernel
theorem dX7_go_95 : decode cX7_go 95 = .ok (.iload_n 3, 1) := by decide +kernel
theorem dX7_go_96 : decode cX7_go 96 = .ok (.iconst (-1), 1) := by decide +kernel
theorem dX7_go_97 : decode cX7_go 97 = .ok (.if_icmp .ne 24, 3) := by decide +kernel
theorem dX7_go_100 : decode cX7_go 100 = .ok (.aload_n 0, 1) := by decide +kernel
theorem dX7_go_101 : decode cX7_go 101 = .ok (.getfield 26, 3) := by decide +kernel
theorem dX7_go_104 : decode cX7_go 104 = .ok (.iload 4, 2) := by decide +kernel
theorem dX7_go_106 : decode cX7_go 106 = .ok (.iaload, 1) := by decide +kernel
theorem dX7_go_107 : decode cX7_go 107 = .ok (.iload_n 2, 1) := by decide +kernel
theorem dX7_go_108 : decode cX7_go 108 = .ok (.if_icmp .ne 13, 3) := by decide +kernel
theorem dX7_go_111 : decode cX7_go 111 = .ok (.aload_n 0, 1) := by decide +kernel
theorem dX7_go_112 : decode cX7_go 112 = .ok (.getfield 83, 3) := by decide +kernel
theorem dX7_go_115 : decode cX7_go 115 = .ok (.iload_n 1, 1) := by decide +kernel
theorem dX7_go_116 : decode cX7_go 116 = .ok (.iconst 1, 1) := by decide +kernel
theorem dX7_go_117 : decode cX7_go 117 = .ok (.iastore, 1) := by decide +kernel
theorem dX7_go_118 : decode cX7_go 118 = .ok (.goto 156, 3) := by decide +kernel
theorem dX7_go_121 : decode cX7_go 121 = .ok (.iload_n 3, 1) := by decide +kernel
theorem dX7_go_122 : decode cX7_go 122 = .ok (.iconst (-1), 1) := by decide +kernel
theorem dX7_go_123 : decode cX7_go 123 = .ok (.if_icmp .eq 19, 3) := by decide +kernel
theorem dX7_go_126 : decode cX7_go 126 = .ok (.iload 4, 2) := by decide +kernel
theorem dX7_go_128 : decode cX7_go 128 = .ok (.iconst (-1), 1) := by decide +kernel
theorem dX7_go_129 : decode cX7_go 129 = .ok (.if_icmp .ne 13, 3) := by decide +kernel
theorem dX7_go_132 : decode cX7_go 132 = .ok (.aload_n 0, 1) := by decide +kernel
theorem dX7_go_133 : decode cX7_go 133 = .ok (.getfield 83, 3) := by decide +kernel
theorem dX7_go_136 : decode cX7_go 136 = .ok (.iload_n 1, 1) := by decide +kernel
theorem dX7_go_137 : decode cX7_go 137 = .ok (.iconst 3, 1) := by decide +kernel
theorem dX7_go_138 : decode cX7_go 138 = .ok (.iastore, 1) := by decide +kernel
theorem dX7_go_139 : decode cX7_go 139 = .ok (.goto 135, 3) := by decide +kernel
theorem dX7_go_142 : decode cX7_go 142 = .ok (.iload 5, 2) := by decide +kernel
theorem dX7_go_144 : decode cX7_go 144 = .ok (.iconst (-1), 1) := by decide +kernel
theorem dX7_go_145 : decode cX7_go 145 = .ok (.if_icmp .eq 9, 3) := by decide +kernel
theorem dX7_go_148 : decode cX7_go 148 = .ok (.iload 5, 2) := by decide +kernel
theorem dX7_go_150 : decode cX7_go 150 = .ok (.iload_n 2, 1) := by decide +kernel
theorem dX7_go_151 : decode cX7_go 151 = .ok (.if_icmp .ne 13, 3) := by decide +kernel
theorem dX7_go_154 : decode cX7_go 154 = .ok (.aload_n 0, 1) := by decide +kernel
theorem dX7_go_155 : decode cX7_go 155 = .ok (.getfield 83, 3) := by decide +kernel
theorem dX7_go_158 : decode cX7_go 158 = .ok (.iload_n 1, 1) := by decide +kernel
theorem dX7_go_159 : decode cX7_go 159 = .ok (.iconst 2, 1) := by decide +kernel
theorem dX7_go_160 : decode cX7_go 160 = .ok (.iastore, 1) := by decide +kernel
theorem dX7_go_161 : decode cX7_go 161 = .ok (.goto 113, 3) := by decide +kernel
theorem dX7_go_164 : decode cX7_go 164 = .ok (.aload_n 0, 1) := by decide +kernel
theorem dX7_go_165 : decode cX7_go 165 = .ok (.getfield 77, 3) := by decide +kernel
theorem dX7_go_168 : decode cX7_go 168 = .ok (.iload_n 1, 1) := by decide +kernel
theorem dX7_go_169 : decode cX7_go 169 = .ok (.iaload, 1) := by decide +kernel
theorem dX7_go_170 : decode cX7_go 170 = .ok (.ifCond .ne 13, 3) := by decide +kernel
theorem dX7_go_173 : decode cX7_go 173 = .ok (.aload_n 0, 1) := by decide +kernel
theorem dX7_go_174 : decode cX7_go 174 = .ok (.getfield 83, 3) := by decide +kernel
theorem dX7_go_177 : decode cX7_go 177 = .ok (.iload_n 1, 1) := by decide +kernel
theorem dX7_go_178 : decode cX7_go 178 = .ok (.iconst 4, 1) := by decide +kernel
theorem dX7_go_179 : decode cX7_go 179 = .ok (.iastore, 1) := by decide +kernel
theorem dX7_go_180 : decode cX7_go 180 = .ok (.goto 94, 3) := by decide +kernel
theorem dX7_go_183 : decode cX7_go 183 = .ok (.aload_n 0, 1) := by decide +kernel
theorem dX7_go_184 : decode cX7_go 184 = .ok (.iload_n 2, 1) := by decide +kernel
theorem dX7_go_185 : decode cX7_go 185 = .ok (.iload 5, 2) := by decide +kernel
theorem dX7_go_187 : decode cX7_go 187 = .ok (.invokevirtual 142, 3) := by decide +kernel
theorem dX7_go_190 : decode cX7_go 190 = .ok (.istore 6, 2) := by decide +kernel
theorem dX7_go_192 : decode cX7_go 192 = .ok (.aload_n 0, 1) := by decide +kernel
theorem dX7_go_193 : decode cX7_go 193 = .ok (.getfield 56, 3) := by decide +kernel
theorem dX7_go_196 : decode cX7_go 196 = .ok (.aload_n 0, 1) := by decide +kernel
theorem dX7_go_197 : decode cX7_go 197 = .ok (.iload_n 2, 1) := by decide +kernel
theorem dX7_go_198 : decode cX7_go 198 = .ok (.iload 4, 2) := by decide +kernel
theorem dX7_go_200 : decode cX7_go 200 = .ok (.iload 6, 2) := by decide +kernel
theorem dX7_go_202 : decode cX7_go 202 = .ok (.invokevirtual 145, 3) := by decide +kernel
theorem dX7_go_205 : decode cX7_go 205 = .ok (.iaload, 1) := by decide +kernel
theorem dX7_go_206 : decode cX7_go 206 = .ok (.bipush 16, 2) := by decide +kernel
theorem dX7_go_208 : decode cX7_go 208 = .ok (.if_icmp .ge 7, 3) := by decide +kernel
theorem dX7_go_211 : decode cX7_go 211 = .ok (.iconst (-1), 1) := by decide +kernel
theorem dX7_go_212 : decode cX7_go 212 = .ok (.goto 17, 3) := by decide +kernel
theorem dX7_go_215 : decode cX7_go 215 = .ok (.aload_n 0, 1) := by decide +kernel
theorem dX7_go_216 : decode cX7_go 216 = .ok (.getfield 56, 3) := by decide +kernel
theorem dX7_go_219 : decode cX7_go 219 = .ok (.aload_n 0, 1) := by decide +kernel
theorem dX7_go_220 : decode cX7_go 220 = .ok (.iload_n 2, 1) := by decide +kernel
theorem dX7_go_221 : decode cX7_go 221 = .ok (.iload 4, 2) := by decide +kernel
theorem dX7_go_223 : decode cX7_go 223 = .ok (.iload 6, 2) := by decide +kernel
theorem dX7_go_225 : decode cX7_go 225 = .ok (.invokevirtual 145, 3) := by decide +kernel
theorem dX7_go_228 : decode cX7_go 228 = .ok (.iaload, 1) := by decide +kernel
theorem dX7_go_229 : decode cX7_go 229 = .ok (.istore 7, 2) := by decide +kernel
theorem dX7_go_231 : decode cX7_go 231 = .ok (.aload_n 0, 1) := by decide +kernel
theorem dX7_go_232 : decode cX7_go 232 = .ok (.getfield 77, 3) := by decide +kernel
theorem dX7_go_235 : decode cX7_go 235 = .ok (.iload_n 1, 1) := by decide +kernel
theorem dX7_go_236 : decode cX7_go 236 = .ok (.dup2, 1) := by decide +kernel
theorem dX7_go_237 : decode cX7_go 237 = .ok (.iaload, 1) := by decide +kernel
theorem dX7_go_238 : decode cX7_go 238 = .ok (.iconst 1, 1) := by decide +kernel
theorem dX7_go_239 : decode cX7_go 239 = .ok (.isub, 1) := by decide +kernel
theorem dX7_go_240 : decode cX7_go 240 = .ok (.iastore, 1) := by decide +kernel
theorem dX7_go_241 : decode cX7_go 241 = .ok (.aload_n 0, 1) := by decide +kernel
theorem dX7_go_242 : decode cX7_go 242 = .ok (.iload_n 2, 1) := by decide +kernel
theorem dX7_go_243 : decode cX7_go 243 = .ok (.iload 6, 2) := by decide +kernel
theorem dX7_go_245 : decode cX7_go 245 = .ok (.iconst 4, 1) := by decide +kernel
theorem dX7_go_246 : decode cX7_go 246 = .ok (.iload_n 1, 1) := by decide +kernel
theorem dX7_go_247 : decode cX7_go 247 = .ok (.iload 7, 2) := by decide +kernel
theorem dX7_go_249 : decode cX7_go 249 = .ok (.iconst 0, 1) := by decide +kernel
theorem dX7_go_250 : decode cX7_go 250 = .ok (.invokevirtual 103, 3) := by decide +kernel
theorem dX7_go_253 : decode cX7_go 253 = .ok (.ifCond .eq 14, 3) := by decide +kernel
theorem dX7_go_256 : decode cX7_go 256 = .ok (.aload_n 0, 1) := by decide +kernel
theorem dX7_go_257 : decode cX7_go 257 = .ok (.getfield 86, 3) := by decide +kernel
theorem dX7_go_260 : decode cX7_go 260 = .ok (.iload_n 1, 1) := by decide +kernel
theorem dX7_go_261 : decode cX7_go 261 = .ok (.iload 7, 2) := by decide +kernel
theorem dX7_go_263 : decode cX7_go 263 = .ok (.iastore, 1) := by decide +kernel
theorem dX7_go_264 : decode cX7_go 264 = .ok (.goto 10, 3) := by decide +kernel
theorem dX7_go_267 : decode cX7_go 267 = .ok (.aload_n 0, 1) := by decide +kernel
theorem dX7_go_268 : decode cX7_go 268 = .ok (.getfield 83, 3) := by decide +kernel
theorem dX7_go_271 : decode cX7_go 271 = .ok (.iload_n 1, 1) := by decide +kernel
theorem dX7_go_272 : decode cX7_go 272 = .ok (.iconst 5, 1) := by decide +kernel
theorem dX7_go_273 : decode cX7_go 273 = .ok (.iastore, 1) := by decide +kernel
theorem dX7_go_274 : decode cX7_go 274 = .ok (.return_, 1) := by decide +kernel
theorem dX7_come_0 : decode cX7_come 0 = .ok (.bipush 16, 2) := by decide +kernel
theorem dX7_come_2 : decode cX7_come 2 = .ok (.iload_n 1, 1) := by decide +kernel
theorem dX7_come_3 : decode cX7_come 3 = .ok (.imul, 1) := by decide +kernel
theorem dX7_come_4 : decode cX7_come 4 = .ok (.istore_n 2, 1) := by decide +kernel
theorem dX7_come_5 : decode cX7_come 5 = .ok (.iload_n 1, 1) := by decide +kernel
theorem dX7_come_6 : decode cX7_come 6 = .ok (.iconst 2, 1) := by decide +kernel
theorem dX7_come_7 : decode cX7_come 7 = .ok (.idiv, 1) := by decide +kernel
theorem dX7_come_8 : decode cX7_come 8 = .ok (.istore_n 3, 1) := by decide +kernel
theorem dX7_come_9 : decode cX7_come 9 = .ok (.iload_n 1, 1) := by decide +kernel
theorem dX7_come_10 : decode cX7_come 10 = .ok (.iconst 2, 1) := by decide +kernel
theorem dX7_come_11 : decode cX7_come 11 = .ok (.irem, 1) := by decide +kernel
theorem dX7_come_12 : decode cX7_come 12 = .ok (.ifCond .ne 12, 3) := by decide +kernel
theorem dX7_come_15 : decode cX7_come 15 = .ok (.aload_n 0, 1) := by decide +kernel
theorem dX7_come_16 : decode cX7_come 16 = .ok (.getfield 20, 3) := by decide +kernel
theorem dX7_come_19 : decode cX7_come 19 = .ok (.iload_n 3, 1) := by decide +kernel
theorem dX7_come_20 : decode cX7_come 20 = .ok (.iaload, 1) := by decide +kernel
theorem dX7_come_21 : decode cX7_come 21 = .ok (.goto 9, 3) := by decide +kernel
theorem dX7_come_24 : decode cX7_come 24 = .ok (.aload_n 0, 1) := by decide +kernel
theorem dX7_come_25 : decode cX7_come 25 = .ok (.getfield 16, 3) := by decide +kernel
theorem dX7_come_28 : decode cX7_come 28 = .ok (.iload_n 3, 1) := by decide +kernel
theorem dX7_come_29 : decode cX7_come 29 = .ok (.iaload, 1) := by decide +kernel
theorem dX7_come_30 : decode cX7_come 30 = .ok (.istore 4, 2) := by decide +kernel
theorem dX7_come_32 : decode cX7_come 32 = .ok (.aload_n 0, 1) := by decide +kernel
theorem dX7_come_33 : decode cX7_come 33 = .ok (.getfield 41, 3) := by decide +kernel
theorem dX7_come_36 : decode cX7_come 36 = .ok (.iload_n 2, 1) := by decide +kernel
theorem dX7_come_37 : decode cX7_come 37 = .ok (.iaload, 1) := by decide +kernel
theorem dX7_come_38 : decode cX7_come 38 = .ok (.istore 5, 2) := by decide +kernel
theorem dX7_come_40 : decode cX7_come 40 = .ok (.aload_n 0, 1) := by decide +kernel
theorem dX7_come_41 : decode cX7_come 41 = .ok (.getfield 44, 3) := by decide +kernel
theorem dX7_come_44 : decode cX7_come 44 = .ok (.iload_n 2, 1) := by decide +kernel
theorem dX7_come_45 : decode cX7_come 45 = .ok (.iaload, 1) := by decide +kernel
theorem dX7_come_46 : decode cX7_come 46 = .ok (.istore 6, 2) := by decide +kernel
theorem dX7_come_48 : decode cX7_come 48 = .ok (.aload_n 0, 1) := by decide +kernel
theorem dX7_come_49 : decode cX7_come 49 = .ok (.getfield 47, 3) := by decide +kernel
theorem dX7_come_52 : decode cX7_come 52 = .ok (.iload_n 2, 1) := by decide +kernel
theorem dX7_come_53 : decode cX7_come 53 = .ok (.iaload, 1) := by decide +kernel
theorem dX7_come_54 : decode cX7_come 54 = .ok (.istore 7, 2) := by decide +kernel
theorem dX7_come_56 : decode cX7_come 56 = .ok (.aload_n 0, 1) := by decide +kernel
theorem dX7_come_57 : decode cX7_come 57 = .ok (.getfield 50, 3) := by decide +kernel
theorem dX7_come_60 : decode cX7_come 60 = .ok (.iload_n 2, 1) := by decide +kernel
theorem dX7_come_61 : decode cX7_come 61 = .ok (.iaload, 1) := by decide +kernel
theorem dX7_come_62 : decode cX7_come 62 = .ok (.istore 8, 2) := by decide +kernel
theorem dX7_come_64 : decode cX7_come 64 = .ok (.aload_n 0, 1) := by decide +kernel
theorem dX7_come_65 : decode cX7_come 65 = .ok (.getfield 53, 3) := by decide +kernel
theorem dX7_come_68 : decode cX7_come 68 = .ok (.iload_n 2, 1) := by decide +kernel
theorem dX7_come_69 : decode cX7_come 69 = .ok (.baload, 1) := by decide +kernel
theorem dX7_come_70 : decode cX7_come 70 = .ok (.istore 9, 2) := by decide +kernel
theorem dX7_come_72 : decode cX7_come 72 = .ok (.aload_n 0, 1) := by decide +kernel
theorem dX7_come_73 : decode cX7_come 73 = .ok (.getfield 38, 3) := by decide +kernel
theorem dX7_come_76 : decode cX7_come 76 = .ok (.iload_n 1, 1) := by decide +kernel
theorem dX7_come_77 : decode cX7_come 77 = .ok (.dup2, 1) := by decide +kernel
theorem dX7_come_78 : decode cX7_come 78 = .ok (.iaload, 1) := by decide +kernel
theorem dX7_come_79 : decode cX7_come 79 = .ok (.iconst 1, 1) := by decide +kernel
theorem dX7_come_80 : decode cX7_come 80 = .ok (.isub, 1) := by decide +kernel
theorem dX7_come_81 : decode cX7_come 81 = .ok (.iastore, 1) := by decide +kernel
theorem dX7_come_82 : decode cX7_come 82 = .ok (.iload_n 2, 1) := by decide +kernel
theorem dX7_come_83 : decode cX7_come 83 = .ok (.istore 10, 2) := by decide +kernel
theorem dX7_come_85 : decode cX7_come 85 = .ok (.iload 10, 2) := by decide +kernel
theorem dX7_come_87 : decode cX7_come 87 = .ok (.iload_n 2, 1) := by decide +kernel
theorem dX7_come_88 : decode cX7_come 88 = .ok (.aload_n 0, 1) := by decide +kernel
theorem dX7_come_89 : decode cX7_come 89 = .ok (.getfield 38, 3) := by decide +kernel
theorem dX7_come_92 : decode cX7_come 92 = .ok (.iload_n 1, 1) := by decide +kernel
theorem dX7_come_93 : decode cX7_come 93 = .ok (.iaload, 1) := by decide +kernel
theorem dX7_come_94 : decode cX7_come 94 = .ok (.iadd, 1) := by decide +kernel
theorem dX7_come_95 : decode cX7_come 95 = .ok (.if_icmp .ge 89, 3) := by decide +kernel
theorem dX7_come_98 : decode cX7_come 98 = .ok (.aload_n 0, 1) := by decide +kernel
theorem dX7_come_99 : decode cX7_come 99 = .ok (.getfield 41, 3) := by decide +kernel
theorem dX7_come_102 : decode cX7_come 102 = .ok (.iload 10, 2) := by decide +kernel
theorem dX7_come_104 : decode cX7_come 104 = .ok (.aload_n 0, 1) := by decide +kernel
theorem dX7_come_105 : decode cX7_come 105 = .ok (.getfield 41, 3) := by decide +kernel
theorem dX7_come_108 : decode cX7_come 108 = .ok (.iload 10, 2) := by decide +kernel
theorem dX7_come_110 : decode cX7_come 110 = .ok (.iconst 1, 1) := by decide +kernel
theorem dX7_come_111 : decode cX7_come 111 = .ok (.iadd, 1) := by decide +kernel
theorem dX7_come_112 : decode cX7_come 112 = .ok (.iaload, 1) := by decide +kernel
theorem dX7_come_113 : decode cX7_come 113 = .ok (.iastore, 1) := by decide +kernel
theorem dX7_come_114 : decode cX7_come 114 = .ok (.aload_n 0, 1) := by decide +kernel
theorem dX7_come_115 : decode cX7_come 115 = .ok (.getfield 44, 3) := by decide +kernel
theorem dX7_come_118 : decode cX7_come 118 = .ok (.iload 10, 2) := by decide +kernel
theorem dX7_come_120 : decode cX7_come 120 = .ok (.aload_n 0, 1) := by decide +kernel
theorem dX7_come_121 : decode cX7_come 121 = .ok (.getfield 44, 3) := by decide +kernel
theorem dX7_come_124 : decode cX7_come 124 = .ok (.iload 10, 2) := by decide +kernel
theorem dX7_come_126 : decode cX7_come 126 = .ok (.iconst 1, 1) := by decide +kernel
theorem dX7_come_127 : decode cX7_come 127 = .ok (.iadd, 1) := by decide +kernel
theorem dX7_come_128 : decode cX7_come 128 = .ok (.iaload, 1) := by decide +kernel
theorem dX7_come_129 : decode cX7_come 129 = .ok (.iastore, 1) := by decide +kernel
theorem dX7_come_130 : decode cX7_come 130 = .ok (.aload_n 0, 1) := by decide +kernel
theorem dX7_come_131 : decode cX7_come 131 = .ok (.getfield 47, 3) := by decide +kernel
theorem dX7_come_134 : decode cX7_come 134 = .ok (.iload 10, 2) := by decide +kernel
theorem dX7_come_136 : decode cX7_come 136 = .ok (.aload_n 0, 1) := by decide +kernel
theorem dX7_come_137 : decode cX7_come 137 = .ok (.getfield 47, 3) := by decide +kernel
theorem dX7_come_140 : decode cX7_come 140 = .ok (.iload 10, 2) := by decide +kernel
theorem dX7_come_142 : decode cX7_come 142 = .ok (.iconst 1, 1) := by decide +kernel
theorem dX7_come_143 : decode cX7_come 143 = .ok (.iadd, 1) := by decide +kernel
theorem dX7_come_144 : decode cX7_come 144 = .ok (.iaload, 1) := by decide +kernel
theorem dX7_come_145 : decode cX7_come 145 = .ok (.iastore, 1) := by decide +kernel
theorem dX7_come_146 : decode cX7_come 146 = .ok (.aload_n 0, 1) := by decide +kernel
theorem dX7_come_147 : decode cX7_come 147 = .ok (.getfield 50, 3) := by decide +kernel
theorem dX7_come_150 : decode cX7_come 150 = .ok (.iload 10, 2) := by decide +kernel
theorem dX7_come_152 : decode cX7_come 152 = .ok (.aload_n 0, 1) := by decide +kernel
theorem dX7_come_153 : decode cX7_come 153 = .ok (.getfield 50, 3) := by decide +kernel
theorem dX7_come_156 : decode cX7_come 156 = .ok (.iload 10, 2) := by decide +kernel
theorem dX7_come_158 : decode cX7_come 158 = .ok (.iconst 1, 1) := by decide +kernel
theorem dX7_come_159 : decode cX7_come 159 = .ok (.iadd, 1) := by decide +kernel
theorem dX7_come_160 : decode cX7_come 160 = .ok (.iaload, 1) := by decide +kernel
theorem dX7_come_161 : decode cX7_come 161 = .ok (.iastore, 1) := by decide +kernel
theorem dX7_come_162 : decode cX7_come 162 = .ok (.aload_n 0, 1) := by decide +kernel
theorem dX7_come_163 : decode cX7_come 163 = .ok (.getfield 53, 3) := by decide +kernel
theorem dX7_come_166 : decode cX7_come 166 = .ok (.iload 10, 2) := by decide +kernel
theorem dX7_come_168 : decode cX7_come 168 = .ok (.aload_n 0, 1) := by decide +kernel
theorem dX7_come_169 : decode cX7_come 169 = .ok (.getfield 53, 3) := by decide +kernel
theorem dX7_come_172 : decode cX7_come 172 = .ok (.iload 10, 2) := by decide +kernel
theorem dX7_come_174 : decode cX7_come 174 = .ok (.iconst 1, 1) := by decide +kernel
theorem dX7_come_175 : decode cX7_come 175 = .ok (.iadd, 1) := by decide +kernel
theorem dX7_come_176 : decode cX7_come 176 = .ok (.baload, 1) := by decide +kernel
theorem dX7_come_177 : decode cX7_come 177 = .ok (.bastore, 1) := by decide +kernel
theorem dX7_come_178 : decode cX7_come 178 = .ok (.iinc 10 1, 3) := by decide +kernel
theorem dX7_come_181 : decode cX7_come 181 = .ok (.goto (-96), 3) := by decide +kernel
theorem dX7_come_184 : decode cX7_come 184 = .ok (.iload 9, 2) := by decide +kernel
theorem dX7_come_186 : decode cX7_come 186 = .ok (.ifCond .eq 24, 3) := by decide +kernel
theorem dX7_come_189 : decode cX7_come 189 = .ok (.iload 5, 2) := by decide +kernel
theorem dX7_come_191 : decode cX7_come 191 = .ok (.iconst 4, 1) := by decide +kernel
theorem dX7_come_192 : decode cX7_come 192 = .ok (.if_icmp .ne 12, 3) := by decide +kernel
theorem dX7_come_195 : decode cX7_come 195 = .ok (.aload_n 0, 1) := by decide +kernel
theorem dX7_come_196 : decode cX7_come 196 = .ok (.getfield 83, 3) := by decide +kernel
theorem dX7_come_199 : decode cX7_come 199 = .ok (.iload 6, 2) := by decide +kernel
theorem dX7_come_201 : decode cX7_come 201 = .ok (.bipush 7, 2) := by decide +kernel
theorem dX7_come_203 : decode cX7_come 203 = .ok (.iastore, 1) := by decide +kernel
theorem dX7_come_204 : decode cX7_come 204 = .ok (.iload 5, 2) := by decide +kernel
theorem dX7_come_206 : decode cX7_come 206 = .ok (.bipush 8, 2) := by decide +kernel
theorem dX7_come_208 : decode cX7_come 208 = .ok (.iadd, 1) := by decide +kernel
theorem dX7_come_209 : decode cX7_come 209 = .ok (.ireturn, 1) := by decide +kernel
theorem dX7_come_210 : decode cX7_come 210 = .ok (.iload 5, 2) := by decide +kernel
theorem dX7_come_212 : decode cX7_come 212 = .ok (.tableswitch 92 0 3 #[32, 48, 64, 78], 32) := by decide +kernel
theorem dX7_come_244 : decode cX7_come 244 = .ok (.aload_n 0, 1) := by decide +kernel
theorem dX7_come_245 : decode cX7_come 245 = .ok (.iload 4, 2) := by decide +kernel
theorem dX7_come_247 : decode cX7_come 247 = .ok (.iload_n 3, 1) := by decide +kernel
theorem dX7_come_248 : decode cX7_come 248 = .ok (.iload 6, 2) := by decide +kernel
theorem dX7_come_250 : decode cX7_come 250 = .ok (.iload 7, 2) := by decide +kernel
theorem dX7_come_252 : decode cX7_come 252 = .ok (.iload 8, 2) := by decide +kernel
theorem dX7_come_254 : decode cX7_come 254 = .ok (.invokevirtual 173, 3) := by decide +kernel
theorem dX7_come_257 : decode cX7_come 257 = .ok (.goto 57, 3) := by decide +kernel
theorem dX7_come_260 : decode cX7_come 260 = .ok (.aload_n 0, 1) := by decide +kernel
theorem dX7_come_261 : decode cX7_come 261 = .ok (.iload 4, 2) := by decide +kernel
theorem dX7_come_263 : decode cX7_come 263 = .ok (.iload_n 3, 1) := by decide +kernel
theorem dX7_come_264 : decode cX7_come 264 = .ok (.iload 6, 2) := by decide +kernel
theorem dX7_come_266 : decode cX7_come 266 = .ok (.iload 7, 2) := by decide +kernel
theorem dX7_come_268 : decode cX7_come 268 = .ok (.iload 8, 2) := by decide +kernel
theorem dX7_come_270 : decode cX7_come 270 = .ok (.invokevirtual 177, 3) := by decide +kernel
theorem dX7_come_273 : decode cX7_come 273 = .ok (.goto 41, 3) := by decide +kernel
theorem dX7_come_276 : decode cX7_come 276 = .ok (.aload_n 0, 1) := by decide +kernel
theorem dX7_come_277 : decode cX7_come 277 = .ok (.iload 4, 2) := by decide +kernel
theorem dX7_come_279 : decode cX7_come 279 = .ok (.iload_n 3, 1) := by decide +kernel
theorem dX7_come_280 : decode cX7_come 280 = .ok (.iload 6, 2) := by decide +kernel
theorem dX7_come_282 : decode cX7_come 282 = .ok (.iload 7, 2) := by decide +kernel
theorem dX7_come_284 : decode cX7_come 284 = .ok (.invokevirtual 180, 3) := by decide +kernel
theorem dX7_come_287 : decode cX7_come 287 = .ok (.goto 27, 3) := by decide +kernel
theorem dX7_come_290 : decode cX7_come 290 = .ok (.aload_n 0, 1) := by decide +kernel
theorem dX7_come_291 : decode cX7_come 291 = .ok (.iload 4, 2) := by decide +kernel
theorem dX7_come_293 : decode cX7_come 293 = .ok (.iload_n 3, 1) := by decide +kernel
theorem dX7_come_294 : decode cX7_come 294 = .ok (.iload 6, 2) := by decide +kernel
theorem dX7_come_296 : decode cX7_come 296 = .ok (.iload 7, 2) := by decide +kernel
theorem dX7_come_298 : decode cX7_come 298 = .ok (.invokevirtual 183, 3) := by decide +kernel
theorem dX7_come_301 : decode cX7_come 301 = .ok (.goto 13, 3) := by decide +kernel
theorem dX7_come_304 : decode cX7_come 304 = .ok (.aload_n 0, 1) := by decide +kernel
theorem dX7_come_305 : decode cX7_come 305 = .ok (.iload 6, 2) := by decide +kernel
theorem dX7_come_307 : decode cX7_come 307 = .ok (.iload 4, 2) := by decide +kernel
theorem dX7_come_309 : decode cX7_come 309 = .ok (.iload 7, 2) := by decide +kernel
theorem dX7_come_311 : decode cX7_come 311 = .ok (.invokevirtual 186, 3) := by decide +kernel
theorem dX7_come_314 : decode cX7_come 314 = .ok (.iload 5, 2) := by decide +kernel
theorem dX7_come_316 : decode cX7_come 316 = .ok (.ireturn, 1) := by decide +kernel
theorem dX7_lay_0 : decode cX7_lay 0 = .ok (.iload_n 1, 1) := by decide +kernel
theorem dX7_lay_1 : decode cX7_lay 1 = .ok (.bipush 12, 2) := by decide +kernel
theorem dX7_lay_3 : decode cX7_lay 3 = .ok (.invokestatic 99, 3) := by decide +kernel
theorem dX7_lay_6 : decode cX7_lay 6 = .ok (.ifCond .eq 23, 3) := by decide +kernel
theorem dX7_lay_9 : decode cX7_lay 9 = .ok (.aload_n 0, 1) := by decide +kernel
theorem dX7_lay_10 : decode cX7_lay 10 = .ok (.iload_n 2, 1) := by decide +kernel
theorem dX7_lay_11 : decode cX7_lay 11 = .ok (.invokevirtual 189, 3) := by decide +kernel
theorem dX7_lay_14 : decode cX7_lay 14 = .ok (.ifCond .eq 15, 3) := by decide +kernel
theorem dX7_lay_17 : decode cX7_lay 17 = .ok (.aload_n 0, 1) := by decide +kernel
theorem dX7_lay_18 : decode cX7_lay 18 = .ok (.iload_n 3, 1) := by decide +kernel
theorem dX7_lay_19 : decode cX7_lay 19 = .ok (.invokevirtual 189, 3) := by decide +kernel
theorem dX7_lay_22 : decode cX7_lay 22 = .ok (.ifCond .eq 7, 3) := by decide +kernel
theorem dX7_lay_25 : decode cX7_lay 25 = .ok (.iconst 1, 1) := by decide +kernel
theorem dX7_lay_26 : decode cX7_lay 26 = .ok (.goto 4, 3) := by decide +kernel
theorem dX7_lay_29 : decode cX7_lay 29 = .ok (.iconst 0, 1) := by decide +kernel
theorem dX7_lay_30 : decode cX7_lay 30 = .ok (.istore 5, 2) := by decide +kernel
theorem dX7_lay_32 : decode cX7_lay 32 = .ok (.aload_n 0, 1) := by decide +kernel
theorem dX7_lay_33 : decode cX7_lay 33 = .ok (.iload 5, 2) := by decide +kernel
theorem dX7_lay_35 : decode cX7_lay 35 = .ok (.iload 5, 2) := by decide +kernel
theorem dX7_lay_37 : decode cX7_lay 37 = .ok (.ifCond .eq 34, 3) := by decide +kernel
theorem dX7_lay_40 : decode cX7_lay 40 = .ok (.aload_n 0, 1) := by decide +kernel
theorem dX7_lay_41 : decode cX7_lay 41 = .ok (.getfield 7, 3) := by decide +kernel
theorem dX7_lay_44 : decode cX7_lay 44 = .ok (.iload_n 1, 1) := by decide +kernel
theorem dX7_lay_45 : decode cX7_lay 45 = .ok (.baload, 1) := by decide +kernel
theorem dX7_lay_46 : decode cX7_lay 46 = .ok (.ifCond .ne 25, 3) := by decide +kernel
theorem dX7_lay_49 : decode cX7_lay 49 = .ok (.iload_n 2, 1) := by decide +kernel
theorem dX7_lay_50 : decode cX7_lay 50 = .ok (.iload_n 3, 1) := by decide +kernel
theorem dX7_lay_51 : decode cX7_lay 51 = .ok (.if_icmp .eq 20, 3) := by decide +kernel
theorem dX7_lay_54 : decode cX7_lay 54 = .ok (.iload 4, 2) := by decide +kernel
theorem dX7_lay_56 : decode cX7_lay 56 = .ok (.iconst 1, 1) := by decide +kernel
theorem dX7_lay_57 : decode cX7_lay 57 = .ok (.if_icmp .lt 14, 3) := by decide +kernel
theorem dX7_lay_60 : decode cX7_lay 60 = .ok (.iload 4, 2) := by decide +kernel
theorem dX7_lay_62 : decode cX7_lay 62 = .ok (.bipush 60, 2) := by decide +kernel
theorem dX7_lay_64 : decode cX7_lay 64 = .ok (.if_icmp .gt 7, 3) := by decide +kernel
theorem dX7_lay_67 : decode cX7_lay 67 = .ok (.iconst 1, 1) := by decide +kernel
theorem dX7_lay_68 : decode cX7_lay 68 = .ok (.goto 4, 3) := by decide +kernel
theorem dX7_lay_71 : decode cX7_lay 71 = .ok (.iconst 0, 1) := by decide +kernel
theorem dX7_lay_72 : decode cX7_lay 72 = .ok (.invokevirtual 193, 3) := by decide +kernel
theorem dX7_lay_75 : decode cX7_lay 75 = .ok (.ifCond .ne 4, 3) := by decide +kernel
theorem dX7_lay_78 : decode cX7_lay 78 = .ok (.return_, 1) := by decide +kernel
theorem dX7_lay_79 : decode cX7_lay 79 = .ok (.aload_n 0, 1) := by decide +kernel
theorem dX7_lay_80 : decode cX7_lay 80 = .ok (.getfield 7, 3) := by decide +kernel
theorem dX7_lay_83 : decode cX7_lay 83 = .ok (.iload_n 1, 1) := by decide +kernel
theorem dX7_lay_84 : decode cX7_lay 84 = .ok (.iconst 1, 1) := by decide +kernel
theorem dX7_lay_85 : decode cX7_lay 85 = .ok (.bastore, 1) := by decide +kernel
theorem dX7_lay_86 : decode cX7_lay 86 = .ok (.aload_n 0, 1) := by decide +kernel
theorem dX7_lay_87 : decode cX7_lay 87 = .ok (.getfield 16, 3) := by decide +kernel
theorem dX7_lay_90 : decode cX7_lay 90 = .ok (.iload_n 1, 1) := by decide +kernel
theorem dX7_lay_91 : decode cX7_lay 91 = .ok (.iload_n 2, 1) := by decide +kernel
theorem dX7_lay_92 : decode cX7_lay 92 = .ok (.iload_n 3, 1) := by decide +kernel
theorem dX7_lay_93 : decode cX7_lay 93 = .ok (.if_icmp .ge 7, 3) := by decide +kernel
theorem dX7_lay_96 : decode cX7_lay 96 = .ok (.iload_n 2, 1) := by decide +kernel
theorem dX7_lay_97 : decode cX7_lay 97 = .ok (.goto 4, 3) := by decide +kernel
theorem dX7_lay_100 : decode cX7_lay 100 = .ok (.iload_n 3, 1) := by decide +kernel
theorem dX7_lay_101 : decode cX7_lay 101 = .ok (.iastore, 1) := by decide +kernel
theorem dX7_lay_102 : decode cX7_lay 102 = .ok (.aload_n 0, 1) := by decide +kernel
theorem dX7_lay_103 : decode cX7_lay 103 = .ok (.getfield 20, 3) := by decide +kernel
theorem dX7_lay_106 : decode cX7_lay 106 = .ok (.iload_n 1, 1) := by decide +kernel
theorem dX7_lay_107 : decode cX7_lay 107 = .ok (.iload_n 2, 1) := by decide +kernel
theorem dX7_lay_108 : decode cX7_lay 108 = .ok (.iload_n 3, 1) := by decide +kernel
theorem dX7_lay_109 : decode cX7_lay 109 = .ok (.if_icmp .ge 7, 3) := by decide +kernel
theorem dX7_lay_112 : decode cX7_lay 112 = .ok (.iload_n 3, 1) := by decide +kernel
theorem dX7_lay_113 : decode cX7_lay 113 = .ok (.goto 4, 3) := by decide +kernel
theorem dX7_lay_116 : decode cX7_lay 116 = .ok (.iload_n 2, 1) := by decide +kernel
theorem dX7_lay_117 : decode cX7_lay 117 = .ok (.iastore, 1) := by decide +kernel
theorem dX7_lay_118 : decode cX7_lay 118 = .ok (.aload_n 0, 1) := by decide +kernel
theorem dX7_lay_119 : decode cX7_lay 119 = .ok (.getfield 23, 3) := by decide +kernel
theorem dX7_lay_122 : decode cX7_lay 122 = .ok (.iload_n 1, 1) := by decide +kernel
theorem dX7_lay_123 : decode cX7_lay 123 = .ok (.iload 4, 2) := by decide +kernel
theorem dX7_lay_125 : decode cX7_lay 125 = .ok (.iastore, 1) := by decide +kernel
theorem dX7_lay_126 : decode cX7_lay 126 = .ok (.return_, 1) := by decide +kernel
theorem dX7_showNotes_0 : decode cX7_showNotes 0 = .ok (.iconst 0, 1) := by decide +kernel
theorem dX7_showNotes_1 : decode cX7_showNotes 1 = .ok (.istore_n 3, 1) := by decide +kernel
theorem dX7_showNotes_2 : decode cX7_showNotes 2 = .ok (.iload_n 3, 1) := by decide +kernel
theorem dX7_showNotes_3 : decode cX7_showNotes 3 = .ok (.aload_n 0, 1) := by decide +kernel
theorem dX7_showNotes_4 : decode cX7_showNotes 4 = .ok (.getfield 92, 3) := by decide +kernel
theorem dX7_showNotes_7 : decode cX7_showNotes 7 = .ok (.if_icmp .ge 53, 3) := by decide +kernel
theorem dX7_showNotes_10 : decode cX7_showNotes 10 = .ok (.iload_n 3, 1) := by decide +kernel
theorem dX7_showNotes_11 : decode cX7_showNotes 11 = .ok (.iload_n 1, 1) := by decide +kernel
theorem dX7_showNotes_12 : decode cX7_showNotes 12 = .ok (.if_icmp .eq 42, 3) := by decide +kernel
theorem dX7_showNotes_15 : decode cX7_showNotes 15 = .ok (.aload_n 0, 1) := by decide +kernel
theorem dX7_showNotes_16 : decode cX7_showNotes 16 = .ok (.getfield 29, 3) := by decide +kernel
theorem dX7_showNotes_19 : decode cX7_showNotes 19 = .ok (.bipush 8, 2) := by decide +kernel
theorem dX7_showNotes_21 : decode cX7_showNotes 21 = .ok (.iload_n 1, 1) := by decide +kernel
theorem dX7_showNotes_22 : decode cX7_showNotes 22 = .ok (.imul, 1) := by decide +kernel
theorem dX7_showNotes_23 : decode cX7_showNotes 23 = .ok (.iload_n 3, 1) := by decide +kernel
theorem dX7_showNotes_24 : decode cX7_showNotes 24 = .ok (.iadd, 1) := by decide +kernel
theorem dX7_showNotes_25 : decode cX7_showNotes 25 = .ok (.iaload, 1) := by decide +kernel
theorem dX7_showNotes_26 : decode cX7_showNotes 26 = .ok (.ifCond .le 28, 3) := by decide +kernel
theorem dX7_showNotes_29 : decode cX7_showNotes 29 = .ok (.aload_n 0, 1) := by decide +kernel
theorem dX7_showNotes_30 : decode cX7_showNotes 30 = .ok (.iload_n 1, 1) := by decide +kernel
theorem dX7_showNotes_31 : decode cX7_showNotes 31 = .ok (.iload_n 2, 1) := by decide +kernel
theorem dX7_showNotes_32 : decode cX7_showNotes 32 = .ok (.iconst 0, 1) := by decide +kernel
theorem dX7_showNotes_33 : decode cX7_showNotes 33 = .ok (.iload_n 3, 1) := by decide +kernel
theorem dX7_showNotes_34 : decode cX7_showNotes 34 = .ok (.aload_n 0, 1) := by decide +kernel
theorem dX7_showNotes_35 : decode cX7_showNotes 35 = .ok (.getfield 29, 3) := by decide +kernel
theorem dX7_showNotes_38 : decode cX7_showNotes 38 = .ok (.bipush 8, 2) := by decide +kernel
theorem dX7_showNotes_40 : decode cX7_showNotes 40 = .ok (.iload_n 1, 1) := by decide +kernel
theorem dX7_showNotes_41 : decode cX7_showNotes 41 = .ok (.imul, 1) := by decide +kernel
theorem dX7_showNotes_42 : decode cX7_showNotes 42 = .ok (.iload_n 3, 1) := by decide +kernel
theorem dX7_showNotes_43 : decode cX7_showNotes 43 = .ok (.iadd, 1) := by decide +kernel
theorem dX7_showNotes_44 : decode cX7_showNotes 44 = .ok (.iaload, 1) := by decide +kernel
theorem dX7_showNotes_45 : decode cX7_showNotes 45 = .ok (.aload_n 0, 1) := by decide +kernel
theorem dX7_showNotes_46 : decode cX7_showNotes 46 = .ok (.iload_n 1, 1) := by decide +kernel
theorem dX7_showNotes_47 : decode cX7_showNotes 47 = .ok (.iload_n 3, 1) := by decide +kernel
theorem dX7_showNotes_48 : decode cX7_showNotes 48 = .ok (.invokevirtual 117, 3) := by decide +kernel
theorem dX7_showNotes_51 : decode cX7_showNotes 51 = .ok (.invokevirtual 113, 3) := by decide +kernel
theorem dX7_showNotes_54 : decode cX7_showNotes 54 = .ok (.iinc 3 1, 3) := by decide +kernel
theorem dX7_showNotes_57 : decode cX7_showNotes 57 = .ok (.goto (-55), 3) := by decide +kernel
theorem dX7_showNotes_60 : decode cX7_showNotes 60 = .ok (.return_, 1) := by decide +kernel
theorem dX7_showMappings_0 : decode cX7_showMappings 0 = .ok (.iconst 0, 1) := by decide +kernel
theorem dX7_showMappings_1 : decode cX7_showMappings 1 = .ok (.istore_n 3, 1) := by decide +kernel
theorem dX7_showMappings_2 : decode cX7_showMappings 2 = .ok (.iload_n 3, 1) := by decide +kernel
theorem dX7_showMappings_3 : decode cX7_showMappings 3 = .ok (.bipush 8, 2) := by decide +kernel
theorem dX7_showMappings_5 : decode cX7_showMappings 5 = .ok (.if_icmp .ge 54, 3) := by decide +kernel
theorem dX7_showMappings_8 : decode cX7_showMappings 8 = .ok (.aload_n 0, 1) := by decide +kernel
theorem dX7_showMappings_9 : decode cX7_showMappings 9 = .ok (.getfield 62, 3) := by decide +kernel
theorem dX7_showMappings_12 : decode cX7_showMappings 12 = .ok (.bipush 8, 2) := by decide +kernel
theorem dX7_showMappings_14 : decode cX7_showMappings 14 = .ok (.iload_n 1, 1) := by decide +kernel
theorem dX7_showMappings_15 : decode cX7_showMappings 15 = .ok (.imul, 1) := by decide +kernel
theorem dX7_showMappings_16 : decode cX7_showMappings 16 = .ok (.iload_n 3, 1) := by decide +kernel
theorem dX7_showMappings_17 : decode cX7_showMappings 17 = .ok (.iadd, 1) := by decide +kernel
theorem dX7_showMappings_18 : decode cX7_showMappings 18 = .ok (.iaload, 1) := by decide +kernel
theorem dX7_showMappings_19 : decode cX7_showMappings 19 = .ok (.iconst (-1), 1) := by decide +kernel
theorem dX7_showMappings_20 : decode cX7_showMappings 20 = .ok (.if_icmp .eq 33, 3) := by decide +kernel
theorem dX7_showMappings_23 : decode cX7_showMappings 23 = .ok (.aload_n 0, 1) := by decide +kernel
theorem dX7_showMappings_24 : decode cX7_showMappings 24 = .ok (.iload_n 1, 1) := by decide +kernel
theorem dX7_showMappings_25 : decode cX7_showMappings 25 = .ok (.iload_n 2, 1) := by decide +kernel
theorem dX7_showMappings_26 : decode cX7_showMappings 26 = .ok (.iconst 1, 1) := by decide +kernel
theorem dX7_showMappings_27 : decode cX7_showMappings 27 = .ok (.iload_n 3, 1) := by decide +kernel
theorem dX7_showMappings_28 : decode cX7_showMappings 28 = .ok (.aload_n 0, 1) := by decide +kernel
theorem dX7_showMappings_29 : decode cX7_showMappings 29 = .ok (.getfield 62, 3) := by decide +kernel
theorem dX7_showMappings_32 : decode cX7_showMappings 32 = .ok (.bipush 8, 2) := by decide +kernel
theorem dX7_showMappings_34 : decode cX7_showMappings 34 = .ok (.iload_n 1, 1) := by decide +kernel
theorem dX7_showMappings_35 : decode cX7_showMappings 35 = .ok (.imul, 1) := by decide +kernel
theorem dX7_showMappings_36 : decode cX7_showMappings 36 = .ok (.iload_n 3, 1) := by decide +kernel
theorem dX7_showMappings_37 : decode cX7_showMappings 37 = .ok (.iadd, 1) := by decide +kernel
theorem dX7_showMappings_38 : decode cX7_showMappings 38 = .ok (.iaload, 1) := by decide +kernel
theorem dX7_showMappings_39 : decode cX7_showMappings 39 = .ok (.aload_n 0, 1) := by decide +kernel
theorem dX7_showMappings_40 : decode cX7_showMappings 40 = .ok (.getfield 65, 3) := by decide +kernel
theorem dX7_showMappings_43 : decode cX7_showMappings 43 = .ok (.bipush 8, 2) := by decide +kernel
theorem dX7_showMappings_45 : decode cX7_showMappings 45 = .ok (.iload_n 1, 1) := by decide +kernel
theorem dX7_showMappings_46 : decode cX7_showMappings 46 = .ok (.imul, 1) := by decide +kernel
theorem dX7_showMappings_47 : decode cX7_showMappings 47 = .ok (.iload_n 3, 1) := by decide +kernel
theorem dX7_showMappings_48 : decode cX7_showMappings 48 = .ok (.iadd, 1) := by decide +kernel
theorem dX7_showMappings_49 : decode cX7_showMappings 49 = .ok (.iaload, 1) := by decide +kernel
theorem dX7_showMappings_50 : decode cX7_showMappings 50 = .ok (.invokevirtual 113, 3) := by decide +kernel
theorem dX7_showMappings_53 : decode cX7_showMappings 53 = .ok (.iinc 3 1, 3) := by decide +kernel
theorem dX7_showMappings_56 : decode cX7_showMappings 56 = .ok (.goto (-54), 3) := by decide +kernel
theorem dX7_showMappings_59 : decode cX7_showMappings 59 = .ok (.return_, 1) := by decide +kernel
theorem dX7_empty_0 : decode cX7_empty 0 = .ok (.bipush 16, 2) := by decide +kernel
theorem dX7_empty_2 : decode cX7_empty 2 = .ok (.iload_n 1, 1) := by decide +kernel
theorem dX7_empty_3 : decode cX7_empty 3 = .ok (.imul, 1) := by decide +kernel
theorem dX7_empty_4 : decode cX7_empty 4 = .ok (.istore_n 2, 1) := by decide +kernel
theorem dX7_empty_5 : decode cX7_empty 5 = .ok (.iload_n 2, 1) := by decide +kernel
theorem dX7_empty_6 : decode cX7_empty 6 = .ok (.bipush 16, 2) := by decide +kernel
theorem dX7_empty_8 : decode cX7_empty 8 = .ok (.iload_n 1, 1) := by decide +kernel
theorem dX7_empty_9 : decode cX7_empty 9 = .ok (.imul, 1) := by decide +kernel
theorem dX7_empty_10 : decode cX7_empty 10 = .ok (.aload_n 0, 1) := by decide +kernel
theorem dX7_empty_11 : decode cX7_empty 11 = .ok (.getfield 38, 3) := by decide +kernel
theorem dX7_empty_14 : decode cX7_empty 14 = .ok (.iload_n 1, 1) := by decide +kernel
theorem dX7_empty_15 : decode cX7_empty 15 = .ok (.iaload, 1) := by decide +kernel
theorem dX7_empty_16 : decode cX7_empty 16 = .ok (.iadd, 1) := by decide +kernel
theorem dX7_empty_17 : decode cX7_empty 17 = .ok (.if_icmp .ge 32, 3) := by decide +kernel
theorem dX7_empty_20 : decode cX7_empty 20 = .ok (.aload_n 0, 1) := by decide +kernel
theorem dX7_empty_21 : decode cX7_empty 21 = .ok (.getfield 41, 3) := by decide +kernel
theorem dX7_empty_24 : decode cX7_empty 24 = .ok (.iload_n 2, 1) := by decide +kernel
theorem dX7_empty_25 : decode cX7_empty 25 = .ok (.iaload, 1) := by decide +kernel
theorem dX7_empty_26 : decode cX7_empty 26 = .ok (.iconst 4, 1) := by decide +kernel
theorem dX7_empty_27 : decode cX7_empty 27 = .ok (.if_icmp .ne 16, 3) := by decide +kernel
theorem dX7_empty_30 : decode cX7_empty 30 = .ok (.aload_n 0, 1) := by decide +kernel
theorem dX7_empty_31 : decode cX7_empty 31 = .ok (.getfield 83, 3) := by decide +kernel
theorem dX7_empty_34 : decode cX7_empty 34 = .ok (.aload_n 0, 1) := by decide +kernel
theorem dX7_empty_35 : decode cX7_empty 35 = .ok (.getfield 44, 3) := by decide +kernel
theorem dX7_empty_38 : decode cX7_empty 38 = .ok (.iload_n 2, 1) := by decide +kernel
theorem dX7_empty_39 : decode cX7_empty 39 = .ok (.iaload, 1) := by decide +kernel
theorem dX7_empty_40 : decode cX7_empty 40 = .ok (.bipush 6, 2) := by decide +kernel
theorem dX7_empty_42 : decode cX7_empty 42 = .ok (.iastore, 1) := by decide +kernel
theorem dX7_empty_43 : decode cX7_empty 43 = .ok (.iinc 2 1, 3) := by decide +kernel
theorem dX7_empty_46 : decode cX7_empty 46 = .ok (.goto (-41), 3) := by decide +kernel
theorem dX7_empty_49 : decode cX7_empty 49 = .ok (.aload_n 0, 1) := by decide +kernel
theorem dX7_empty_50 : decode cX7_empty 50 = .ok (.getfield 38, 3) := by decide +kernel
theorem dX7_empty_53 : decode cX7_empty 53 = .ok (.iload_n 1, 1) := by decide +kernel
theorem dX7_empty_54 : decode cX7_empty 54 = .ok (.iconst 0, 1) := by decide +kernel
theorem dX7_empty_55 : decode cX7_empty 55 = .ok (.iastore, 1) := by decide +kernel
theorem dX7_empty_56 : decode cX7_empty 56 = .ok (.return_, 1) := by decide +kernel
theorem dX7_sever_0 : decode cX7_sever 0 = .ok (.iconst 0, 1) := by decide +kernel
theorem dX7_sever_1 : decode cX7_sever 1 = .ok (.istore_n 3, 1) := by decide +kernel
theorem dX7_sever_2 : decode cX7_sever 2 = .ok (.iload_n 3, 1) := by decide +kernel
theorem dX7_sever_3 : decode cX7_sever 3 = .ok (.bipush 8, 2) := by decide +kernel
theorem dX7_sever_5 : decode cX7_sever 5 = .ok (.if_icmp .ge 22, 3) := by decide +kernel
theorem dX7_sever_8 : decode cX7_sever 8 = .ok (.aload_n 0, 1) := by decide +kernel
theorem dX7_sever_9 : decode cX7_sever 9 = .ok (.getfield 56, 3) := by decide +kernel
theorem dX7_sever_12 : decode cX7_sever 12 = .ok (.aload_n 0, 1) := by decide +kernel
theorem dX7_sever_13 : decode cX7_sever 13 = .ok (.iload_n 1, 1) := by decide +kernel
theorem dX7_sever_14 : decode cX7_sever 14 = .ok (.iload_n 3, 1) := by decide +kernel
theorem dX7_sever_15 : decode cX7_sever 15 = .ok (.iload_n 2, 1) := by decide +kernel
theorem dX7_sever_16 : decode cX7_sever 16 = .ok (.invokevirtual 145, 3) := by decide +kernel
theorem dX7_sever_19 : decode cX7_sever 19 = .ok (.iconst (-1), 1) := by decide +kernel
theorem dX7_sever_20 : decode cX7_sever 20 = .ok (.iastore, 1) := by decide +kernel
theorem dX7_sever_21 : decode cX7_sever 21 = .ok (.iinc 3 1, 3) := by decide +kernel
theorem dX7_sever_24 : decode cX7_sever 24 = .ok (.goto (-22), 3) := by decide +kernel
theorem dX7_sever_27 : decode cX7_sever 27 = .ok (.iconst 0, 1) := by decide +kernel
theorem dX7_sever_28 : decode cX7_sever 28 = .ok (.istore_n 3, 1) := by decide +kernel
theorem dX7_sever_29 : decode cX7_sever 29 = .ok (.iload_n 3, 1) := by decide +kernel
theorem dX7_sever_30 : decode cX7_sever 30 = .ok (.bipush 64, 2) := by decide +kernel
theorem dX7_sever_32 : decode cX7_sever 32 = .ok (.if_icmp .ge 34, 3) := by decide +kernel
theorem dX7_sever_35 : decode cX7_sever 35 = .ok (.aload_n 0, 1) := by decide +kernel
theorem dX7_sever_36 : decode cX7_sever 36 = .ok (.getfield 71, 3) := by decide +kernel
theorem dX7_sever_39 : decode cX7_sever 39 = .ok (.bipush 64, 2) := by decide +kernel
theorem dX7_sever_41 : decode cX7_sever 41 = .ok (.iload_n 1, 1) := by decide +kernel
theorem dX7_sever_42 : decode cX7_sever 42 = .ok (.imul, 1) := by decide +kernel
theorem dX7_sever_43 : decode cX7_sever 43 = .ok (.iload_n 3, 1) := by decide +kernel
theorem dX7_sever_44 : decode cX7_sever 44 = .ok (.iadd, 1) := by decide +kernel
theorem dX7_sever_45 : decode cX7_sever 45 = .ok (.dup2, 1) := by decide +kernel
theorem dX7_sever_46 : decode cX7_sever 46 = .ok (.iaload, 1) := by decide +kernel
theorem dX7_sever_47 : decode cX7_sever 47 = .ok (.iconst 1, 1) := by decide +kernel
theorem dX7_sever_48 : decode cX7_sever 48 = .ok (.iload_n 2, 1) := by decide +kernel
theorem dX7_sever_49 : decode cX7_sever 49 = .ok (.ishl, 1) := by decide +kernel
theorem dX7_sever_50 : decode cX7_sever 50 = .ok (.iconst (-1), 1) := by decide +kernel
theorem dX7_sever_51 : decode cX7_sever 51 = .ok (.ixor, 1) := by decide +kernel
theorem dX7_sever_52 : decode cX7_sever 52 = .ok (.iand, 1) := by decide +kernel
theorem dX7_sever_53 : decode cX7_sever 53 = .ok (.iastore, 1) := by decide +kernel
theorem dX7_sever_54 : decode cX7_sever 54 = .ok (.aload_n 0, 1) := by decide +kernel
theorem dX7_sever_55 : decode cX7_sever 55 = .ok (.iload_n 1, 1) := by decide +kernel
theorem dX7_sever_56 : decode cX7_sever 56 = .ok (.iload_n 3, 1) := by decide +kernel
theorem dX7_sever_57 : decode cX7_sever 57 = .ok (.invokevirtual 135, 3) := by decide +kernel
theorem dX7_sever_60 : decode cX7_sever 60 = .ok (.iinc 3 1, 3) := by decide +kernel
theorem dX7_sever_63 : decode cX7_sever 63 = .ok (.goto (-34), 3) := by decide +kernel
theorem dX7_sever_66 : decode cX7_sever 66 = .ok (.return_, 1) := by decide +kernel
theorem dX7_turn_0 : decode cX7_turn 0 = .ok (.iload_n 1, 1) := by decide +kernel
theorem dX7_turn_1 : decode cX7_turn 1 = .ok (.bipush 12, 2) := by decide +kernel
theorem dX7_turn_3 : decode cX7_turn 3 = .ok (.invokestatic 99, 3) := by decide +kernel
theorem dX7_turn_6 : decode cX7_turn 6 = .ok (.istore_n 3, 1) := by decide +kernel
theorem dX7_turn_7 : decode cX7_turn 7 = .ok (.aload_n 0, 1) := by decide +kernel
theorem dX7_turn_8 : decode cX7_turn 8 = .ok (.iload_n 3, 1) := by decide +kernel
theorem dX7_turn_9 : decode cX7_turn 9 = .ok (.iload_n 3, 1) := by decide +kernel
theorem dX7_turn_10 : decode cX7_turn 10 = .ok (.ifCond .eq 26, 3) := by decide +kernel
theorem dX7_turn_13 : decode cX7_turn 13 = .ok (.aload_n 0, 1) := by decide +kernel
theorem dX7_turn_14 : decode cX7_turn 14 = .ok (.getfield 7, 3) := by decide +kernel
theorem dX7_turn_17 : decode cX7_turn 17 = .ok (.iload_n 1, 1) := by decide +kernel
theorem dX7_turn_18 : decode cX7_turn 18 = .ok (.baload, 1) := by decide +kernel
theorem dX7_turn_19 : decode cX7_turn 19 = .ok (.ifCond .eq 17, 3) := by decide +kernel
theorem dX7_turn_22 : decode cX7_turn 22 = .ok (.aload_n 0, 1) := by decide +kernel
theorem dX7_turn_23 : decode cX7_turn 23 = .ok (.getfield 13, 3) := by decide +kernel
theorem dX7_turn_26 : decode cX7_turn 26 = .ok (.iload_n 1, 1) := by decide +kernel
theorem dX7_turn_27 : decode cX7_turn 27 = .ok (.baload, 1) := by decide +kernel
theorem dX7_turn_28 : decode cX7_turn 28 = .ok (.iload_n 2, 1) := by decide +kernel
theorem dX7_turn_29 : decode cX7_turn 29 = .ok (.if_icmp .eq 7, 3) := by decide +kernel
theorem dX7_turn_32 : decode cX7_turn 32 = .ok (.iconst 1, 1) := by decide +kernel
theorem dX7_turn_33 : decode cX7_turn 33 = .ok (.goto 4, 3) := by decide +kernel
theorem dX7_turn_36 : decode cX7_turn 36 = .ok (.iconst 0, 1) := by decide +kernel
theorem dX7_turn_37 : decode cX7_turn 37 = .ok (.invokevirtual 193, 3) := by decide +kernel
theorem dX7_turn_40 : decode cX7_turn 40 = .ok (.ifCond .ne 4, 3) := by decide +kernel
theorem dX7_turn_43 : decode cX7_turn 43 = .ok (.return_, 1) := by decide +kernel
theorem dX7_turn_44 : decode cX7_turn 44 = .ok (.aload_n 0, 1) := by decide +kernel
theorem dX7_turn_45 : decode cX7_turn 45 = .ok (.getfield 16, 3) := by decide +kernel
theorem dX7_turn_48 : decode cX7_turn 48 = .ok (.iload_n 1, 1) := by decide +kernel
theorem dX7_turn_49 : decode cX7_turn 49 = .ok (.iaload, 1) := by decide +kernel
theorem dX7_turn_50 : decode cX7_turn 50 = .ok (.istore 4, 2) := by decide +kernel
theorem dX7_turn_52 : decode cX7_turn 52 = .ok (.aload_n 0, 1) := by decide +kernel
theorem dX7_turn_53 : decode cX7_turn 53 = .ok (.getfield 20, 3) := by decide +kernel
theorem dX7_turn_56 : decode cX7_turn 56 = .ok (.iload_n 1, 1) := by decide +kernel
theorem dX7_turn_57 : decode cX7_turn 57 = .ok (.iaload, 1) := by decide +kernel
theorem dX7_turn_58 : decode cX7_turn 58 = .ok (.istore 5, 2) := by decide +kernel
theorem dX7_turn_60 : decode cX7_turn 60 = .ok (.aload_n 0, 1) := by decide +kernel
theorem dX7_turn_61 : decode cX7_turn 61 = .ok (.getfield 13, 3) := by decide +kernel
theorem dX7_turn_64 : decode cX7_turn 64 = .ok (.iload_n 1, 1) := by decide +kernel
theorem dX7_turn_65 : decode cX7_turn 65 = .ok (.iload_n 2, 1) := by decide +kernel
theorem dX7_turn_66 : decode cX7_turn 66 = .ok (.bastore, 1) := by decide +kernel
theorem dX7_turn_67 : decode cX7_turn 67 = .ok (.iload_n 2, 1) := by decide +kernel
theorem dX7_turn_68 : decode cX7_turn 68 = .ok (.ifCond .ne 19, 3) := by decide +kernel
theorem dX7_turn_71 : decode cX7_turn 71 = .ok (.aload_n 0, 1) := by decide +kernel
theorem dX7_turn_72 : decode cX7_turn 72 = .ok (.iconst 2, 1) := by decide +kernel
theorem dX7_turn_73 : decode cX7_turn 73 = .ok (.iload_n 1, 1) := by decide +kernel
theorem dX7_turn_74 : decode cX7_turn 74 = .ok (.imul, 1) := by decide +kernel
theorem dX7_turn_75 : decode cX7_turn 75 = .ok (.invokevirtual 197, 3) := by decide +kernel
theorem dX7_turn_78 : decode cX7_turn 78 = .ok (.aload_n 0, 1) := by decide +kernel
theorem dX7_turn_79 : decode cX7_turn 79 = .ok (.iconst 2, 1) := by decide +kernel
theorem dX7_turn_80 : decode cX7_turn 80 = .ok (.iload_n 1, 1) := by decide +kernel
theorem dX7_turn_81 : decode cX7_turn 81 = .ok (.imul, 1) := by decide +kernel
theorem dX7_turn_82 : decode cX7_turn 82 = .ok (.iconst 1, 1) := by decide +kernel
theorem dX7_turn_83 : decode cX7_turn 83 = .ok (.iadd, 1) := by decide +kernel
theorem dX7_turn_84 : decode cX7_turn 84 = .ok (.invokevirtual 197, 3) := by decide +kernel
theorem dX7_turn_87 : decode cX7_turn 87 = .ok (.aload_n 0, 1) := by decide +kernel
theorem dX7_turn_88 : decode cX7_turn 88 = .ok (.iload 4, 2) := by decide +kernel
theorem dX7_turn_90 : decode cX7_turn 90 = .ok (.invokevirtual 200, 3) := by decide +kernel
theorem dX7_turn_93 : decode cX7_turn 93 = .ok (.aload_n 0, 1) := by decide +kernel
theorem dX7_turn_94 : decode cX7_turn 94 = .ok (.iload 5, 2) := by decide +kernel
theorem dX7_turn_96 : decode cX7_turn 96 = .ok (.invokevirtual 200, 3) := by decide +kernel
theorem dX7_turn_99 : decode cX7_turn 99 = .ok (.iload_n 2, 1) := by decide +kernel
theorem dX7_turn_100 : decode cX7_turn 100 = .ok (.ifCond .eq 34, 3) := by decide +kernel
theorem dX7_turn_103 : decode cX7_turn 103 = .ok (.aload_n 0, 1) := by decide +kernel
theorem dX7_turn_104 : decode cX7_turn 104 = .ok (.iload 4, 2) := by decide +kernel
theorem dX7_turn_106 : decode cX7_turn 106 = .ok (.iload_n 1, 1) := by decide +kernel
theorem dX7_turn_107 : decode cX7_turn 107 = .ok (.invokevirtual 203, 3) := by decide +kernel
theorem dX7_turn_110 : decode cX7_turn 110 = .ok (.aload_n 0, 1) := by decide +kernel
theorem dX7_turn_111 : decode cX7_turn 111 = .ok (.iload 5, 2) := by decide +kernel
theorem dX7_turn_113 : decode cX7_turn 113 = .ok (.iload_n 1, 1) := by decide +kernel
theorem dX7_turn_114 : decode cX7_turn 114 = .ok (.invokevirtual 203, 3) := by decide +kernel
theorem dX7_turn_117 : decode cX7_turn 117 = .ok (.aload_n 0, 1) := by decide +kernel
theorem dX7_turn_118 : decode cX7_turn 118 = .ok (.iload 4, 2) := by decide +kernel
theorem dX7_turn_120 : decode cX7_turn 120 = .ok (.iload_n 1, 1) := by decide +kernel
theorem dX7_turn_121 : decode cX7_turn 121 = .ok (.invokevirtual 206, 3) := by decide +kernel
theorem dX7_turn_124 : decode cX7_turn 124 = .ok (.aload_n 0, 1) := by decide +kernel
theorem dX7_turn_125 : decode cX7_turn 125 = .ok (.iload 5, 2) := by decide +kernel
theorem dX7_turn_127 : decode cX7_turn 127 = .ok (.iload_n 1, 1) := by decide +kernel
theorem dX7_turn_128 : decode cX7_turn 128 = .ok (.invokevirtual 206, 3) := by decide +kernel
theorem dX7_turn_131 : decode cX7_turn 131 = .ok (.goto 17, 3) := by decide +kernel
theorem dX7_turn_134 : decode cX7_turn 134 = .ok (.aload_n 0, 1) := by decide +kernel
theorem dX7_turn_135 : decode cX7_turn 135 = .ok (.iload 4, 2) := by decide +kernel
theorem dX7_turn_137 : decode cX7_turn 137 = .ok (.iload_n 1, 1) := by decide +kernel
theorem dX7_turn_138 : decode cX7_turn 138 = .ok (.invokevirtual 209, 3) := by decide +kernel
theorem dX7_turn_141 : decode cX7_turn 141 = .ok (.aload_n 0, 1) := by decide +kernel
theorem dX7_turn_142 : decode cX7_turn 142 = .ok (.iload 5, 2) := by decide +kernel
theorem dX7_turn_144 : decode cX7_turn 144 = .ok (.iload_n 1, 1) := by decide +kernel
theorem dX7_turn_145 : decode cX7_turn 145 = .ok (.invokevirtual 209, 3) := by decide +kernel
theorem dX7_turn_148 : decode cX7_turn 148 = .ok (.aload_n 0, 1) := by decide +kernel
theorem dX7_turn_149 : decode cX7_turn 149 = .ok (.iload 4, 2) := by decide +kernel
theorem dX7_turn_151 : decode cX7_turn 151 = .ok (.invokevirtual 170, 3) := by decide +kernel
theorem dX7_turn_154 : decode cX7_turn 154 = .ok (.aload_n 0, 1) := by decide +kernel
theorem dX7_turn_155 : decode cX7_turn 155 = .ok (.iload 5, 2) := by decide +kernel
theorem dX7_turn_157 : decode cX7_turn 157 = .ok (.invokevirtual 170, 3) := by decide +kernel
theorem dX7_turn_160 : decode cX7_turn 160 = .ok (.return_, 1) := by decide +kernel
theorem dX7_attach_0 : decode cX7_attach 0 = .ok (.iload_n 1, 1) := by decide +kernel
theorem dX7_attach_1 : decode cX7_attach 1 = .ok (.bipush 8, 2) := by decide +kernel
theorem dX7_attach_3 : decode cX7_attach 3 = .ok (.invokestatic 99, 3) := by decide +kernel
theorem dX7_attach_6 : decode cX7_attach 6 = .ok (.ifCond .eq 20, 3) := by decide +kernel
theorem dX7_attach_9 : decode cX7_attach 9 = .ok (.iload_n 2, 1) := by decide +kernel
theorem dX7_attach_10 : decode cX7_attach 10 = .ok (.iconst (-1), 1) := by decide +kernel
theorem dX7_attach_11 : decode cX7_attach 11 = .ok (.if_icmp .eq 11, 3) := by decide +kernel
theorem dX7_attach_14 : decode cX7_attach 14 = .ok (.aload_n 0, 1) := by decide +kernel
theorem dX7_attach_15 : decode cX7_attach 15 = .ok (.iload_n 2, 1) := by decide +kernel
theorem dX7_attach_16 : decode cX7_attach 16 = .ok (.invokevirtual 189, 3) := by decide +kernel
theorem dX7_attach_19 : decode cX7_attach 19 = .ok (.ifCond .eq 7, 3) := by decide +kernel
theorem dX7_attach_22 : decode cX7_attach 22 = .ok (.iconst 1, 1) := by decide +kernel
theorem dX7_attach_23 : decode cX7_attach 23 = .ok (.goto 4, 3) := by decide +kernel
theorem dX7_attach_26 : decode cX7_attach 26 = .ok (.iconst 0, 1) := by decide +kernel
theorem dX7_attach_27 : decode cX7_attach 27 = .ok (.istore_n 3, 1) := by decide +kernel
theorem dX7_attach_28 : decode cX7_attach 28 = .ok (.aload_n 0, 1) := by decide +kernel
theorem dX7_attach_29 : decode cX7_attach 29 = .ok (.iload_n 3, 1) := by decide +kernel
theorem dX7_attach_30 : decode cX7_attach 30 = .ok (.iload_n 3, 1) := by decide +kernel
theorem dX7_attach_31 : decode cX7_attach 31 = .ok (.ifCond .eq 17, 3) := by decide +kernel
theorem dX7_attach_34 : decode cX7_attach 34 = .ok (.aload_n 0, 1) := by decide +kernel
theorem dX7_attach_35 : decode cX7_attach 35 = .ok (.getfield 26, 3) := by decide +kernel
theorem dX7_attach_38 : decode cX7_attach 38 = .ok (.iload_n 1, 1) := by decide +kernel
theorem dX7_attach_39 : decode cX7_attach 39 = .ok (.iaload, 1) := by decide +kernel
theorem dX7_attach_40 : decode cX7_attach 40 = .ok (.iload_n 2, 1) := by decide +kernel
theorem dX7_attach_41 : decode cX7_attach 41 = .ok (.if_icmp .eq 7, 3) := by decide +kernel
theorem dX7_attach_44 : decode cX7_attach 44 = .ok (.iconst 1, 1) := by decide +kernel
theorem dX7_attach_45 : decode cX7_attach 45 = .ok (.goto 4, 3) := by decide +kernel
theorem dX7_attach_48 : decode cX7_attach 48 = .ok (.iconst 0, 1) := by decide +kernel
theorem dX7_attach_49 : decode cX7_attach 49 = .ok (.invokevirtual 193, 3) := by decide +kernel
theorem dX7_attach_52 : decode cX7_attach 52 = .ok (.ifCond .ne 4, 3) := by decide +kernel
theorem dX7_attach_55 : decode cX7_attach 55 = .ok (.return_, 1) := by decide +kernel
theorem dX7_attach_56 : decode cX7_attach 56 = .ok (.aload_n 0, 1) := by decide +kernel
theorem dX7_attach_57 : decode cX7_attach 57 = .ok (.getfield 26, 3) := by decide +kernel
theorem dX7_attach_60 : decode cX7_attach 60 = .ok (.iload_n 1, 1) := by decide +kernel
theorem dX7_attach_61 : decode cX7_attach 61 = .ok (.iaload, 1) := by decide +kernel
theorem dX7_attach_62 : decode cX7_attach 62 = .ok (.istore 4, 2) := by decide +kernel
theorem dX7_attach_64 : decode cX7_attach 64 = .ok (.aload_n 0, 1) := by decide +kernel
theorem dX7_attach_65 : decode cX7_attach 65 = .ok (.getfield 26, 3) := by decide +kernel
theorem dX7_attach_68 : decode cX7_attach 68 = .ok (.iload_n 1, 1) := by decide +kernel
theorem dX7_attach_69 : decode cX7_attach 69 = .ok (.iload_n 2, 1) := by decide +kernel
theorem dX7_attach_70 : decode cX7_attach 70 = .ok (.iastore, 1) := by decide +kernel
theorem dX7_attach_71 : decode cX7_attach 71 = .ok (.iload 4, 2) := by decide +kernel
theorem dX7_attach_73 : decode cX7_attach 73 = .ok (.iconst (-1), 1) := by decide +kernel
theorem dX7_attach_74 : decode cX7_attach 74 = .ok (.if_icmp .eq 15, 3) := by decide +kernel
theorem dX7_attach_77 : decode cX7_attach 77 = .ok (.aload_n 0, 1) := by decide +kernel
theorem dX7_attach_78 : decode cX7_attach 78 = .ok (.iload 4, 2) := by decide +kernel
theorem dX7_attach_80 : decode cX7_attach 80 = .ok (.invokevirtual 200, 3) := by decide +kernel
theorem dX7_attach_83 : decode cX7_attach 83 = .ok (.aload_n 0, 1) := by decide +kernel
theorem dX7_attach_84 : decode cX7_attach 84 = .ok (.iload 4, 2) := by decide +kernel
theorem dX7_attach_86 : decode cX7_attach 86 = .ok (.invokevirtual 170, 3) := by decide +kernel
theorem dX7_attach_89 : decode cX7_attach 89 = .ok (.iload_n 2, 1) := by decide +kernel
theorem dX7_attach_90 : decode cX7_attach 90 = .ok (.iconst (-1), 1) := by decide +kernel
theorem dX7_attach_91 : decode cX7_attach 91 = .ok (.if_icmp .eq 13, 3) := by decide +kernel
theorem dX7_attach_94 : decode cX7_attach 94 = .ok (.aload_n 0, 1) := by decide +kernel
theorem dX7_attach_95 : decode cX7_attach 95 = .ok (.iload_n 2, 1) := by decide +kernel
theorem dX7_attach_96 : decode cX7_attach 96 = .ok (.invokevirtual 200, 3) := by decide +kernel
theorem dX7_attach_99 : decode cX7_attach 99 = .ok (.aload_n 0, 1) := by decide +kernel
theorem dX7_attach_100 : decode cX7_attach 100 = .ok (.iload_n 2, 1) := by decide +kernel
theorem dX7_attach_101 : decode cX7_attach 101 = .ok (.invokevirtual 170, 3) := by decide +kernel
theorem dX7_attach_104 : decode cX7_attach 104 = .ok (.return_, 1) := by decide +kernel
theorem dX7_isEnd_0 : decode cX7_isEnd 0 = .ok (.iload_n 0, 1) := by decide +kernel
theorem dX7_isEnd_1 : decode cX7_isEnd 1 = .ok (.bipush 12, 2) := by decide +kernel
theorem dX7_isEnd_3 : decode cX7_isEnd 3 = .ok (.invokestatic 99, 3) := by decide +kernel
theorem dX7_isEnd_6 : decode cX7_isEnd 6 = .ok (.ifCond .eq 15, 3) := by decide +kernel
theorem dX7_isEnd_9 : decode cX7_isEnd 9 = .ok (.iload_n 1, 1) := by decide +kernel
theorem dX7_isEnd_10 : decode cX7_isEnd 10 = .ok (.iconst 2, 1) := by decide +kernel
theorem dX7_isEnd_11 : decode cX7_isEnd 11 = .ok (.invokestatic 99, 3) := by decide +kernel
theorem dX7_isEnd_14 : decode cX7_isEnd 14 = .ok (.ifCond .eq 7, 3) := by decide +kernel
theorem dX7_isEnd_17 : decode cX7_isEnd 17 = .ok (.iconst 1, 1) := by decide +kernel
theorem dX7_isEnd_18 : decode cX7_isEnd 18 = .ok (.goto 4, 3) := by decide +kernel
theorem dX7_isEnd_21 : decode cX7_isEnd 21 = .ok (.iconst 0, 1) := by decide +kernel
theorem dX7_isEnd_22 : decode cX7_isEnd 22 = .ok (.ireturn, 1) := by decide +kernel
theorem dX7_deliver_0 : decode cX7_deliver 0 = .ok (.aload_n 0, 1) := by decide +kernel
theorem dX7_deliver_1 : decode cX7_deliver 1 = .ok (.iload_n 1, 1) := by decide +kernel
theorem dX7_deliver_2 : decode cX7_deliver 2 = .ok (.iload_n 2, 1) := by decide +kernel
theorem dX7_deliver_3 : decode cX7_deliver 3 = .ok (.invokestatic 212, 3) := by decide +kernel
theorem dX7_deliver_6 : decode cX7_deliver 6 = .ok (.iconst 1, 1) := by decide +kernel
theorem dX7_deliver_7 : decode cX7_deliver 7 = .ok (.invokevirtual 193, 3) := by decide +kernel
theorem dX7_deliver_10 : decode cX7_deliver 10 = .ok (.ifCond .ne 5, 3) := by decide +kernel
theorem dX7_deliver_13 : decode cX7_deliver 13 = .ok (.iconst 0, 1) := by decide +kernel
theorem dX7_deliver_14 : decode cX7_deliver 14 = .ok (.ireturn, 1) := by decide +kernel
theorem dX7_deliver_15 : decode cX7_deliver 15 = .ok (.aload_n 0, 1) := by decide +kernel
theorem dX7_deliver_16 : decode cX7_deliver 16 = .ok (.getfield 38, 3) := by decide +kernel
theorem dX7_deliver_19 : decode cX7_deliver 19 = .ok (.iconst 2, 1) := by decide +kernel
theorem dX7_deliver_20 : decode cX7_deliver 20 = .ok (.iload_n 1, 1) := by decide +kernel
theorem dX7_deliver_21 : decode cX7_deliver 21 = .ok (.imul, 1) := by decide +kernel
theorem dX7_deliver_22 : decode cX7_deliver 22 = .ok (.iload_n 2, 1) := by decide +kernel
theorem dX7_deliver_23 : decode cX7_deliver 23 = .ok (.iadd, 1) := by decide +kernel
theorem dX7_deliver_24 : decode cX7_deliver 24 = .ok (.iaload, 1) := by decide +kernel
theorem dX7_deliver_25 : decode cX7_deliver 25 = .ok (.ifCond .ne 7, 3) := by decide +kernel
theorem dX7_deliver_28 : decode cX7_deliver 28 = .ok (.iconst (-1), 1) := by decide +kernel
theorem dX7_deliver_29 : decode cX7_deliver 29 = .ok (.goto 12, 3) := by decide +kernel
theorem dX7_deliver_32 : decode cX7_deliver 32 = .ok (.aload_n 0, 1) := by decide +kernel
theorem dX7_deliver_33 : decode cX7_deliver 33 = .ok (.iconst 2, 1) := by decide +kernel
theorem dX7_deliver_34 : decode cX7_deliver 34 = .ok (.iload_n 1, 1) := by decide +kernel
theorem dX7_deliver_35 : decode cX7_deliver 35 = .ok (.imul, 1) := by decide +kernel
theorem dX7_deliver_36 : decode cX7_deliver 36 = .ok (.iload_n 2, 1) := by decide +kernel
theorem dX7_deliver_37 : decode cX7_deliver 37 = .ok (.iadd, 1) := by decide +kernel
theorem dX7_deliver_38 : decode cX7_deliver 38 = .ok (.invokevirtual 215, 3) := by decide +kernel
theorem dX7_deliver_41 : decode cX7_deliver 41 = .ok (.ireturn, 1) := by decide +kernel
theorem dX7_run_0 : decode cX7_run 0 = .ok (.aload_n 0, 1) := by decide +kernel
theorem dX7_run_1 : decode cX7_run 1 = .ok (.iload_n 1, 1) := by decide +kernel
theorem dX7_run_2 : decode cX7_run 2 = .ok (.sipush 501, 3) := by decide +kernel
theorem dX7_run_5 : decode cX7_run 5 = .ok (.invokestatic 99, 3) := by decide +kernel
theorem dX7_run_8 : decode cX7_run 8 = .ok (.iconst 1, 1) := by decide +kernel
theorem dX7_run_9 : decode cX7_run 9 = .ok (.invokevirtual 193, 3) := by decide +kernel
theorem dX7_run_12 : decode cX7_run 12 = .ok (.ifCond .ne 5, 3) := by decide +kernel
theorem dX7_run_15 : decode cX7_run 15 = .ok (.iconst 0, 1) := by decide +kernel
theorem dX7_run_16 : decode cX7_run 16 = .ok (.ireturn, 1) := by decide +kernel
theorem dX7_run_17 : decode cX7_run 17 = .ok (.iconst 0, 1) := by decide +kernel
theorem dX7_run_18 : decode cX7_run 18 = .ok (.istore_n 2, 1) := by decide +kernel
theorem dX7_run_19 : decode cX7_run 19 = .ok (.iconst 1, 1) := by decide +kernel
theorem dX7_run_20 : decode cX7_run 20 = .ok (.istore_n 3, 1) := by decide +kernel
theorem dX7_run_21 : decode cX7_run 21 = .ok (.iload_n 2, 1) := by decide +kernel
theorem dX7_run_22 : decode cX7_run 22 = .ok (.iload_n 1, 1) := by decide +kernel
theorem dX7_run_23 : decode cX7_run 23 = .ok (.if_icmp .ge 64, 3) := by decide +kernel
theorem dX7_run_26 : decode cX7_run 26 = .ok (.iload_n 3, 1) := by decide +kernel
theorem dX7_run_27 : decode cX7_run 27 = .ok (.ifCond .eq 60, 3) := by decide +kernel
theorem dX7_run_30 : decode cX7_run 30 = .ok (.iconst 0, 1) := by decide +kernel
theorem dX7_run_31 : decode cX7_run 31 = .ok (.istore 4, 2) := by decide +kernel
theorem dX7_run_33 : decode cX7_run 33 = .ok (.iload 4, 2) := by decide +kernel
theorem dX7_run_35 : decode cX7_run 35 = .ok (.bipush 24, 2) := by decide +kernel
theorem dX7_run_37 : decode cX7_run 37 = .ok (.if_icmp .ge 19, 3) := by decide +kernel
theorem dX7_run_40 : decode cX7_run 40 = .ok (.aload_n 0, 1) := by decide +kernel
theorem dX7_run_41 : decode cX7_run 41 = .ok (.getfield 38, 3) := by decide +kernel
theorem dX7_run_44 : decode cX7_run 44 = .ok (.iload 4, 2) := by decide +kernel
theorem dX7_run_46 : decode cX7_run 46 = .ok (.iaload, 1) := by decide +kernel
theorem dX7_run_47 : decode cX7_run 47 = .ok (.ifCond .ne 9, 3) := by decide +kernel
theorem dX7_run_50 : decode cX7_run 50 = .ok (.iinc 4 1, 3) := by decide +kernel
theorem dX7_run_53 : decode cX7_run 53 = .ok (.goto (-20), 3) := by decide +kernel
theorem dX7_run_56 : decode cX7_run 56 = .ok (.iload 4, 2) := by decide +kernel
theorem dX7_run_58 : decode cX7_run 58 = .ok (.bipush 24, 2) := by decide +kernel
theorem dX7_run_60 : decode cX7_run 60 = .ok (.if_icmp .ge 7, 3) := by decide +kernel
theorem dX7_run_63 : decode cX7_run 63 = .ok (.iconst 1, 1) := by decide +kernel
theorem dX7_run_64 : decode cX7_run 64 = .ok (.goto 4, 3) := by decide +kernel
theorem dX7_run_67 : decode cX7_run 67 = .ok (.iconst 0, 1) := by decide +kernel
theorem dX7_run_68 : decode cX7_run 68 = .ok (.istore_n 3, 1) := by decide +kernel
theorem dX7_run_69 : decode cX7_run 69 = .ok (.iload_n 3, 1) := by decide +kernel
theorem dX7_run_70 : decode cX7_run 70 = .ok (.ifCond .eq 14, 3) := by decide +kernel
theorem dX7_run_73 : decode cX7_run 73 = .ok (.aload_n 0, 1) := by decide +kernel
theorem dX7_run_74 : decode cX7_run 74 = .ok (.iload 4, 2) := by decide +kernel
theorem dX7_run_76 : decode cX7_run 76 = .ok (.invokevirtual 215, 3) := by decide +kernel
theorem dX7_run_79 : decode cX7_run 79 = .ok (.istore 5, 2) := by decide +kernel
theorem dX7_run_81 : decode cX7_run 81 = .ok (.iinc 2 1, 3) := by decide +kernel
theorem dX7_run_84 : decode cX7_run 84 = .ok (.goto (-63), 3) := by decide +kernel
theorem dX7_run_87 : decode cX7_run 87 = .ok (.iload_n 2, 1) := by decide +kernel
theorem dX7_run_88 : decode cX7_run 88 = .ok (.ireturn, 1) := by decide +kernel
theorem dX7_spoil_0 : decode cX7_spoil 0 = .ok (.aload_n 0, 1) := by decide +kernel
theorem dX7_spoil_1 : decode cX7_spoil 1 = .ok (.iload_n 1, 1) := by decide +kernel
theorem dX7_spoil_2 : decode cX7_spoil 2 = .ok (.iload_n 2, 1) := by decide +kernel
theorem dX7_spoil_3 : decode cX7_spoil 3 = .ok (.invokestatic 212, 3) := by decide +kernel
theorem dX7_spoil_6 : decode cX7_spoil 6 = .ok (.iconst 1, 1) := by decide +kernel
theorem dX7_spoil_7 : decode cX7_spoil 7 = .ok (.invokevirtual 193, 3) := by decide +kernel
theorem dX7_spoil_10 : decode cX7_spoil 10 = .ok (.ifCond .ne 5, 3) := by decide +kernel
theorem dX7_spoil_13 : decode cX7_spoil 13 = .ok (.iconst 0, 1) := by decide +kernel
theorem dX7_spoil_14 : decode cX7_spoil 14 = .ok (.ireturn, 1) := by decide +kernel
theorem dX7_spoil_15 : decode cX7_spoil 15 = .ok (.iconst 2, 1) := by decide +kernel
theorem dX7_spoil_16 : decode cX7_spoil 16 = .ok (.iload_n 1, 1) := by decide +kernel
theorem dX7_spoil_17 : decode cX7_spoil 17 = .ok (.imul, 1) := by decide +kernel
theorem dX7_spoil_18 : decode cX7_spoil 18 = .ok (.iload_n 2, 1) := by decide +kernel
theorem dX7_spoil_19 : decode cX7_spoil 19 = .ok (.iadd, 1) := by decide +kernel
theorem dX7_spoil_20 : decode cX7_spoil 20 = .ok (.istore 4, 2) := by decide +kernel
theorem dX7_spoil_22 : decode cX7_spoil 22 = .ok (.iload_n 3, 1) := by decide +kernel
theorem dX7_spoil_23 : decode cX7_spoil 23 = .ok (.aload_n 0, 1) := by decide +kernel
theorem dX7_spoil_24 : decode cX7_spoil 24 = .ok (.getfield 38, 3) := by decide +kernel
theorem dX7_spoil_27 : decode cX7_spoil 27 = .ok (.iload 4, 2) := by decide +kernel
theorem dX7_spoil_29 : decode cX7_spoil 29 = .ok (.iaload, 1) := by decide +kernel
theorem dX7_spoil_30 : decode cX7_spoil 30 = .ok (.invokestatic 99, 3) := by decide +kernel
theorem dX7_spoil_33 : decode cX7_spoil 33 = .ok (.ifCond .ne 5, 3) := by decide +kernel
theorem dX7_spoil_36 : decode cX7_spoil 36 = .ok (.iconst 0, 1) := by decide +kernel
theorem dX7_spoil_37 : decode cX7_spoil 37 = .ok (.ireturn, 1) := by decide +kernel
theorem dX7_spoil_38 : decode cX7_spoil 38 = .ok (.aload_n 0, 1) := by decide +kernel
theorem dX7_spoil_39 : decode cX7_spoil 39 = .ok (.getfield 53, 3) := by decide +kernel
theorem dX7_spoil_42 : decode cX7_spoil 42 = .ok (.bipush 16, 2) := by decide +kernel
theorem dX7_spoil_44 : decode cX7_spoil 44 = .ok (.iload 4, 2) := by decide +kernel
theorem dX7_spoil_46 : decode cX7_spoil 46 = .ok (.imul, 1) := by decide +kernel
theorem dX7_spoil_47 : decode cX7_spoil 47 = .ok (.iload_n 3, 1) := by decide +kernel
theorem dX7_spoil_48 : decode cX7_spoil 48 = .ok (.iadd, 1) := by decide +kernel
theorem dX7_spoil_49 : decode cX7_spoil 49 = .ok (.iconst 1, 1) := by decide +kernel
theorem dX7_spoil_50 : decode cX7_spoil 50 = .ok (.bastore, 1) := by decide +kernel
theorem dX7_spoil_51 : decode cX7_spoil 51 = .ok (.iconst 1, 1) := by decide +kernel
theorem dX7_spoil_52 : decode cX7_spoil 52 = .ok (.ireturn, 1) := by decide +kernel
theorem dX7_inject_0 : decode cX7_inject 0 = .ok (.aload_n 0, 1) := by decide +kernel
theorem dX7_inject_1 : decode cX7_inject 1 = .ok (.aload_n 0, 1) := by decide +kernel
theorem dX7_inject_2 : decode cX7_inject 2 = .ok (.iload_n 1, 1) := by decide +kernel
theorem dX7_inject_3 : decode cX7_inject 3 = .ok (.invokevirtual 189, 3) := by decide +kernel
theorem dX7_inject_6 : decode cX7_inject 6 = .ok (.ifCond .eq 16, 3) := by decide +kernel
theorem dX7_inject_9 : decode cX7_inject 9 = .ok (.iload_n 2, 1) := by decide +kernel
theorem dX7_inject_10 : decode cX7_inject 10 = .ok (.bipush 8, 2) := by decide +kernel
theorem dX7_inject_12 : decode cX7_inject 12 = .ok (.invokestatic 99, 3) := by decide +kernel
theorem dX7_inject_15 : decode cX7_inject 15 = .ok (.ifCond .eq 7, 3) := by decide +kernel
theorem dX7_inject_18 : decode cX7_inject 18 = .ok (.iconst 1, 1) := by decide +kernel
theorem dX7_inject_19 : decode cX7_inject 19 = .ok (.goto 4, 3) := by decide +kernel
theorem dX7_inject_22 : decode cX7_inject 22 = .ok (.iconst 0, 1) := by decide +kernel
theorem dX7_inject_23 : decode cX7_inject 23 = .ok (.iload_n 3, 1) := by decide +kernel
theorem dX7_inject_24 : decode cX7_inject 24 = .ok (.bipush 61, 2) := by decide +kernel
theorem dX7_inject_26 : decode cX7_inject 26 = .ok (.invokestatic 99, 3) := by decide +kernel
theorem dX7_inject_29 : decode cX7_inject 29 = .ok (.ifCond .eq 16, 3) := by decide +kernel
theorem dX7_inject_32 : decode cX7_inject 32 = .ok (.aload_n 0, 1) := by decide +kernel
theorem dX7_inject_33 : decode cX7_inject 33 = .ok (.getfield 218, 3) := by decide +kernel
theorem dX7_inject_36 : decode cX7_inject 36 = .ok (.bipush 64, 2) := by decide +kernel
theorem dX7_inject_38 : decode cX7_inject 38 = .ok (.if_icmp .ge 7, 3) := by decide +kernel
theorem dX7_inject_41 : decode cX7_inject 41 = .ok (.iconst 1, 1) := by decide +kernel
theorem dX7_inject_42 : decode cX7_inject 42 = .ok (.goto 4, 3) := by decide +kernel
theorem dX7_inject_45 : decode cX7_inject 45 = .ok (.iconst 0, 1) := by decide +kernel
theorem dX7_inject_46 : decode cX7_inject 46 = .ok (.invokevirtual 193, 3) := by decide +kernel
theorem dX7_inject_49 : decode cX7_inject 49 = .ok (.ifCond .ne 5, 3) := by decide +kernel
theorem dX7_inject_52 : decode cX7_inject 52 = .ok (.iconst 0, 1) := by decide +kernel
theorem dX7_inject_53 : decode cX7_inject 53 = .ok (.ireturn, 1) := by decide +kernel
theorem dX7_inject_54 : decode cX7_inject 54 = .ok (.aload_n 0, 1) := by decide +kernel
theorem dX7_inject_55 : decode cX7_inject 55 = .ok (.getfield 218, 3) := by decide +kernel
theorem dX7_inject_58 : decode cX7_inject 58 = .ok (.istore 4, 2) := by decide +kernel
theorem dX7_inject_60 : decode cX7_inject 60 = .ok (.aload_n 0, 1) := by decide +kernel
theorem dX7_inject_61 : decode cX7_inject 61 = .ok (.dup, 1) := by decide +kernel
theorem dX7_inject_62 : decode cX7_inject 62 = .ok (.getfield 218, 3) := by decide +kernel
theorem dX7_inject_65 : decode cX7_inject 65 = .ok (.iconst 1, 1) := by decide +kernel
theorem dX7_inject_66 : decode cX7_inject 66 = .ok (.iadd, 1) := by decide +kernel
theorem dX7_inject_67 : decode cX7_inject 67 = .ok (.putfield 218, 3) := by decide +kernel
theorem dX7_inject_70 : decode cX7_inject 70 = .ok (.aload_n 0, 1) := by decide +kernel
theorem dX7_inject_71 : decode cX7_inject 71 = .ok (.getfield 74, 3) := by decide +kernel
theorem dX7_inject_74 : decode cX7_inject 74 = .ok (.iload 4, 2) := by decide +kernel
theorem dX7_inject_76 : decode cX7_inject 76 = .ok (.iload_n 2, 1) := by decide +kernel
theorem dX7_inject_77 : decode cX7_inject 77 = .ok (.iastore, 1) := by decide +kernel
theorem dX7_inject_78 : decode cX7_inject 78 = .ok (.aload_n 0, 1) := by decide +kernel
theorem dX7_inject_79 : decode cX7_inject 79 = .ok (.getfield 77, 3) := by decide +kernel
theorem dX7_inject_82 : decode cX7_inject 82 = .ok (.iload 4, 2) := by decide +kernel
theorem dX7_inject_84 : decode cX7_inject 84 = .ok (.iload_n 3, 1) := by decide +kernel
theorem dX7_inject_85 : decode cX7_inject 85 = .ok (.iastore, 1) := by decide +kernel
theorem dX7_inject_86 : decode cX7_inject 86 = .ok (.aload_n 0, 1) := by decide +kernel
theorem dX7_inject_87 : decode cX7_inject 87 = .ok (.getfield 86, 3) := by decide +kernel
theorem dX7_inject_90 : decode cX7_inject 90 = .ok (.iload 4, 2) := by decide +kernel
theorem dX7_inject_92 : decode cX7_inject 92 = .ok (.iconst (-1), 1) := by decide +kernel
theorem dX7_inject_93 : decode cX7_inject 93 = .ok (.iastore, 1) := by decide +kernel
theorem dX7_inject_94 : decode cX7_inject 94 = .ok (.aload_n 0, 1) := by decide +kernel
theorem dX7_inject_95 : decode cX7_inject 95 = .ok (.iload 4, 2) := by decide +kernel
theorem dX7_inject_97 : decode cX7_inject 97 = .ok (.iload_n 1, 1) := by decide +kernel
theorem dX7_inject_98 : decode cX7_inject 98 = .ok (.iconst (-1), 1) := by decide +kernel
theorem dX7_inject_99 : decode cX7_inject 99 = .ok (.invokevirtual 186, 3) := by decide +kernel
theorem dX7_inject_102 : decode cX7_inject 102 = .ok (.iload 4, 2) := by decide +kernel
theorem dX7_inject_104 : decode cX7_inject 104 = .ok (.ireturn, 1) := by decide +kernel
theorem dX7_packet_0 : decode cX7_packet 0 = .ok (.aload_n 0, 1) := by decide +kernel
theorem dX7_packet_1 : decode cX7_packet 1 = .ok (.iconst 0, 1) := by decide +kernel
theorem dX7_packet_2 : decode cX7_packet 2 = .ok (.putfield 96, 3) := by decide +kernel
theorem dX7_packet_5 : decode cX7_packet 5 = .ok (.iload_n 1, 1) := by decide +kernel
theorem dX7_packet_6 : decode cX7_packet 6 = .ok (.aload_n 0, 1) := by decide +kernel
theorem dX7_packet_7 : decode cX7_packet 7 = .ok (.getfield 218, 3) := by decide +kernel
theorem dX7_packet_10 : decode cX7_packet 10 = .ok (.invokestatic 99, 3) := by decide +kernel
theorem dX7_packet_13 : decode cX7_packet 13 = .ok (.ifCond .ne 5, 3) := by decide +kernel
theorem dX7_packet_16 : decode cX7_packet 16 = .ok (.iconst (-1), 1) := by decide +kernel
theorem dX7_packet_17 : decode cX7_packet 17 = .ok (.ireturn, 1) := by decide +kernel
theorem dX7_packet_18 : decode cX7_packet 18 = .ok (.iload_n 2, 1) := by decide +kernel
theorem dX7_packet_19 : decode cX7_packet 19 = .ok (.tableswitch 68 0 4 #[33, 40, 47, 54, 61], 33) := by decide +kernel
theorem dX7_packet_52 : decode cX7_packet 52 = .ok (.aload_n 0, 1) := by decide +kernel
theorem dX7_packet_53 : decode cX7_packet 53 = .ok (.getfield 83, 3) := by decide +kernel
theorem dX7_packet_56 : decode cX7_packet 56 = .ok (.iload_n 1, 1) := by decide +kernel
theorem dX7_packet_57 : decode cX7_packet 57 = .ok (.iaload, 1) := by decide +kernel
theorem dX7_packet_58 : decode cX7_packet 58 = .ok (.ireturn, 1) := by decide +kernel
theorem dX7_packet_59 : decode cX7_packet 59 = .ok (.aload_n 0, 1) := by decide +kernel
theorem dX7_packet_60 : decode cX7_packet 60 = .ok (.getfield 80, 3) := by decide +kernel
theorem dX7_packet_63 : decode cX7_packet 63 = .ok (.iload_n 1, 1) := by decide +kernel
theorem dX7_packet_64 : decode cX7_packet 64 = .ok (.iaload, 1) := by decide +kernel
theorem dX7_packet_65 : decode cX7_packet 65 = .ok (.ireturn, 1) := by decide +kernel
theorem dX7_packet_66 : decode cX7_packet 66 = .ok (.aload_n 0, 1) := by decide +kernel
theorem dX7_packet_67 : decode cX7_packet 67 = .ok (.getfield 77, 3) := by decide +kernel
theorem dX7_packet_70 : decode cX7_packet 70 = .ok (.iload_n 1, 1) := by decide +kernel
theorem dX7_packet_71 : decode cX7_packet 71 = .ok (.iaload, 1) := by decide +kernel
theorem dX7_packet_72 : decode cX7_packet 72 = .ok (.ireturn, 1) := by decide +kernel
theorem dX7_packet_73 : decode cX7_packet 73 = .ok (.aload_n 0, 1) := by decide +kernel
theorem dX7_packet_74 : decode cX7_packet 74 = .ok (.getfield 86, 3) := by decide +kernel
theorem dX7_packet_77 : decode cX7_packet 77 = .ok (.iload_n 1, 1) := by decide +kernel
theorem dX7_packet_78 : decode cX7_packet 78 = .ok (.iaload, 1) := by decide +kernel
theorem dX7_packet_79 : decode cX7_packet 79 = .ok (.ireturn, 1) := by decide +kernel
theorem dX7_packet_80 : decode cX7_packet 80 = .ok (.aload_n 0, 1) := by decide +kernel
theorem dX7_packet_81 : decode cX7_packet 81 = .ok (.getfield 74, 3) := by decide +kernel
theorem dX7_packet_84 : decode cX7_packet 84 = .ok (.iload_n 1, 1) := by decide +kernel
theorem dX7_packet_85 : decode cX7_packet 85 = .ok (.iaload, 1) := by decide +kernel
theorem dX7_packet_86 : decode cX7_packet 86 = .ok (.ireturn, 1) := by decide +kernel
theorem dX7_packet_87 : decode cX7_packet 87 = .ok (.iconst (-1), 1) := by decide +kernel
theorem dX7_packet_88 : decode cX7_packet 88 = .ok (.ireturn, 1) := by decide +kernel
theorem dX7_queue_0 : decode cX7_queue 0 = .ok (.aload_n 0, 1) := by decide +kernel
theorem dX7_queue_1 : decode cX7_queue 1 = .ok (.iconst 0, 1) := by decide +kernel
theorem dX7_queue_2 : decode cX7_queue 2 = .ok (.putfield 96, 3) := by decide +kernel
theorem dX7_queue_5 : decode cX7_queue 5 = .ok (.iload_n 1, 1) := by decide +kernel
theorem dX7_queue_6 : decode cX7_queue 6 = .ok (.iload_n 2, 1) := by decide +kernel
theorem dX7_queue_7 : decode cX7_queue 7 = .ok (.invokestatic 212, 3) := by decide +kernel
theorem dX7_queue_10 : decode cX7_queue 10 = .ok (.ifCond .eq 12, 3) := by decide +kernel
theorem dX7_queue_13 : decode cX7_queue 13 = .ok (.aload_n 0, 1) := by decide +kernel
theorem dX7_queue_14 : decode cX7_queue 14 = .ok (.getfield 7, 3) := by decide +kernel
theorem dX7_queue_17 : decode cX7_queue 17 = .ok (.iload_n 1, 1) := by decide +kernel
theorem dX7_queue_18 : decode cX7_queue 18 = .ok (.baload, 1) := by decide +kernel
theorem dX7_queue_19 : decode cX7_queue 19 = .ok (.ifCond .ne 5, 3) := by decide +kernel
theorem dX7_queue_22 : decode cX7_queue 22 = .ok (.iconst (-1), 1) := by decide +kernel
theorem dX7_queue_23 : decode cX7_queue 23 = .ok (.ireturn, 1) := by decide +kernel
theorem dX7_queue_24 : decode cX7_queue 24 = .ok (.iconst 2, 1) := by decide +kernel
theorem dX7_queue_25 : decode cX7_queue 25 = .ok (.iload_n 1, 1) := by decide +kernel
theorem dX7_queue_26 : decode cX7_queue 26 = .ok (.imul, 1) := by decide +kernel
theorem dX7_queue_27 : decode cX7_queue 27 = .ok (.iload_n 2, 1) := by decide +kernel
theorem dX7_queue_28 : decode cX7_queue 28 = .ok (.iadd, 1) := by decide +kernel
theorem dX7_queue_29 : decode cX7_queue 29 = .ok (.istore 4, 2) := by decide +kernel
theorem dX7_queue_31 : decode cX7_queue 31 = .ok (.bipush 16, 2) := by decide +kernel
theorem dX7_queue_33 : decode cX7_queue 33 = .ok (.iload 4, 2) := by decide +kernel
theorem dX7_queue_35 : decode cX7_queue 35 = .ok (.imul, 1) := by decide +kernel
theorem dX7_queue_36 : decode cX7_queue 36 = .ok (.istore 5, 2) := by decide +kernel
theorem dX7_queue_38 : decode cX7_queue 38 = .ok (.iload_n 3, 1) := by decide +kernel
theorem dX7_queue_39 : decode cX7_queue 39 = .ok (.ifCond .ne 11, 3) := by decide +kernel
theorem dX7_queue_42 : decode cX7_queue 42 = .ok (.aload_n 0, 1) := by decide +kernel
theorem dX7_queue_43 : decode cX7_queue 43 = .ok (.getfield 38, 3) := by decide +kernel
theorem dX7_queue_46 : decode cX7_queue 46 = .ok (.iload 4, 2) := by decide +kernel
theorem dX7_queue_48 : decode cX7_queue 48 = .ok (.iaload, 1) := by decide +kernel
theorem dX7_queue_49 : decode cX7_queue 49 = .ok (.ireturn, 1) := by decide +kernel
theorem dX7_queue_50 : decode cX7_queue 50 = .ok (.aload_n 0, 1) := by decide +kernel
theorem dX7_queue_51 : decode cX7_queue 51 = .ok (.getfield 38, 3) := by decide +kernel
theorem dX7_queue_54 : decode cX7_queue 54 = .ok (.iload 4, 2) := by decide +kernel
theorem dX7_queue_56 : decode cX7_queue 56 = .ok (.iaload, 1) := by decide +kernel
theorem dX7_queue_57 : decode cX7_queue 57 = .ok (.ifCond .ne 5, 3) := by decide +kernel
theorem dX7_queue_60 : decode cX7_queue 60 = .ok (.iconst (-1), 1) := by decide +kernel
theorem dX7_queue_61 : decode cX7_queue 61 = .ok (.ireturn, 1) := by decide +kernel
theorem dX7_queue_62 : decode cX7_queue 62 = .ok (.iload_n 3, 1) := by decide +kernel
theorem dX7_queue_63 : decode cX7_queue 63 = .ok (.tableswitch 99 1 4 #[29, 60, 68, 76], 29) := by decide +kernel
theorem dX7_queue_92 : decode cX7_queue 92 = .ok (.aload_n 0, 1) := by decide +kernel
theorem dX7_queue_93 : decode cX7_queue 93 = .ok (.getfield 53, 3) := by decide +kernel
theorem dX7_queue_96 : decode cX7_queue 96 = .ok (.iload 5, 2) := by decide +kernel
theorem dX7_queue_98 : decode cX7_queue 98 = .ok (.baload, 1) := by decide +kernel
theorem dX7_queue_99 : decode cX7_queue 99 = .ok (.ifCond .eq 16, 3) := by decide +kernel
theorem dX7_queue_102 : decode cX7_queue 102 = .ok (.aload_n 0, 1) := by decide +kernel
theorem dX7_queue_103 : decode cX7_queue 103 = .ok (.getfield 41, 3) := by decide +kernel
theorem dX7_queue_106 : decode cX7_queue 106 = .ok (.iload 5, 2) := by decide +kernel
theorem dX7_queue_108 : decode cX7_queue 108 = .ok (.iaload, 1) := by decide +kernel
theorem dX7_queue_109 : decode cX7_queue 109 = .ok (.bipush 8, 2) := by decide +kernel
theorem dX7_queue_111 : decode cX7_queue 111 = .ok (.iadd, 1) := by decide +kernel
theorem dX7_queue_112 : decode cX7_queue 112 = .ok (.goto 10, 3) := by decide +kernel
theorem dX7_queue_115 : decode cX7_queue 115 = .ok (.aload_n 0, 1) := by decide +kernel
theorem dX7_queue_116 : decode cX7_queue 116 = .ok (.getfield 41, 3) := by decide +kernel
theorem dX7_queue_119 : decode cX7_queue 119 = .ok (.iload 5, 2) := by decide +kernel
theorem dX7_queue_121 : decode cX7_queue 121 = .ok (.iaload, 1) := by decide +kernel
theorem dX7_queue_122 : decode cX7_queue 122 = .ok (.ireturn, 1) := by decide +kernel
theorem dX7_queue_123 : decode cX7_queue 123 = .ok (.aload_n 0, 1) := by decide +kernel
theorem dX7_queue_124 : decode cX7_queue 124 = .ok (.getfield 44, 3) := by decide +kernel
theorem dX7_queue_127 : decode cX7_queue 127 = .ok (.iload 5, 2) := by decide +kernel
theorem dX7_queue_129 : decode cX7_queue 129 = .ok (.iaload, 1) := by decide +kernel
theorem dX7_queue_130 : decode cX7_queue 130 = .ok (.ireturn, 1) := by decide +kernel
theorem dX7_queue_131 : decode cX7_queue 131 = .ok (.aload_n 0, 1) := by decide +kernel
theorem dX7_queue_132 : decode cX7_queue 132 = .ok (.getfield 47, 3) := by decide +kernel
theorem dX7_queue_135 : decode cX7_queue 135 = .ok (.iload 5, 2) := by decide +kernel
theorem dX7_queue_137 : decode cX7_queue 137 = .ok (.iaload, 1) := by decide +kernel
theorem dX7_queue_138 : decode cX7_queue 138 = .ok (.ireturn, 1) := by decide +kernel
theorem dX7_queue_139 : decode cX7_queue 139 = .ok (.aload_n 0, 1) := by decide +kernel
theorem dX7_queue_140 : decode cX7_queue 140 = .ok (.getfield 41, 3) := by decide +kernel
theorem dX7_queue_143 : decode cX7_queue 143 = .ok (.iload 5, 2) := by decide +kernel
theorem dX7_queue_145 : decode cX7_queue 145 = .ok (.iaload, 1) := by decide +kernel
theorem dX7_queue_146 : decode cX7_queue 146 = .ok (.iconst 1, 1) := by decide +kernel
theorem dX7_queue_147 : decode cX7_queue 147 = .ok (.if_icmp .ne 13, 3) := by decide +kernel
theorem dX7_queue_150 : decode cX7_queue 150 = .ok (.aload_n 0, 1) := by decide +kernel
theorem dX7_queue_151 : decode cX7_queue 151 = .ok (.getfield 50, 3) := by decide +kernel
theorem dX7_queue_154 : decode cX7_queue 154 = .ok (.iload 5, 2) := by decide +kernel
theorem dX7_queue_156 : decode cX7_queue 156 = .ok (.iaload, 1) := by decide +kernel
theorem dX7_queue_157 : decode cX7_queue 157 = .ok (.goto 4, 3) := by decide +kernel
theorem dX7_queue_160 : decode cX7_queue 160 = .ok (.iconst 0, 1) := by decide +kernel
theorem dX7_queue_161 : decode cX7_queue 161 = .ok (.ireturn, 1) := by decide +kernel
theorem dX7_queue_162 : decode cX7_queue 162 = .ok (.iconst (-1), 1) := by decide +kernel
theorem dX7_queue_163 : decode cX7_queue 163 = .ok (.ireturn, 1) := by decide +kernel
theorem dX7_knows_0 : decode cX7_knows 0 = .ok (.aload_n 0, 1) := by decide +kernel
theorem dX7_knows_1 : decode cX7_knows 1 = .ok (.iconst 0, 1) := by decide +kernel
theorem dX7_knows_2 : decode cX7_knows 2 = .ok (.putfield 96, 3) := by decide +kernel
theorem dX7_knows_5 : decode cX7_knows 5 = .ok (.aload_n 0, 1) := by decide +kernel
theorem dX7_knows_6 : decode cX7_knows 6 = .ok (.iload_n 1, 1) := by decide +kernel
theorem dX7_knows_7 : decode cX7_knows 7 = .ok (.invokevirtual 189, 3) := by decide +kernel
theorem dX7_knows_10 : decode cX7_knows 10 = .ok (.ifCond .eq 25, 3) := by decide +kernel
theorem dX7_knows_13 : decode cX7_knows 13 = .ok (.aload_n 0, 1) := by decide +kernel
theorem dX7_knows_14 : decode cX7_knows 14 = .ok (.iload_n 2, 1) := by decide +kernel
theorem dX7_knows_15 : decode cX7_knows 15 = .ok (.invokevirtual 189, 3) := by decide +kernel
theorem dX7_knows_18 : decode cX7_knows 18 = .ok (.ifCond .eq 17, 3) := by decide +kernel
theorem dX7_knows_21 : decode cX7_knows 21 = .ok (.aload_n 0, 1) := by decide +kernel
theorem dX7_knows_22 : decode cX7_knows 22 = .ok (.getfield 29, 3) := by decide +kernel
theorem dX7_knows_25 : decode cX7_knows 25 = .ok (.bipush 8, 2) := by decide +kernel
theorem dX7_knows_27 : decode cX7_knows 27 = .ok (.iload_n 1, 1) := by decide +kernel
theorem dX7_knows_28 : decode cX7_knows 28 = .ok (.imul, 1) := by decide +kernel
theorem dX7_knows_29 : decode cX7_knows 29 = .ok (.iload_n 2, 1) := by decide +kernel
theorem dX7_knows_30 : decode cX7_knows 30 = .ok (.iadd, 1) := by decide +kernel
theorem dX7_knows_31 : decode cX7_knows 31 = .ok (.iaload, 1) := by decide +kernel
theorem dX7_knows_32 : decode cX7_knows 32 = .ok (.goto 4, 3) := by decide +kernel
theorem dX7_knows_35 : decode cX7_knows 35 = .ok (.iconst (-1), 1) := by decide +kernel
theorem dX7_knows_36 : decode cX7_knows 36 = .ok (.ireturn, 1) := by decide +kernel
theorem dX7_way_0 : decode cX7_way 0 = .ok (.aload_n 0, 1) := by decide +kernel
theorem dX7_way_1 : decode cX7_way 1 = .ok (.iconst 0, 1) := by decide +kernel
theorem dX7_way_2 : decode cX7_way 2 = .ok (.putfield 96, 3) := by decide +kernel
theorem dX7_way_5 : decode cX7_way 5 = .ok (.aload_n 0, 1) := by decide +kernel
theorem dX7_way_6 : decode cX7_way 6 = .ok (.iload_n 1, 1) := by decide +kernel
theorem dX7_way_7 : decode cX7_way 7 = .ok (.invokevirtual 189, 3) := by decide +kernel
theorem dX7_way_10 : decode cX7_way 10 = .ok (.ifCond .eq 11, 3) := by decide +kernel
theorem dX7_way_13 : decode cX7_way 13 = .ok (.aload_n 0, 1) := by decide +kernel
theorem dX7_way_14 : decode cX7_way 14 = .ok (.iload_n 2, 1) := by decide +kernel
theorem dX7_way_15 : decode cX7_way 15 = .ok (.invokevirtual 189, 3) := by decide +kernel
theorem dX7_way_18 : decode cX7_way 18 = .ok (.ifCond .ne 5, 3) := by decide +kernel
theorem dX7_way_21 : decode cX7_way 21 = .ok (.iconst (-1), 1) := by decide +kernel
theorem dX7_way_22 : decode cX7_way 22 = .ok (.ireturn, 1) := by decide +kernel
theorem dX7_way_23 : decode cX7_way 23 = .ok (.aload_n 0, 1) := by decide +kernel
theorem dX7_way_24 : decode cX7_way 24 = .ok (.iload_n 1, 1) := by decide +kernel
theorem dX7_way_25 : decode cX7_way 25 = .ok (.invokevirtual 163, 3) := by decide +kernel
theorem dX7_way_28 : decode cX7_way 28 = .ok (.iload_n 3, 1) := by decide +kernel
theorem dX7_way_29 : decode cX7_way 29 = .ok (.ifCond .ne 35, 3) := by decide +kernel
theorem dX7_way_32 : decode cX7_way 32 = .ok (.aload_n 0, 1) := by decide +kernel
theorem dX7_way_33 : decode cX7_way 33 = .ok (.getfield 89, 3) := by decide +kernel
theorem dX7_way_36 : decode cX7_way 36 = .ok (.bipush 8, 2) := by decide +kernel
theorem dX7_way_38 : decode cX7_way 38 = .ok (.iload_n 1, 1) := by decide +kernel
theorem dX7_way_39 : decode cX7_way 39 = .ok (.imul, 1) := by decide +kernel
theorem dX7_way_40 : decode cX7_way 40 = .ok (.iload_n 2, 1) := by decide +kernel
theorem dX7_way_41 : decode cX7_way 41 = .ok (.iadd, 1) := by decide +kernel
theorem dX7_way_42 : decode cX7_way 42 = .ok (.iaload, 1) := by decide +kernel
theorem dX7_way_43 : decode cX7_way 43 = .ok (.ldc 124, 2) := by decide +kernel
theorem dX7_way_45 : decode cX7_way 45 = .ok (.if_icmp .ge 17, 3) := by decide +kernel
theorem dX7_way_48 : decode cX7_way 48 = .ok (.aload_n 0, 1) := by decide +kernel
theorem dX7_way_49 : decode cX7_way 49 = .ok (.getfield 89, 3) := by decide +kernel
theorem dX7_way_52 : decode cX7_way 52 = .ok (.bipush 8, 2) := by decide +kernel
theorem dX7_way_54 : decode cX7_way 54 = .ok (.iload_n 1, 1) := by decide +kernel
theorem dX7_way_55 : decode cX7_way 55 = .ok (.imul, 1) := by decide +kernel
theorem dX7_way_56 : decode cX7_way 56 = .ok (.iload_n 2, 1) := by decide +kernel
theorem dX7_way_57 : decode cX7_way 57 = .ok (.iadd, 1) := by decide +kernel
theorem dX7_way_58 : decode cX7_way 58 = .ok (.iaload, 1) := by decide +kernel
theorem dX7_way_59 : decode cX7_way 59 = .ok (.goto 4, 3) := by decide +kernel
theorem dX7_way_62 : decode cX7_way 62 = .ok (.iconst (-1), 1) := by decide +kernel
theorem dX7_way_63 : decode cX7_way 63 = .ok (.ireturn, 1) := by decide +kernel
theorem dX7_way_64 : decode cX7_way 64 = .ok (.iload_n 3, 1) := by decide +kernel
theorem dX7_way_65 : decode cX7_way 65 = .ok (.iconst 1, 1) := by decide +kernel
theorem dX7_way_66 : decode cX7_way 66 = .ok (.if_icmp .ne 12, 3) := by decide +kernel
theorem dX7_way_69 : decode cX7_way 69 = .ok (.aload_n 0, 1) := by decide +kernel
theorem dX7_way_70 : decode cX7_way 70 = .ok (.iload_n 1, 1) := by decide +kernel
theorem dX7_way_71 : decode cX7_way 71 = .ok (.iload_n 2, 1) := by decide +kernel
theorem dX7_way_72 : decode cX7_way 72 = .ok (.invokevirtual 142, 3) := by decide +kernel
theorem dX7_way_75 : decode cX7_way 75 = .ok (.goto 4, 3) := by decide +kernel
theorem dX7_way_78 : decode cX7_way 78 = .ok (.iconst (-1), 1) := by decide +kernel
theorem dX7_way_79 : decode cX7_way 79 = .ok (.ireturn, 1) := by decide +kernel
theorem dX7_asked_0 : decode cX7_asked 0 = .ok (.iload_n 3, 1) := by decide +kernel
theorem dX7_asked_1 : decode cX7_asked 1 = .ok (.iconst (-1), 1) := by decide +kernel
theorem dX7_asked_2 : decode cX7_asked 2 = .ok (.if_icmp .ne 10, 3) := by decide +kernel
theorem dX7_asked_5 : decode cX7_asked 5 = .ok (.aload_n 0, 1) := by decide +kernel
theorem dX7_asked_6 : decode cX7_asked 6 = .ok (.iload_n 1, 1) := by decide +kernel
theorem dX7_asked_7 : decode cX7_asked 7 = .ok (.iload_n 2, 1) := by decide +kernel
theorem dX7_asked_8 : decode cX7_asked 8 = .ok (.invokevirtual 149, 3) := by decide +kernel
theorem dX7_asked_11 : decode cX7_asked 11 = .ok (.ireturn, 1) := by decide +kernel
theorem dX7_asked_12 : decode cX7_asked 12 = .ok (.iload_n 3, 1) := by decide +kernel
theorem dX7_asked_13 : decode cX7_asked 13 = .ok (.bipush 12, 2) := by decide +kernel
theorem dX7_asked_15 : decode cX7_asked 15 = .ok (.invokestatic 99, 3) := by decide +kernel
theorem dX7_asked_18 : decode cX7_asked 18 = .ok (.ifCond .eq 29, 3) := by decide +kernel
theorem dX7_asked_21 : decode cX7_asked 21 = .ok (.aload_n 0, 1) := by decide +kernel
theorem dX7_asked_22 : decode cX7_asked 22 = .ok (.getfield 56, 3) := by decide +kernel
theorem dX7_asked_25 : decode cX7_asked 25 = .ok (.aload_n 0, 1) := by decide +kernel
theorem dX7_asked_26 : decode cX7_asked 26 = .ok (.iload_n 1, 1) := by decide +kernel
theorem dX7_asked_27 : decode cX7_asked 27 = .ok (.iload_n 2, 1) := by decide +kernel
theorem dX7_asked_28 : decode cX7_asked 28 = .ok (.iload_n 3, 1) := by decide +kernel
theorem dX7_asked_29 : decode cX7_asked 29 = .ok (.invokevirtual 145, 3) := by decide +kernel
theorem dX7_asked_32 : decode cX7_asked 32 = .ok (.iaload, 1) := by decide +kernel
theorem dX7_asked_33 : decode cX7_asked 33 = .ok (.iconst (-1), 1) := by decide +kernel
theorem dX7_asked_34 : decode cX7_asked 34 = .ok (.if_icmp .eq 13, 3) := by decide +kernel
theorem dX7_asked_37 : decode cX7_asked 37 = .ok (.aload_n 0, 1) := by decide +kernel
theorem dX7_asked_38 : decode cX7_asked 38 = .ok (.iload_n 1, 1) := by decide +kernel
theorem dX7_asked_39 : decode cX7_asked 39 = .ok (.iload_n 2, 1) := by decide +kernel
theorem dX7_asked_40 : decode cX7_asked 40 = .ok (.iload_n 3, 1) := by decide +kernel
theorem dX7_asked_41 : decode cX7_asked 41 = .ok (.invokevirtual 145, 3) := by decide +kernel
theorem dX7_asked_44 : decode cX7_asked 44 = .ok (.goto 4, 3) := by decide +kernel
theorem dX7_asked_47 : decode cX7_asked 47 = .ok (.iconst (-1), 1) := by decide +kernel
theorem dX7_asked_48 : decode cX7_asked 48 = .ok (.ireturn, 1) := by decide +kernel
theorem dX7_label_0 : decode cX7_label 0 = .ok (.aload_n 0, 1) := by decide +kernel
theorem dX7_label_1 : decode cX7_label 1 = .ok (.iconst 0, 1) := by decide +kernel
theorem dX7_label_2 : decode cX7_label 2 = .ok (.putfield 96, 3) := by decide +kernel
theorem dX7_label_5 : decode cX7_label 5 = .ok (.aload_n 0, 1) := by decide +kernel
theorem dX7_label_6 : decode cX7_label 6 = .ok (.iload_n 1, 1) := by decide +kernel
theorem dX7_label_7 : decode cX7_label 7 = .ok (.invokevirtual 189, 3) := by decide +kernel
theorem dX7_label_10 : decode cX7_label 10 = .ok (.ifCond .eq 12, 3) := by decide +kernel
theorem dX7_label_13 : decode cX7_label 13 = .ok (.iload_n 2, 1) := by decide +kernel
theorem dX7_label_14 : decode cX7_label 14 = .ok (.bipush 8, 2) := by decide +kernel
theorem dX7_label_16 : decode cX7_label 16 = .ok (.invokestatic 99, 3) := by decide +kernel
theorem dX7_label_19 : decode cX7_label 19 = .ok (.ifCond .ne 5, 3) := by decide +kernel
theorem dX7_label_22 : decode cX7_label 22 = .ok (.iconst (-1), 1) := by decide +kernel
theorem dX7_label_23 : decode cX7_label 23 = .ok (.ireturn, 1) := by decide +kernel
theorem dX7_label_24 : decode cX7_label 24 = .ok (.aload_n 0, 1) := by decide +kernel
theorem dX7_label_25 : decode cX7_label 25 = .ok (.iload_n 1, 1) := by decide +kernel
theorem dX7_label_26 : decode cX7_label 26 = .ok (.invokevirtual 163, 3) := by decide +kernel
theorem dX7_label_29 : decode cX7_label 29 = .ok (.aload_n 0, 1) := by decide +kernel
theorem dX7_label_30 : decode cX7_label 30 = .ok (.iload_n 1, 1) := by decide +kernel
theorem dX7_label_31 : decode cX7_label 31 = .ok (.iload_n 2, 1) := by decide +kernel
theorem dX7_label_32 : decode cX7_label 32 = .ok (.iload_n 3, 1) := by decide +kernel
theorem dX7_label_33 : decode cX7_label 33 = .ok (.invokevirtual 221, 3) := by decide +kernel
theorem dX7_label_36 : decode cX7_label 36 = .ok (.istore 5, 2) := by decide +kernel
theorem dX7_label_38 : decode cX7_label 38 = .ok (.iload 4, 2) := by decide +kernel
theorem dX7_label_40 : decode cX7_label 40 = .ok (.tableswitch 122 0 4 #[36, 43, 55, 86, 104], 36) := by decide +kernel
theorem dX7_label_76 : decode cX7_label 76 = .ok (.aload_n 0, 1) := by decide +kernel
theorem dX7_label_77 : decode cX7_label 77 = .ok (.iload_n 1, 1) := by decide +kernel
theorem dX7_label_78 : decode cX7_label 78 = .ok (.iload_n 2, 1) := by decide +kernel
theorem dX7_label_79 : decode cX7_label 79 = .ok (.invokevirtual 139, 3) := by decide +kernel
theorem dX7_label_82 : decode cX7_label 82 = .ok (.ireturn, 1) := by decide +kernel
theorem dX7_label_83 : decode cX7_label 83 = .ok (.aload_n 0, 1) := by decide +kernel
theorem dX7_label_84 : decode cX7_label 84 = .ok (.getfield 62, 3) := by decide +kernel
theorem dX7_label_87 : decode cX7_label 87 = .ok (.bipush 8, 2) := by decide +kernel
theorem dX7_label_89 : decode cX7_label 89 = .ok (.iload_n 1, 1) := by decide +kernel
theorem dX7_label_90 : decode cX7_label 90 = .ok (.imul, 1) := by decide +kernel
theorem dX7_label_91 : decode cX7_label 91 = .ok (.iload_n 2, 1) := by decide +kernel
theorem dX7_label_92 : decode cX7_label 92 = .ok (.iadd, 1) := by decide +kernel
theorem dX7_label_93 : decode cX7_label 93 = .ok (.iaload, 1) := by decide +kernel
theorem dX7_label_94 : decode cX7_label 94 = .ok (.ireturn, 1) := by decide +kernel
theorem dX7_label_95 : decode cX7_label 95 = .ok (.aload_n 0, 1) := by decide +kernel
theorem dX7_label_96 : decode cX7_label 96 = .ok (.getfield 62, 3) := by decide +kernel
theorem dX7_label_99 : decode cX7_label 99 = .ok (.bipush 8, 2) := by decide +kernel
theorem dX7_label_101 : decode cX7_label 101 = .ok (.iload_n 1, 1) := by decide +kernel
theorem dX7_label_102 : decode cX7_label 102 = .ok (.imul, 1) := by decide +kernel
theorem dX7_label_103 : decode cX7_label 103 = .ok (.iload_n 2, 1) := by decide +kernel
theorem dX7_label_104 : decode cX7_label 104 = .ok (.iadd, 1) := by decide +kernel
theorem dX7_label_105 : decode cX7_label 105 = .ok (.iaload, 1) := by decide +kernel
theorem dX7_label_106 : decode cX7_label 106 = .ok (.iconst (-1), 1) := by decide +kernel
theorem dX7_label_107 : decode cX7_label 107 = .ok (.if_icmp .ne 7, 3) := by decide +kernel
theorem dX7_label_110 : decode cX7_label 110 = .ok (.iconst (-1), 1) := by decide +kernel
theorem dX7_label_111 : decode cX7_label 111 = .ok (.goto 14, 3) := by decide +kernel
theorem dX7_label_114 : decode cX7_label 114 = .ok (.aload_n 0, 1) := by decide +kernel
theorem dX7_label_115 : decode cX7_label 115 = .ok (.getfield 65, 3) := by decide +kernel
theorem dX7_label_118 : decode cX7_label 118 = .ok (.bipush 8, 2) := by decide +kernel
theorem dX7_label_120 : decode cX7_label 120 = .ok (.iload_n 1, 1) := by decide +kernel
theorem dX7_label_121 : decode cX7_label 121 = .ok (.imul, 1) := by decide +kernel
theorem dX7_label_122 : decode cX7_label 122 = .ok (.iload_n 2, 1) := by decide +kernel
theorem dX7_label_123 : decode cX7_label 123 = .ok (.iadd, 1) := by decide +kernel
theorem dX7_label_124 : decode cX7_label 124 = .ok (.iaload, 1) := by decide +kernel
theorem dX7_label_125 : decode cX7_label 125 = .ok (.ireturn, 1) := by decide +kernel
theorem dX7_label_126 : decode cX7_label 126 = .ok (.iload 5, 2) := by decide +kernel
theorem dX7_label_128 : decode cX7_label 128 = .ok (.iconst (-1), 1) := by decide +kernel
theorem dX7_label_129 : decode cX7_label 129 = .ok (.if_icmp .ne 7, 3) := by decide +kernel
theorem dX7_label_132 : decode cX7_label 132 = .ok (.iconst (-1), 1) := by decide +kernel
theorem dX7_label_133 : decode cX7_label 133 = .ok (.goto 10, 3) := by decide +kernel
theorem dX7_label_136 : decode cX7_label 136 = .ok (.aload_n 0, 1) := by decide +kernel
theorem dX7_label_137 : decode cX7_label 137 = .ok (.getfield 56, 3) := by decide +kernel
theorem dX7_label_140 : decode cX7_label 140 = .ok (.iload 5, 2) := by decide +kernel
theorem dX7_label_142 : decode cX7_label 142 = .ok (.iaload, 1) := by decide +kernel
theorem dX7_label_143 : decode cX7_label 143 = .ok (.ireturn, 1) := by decide +kernel
theorem dX7_label_144 : decode cX7_label 144 = .ok (.iload 5, 2) := by decide +kernel
theorem dX7_label_146 : decode cX7_label 146 = .ok (.iconst (-1), 1) := by decide +kernel
theorem dX7_label_147 : decode cX7_label 147 = .ok (.if_icmp .ne 7, 3) := by decide +kernel
theorem dX7_label_150 : decode cX7_label 150 = .ok (.iconst (-1), 1) := by decide +kernel
theorem dX7_label_151 : decode cX7_label 151 = .ok (.goto 10, 3) := by decide +kernel
theorem dX7_label_154 : decode cX7_label 154 = .ok (.aload_n 0, 1) := by decide +kernel
theorem dX7_label_155 : decode cX7_label 155 = .ok (.getfield 59, 3) := by decide +kernel
theorem dX7_label_158 : decode cX7_label 158 = .ok (.iload 5, 2) := by decide +kernel
theorem dX7_label_160 : decode cX7_label 160 = .ok (.iaload, 1) := by decide +kernel
theorem dX7_label_161 : decode cX7_label 161 = .ok (.ireturn, 1) := by decide +kernel
theorem dX7_label_162 : decode cX7_label 162 = .ok (.iconst (-1), 1) := by decide +kernel
theorem dX7_label_163 : decode cX7_label 163 = .ok (.ireturn, 1) := by decide +kernel
theorem dX7_count_0 : decode cX7_count 0 = .ok (.aload_n 0, 1) := by decide +kernel
theorem dX7_count_1 : decode cX7_count 1 = .ok (.iconst 0, 1) := by decide +kernel
theorem dX7_count_2 : decode cX7_count 2 = .ok (.putfield 96, 3) := by decide +kernel
theorem dX7_count_5 : decode cX7_count 5 = .ok (.iconst 0, 1) := by decide +kernel
theorem dX7_count_6 : decode cX7_count 6 = .ok (.istore_n 3, 1) := by decide +kernel
theorem dX7_count_7 : decode cX7_count 7 = .ok (.iload_n 2, 1) := by decide +kernel
theorem dX7_count_8 : decode cX7_count 8 = .ok (.tableswitch 172 0 3 #[32, 93, 98, 136], 32) := by decide +kernel
theorem dX7_count_40 : decode cX7_count 40 = .ok (.iconst 0, 1) := by decide +kernel
theorem dX7_count_41 : decode cX7_count 41 = .ok (.istore 4, 2) := by decide +kernel
theorem dX7_count_43 : decode cX7_count 43 = .ok (.iload 4, 2) := by decide +kernel
theorem dX7_count_45 : decode cX7_count 45 = .ok (.bipush 64, 2) := by decide +kernel
theorem dX7_count_47 : decode cX7_count 47 = .ok (.if_icmp .ge 40, 3) := by decide +kernel
theorem dX7_count_50 : decode cX7_count 50 = .ok (.aload_n 0, 1) := by decide +kernel
theorem dX7_count_51 : decode cX7_count 51 = .ok (.iload_n 1, 1) := by decide +kernel
theorem dX7_count_52 : decode cX7_count 52 = .ok (.invokevirtual 189, 3) := by decide +kernel
theorem dX7_count_55 : decode cX7_count 55 = .ok (.ifCond .eq 32, 3) := by decide +kernel
theorem dX7_count_58 : decode cX7_count 58 = .ok (.aload_n 0, 1) := by decide +kernel
theorem dX7_count_59 : decode cX7_count 59 = .ok (.getfield 68, 3) := by decide +kernel
theorem dX7_count_62 : decode cX7_count 62 = .ok (.bipush 64, 2) := by decide +kernel
theorem dX7_count_64 : decode cX7_count 64 = .ok (.iload_n 1, 1) := by decide +kernel
theorem dX7_count_65 : decode cX7_count 65 = .ok (.imul, 1) := by decide +kernel
theorem dX7_count_66 : decode cX7_count 66 = .ok (.iload 4, 2) := by decide +kernel
theorem dX7_count_68 : decode cX7_count 68 = .ok (.iadd, 1) := by decide +kernel
theorem dX7_count_69 : decode cX7_count 69 = .ok (.iaload, 1) := by decide +kernel
theorem dX7_count_70 : decode cX7_count 70 = .ok (.ifCond .le 9, 3) := by decide +kernel
theorem dX7_count_73 : decode cX7_count 73 = .ok (.iload_n 3, 1) := by decide +kernel
theorem dX7_count_74 : decode cX7_count 74 = .ok (.iconst 1, 1) := by decide +kernel
theorem dX7_count_75 : decode cX7_count 75 = .ok (.iadd, 1) := by decide +kernel
theorem dX7_count_76 : decode cX7_count 76 = .ok (.goto 4, 3) := by decide +kernel
theorem dX7_count_79 : decode cX7_count 79 = .ok (.iload_n 3, 1) := by decide +kernel
theorem dX7_count_80 : decode cX7_count 80 = .ok (.istore_n 3, 1) := by decide +kernel
theorem dX7_count_81 : decode cX7_count 81 = .ok (.iinc 4 1, 3) := by decide +kernel
theorem dX7_count_84 : decode cX7_count 84 = .ok (.goto (-41), 3) := by decide +kernel
theorem dX7_count_87 : decode cX7_count 87 = .ok (.aload_n 0, 1) := by decide +kernel
theorem dX7_count_88 : decode cX7_count 88 = .ok (.iload_n 1, 1) := by decide +kernel
theorem dX7_count_89 : decode cX7_count 89 = .ok (.invokevirtual 189, 3) := by decide +kernel
theorem dX7_count_92 : decode cX7_count 92 = .ok (.ifCond .eq 7, 3) := by decide +kernel
theorem dX7_count_95 : decode cX7_count 95 = .ok (.iload_n 3, 1) := by decide +kernel
theorem dX7_count_96 : decode cX7_count 96 = .ok (.goto 4, 3) := by decide +kernel
theorem dX7_count_99 : decode cX7_count 99 = .ok (.iconst (-1), 1) := by decide +kernel
theorem dX7_count_100 : decode cX7_count 100 = .ok (.ireturn, 1) := by decide +kernel
theorem dX7_count_101 : decode cX7_count 101 = .ok (.aload_n 0, 1) := by decide +kernel
theorem dX7_count_102 : decode cX7_count 102 = .ok (.getfield 107, 3) := by decide +kernel
theorem dX7_count_105 : decode cX7_count 105 = .ok (.ireturn, 1) := by decide +kernel
theorem dX7_count_106 : decode cX7_count 106 = .ok (.iconst 0, 1) := by decide +kernel
theorem dX7_count_107 : decode cX7_count 107 = .ok (.istore 4, 2) := by decide +kernel
theorem dX7_count_109 : decode cX7_count 109 = .ok (.iload 4, 2) := by decide +kernel
theorem dX7_count_111 : decode cX7_count 111 = .ok (.aload_n 0, 1) := by decide +kernel
theorem dX7_count_112 : decode cX7_count 112 = .ok (.getfield 218, 3) := by decide +kernel
theorem dX7_count_115 : decode cX7_count 115 = .ok (.if_icmp .ge 27, 3) := by decide +kernel
theorem dX7_count_118 : decode cX7_count 118 = .ok (.aload_n 0, 1) := by decide +kernel
theorem dX7_count_119 : decode cX7_count 119 = .ok (.getfield 83, 3) := by decide +kernel
theorem dX7_count_122 : decode cX7_count 122 = .ok (.iload 4, 2) := by decide +kernel
theorem dX7_count_124 : decode cX7_count 124 = .ok (.iaload, 1) := by decide +kernel
theorem dX7_count_125 : decode cX7_count 125 = .ok (.ifCond .ne 9, 3) := by decide +kernel
theorem dX7_count_128 : decode cX7_count 128 = .ok (.iload_n 3, 1) := by decide +kernel
theorem dX7_count_129 : decode cX7_count 129 = .ok (.iconst 1, 1) := by decide +kernel
theorem dX7_count_130 : decode cX7_count 130 = .ok (.iadd, 1) := by decide +kernel
theorem dX7_count_131 : decode cX7_count 131 = .ok (.goto 4, 3) := by decide +kernel
theorem dX7_count_134 : decode cX7_count 134 = .ok (.iload_n 3, 1) := by decide +kernel
theorem dX7_count_135 : decode cX7_count 135 = .ok (.istore_n 3, 1) := by decide +kernel
theorem dX7_count_136 : decode cX7_count 136 = .ok (.iinc 4 1, 3) := by decide +kernel
theorem dX7_count_139 : decode cX7_count 139 = .ok (.goto (-30), 3) := by decide +kernel
theorem dX7_count_142 : decode cX7_count 142 = .ok (.iload_n 3, 1) := by decide +kernel
theorem dX7_count_143 : decode cX7_count 143 = .ok (.ireturn, 1) := by decide +kernel
theorem dX7_count_144 : decode cX7_count 144 = .ok (.iconst 0, 1) := by decide +kernel
theorem dX7_count_145 : decode cX7_count 145 = .ok (.istore 4, 2) := by decide +kernel
theorem dX7_count_147 : decode cX7_count 147 = .ok (.iload 4, 2) := by decide +kernel
theorem dX7_count_149 : decode cX7_count 149 = .ok (.bipush 12, 2) := by decide +kernel
theorem dX7_count_151 : decode cX7_count 151 = .ok (.if_icmp .ge 27, 3) := by decide +kernel
theorem dX7_count_154 : decode cX7_count 154 = .ok (.aload_n 0, 1) := by decide +kernel
theorem dX7_count_155 : decode cX7_count 155 = .ok (.getfield 13, 3) := by decide +kernel
theorem dX7_count_158 : decode cX7_count 158 = .ok (.iload 4, 2) := by decide +kernel
theorem dX7_count_160 : decode cX7_count 160 = .ok (.baload, 1) := by decide +kernel
theorem dX7_count_161 : decode cX7_count 161 = .ok (.ifCond .eq 9, 3) := by decide +kernel
theorem dX7_count_164 : decode cX7_count 164 = .ok (.iload_n 3, 1) := by decide +kernel
theorem dX7_count_165 : decode cX7_count 165 = .ok (.iconst 1, 1) := by decide +kernel
theorem dX7_count_166 : decode cX7_count 166 = .ok (.iadd, 1) := by decide +kernel
theorem dX7_count_167 : decode cX7_count 167 = .ok (.goto 4, 3) := by decide +kernel
theorem dX7_count_170 : decode cX7_count 170 = .ok (.iload_n 3, 1) := by decide +kernel
theorem dX7_count_171 : decode cX7_count 171 = .ok (.istore_n 3, 1) := by decide +kernel
theorem dX7_count_172 : decode cX7_count 172 = .ok (.iinc 4 1, 3) := by decide +kernel
theorem dX7_count_175 : decode cX7_count 175 = .ok (.goto (-28), 3) := by decide +kernel
theorem dX7_count_178 : decode cX7_count 178 = .ok (.iload_n 3, 1) := by decide +kernel
theorem dX7_count_179 : decode cX7_count 179 = .ok (.ireturn, 1) := by decide +kernel
theorem dX7_count_180 : decode cX7_count 180 = .ok (.iconst (-1), 1) := by decide +kernel
theorem dX7_count_181 : decode cX7_count 181 = .ok (.ireturn, 1) := by decide +kernel
end
section
section TWX
variable {l : Launch} {D : va_G} {M : tM} {Q : Nat → tL → List tV → List tC → Prop} {kc ks pc : Nat} {loc : tL} {st : List tV} {h : List tC}
variable {N : Nat} {pk : Int} {τ : List Nat}
theorem tw_iconst {n : Int} (hd : decode M.2.1 pc = .ok (.iconst n, 1)) (hc : (Int32.ofInt n).toInt = n) (k : ∀ z : Int32, z.toInt = n → TT l D M Q kc ks (pc + 1) loc (.inl z :: st) h) : TT l D M Q kc ks pc loc st h := tt_iconst hd (k _ hc)
theorem tw_bipush {n : Int} (hd : decode M.2.1 pc = .ok (.bipush n, 2)) (hc : ((Int8.ofInt n).toInt32).toInt = n) (k : ∀ z : Int32, z.toInt = n → TT l D M Q kc ks (pc + 2) loc (.inl z :: st) h) : TT l D M Q kc ks pc loc st h := tt_bipush hd (k _ hc)
theorem tw_sipush {n : Int} (hd : decode M.2.1 pc = .ok (.sipush n, 3)) (hc : ((Int16.ofInt n).toInt32).toInt = n) (k : ∀ z : Int32, z.toInt = n → TT l D M Q kc ks (pc + 3) loc (.inl z :: st) h) : TT l D M Q kc ks pc loc st h := tt_sipush hd (k _ hc)
theorem tw_ldc {own : String} {index : Nat} {v : Int32} {n : Int} (hd : decode M.2.1 pc = .ok (.ldc index, 2)) (ho : M.1 = own) (hw0 : Jvm.Cond.constant own index v ∈ lw_good) (hc : v.toInt = n) (k : ∀ z : Int32, z.toInt = n → TT l D M Q kc ks (pc + 2) loc (.inl z :: st) h) : TT l D M Q kc ks pc loc st h := tt_ldc hd ho hw0 (k _ hc)
theorem i_ofI {n : Int} (h : -2147483648 ≤ n ∧ n ≤ 2147483647) : (Int32.ofInt n).toInt = n := Int32.toInt_ofInt_of_le (by omega) (by omega)
theorem tw_iinc {i : Nat} {n : Int} {x : Int32} (hd : decode M.2.1 pc = .ok (.iinc i n, 3)) (hm : (i, Sum.inl x) ∈ loc) (hn : i < M.2.2.1) (h1 : -100000 ≤ n ∧ n ≤ 100000) (h2 : -2000000000 ≤ x.toInt ∧ x.toInt ≤ 2000000000) (k : ∀ z : Int32, z.toInt = x.toInt + n → TT l D M Q kc ks (pc + 3) (tSt loc i (.inl z)) st h) : TT l D M Q kc ks pc loc st h := by
  refine tt_iinc hd hm hn (k _ ?_)
  have e := i_ofI (n := n) (by omega)
  rw [i_add (by rw [e]; omega), e]
theorem tw_imul2 {x y : Int32} {c : Int} (hd : decode M.2.1 pc = .ok (.imul, 1)) (hc : y.toInt = c) (h1 : -2147483648 ≤ x.toInt * c ∧ x.toInt * c ≤ 2147483647) (k : ∀ z : Int32, z.toInt = x.toInt * c → TT l D M Q kc ks (pc + 1) loc (.inl z :: st) h) : TT l D M Q kc ks pc loc (.inl y :: .inl x :: st) h := tt_imul hd (k _ (by subst hc; exact i_mul h1))
theorem tw_tableK {dflt lo hi c off : Int} {offs : Array Int} {len tgt : Nat} {x : Int32} (hd : decode M.2.1 pc = .ok (.tableswitch dflt lo hi offs, len)) (hz : hi - lo < offs.size) (hx : x.toInt = c) (h1 : lo ≤ c) (h2 : c ≤ hi) (ho : offs[(c - lo).toNat]? = some off) (ht : (pc : Int) + off = (tgt : Int)) (k : TT l D M Q kc ks tgt loc st h) : TT l D M Q kc ks pc loc (.inl x :: st) h := by
  refine tt_table hd hz ?_ k
  unfold ttab
  rw [hx, if_neg (by omega), ho]
  exact ht
theorem tw_tableD {dflt lo hi : Int} {offs : Array Int} {len tgt : Nat} {x : Int32} (hd : decode M.2.1 pc = .ok (.tableswitch dflt lo hi offs, len)) (hz : hi - lo < offs.size) (hx : x.toInt < lo ∨ hi < x.toInt) (ht : (pc : Int) + dflt = (tgt : Int)) (k : TT l D M Q kc ks tgt loc st h) : TT l D M Q kc ks pc loc (.inl x :: st) h := by
  refine tt_table hd hz ?_ k
  unfold ttab
  rw [if_pos hx]
  exact ht
theorem tw_callV {idx ci N' F L mc ms n np a : Nat} {T : u_T} {y : MethodName} {b : ByteArray} {r : Option FieldType} {as : List tV} {Qc : Option tV → List tC → Prop} (hw : WT N pk τ h) (ht : τ[a]? = some ci) (hc : ci < 8) (hd : decode M.2.1 pc = .ok (.invokevirtual idx, 3)) (hk : tLk M.1 idx y b n r np) (hi : Cond.instanceMethod y ∈ lw_good) (hsel : Cond.selects y.cls y y ∈ lw_good) (hC : vwCl[ci]? = some (y.cls, T, N')) (hn : as.length = np) (hF : F + 1 ≤ M.2.2.2.1) (hL : 8 + (n + 11) + L ≤ M.2.2.2.2.1) (hst : st.length ≤ 8)
    (hM : TMc l D y b n r F L mc ms (.inr (some a) :: as) h Qc) (kk : ∀ rv h', Qc rv h' → TT l D M Q kc ks (pc + 3) loc (rv.toList ++ st) h') : TT l D M Q (mc + kc) (ms + ks) pc loc (as.reverse ++ .inr (some a) :: st) h := by
  obtain ⟨fs, h1, -⟩ := wt_obj hw ht hc
  exact tt_callV hd hk hi hsel hC h1 hn hF hL hst hM kk
theorem bool01 {x : Int32} (h0 : 0 ≤ x.toInt) (h1 : x.toInt ≤ 1) : x = 0 ∨ x = 1 := by
  have hx : x.toInt = 0 ∨ x.toInt = 1 := by omega
  rcases hx with hx | hx
  · exact Or.inl (Int32.toInt_inj.mp hx)
  · exact Or.inr (Int32.toInt_inj.mp hx)
theorem tfb {x : Int32} (h0 : 0 ≤ x.toInt) (h1 : x.toInt ≤ 1) : tfits .boolean (.inl x) = true := by
  rcases bool01 h0 h1 with rfl | rfl <;> rfl
theorem tw_iincA {i : Nat} {n : Int} {x : Int32} (hd : decode M.2.1 pc = .ok (.iinc i n, 3)) (hm : (i, Sum.inl x) ∈ loc) (hn : i < M.2.2.1) (k : ∀ z : Int32, TT l D M Q kc ks (pc + 3) (tSt loc i (.inl z)) st h) : TT l D M Q kc ks pc loc st h := tt_iinc hd hm hn (k _)
theorem tt_loc (loc' : tL) (hs : ∀ q ∈ loc', q ∈ loc) (k : TT l D M Q kc ks pc loc' st h) : TT l D M Q kc ks pc loc st h := by
  intro p e R s m args below meth c A H0 QQ F H locs cells slots ls sv ws tys hw hl hs' hc hsl K
  obtain ⟨lv, h1, h2⟩ := hl
  exact k p e R s m args below meth c A H0 QQ F H locs cells slots ls sv ws tys hw ⟨lv, h1, fun q hq => h2 q (hs q hq)⟩ hs' hc hsl K
theorem i_min {x y : Int32} : ((if y < x then y else x).toInt = x.toInt ∨ (if y < x then y else x).toInt = y.toInt) ∧ (if y < x then y else x).toInt ≤ x.toInt ∧ (if y < x then y else x).toInt ≤ y.toInt := by
  by_cases c : y < x
  · rw [if_pos c]
    have := Int32.lt_iff_toInt_lt.mp c
    omega
  · rw [if_neg c]
    have : ¬ y.toInt < x.toInt := fun z => c (Int32.lt_iff_toInt_lt.mpr z)
    omega
theorem i_max {x y : Int32} : ((if x < y then y else x).toInt = x.toInt ∨ (if x < y then y else x).toInt = y.toInt) ∧ x.toInt ≤ (if x < y then y else x).toInt ∧ y.toInt ≤ (if x < y then y else x).toInt := by
  by_cases c : x < y
  · rw [if_pos c]
    have := Int32.lt_iff_toInt_lt.mp c
    omega
  · rw [if_neg c]
    have : ¬ x.toInt < y.toInt := fun z => c (Int32.lt_iff_toInt_lt.mpr z)
    omega
theorem tw_minv {x y : Int32} (k : ∀ z : Int32, (z.toInt = x.toInt ∨ z.toInt = y.toInt) ∧ z.toInt ≤ x.toInt ∧ z.toInt ≤ y.toInt → TT l D M Q kc ks pc loc (.inl z :: st) h) : TT l D M Q kc ks pc loc (.inl (if y < x then y else x) :: st) h := k _ i_min
theorem tw_maxv {x y : Int32} (k : ∀ z : Int32, (z.toInt = x.toInt ∨ z.toInt = y.toInt) ∧ x.toInt ≤ z.toInt ∧ y.toInt ≤ z.toInt → TT l D M Q kc ks pc loc (.inl z :: st) h) : TT l D M Q kc ks pc loc (.inl (if x < y then y else x) :: st) h := k _ i_max
/-- a message's subject, its kind being known -/
theorem tw_subj7 {idx a : Nat} {ty : FieldType} {fin : Bool} (hd : decode M.2.1 pc = .ok (.getfield idx, 3)) (hf : tFd M.1 idx 1 1 ty fin) (hw : WT N pk τ h) (ht : τ[a]? = some 1) (hk : ∀ (fs : List tV) (x : Int32), h[a]? = some (.inr (.inr (1, fs))) → fs[0]? = some (.inl x) → x.toInt ≠ 4)
    (kk : ∀ (fs : List tV) (x : Int32), h[a]? = some (.inr (.inr (1, fs))) → fs[1]? = some (.inl x) → 0 ≤ x.toInt → x.toInt ≤ 7 → TT l D M Q kc ks (pc + 3) loc (.inl x :: st) h) : TT l D M Q kc ks pc loc (.inr (some a) :: st) h := by
  obtain ⟨fs, h1, h2, h3, h4⟩ := wt_obj hw ht (by decide)
  obtain ⟨v, h5, h6⟩ := h3 0 _ rfl
  obtain ⟨u, h7, h8⟩ := h3 1 _ rfl
  match v, h5, h6, u, h7, h8 with
  | .inl x, h5, h6, .inl y, h7, h8 => exact tt_get hd hf h1 h7 (kk fs y h1 h7 h8.1 ((h4 rfl x y h5 h7).1 (hk fs x h1 h5)))
  | .inr none, _, h6, _, _, _ => exact h6.elim
  | .inr (some q), _, h6, _, _, _ => exact h6.elim
  | .inl x, _, _, .inr none, _, h8 => exact h8.elim
  | .inl x, _, _, .inr (some q), _, h8 => exact h8.elim
theorem tw_subjp {idx a : Nat} {ty : FieldType} {fin : Bool} (hd : decode M.2.1 pc = .ok (.getfield idx, 3)) (hf : tFd M.1 idx 1 1 ty fin) (hw : WT N pk τ h) (ht : τ[a]? = some 1) (hk : ∀ (fs : List tV) (x : Int32), h[a]? = some (.inr (.inr (1, fs))) → fs[0]? = some (.inl x) → x.toInt = 4)
    (kk : ∀ (fs : List tV) (x : Int32), h[a]? = some (.inr (.inr (1, fs))) → fs[1]? = some (.inl x) → 0 ≤ x.toInt → x.toInt ≤ pk - 1 → TT l D M Q kc ks (pc + 3) loc (.inl x :: st) h) : TT l D M Q kc ks pc loc (.inr (some a) :: st) h := by
  obtain ⟨fs, h1, h2, h3, h4⟩ := wt_obj hw ht (by decide)
  obtain ⟨v, h5, h6⟩ := h3 0 _ rfl
  obtain ⟨u, h7, h8⟩ := h3 1 _ rfl
  match v, h5, h6, u, h7, h8 with
  | .inl x, h5, h6, .inl y, h7, h8 =>
    have := (h4 rfl x y h5 h7).2 (hk fs x h1 h5)
    exact tt_get hd hf h1 h7 (kk fs y h1 h7 h8.1 (by omega))
  | .inr none, _, h6, _, _, _ => exact h6.elim
  | .inr (some q), _, h6, _, _, _ => exact h6.elim
  | .inl x, _, _, .inr none, _, h8 => exact h8.elim
  | .inl x, _, _, .inr (some q), _, h8 => exact h8.elim
end TWX
/-- what methods of the system keep: all of the reference; laid, up, attachedTo, routers and links, packetCount by WT -/
def PX (r j : Nat) : Bool := decide (30 ≤ r) || r == 7 || r == 8 || r == 9 || r == 10 || (r == 0 && decide (j ≤ 1)) || (r == 6 && j != 5)
/-- what methods of the reference keep: all of the system; laid, up, low, high, cost, attached -/
def PM (r j : Nat) : Bool := (decide (r < 30) && r != 7) || (decide (32 ≤ r) && decide (r ≤ 37)) || (r == 7 && j != 0 && j != 17 && j != 24)
end
section
abbrev mX0_isUpAt : tM := (RX0, cX0_isUpAt, 2, 0, 0, false)
set_option maxHeartbeats 4000000 in
theorem g_X0_isUpAt {l : Launch} {D : va_G} {N : Nat} {pk : Int} {τ : List Nat} (hN2 : 2 ≤ N) (hN8 : N ≤ 8) (hp0 : 0 ≤ pk) (hp64 : pk ≤ 64) {h : List tC} (hw : WT N pk τ h) (a0 : Nat) (ta0 : τ[a0]? = some 0) (a1 : Int32) : TMc l D yX0_isUpAt cX0_isUpAt 2 (some .boolean) 0 0 0 0 [.inr (some a0), .inl a1] h (fun rv h' => h = h' ∧ ∃ x : Int32, rv = some (.inl x) ∧ 0 ≤ x.toInt ∧ x.toInt ≤ 1) := by
  refine tmc_of false rfl (by decide) (Nat.le_of_ble_eq_true rfl) ?_
  suffices HQ : ∀ Q0, Q0 = tRt cX0_isUpAt (some .boolean) (fun rv h' => h = h' ∧ ∃ x : Int32, rv = some (.inl x) ∧ 0 ≤ x.toInt ∧ x.toInt ≤ 1) → TT l D mX0_isUpAt Q0 0 0 0 [(0, .inr (some a0)), (1, .inl a1)] [] h from HQ _ rfl
  intro Q0 hQ
  have B27 : TT l D mX0_isUpAt Q0 0 0 27 [] [] h := by
    refine tw_iconst (pc := 27) dX0_isUpAt_27 (by decide) (fun x12 ex12 => ?_)
    refine tt_stop ?_
    rw [hQ]
    exact Or.inr (Or.inl ⟨x12, dX0_isUpAt_28, rfl, Or.inr ⟨rfl, bool01 (by omega) (by omega)⟩, rfl, x12, rfl, by omega, by omega⟩)
  have B23 : TT l D mX0_isUpAt Q0 0 0 23 [] [] h := by
    refine tw_iconst (pc := 23) dX0_isUpAt_23 (by decide) (fun x13 ex13 => ?_)
    refine tt_goto (tgt := 28) (pc := 24) dX0_isUpAt_24 (by decide) ?_
    refine tt_stop ?_
    rw [hQ]
    exact Or.inr (Or.inl ⟨x13, dX0_isUpAt_28, rfl, Or.inr ⟨rfl, bool01 (by omega) (by omega)⟩, rfl, x13, rfl, by omega, by omega⟩)
  have ba1 := i_ty a1
  refine tt_aload_n (pc := 0) dX0_isUpAt_0 (.head _) ?_
  refine tw_geti (pc := 1) dX0_isUpAt_1 flX0_15 hw ta0 (by decide) rfl (fun f14 x15 ef14 gf14 lx15 ux15 => ?_)
  refine tw_if (tgt := 27) (pc := 4) dX0_isUpAt_4 (by decide) (fun (c16 : x15.toInt = 0) => ?_) (fun (c16 : ¬ (x15.toInt = 0)) => ?_)
  · skip
    refine tt_loc [] (fun _ z => absurd z List.not_mem_nil) ?_
    exact B27 
  · skip
    refine tt_iload_n (pc := 7) dX0_isUpAt_7 (.tail _ (.head _)) ?_
    refine tt_aload_n (pc := 8) dX0_isUpAt_8 (.head _) ?_
    refine tw_geti (pc := 9) dX0_isUpAt_9 flX0_18 hw ta0 (by decide) rfl (fun f17 x18 ef17 gf17 lx18 ux18 => ?_)
    refine tw_icmp (tgt := 23) (pc := 12) dX0_isUpAt_12 (by decide) (fun (c19 : a1.toInt = x18.toInt) => ?_) (fun (c19 : ¬ (a1.toInt = x18.toInt)) => ?_)
    · skip
      refine tt_loc [] (fun _ z => absurd z List.not_mem_nil) ?_
      exact B23 
    · skip
      refine tt_iload_n (pc := 15) dX0_isUpAt_15 (.tail _ (.head _)) ?_
      refine tt_aload_n (pc := 16) dX0_isUpAt_16 (.head _) ?_
      refine tw_geti (pc := 17) dX0_isUpAt_17 flX0_22 hw ta0 (by decide) rfl (fun f20 x21 ef20 gf20 lx21 ux21 => ?_)
      refine tw_icmp (tgt := 27) (pc := 20) dX0_isUpAt_20 (by decide) (fun (c22 : a1.toInt ≠ x21.toInt) => ?_) (fun (c22 : ¬ (a1.toInt ≠ x21.toInt)) => ?_)
      · skip
        refine tt_loc [] (fun _ z => absurd z List.not_mem_nil) ?_
        exact B27 
      · skip
        refine tt_loc [] (fun _ z => absurd z List.not_mem_nil) ?_
        exact B23 
abbrev mX0_otherEnd : tM := (RX0, cX0_otherEnd, 2, 0, 0, false)
set_option maxHeartbeats 4000000 in
theorem g_X0_otherEnd {l : Launch} {D : va_G} {N : Nat} {pk : Int} {τ : List Nat} (hN2 : 2 ≤ N) (hN8 : N ≤ 8) (hp0 : 0 ≤ pk) (hp64 : pk ≤ 64) {h : List tC} (hw : WT N pk τ h) (a0 : Nat) (ta0 : τ[a0]? = some 0) (a1 : Int32) : TMc l D yX0_otherEnd cX0_otherEnd 2 (some .int) 0 0 0 0 [.inr (some a0), .inl a1] h (fun rv h' => h = h' ∧ ∃ x : Int32, rv = some (.inl x) ∧ 0 ≤ x.toInt ∧ x.toInt ≤ (N : Int) - 1) := by
  refine tmc_of false rfl (by decide) (Nat.le_of_ble_eq_true rfl) ?_
  suffices HQ : ∀ Q0, Q0 = tRt cX0_otherEnd (some .int) (fun rv h' => h = h' ∧ ∃ x : Int32, rv = some (.inl x) ∧ 0 ≤ x.toInt ∧ x.toInt ≤ (N : Int) - 1) → TT l D mX0_otherEnd Q0 0 0 0 [(0, .inr (some a0)), (1, .inl a1)] [] h from HQ _ rfl
  intro Q0 hQ
  have ba1 := i_ty a1
  refine tt_iload_n (pc := 0) dX0_otherEnd_0 (.tail _ (.head _)) ?_
  refine tt_aload_n (pc := 1) dX0_otherEnd_1 (.head _) ?_
  refine tw_geti (pc := 2) dX0_otherEnd_2 flX0_18 hw ta0 (by decide) rfl (fun f6 x7 ef6 gf6 lx7 ux7 => ?_)
  refine tw_icmp (tgt := 15) (pc := 5) dX0_otherEnd_5 (by decide) (fun (c8 : a1.toInt ≠ x7.toInt) => ?_) (fun (c8 : ¬ (a1.toInt ≠ x7.toInt)) => ?_)
  · skip
    refine tt_aload_n (pc := 15) dX0_otherEnd_15 (.head _) ?_
    refine tt_get (pc := 16) dX0_otherEnd_16 flX0_18 ef6 gf6 ?_
    refine tt_stop ?_
    rw [hQ]
    exact Or.inr (Or.inl ⟨x7, dX0_otherEnd_19, rfl, Or.inl rfl, rfl, x7, rfl, by omega, by omega⟩)
  · skip
    refine tt_aload_n (pc := 8) dX0_otherEnd_8 (.head _) ?_
    refine tw_geti (pc := 9) dX0_otherEnd_9 flX0_22 hw ta0 (by decide) rfl (fun f9 x10 ef9 gf9 lx10 ux10 => ?_)
    refine tt_goto (tgt := 19) (pc := 12) dX0_otherEnd_12 (by decide) ?_
    refine tt_stop ?_
    rw [hQ]
    exact Or.inr (Or.inl ⟨x10, dX0_otherEnd_19, rfl, Or.inl rfl, rfl, x10, rfl, by omega, by omega⟩)
abbrev mX0_queueOf : tM := (RX0, cX0_queueOf, 2, 0, 0, false)
set_option maxHeartbeats 4000000 in
theorem g_X0_queueOf {l : Launch} {D : va_G} {N : Nat} {pk : Int} {τ : List Nat} (hN2 : 2 ≤ N) (hN8 : N ≤ 8) (hp0 : 0 ≤ pk) (hp64 : pk ≤ 64) {h : List tC} (hw : WT N pk τ h) (a0 : Nat) (ta0 : τ[a0]? = some 0) (a1 : Int32) : TMc l D yX0_queueOf cX0_queueOf 2 (some (.object "LabelNet$MessageQueue")) 0 0 0 0 [.inr (some a0), .inl a1] h (fun rv h' => h = h' ∧ ∃ q : Nat, rv = some (.inr (some q)) ∧ τ[q]? = some 2) := by
  refine tmc_of false rfl (by decide) (Nat.le_of_ble_eq_true rfl) ?_
  suffices HQ : ∀ Q0, Q0 = tRt cX0_queueOf (some (.object "LabelNet$MessageQueue")) (fun rv h' => h = h' ∧ ∃ q : Nat, rv = some (.inr (some q)) ∧ τ[q]? = some 2) → TT l D mX0_queueOf Q0 0 0 0 [(0, .inr (some a0)), (1, .inl a1)] [] h from HQ _ rfl
  intro Q0 hQ
  have ba1 := i_ty a1
  refine tt_aload_n (pc := 0) dX0_queueOf_0 (.head _) ?_
  refine tw_getr (pc := 1) dX0_queueOf_1 flX0_30 hw ta0 (by decide) rfl (fun f12 q13 ef12 gf12 tq13 => ?_)
  refine tt_iload_n (pc := 4) dX0_queueOf_4 (.tail _ (.head _)) ?_
  refine tt_aload_n (pc := 5) dX0_queueOf_5 (.head _) ?_
  refine tw_geti (pc := 6) dX0_queueOf_6 flX0_18 hw ta0 (by decide) rfl (fun f14 x15 ef14 gf14 lx15 ux15 => ?_)
  refine tw_icmp (tgt := 16) (pc := 9) dX0_queueOf_9 (by decide) (fun (c16 : a1.toInt ≠ x15.toInt) => ?_) (fun (c16 : ¬ (a1.toInt ≠ x15.toInt)) => ?_)
  · skip
    refine tw_iconst (pc := 16) dX0_queueOf_16 (by decide) (fun x17 ex17 => ?_)
    refine tw_ald (pc := 17) dX0_queueOf_17 hw tq13 rfl (by decide) (by omega) (by omega) (fun f18 q19 ef18 gf18 tq19 => ?_)
    refine tt_stop ?_
    rw [hQ]
    exact Or.inr (Or.inr ⟨_, _, dX0_queueOf_18, rfl, rfl, rfl, q19, rfl, tq19⟩)
  · skip
    refine tw_iconst (pc := 12) dX0_queueOf_12 (by decide) (fun x20 ex20 => ?_)
    refine tt_goto (tgt := 17) (pc := 13) dX0_queueOf_13 (by decide) ?_
    refine tw_ald (pc := 17) dX0_queueOf_17 hw tq13 rfl (by decide) (by omega) (by omega) (fun f21 q22 ef21 gf21 tq22 => ?_)
    refine tt_stop ?_
    rw [hQ]
    exact Or.inr (Or.inr ⟨_, _, dX0_queueOf_18, rfl, rfl, rfl, q22, rfl, tq22⟩)
abbrev mX6_isLink : tM := (RX6, cX6_isLink, 1, 0, 0, false)
set_option maxHeartbeats 4000000 in
theorem g_X6_isLink {l : Launch} {D : va_G} {N : Nat} {pk : Int} {τ : List Nat} (hN2 : 2 ≤ N) (hN8 : N ≤ 8) (hp0 : 0 ≤ pk) (hp64 : pk ≤ 64) {h : List tC} (hw : WT N pk τ h) (a0 : Int32) : TMc l D yX6_isLink cX6_isLink 1 (some .boolean) 0 0 0 0 [.inl a0] h (fun rv h' => h = h' ∧ ∃ x : Int32, rv = some (.inl x) ∧ 0 ≤ x.toInt ∧ x.toInt ≤ 1 ∧ (x.toInt ≠ 0 → 0 ≤ a0.toInt ∧ a0.toInt ≤ 11)) := by
  refine tmc_of false rfl (by decide) (Nat.le_of_ble_eq_true rfl) ?_
  suffices HQ : ∀ Q0, Q0 = tRt cX6_isLink (some .boolean) (fun rv h' => h = h' ∧ ∃ x : Int32, rv = some (.inl x) ∧ 0 ≤ x.toInt ∧ x.toInt ≤ 1 ∧ (x.toInt ≠ 0 → 0 ≤ a0.toInt ∧ a0.toInt ≤ 11)) → TT l D mX6_isLink Q0 0 0 0 [(0, .inl a0)] [] h from HQ _ rfl
  intro Q0 hQ
  have B14 : TT l D mX6_isLink Q0 0 0 14 [] [] h := by
    refine tw_iconst (pc := 14) dX6_isLink_14 (by decide) (fun x6 ex6 => ?_)
    refine tt_stop ?_
    rw [hQ]
    exact Or.inr (Or.inl ⟨x6, dX6_isLink_15, rfl, Or.inr ⟨rfl, bool01 (by omega) (by omega)⟩, rfl, x6, rfl, by omega, by omega, (fun zz => ⟨by omega, by omega⟩)⟩)
  have ba0 := i_ty a0
  refine tt_iload_n (pc := 0) dX6_isLink_0 (.head _) ?_
  refine tw_if (tgt := 14) (pc := 1) dX6_isLink_1 (by decide) (fun (c7 : a0.toInt < 0) => ?_) (fun (c7 : ¬ (a0.toInt < 0)) => ?_)
  · skip
    refine tt_loc [] (fun _ z => absurd z List.not_mem_nil) ?_
    exact B14 
  · skip
    refine tt_iload_n (pc := 4) dX6_isLink_4 (.head _) ?_
    refine tw_bipush (pc := 5) dX6_isLink_5 (by decide) (fun x8 ex8 => ?_)
    refine tw_icmp (tgt := 14) (pc := 7) dX6_isLink_7 (by decide) (fun (c9 : x8.toInt ≤ a0.toInt) => ?_) (fun (c9 : ¬ (x8.toInt ≤ a0.toInt)) => ?_)
    · skip
      refine tt_loc [] (fun _ z => absurd z List.not_mem_nil) ?_
      exact B14 
    · skip
      refine tw_iconst (pc := 10) dX6_isLink_10 (by decide) (fun x10 ex10 => ?_)
      refine tt_goto (tgt := 15) (pc := 11) dX6_isLink_11 (by decide) ?_
      refine tt_stop ?_
      rw [hQ]
      exact Or.inr (Or.inl ⟨x10, dX6_isLink_15, rfl, Or.inr ⟨rfl, bool01 (by omega) (by omega)⟩, rfl, x10, rfl, by omega, by omega, (fun zz => ⟨by omega, by omega⟩)⟩)
abbrev mX6_isEnd : tM := (RX6, cX6_isEnd, 1, 0, 0, false)
set_option maxHeartbeats 4000000 in
theorem g_X6_isEnd {l : Launch} {D : va_G} {N : Nat} {pk : Int} {τ : List Nat} (hN2 : 2 ≤ N) (hN8 : N ≤ 8) (hp0 : 0 ≤ pk) (hp64 : pk ≤ 64) {h : List tC} (hw : WT N pk τ h) (a0 : Int32) : TMc l D yX6_isEnd cX6_isEnd 1 (some .boolean) 0 0 0 0 [.inl a0] h (fun rv h' => h = h' ∧ ∃ x : Int32, rv = some (.inl x) ∧ 0 ≤ x.toInt ∧ x.toInt ≤ 1 ∧ (x.toInt ≠ 0 → 0 ≤ a0.toInt ∧ a0.toInt ≤ 1)) := by
  refine tmc_of false rfl (by decide) (Nat.le_of_ble_eq_true rfl) ?_
  suffices HQ : ∀ Q0, Q0 = tRt cX6_isEnd (some .boolean) (fun rv h' => h = h' ∧ ∃ x : Int32, rv = some (.inl x) ∧ 0 ≤ x.toInt ∧ x.toInt ≤ 1 ∧ (x.toInt ≠ 0 → 0 ≤ a0.toInt ∧ a0.toInt ≤ 1)) → TT l D mX6_isEnd Q0 0 0 0 [(0, .inl a0)] [] h from HQ _ rfl
  intro Q0 hQ
  have B13 : TT l D mX6_isEnd Q0 0 0 13 [] [] h := by
    refine tw_iconst (pc := 13) dX6_isEnd_13 (by decide) (fun x6 ex6 => ?_)
    refine tt_stop ?_
    rw [hQ]
    exact Or.inr (Or.inl ⟨x6, dX6_isEnd_14, rfl, Or.inr ⟨rfl, bool01 (by omega) (by omega)⟩, rfl, x6, rfl, by omega, by omega, (fun zz => ⟨by omega, by omega⟩)⟩)
  have ba0 := i_ty a0
  refine tt_iload_n (pc := 0) dX6_isEnd_0 (.head _) ?_
  refine tw_if (tgt := 13) (pc := 1) dX6_isEnd_1 (by decide) (fun (c7 : a0.toInt < 0) => ?_) (fun (c7 : ¬ (a0.toInt < 0)) => ?_)
  · skip
    refine tt_loc [] (fun _ z => absurd z List.not_mem_nil) ?_
    exact B13 
  · skip
    refine tt_iload_n (pc := 4) dX6_isEnd_4 (.head _) ?_
    refine tw_iconst (pc := 5) dX6_isEnd_5 (by decide) (fun x8 ex8 => ?_)
    refine tw_icmp (tgt := 13) (pc := 6) dX6_isEnd_6 (by decide) (fun (c9 : x8.toInt ≤ a0.toInt) => ?_) (fun (c9 : ¬ (x8.toInt ≤ a0.toInt)) => ?_)
    · skip
      refine tt_loc [] (fun _ z => absurd z List.not_mem_nil) ?_
      exact B13 
    · skip
      refine tw_iconst (pc := 9) dX6_isEnd_9 (by decide) (fun x10 ex10 => ?_)
      refine tt_goto (tgt := 14) (pc := 10) dX6_isEnd_10 (by decide) ?_
      refine tt_stop ?_
      rw [hQ]
      exact Or.inr (Or.inl ⟨x10, dX6_isEnd_14, rfl, Or.inr ⟨rfl, bool01 (by omega) (by omega)⟩, rfl, x10, rfl, by omega, by omega, (fun zz => ⟨by omega, by omega⟩)⟩)
abbrev mX6_isPrefix : tM := (RX6, cX6_isPrefix, 1, 0, 0, false)
set_option maxHeartbeats 4000000 in
theorem g_X6_isPrefix {l : Launch} {D : va_G} {N : Nat} {pk : Int} {τ : List Nat} (hN2 : 2 ≤ N) (hN8 : N ≤ 8) (hp0 : 0 ≤ pk) (hp64 : pk ≤ 64) {h : List tC} (hw : WT N pk τ h) (a0 : Int32) : TMc l D yX6_isPrefix cX6_isPrefix 1 (some .boolean) 0 0 0 0 [.inl a0] h (fun rv h' => h = h' ∧ ∃ x : Int32, rv = some (.inl x) ∧ 0 ≤ x.toInt ∧ x.toInt ≤ 1 ∧ (x.toInt ≠ 0 → 0 ≤ a0.toInt ∧ a0.toInt ≤ 7)) := by
  refine tmc_of false rfl (by decide) (Nat.le_of_ble_eq_true rfl) ?_
  suffices HQ : ∀ Q0, Q0 = tRt cX6_isPrefix (some .boolean) (fun rv h' => h = h' ∧ ∃ x : Int32, rv = some (.inl x) ∧ 0 ≤ x.toInt ∧ x.toInt ≤ 1 ∧ (x.toInt ≠ 0 → 0 ≤ a0.toInt ∧ a0.toInt ≤ 7)) → TT l D mX6_isPrefix Q0 0 0 0 [(0, .inl a0)] [] h from HQ _ rfl
  intro Q0 hQ
  have B14 : TT l D mX6_isPrefix Q0 0 0 14 [] [] h := by
    refine tw_iconst (pc := 14) dX6_isPrefix_14 (by decide) (fun x6 ex6 => ?_)
    refine tt_stop ?_
    rw [hQ]
    exact Or.inr (Or.inl ⟨x6, dX6_isPrefix_15, rfl, Or.inr ⟨rfl, bool01 (by omega) (by omega)⟩, rfl, x6, rfl, by omega, by omega, (fun zz => ⟨by omega, by omega⟩)⟩)
  have ba0 := i_ty a0
  refine tt_iload_n (pc := 0) dX6_isPrefix_0 (.head _) ?_
  refine tw_if (tgt := 14) (pc := 1) dX6_isPrefix_1 (by decide) (fun (c7 : a0.toInt < 0) => ?_) (fun (c7 : ¬ (a0.toInt < 0)) => ?_)
  · skip
    refine tt_loc [] (fun _ z => absurd z List.not_mem_nil) ?_
    exact B14 
  · skip
    refine tt_iload_n (pc := 4) dX6_isPrefix_4 (.head _) ?_
    refine tw_bipush (pc := 5) dX6_isPrefix_5 (by decide) (fun x8 ex8 => ?_)
    refine tw_icmp (tgt := 14) (pc := 7) dX6_isPrefix_7 (by decide) (fun (c9 : x8.toInt ≤ a0.toInt) => ?_) (fun (c9 : ¬ (x8.toInt ≤ a0.toInt)) => ?_)
    · skip
      refine tt_loc [] (fun _ z => absurd z List.not_mem_nil) ?_
      exact B14 
    · skip
      refine tw_iconst (pc := 10) dX6_isPrefix_10 (by decide) (fun x10 ex10 => ?_)
      refine tt_goto (tgt := 15) (pc := 11) dX6_isPrefix_11 (by decide) ?_
      refine tt_stop ?_
      rw [hQ]
      exact Or.inr (Or.inl ⟨x10, dX6_isPrefix_15, rfl, Or.inr ⟨rfl, bool01 (by omega) (by omega)⟩, rfl, x10, rfl, by omega, by omega, (fun zz => ⟨by omega, by omega⟩)⟩)
abbrev mX6_isRouter : tM := (RX6, cX6_isRouter, 2, 0, 0, false)
set_option maxHeartbeats 4000000 in
theorem g_X6_isRouter {l : Launch} {D : va_G} {N : Nat} {pk : Int} {τ : List Nat} (hN2 : 2 ≤ N) (hN8 : N ≤ 8) (hp0 : 0 ≤ pk) (hp64 : pk ≤ 64) {h : List tC} (hw : WT N pk τ h) (a0 : Nat) (ta0 : τ[a0]? = some 6) (a1 : Int32) : TMc l D yX6_isRouter cX6_isRouter 2 (some .boolean) 0 0 0 0 [.inr (some a0), .inl a1] h (fun rv h' => h = h' ∧ ∃ x : Int32, rv = some (.inl x) ∧ 0 ≤ x.toInt ∧ x.toInt ≤ 1 ∧ (x.toInt ≠ 0 → 0 ≤ a1.toInt ∧ a1.toInt ≤ (N : Int) - 1)) := by
  refine tmc_of false rfl (by decide) (Nat.le_of_ble_eq_true rfl) ?_
  suffices HQ : ∀ Q0, Q0 = tRt cX6_isRouter (some .boolean) (fun rv h' => h = h' ∧ ∃ x : Int32, rv = some (.inl x) ∧ 0 ≤ x.toInt ∧ x.toInt ≤ 1 ∧ (x.toInt ≠ 0 → 0 ≤ a1.toInt ∧ a1.toInt ≤ (N : Int) - 1)) → TT l D mX6_isRouter Q0 0 0 0 [(0, .inr (some a0)), (1, .inl a1)] [] h from HQ _ rfl
  intro Q0 hQ
  have B17 : TT l D mX6_isRouter Q0 0 0 17 [] [] h := by
    refine tw_iconst (pc := 17) dX6_isRouter_17 (by decide) (fun x8 ex8 => ?_)
    refine tt_stop ?_
    rw [hQ]
    exact Or.inr (Or.inl ⟨x8, dX6_isRouter_18, rfl, Or.inr ⟨rfl, bool01 (by omega) (by omega)⟩, rfl, x8, rfl, by omega, by omega, (fun zz => ⟨by omega, by omega⟩)⟩)
  have ba1 := i_ty a1
  refine tt_iload_n (pc := 0) dX6_isRouter_0 (.tail _ (.head _)) ?_
  refine tw_if (tgt := 17) (pc := 1) dX6_isRouter_1 (by decide) (fun (c9 : a1.toInt < 0) => ?_) (fun (c9 : ¬ (a1.toInt < 0)) => ?_)
  · skip
    refine tt_loc [] (fun _ z => absurd z List.not_mem_nil) ?_
    exact B17 
  · skip
    refine tt_iload_n (pc := 4) dX6_isRouter_4 (.tail _ (.head _)) ?_
    refine tt_aload_n (pc := 5) dX6_isRouter_5 (.head _) ?_
    refine tw_getr (pc := 6) dX6_isRouter_6 flX6_50 hw ta0 (by decide) rfl (fun f10 q11 ef10 gf10 tq11 => ?_)
    refine tw_alen (pc := 9) dX6_isRouter_9 hw tq11 rfl (by decide) (by omega) (fun x12 ex12 => ?_)
    refine tw_icmp (tgt := 17) (pc := 10) dX6_isRouter_10 (by decide) (fun (c13 : x12.toInt ≤ a1.toInt) => ?_) (fun (c13 : ¬ (x12.toInt ≤ a1.toInt)) => ?_)
    · skip
      refine tt_loc [] (fun _ z => absurd z List.not_mem_nil) ?_
      exact B17 
    · skip
      refine tw_iconst (pc := 13) dX6_isRouter_13 (by decide) (fun x14 ex14 => ?_)
      refine tt_goto (tgt := 18) (pc := 14) dX6_isRouter_14 (by decide) ?_
      refine tt_stop ?_
      rw [hQ]
      exact Or.inr (Or.inl ⟨x14, dX6_isRouter_18, rfl, Or.inr ⟨rfl, bool01 (by omega) (by omega)⟩, rfl, x14, rfl, by omega, by omega, (fun zz => ⟨by omega, by omega⟩)⟩)
abbrev mX1_shownKind : tM := (RX1, cX1_shownKind, 1, 0, 0, false)
set_option maxHeartbeats 4000000 in
theorem g_X1_shownKind {l : Launch} {D : va_G} {N : Nat} {pk : Int} {τ : List Nat} (hN2 : 2 ≤ N) (hN8 : N ≤ 8) (hp0 : 0 ≤ pk) (hp64 : pk ≤ 64) {h : List tC} (hw : WT N pk τ h) (a0 : Nat) (ta0 : τ[a0]? = some 1) : TMc l D yX1_shownKind cX1_shownKind 1 (some .int) 0 0 0 0 [.inr (some a0)] h (fun rv h' => h = h' ∧ ∃ x : Int32, rv = some (.inl x) ∧ 0 ≤ x.toInt ∧ x.toInt ≤ 12) := by
  refine tmc_of false rfl (by decide) (Nat.le_of_ble_eq_true rfl) ?_
  suffices HQ : ∀ Q0, Q0 = tRt cX1_shownKind (some .int) (fun rv h' => h = h' ∧ ∃ x : Int32, rv = some (.inl x) ∧ 0 ≤ x.toInt ∧ x.toInt ≤ 12) → TT l D mX1_shownKind Q0 0 0 0 [(0, .inr (some a0))] [] h from HQ _ rfl
  intro Q0 hQ
  refine tt_aload_n (pc := 0) dX1_shownKind_0 (.head _) ?_
  refine tw_geti (pc := 1) dX1_shownKind_1 flX1_40 hw ta0 (by decide) rfl (fun f10 x11 ef10 gf10 lx11 ux11 => ?_)
  refine tw_if (tgt := 17) (pc := 4) dX1_shownKind_4 (by decide) (fun (c12 : x11.toInt = 0) => ?_) (fun (c12 : ¬ (x11.toInt = 0)) => ?_)
  · skip
    refine tt_aload_n (pc := 17) dX1_shownKind_17 (.head _) ?_
    refine tw_geti (pc := 18) dX1_shownKind_18 flX1_9 hw ta0 (by decide) rfl (fun f13 x14 ef13 gf13 lx14 ux14 => ?_)
    refine tt_stop ?_
    rw [hQ]
    exact Or.inr (Or.inl ⟨x14, dX1_shownKind_21, rfl, Or.inl rfl, rfl, x14, rfl, by omega, by omega⟩)
  · skip
    refine tt_aload_n (pc := 7) dX1_shownKind_7 (.head _) ?_
    refine tw_geti (pc := 8) dX1_shownKind_8 flX1_9 hw ta0 (by decide) rfl (fun f15 x16 ef15 gf15 lx16 ux16 => ?_)
    refine tw_bipush (pc := 11) dX1_shownKind_11 (by decide) (fun x17 ex17 => ?_)
    refine tw_iadd (pc := 13) dX1_shownKind_13 (by omega) (fun x18 ex18 => ?_)
    refine tt_goto (tgt := 21) (pc := 14) dX1_shownKind_14 (by decide) ?_
    refine tt_stop ?_
    rw [hQ]
    exact Or.inr (Or.inl ⟨x18, dX1_shownKind_21, rfl, Or.inl rfl, rfl, x18, rfl, by omega, by omega⟩)
abbrev mX2_at : tM := (RX2, cX2_at, 2, 0, 0, false)
set_option maxHeartbeats 4000000 in
theorem g_X2_at {l : Launch} {D : va_G} {N : Nat} {pk : Int} {τ : List Nat} (hN2 : 2 ≤ N) (hN8 : N ≤ 8) (hp0 : 0 ≤ pk) (hp64 : pk ≤ 64) {h : List tC} (hw : WT N pk τ h) (a0 : Nat) (ta0 : τ[a0]? = some 2) (a1 : Int32) : TMc l D yX2_at cX2_at 2 (some (.object "LabelNet$Message")) 0 0 0 0 [.inr (some a0), .inl a1] h (fun rv h' => h = h' ∧ ∃ o : Option Nat, rv = some (.inr o) ∧ ∀ q, o = some q → τ[q]? = some 1) := by
  refine tmc_of false rfl (by decide) (Nat.le_of_ble_eq_true rfl) ?_
  suffices HQ : ∀ Q0, Q0 = tRt cX2_at (some (.object "LabelNet$Message")) (fun rv h' => h = h' ∧ ∃ o : Option Nat, rv = some (.inr o) ∧ ∀ q, o = some q → τ[q]? = some 1) → TT l D mX2_at Q0 0 0 0 [(0, .inr (some a0)), (1, .inl a1)] [] h from HQ _ rfl
  intro Q0 hQ
  have B12 : TT l D mX2_at Q0 0 0 12 [] [] h := by
    refine tt_null (pc := 12) dX2_at_12 ?_
    refine tt_goto (tgt := 30) (pc := 13) dX2_at_13 (by decide) ?_
    refine tt_stop ?_
    rw [hQ]
    exact Or.inr (Or.inr ⟨_, _, dX2_at_30, rfl, rfl, rfl, none, rfl, (fun q z => by cases z)⟩)
  have ba1 := i_ty a1
  refine tt_iload_n (pc := 0) dX2_at_0 (.tail _ (.head _)) ?_
  refine tw_if (tgt := 12) (pc := 1) dX2_at_1 (by decide) (fun (c14 : a1.toInt < 0) => ?_) (fun (c14 : ¬ (a1.toInt < 0)) => ?_)
  · skip
    refine tt_loc [] (fun _ z => absurd z List.not_mem_nil) ?_
    exact B12 
  · skip
    refine tt_iload_n (pc := 4) dX2_at_4 (.tail _ (.head _)) ?_
    refine tt_aload_n (pc := 5) dX2_at_5 (.head _) ?_
    refine tw_geti (pc := 6) dX2_at_6 flX2_21 hw ta0 (by decide) rfl (fun f15 x16 ef15 gf15 lx16 ux16 => ?_)
    refine tw_icmp (tgt := 16) (pc := 9) dX2_at_9 (by decide) (fun (c17 : a1.toInt < x16.toInt) => ?_) (fun (c17 : ¬ (a1.toInt < x16.toInt)) => ?_)
    · skip
      refine tt_aload_n (pc := 16) dX2_at_16 (.head _) ?_
      refine tw_getr (pc := 17) dX2_at_17 flX2_11 hw ta0 (by decide) rfl (fun f18 q19 ef18 gf18 tq19 => ?_)
      refine tt_aload_n (pc := 20) dX2_at_20 (.head _) ?_
      refine tw_geti (pc := 21) dX2_at_21 flX2_17 hw ta0 (by decide) rfl (fun f20 x21 ef20 gf20 lx21 ux21 => ?_)
      refine tt_iload_n (pc := 24) dX2_at_24 (.tail _ (.head _)) ?_
      refine tw_iadd (pc := 25) dX2_at_25 (by omega) (fun x22 ex22 => ?_)
      refine tw_bipush (pc := 26) dX2_at_26 (by decide) (fun x23 ex23 => ?_)
      refine tw_irem (c := 16) (pc := 28) dX2_at_28 (by omega) (by omega) (by decide) (fun x24 ex24 => ?_)
      refine tw_ald (pc := 29) dX2_at_29 hw tq19 rfl (by decide) (by omega) (by omega) (fun f25 q26 ef25 gf25 tq26 => ?_)
      refine tt_stop ?_
      rw [hQ]
      exact Or.inr (Or.inr ⟨_, _, dX2_at_30, rfl, rfl, rfl, (some q26), rfl, (fun q z => by cases z; exact tq26)⟩)
    · skip
      refine tt_loc [] (fun _ z => absurd z List.not_mem_nil) ?_
      exact B12 
abbrev mX2_nextFree : tM := (RX2, cX2_nextFree, 1, 0, 0, false)
set_option maxHeartbeats 4000000 in
theorem g_X2_nextFree {l : Launch} {D : va_G} {N : Nat} {pk : Int} {τ : List Nat} (hN2 : 2 ≤ N) (hN8 : N ≤ 8) (hp0 : 0 ≤ pk) (hp64 : pk ≤ 64) {h : List tC} (hw : WT N pk τ h) (a0 : Nat) (ta0 : τ[a0]? = some 2) : TMc l D yX2_nextFree cX2_nextFree 1 (some (.object "LabelNet$Message")) 0 0 0 0 [.inr (some a0)] h (fun rv h' => WT N pk τ h' ∧ Fr PX τ h h' ∧ ∃ o : Option Nat, rv = some (.inr o) ∧ ∀ q, o = some q → τ[q]? = some 1) := by
  refine tmc_of false rfl (by decide) (Nat.le_of_ble_eq_true rfl) ?_
  suffices HQ : ∀ Q0, Q0 = tRt cX2_nextFree (some (.object "LabelNet$Message")) (fun rv h' => WT N pk τ h' ∧ Fr PX τ h h' ∧ ∃ o : Option Nat, rv = some (.inr o) ∧ ∀ q, o = some q → τ[q]? = some 1) → TT l D mX2_nextFree Q0 0 0 0 [(0, .inr (some a0))] [] h from HQ _ rfl
  intro Q0 hQ
  have hf : Fr PX τ h h := Fr.rf
  refine tt_aload_n (pc := 0) dX2_nextFree_0 (.head _) ?_
  refine tw_geti (pc := 1) dX2_nextFree_1 flX2_21 hw ta0 (by decide) rfl (fun f20 x21 ef20 gf20 lx21 ux21 => ?_)
  refine tw_bipush (pc := 4) dX2_nextFree_4 (by decide) (fun x22 ex22 => ?_)
  refine tw_icmp (tgt := 11) (pc := 6) dX2_nextFree_6 (by decide) (fun (c23 : x21.toInt < x22.toInt) => ?_) (fun (c23 : ¬ (x21.toInt < x22.toInt)) => ?_)
  · skip
    refine tt_aload_n (pc := 11) dX2_nextFree_11 (.head _) ?_
    refine tt_dup (pc := 12) dX2_nextFree_12 ?_
    refine tt_get (pc := 13) dX2_nextFree_13 flX2_21 ef20 gf20 ?_
    refine tw_iconst (pc := 16) dX2_nextFree_16 (by decide) (fun x24 ex24 => ?_)
    refine tw_iadd (pc := 17) dX2_nextFree_17 (by omega) (fun x25 ex25 => ?_)
    refine tw_put (P := PX) (pc := 18) dX2_nextFree_18 flX2_21 hw ta0 (by decide) rfl ⟨by omega, by omega⟩ rfl (by decide) (by decide) (fun f26 h27 eh27 gh27 kh27 wh27 fh27 => ?_)
    have hfh27 := hf.tr fh27
    refine tt_aload_n (pc := 21) dX2_nextFree_21 (.head _) ?_
    refine tw_getr (pc := 22) dX2_nextFree_22 flX2_11 wh27 ta0 (by decide) rfl (fun f28 q29 ef28 gf28 tq29 => ?_)
    refine tt_aload_n (pc := 25) dX2_nextFree_25 (.head _) ?_
    refine tw_geti (pc := 26) dX2_nextFree_26 flX2_17 wh27 ta0 (by decide) rfl (fun f30 x31 ef30 gf30 lx31 ux31 => ?_)
    refine tt_aload_n (pc := 29) dX2_nextFree_29 (.head _) ?_
    refine tt_get (pc := 30) dX2_nextFree_30 flX2_21 gh27 (List.getElem?_set_self kh27) ?_
    refine tw_iadd (pc := 33) dX2_nextFree_33 (by omega) (fun x32 ex32 => ?_)
    refine tw_iconst (pc := 34) dX2_nextFree_34 (by decide) (fun x33 ex33 => ?_)
    refine tw_isub (pc := 35) dX2_nextFree_35 (by omega) (fun x34 ex34 => ?_)
    refine tw_bipush (pc := 36) dX2_nextFree_36 (by decide) (fun x35 ex35 => ?_)
    refine tw_irem (c := 16) (pc := 38) dX2_nextFree_38 (by omega) (by omega) (by decide) (fun x36 ex36 => ?_)
    refine tw_ald (pc := 39) dX2_nextFree_39 wh27 tq29 rfl (by decide) (by omega) (by omega) (fun f37 q38 ef37 gf37 tq38 => ?_)
    refine tt_stop ?_
    rw [hQ]
    exact Or.inr (Or.inr ⟨_, _, dX2_nextFree_40, rfl, rfl, wh27, hfh27, (some q38), rfl, (fun q z => by cases z; exact tq38)⟩)
  · skip
    refine tt_null (pc := 9) dX2_nextFree_9 ?_
    refine tt_stop ?_
    rw [hQ]
    exact Or.inr (Or.inr ⟨_, _, dX2_nextFree_10, rfl, rfl, hw, hf, none, rfl, (fun q z => by cases z)⟩)
abbrev mX2_dropFirst : tM := (RX2, cX2_dropFirst, 1, 0, 0, false)
set_option maxHeartbeats 4000000 in
theorem g_X2_dropFirst {l : Launch} {D : va_G} {N : Nat} {pk : Int} {τ : List Nat} (hN2 : 2 ≤ N) (hN8 : N ≤ 8) (hp0 : 0 ≤ pk) (hp64 : pk ≤ 64) {h : List tC} (hw : WT N pk τ h) (a0 : Nat) (ta0 : τ[a0]? = some 2) : TMc l D yX2_dropFirst cX2_dropFirst 1 none 0 0 0 0 [.inr (some a0)] h (fun rv h' => WT N pk τ h' ∧ Fr PX τ h h' ∧ rv = none) := by
  refine tmc_of false rfl (by decide) (Nat.le_of_ble_eq_true rfl) ?_
  suffices HQ : ∀ Q0, Q0 = tRt cX2_dropFirst none (fun rv h' => WT N pk τ h' ∧ Fr PX τ h h' ∧ rv = none) → TT l D mX2_dropFirst Q0 0 0 0 [(0, .inr (some a0))] [] h from HQ _ rfl
  intro Q0 hQ
  have hf : Fr PX τ h h := Fr.rf
  have B30 : ∀ (hb : List tC) (hwb : WT N pk τ hb) (hfb : Fr PX τ h hb), TT l D mX2_dropFirst Q0 0 0 30 [] [] hb := by
    intro hb hwb hfb
    refine tt_stop ?_
    rw [hQ]
    exact Or.inl ⟨dX2_dropFirst_30, rfl, rfl, hwb, hfb, rfl⟩
  refine tt_aload_n (pc := 0) dX2_dropFirst_0 (.head _) ?_
  refine tw_geti (pc := 1) dX2_dropFirst_1 flX2_21 hw ta0 (by decide) rfl (fun f18 x19 ef18 gf18 lx19 ux19 => ?_)
  refine tw_if (tgt := 30) (pc := 4) dX2_dropFirst_4 (by decide) (fun (c20 : x19.toInt ≤ 0) => ?_) (fun (c20 : ¬ (x19.toInt ≤ 0)) => ?_)
  · skip
    refine tt_loc [] (fun _ z => absurd z List.not_mem_nil) ?_
    exact B30 h hw hf
  · skip
    refine tt_aload_n (pc := 7) dX2_dropFirst_7 (.head _) ?_
    refine tt_aload_n (pc := 8) dX2_dropFirst_8 (.head _) ?_
    refine tw_geti (pc := 9) dX2_dropFirst_9 flX2_17 hw ta0 (by decide) rfl (fun f21 x22 ef21 gf21 lx22 ux22 => ?_)
    refine tw_iconst (pc := 12) dX2_dropFirst_12 (by decide) (fun x23 ex23 => ?_)
    refine tw_iadd (pc := 13) dX2_dropFirst_13 (by omega) (fun x24 ex24 => ?_)
    refine tw_bipush (pc := 14) dX2_dropFirst_14 (by decide) (fun x25 ex25 => ?_)
    refine tw_irem (c := 16) (pc := 16) dX2_dropFirst_16 (by omega) (by omega) (by decide) (fun x26 ex26 => ?_)
    refine tw_put (P := PX) (pc := 17) dX2_dropFirst_17 flX2_17 hw ta0 (by decide) rfl ⟨by omega, by omega⟩ rfl (by decide) (by decide) (fun f27 h28 eh28 gh28 kh28 wh28 fh28 => ?_)
    have hfh28 := hf.tr fh28
    have G29 : (f27.set 1 (.inl x26 : tV))[2]? = some (.inl x19 : tV) := by
        rw [List.getElem?_set_ne (by decide)]
        have z9 := ef18.symm.trans eh28
        cases z9
        exact gf18
    refine tt_aload_n (pc := 20) dX2_dropFirst_20 (.head _) ?_
    refine tt_dup (pc := 21) dX2_dropFirst_21 ?_
    refine tt_get (pc := 22) dX2_dropFirst_22 flX2_21 gh28 G29 ?_
    refine tw_iconst (pc := 25) dX2_dropFirst_25 (by decide) (fun x30 ex30 => ?_)
    refine tw_isub (pc := 26) dX2_dropFirst_26 (by omega) (fun x31 ex31 => ?_)
    refine tw_put (P := PX) (pc := 27) dX2_dropFirst_27 flX2_21 wh28 ta0 (by decide) rfl ⟨by omega, by omega⟩ rfl (by decide) (by decide) (fun f32 h33 eh33 gh33 kh33 wh33 fh33 => ?_)
    have hfh33 := hfh28.tr fh33
    have G34 : (f32.set 2 (.inl x31 : tV))[1]? = some (.inl x26 : tV) := by
        rw [List.getElem?_set_ne (by decide)]
        have z9 := gh28.symm.trans eh33
        cases z9
        exact (List.getElem?_set_self kh28)
    refine tt_loc [] (fun _ z => absurd z List.not_mem_nil) ?_
    exact B30 h33 wh33 hfh33
abbrev mX4_knowsUp : tM := (RX4, cX4_knowsUp, 3, 0, 0, false)
set_option maxHeartbeats 4000000 in
theorem g_X4_knowsUp {l : Launch} {D : va_G} {N : Nat} {pk : Int} {τ : List Nat} (hN2 : 2 ≤ N) (hN8 : N ≤ 8) (hp0 : 0 ≤ pk) (hp64 : pk ≤ 64) {h : List tC} (hw : WT N pk τ h) (a0 : Nat) (ta0 : τ[a0]? = some 4) (a1 : Int32) (la1 : 0 ≤ a1.toInt) (ua1 : a1.toInt ≤ 7) (a2 : Int32) : TMc l D yX4_knowsUp cX4_knowsUp 3 (some .boolean) 0 0 0 0 [.inr (some a0), .inl a1, .inl a2] h (fun rv h' => h = h' ∧ ∃ x : Int32, rv = some (.inl x) ∧ 0 ≤ x.toInt ∧ x.toInt ≤ 1) := by
  refine tmc_of false rfl (by decide) (Nat.le_of_ble_eq_true rfl) ?_
  suffices HQ : ∀ Q0, Q0 = tRt cX4_knowsUp (some .boolean) (fun rv h' => h = h' ∧ ∃ x : Int32, rv = some (.inl x) ∧ 0 ≤ x.toInt ∧ x.toInt ≤ 1) → TT l D mX4_knowsUp Q0 0 0 0 [(0, .inr (some a0)), (1, .inl a1), (2, .inl a2)] [] h from HQ _ rfl
  intro Q0 hQ
  have B30 : TT l D mX4_knowsUp Q0 0 0 30 [] [] h := by
    refine tw_iconst (pc := 30) dX4_knowsUp_30 (by decide) (fun x16 ex16 => ?_)
    refine tt_stop ?_
    rw [hQ]
    exact Or.inr (Or.inl ⟨x16, dX4_knowsUp_31, rfl, Or.inr ⟨rfl, bool01 (by omega) (by omega)⟩, rfl, x16, rfl, by omega, by omega⟩)
  have ba2 := i_ty a2
  refine tt_aload_n (pc := 0) dX4_knowsUp_0 (.head _) ?_
  refine tw_getr (pc := 1) dX4_knowsUp_1 flX4_11 hw ta0 (by decide) rfl (fun f17 q18 ef17 gf17 tq18 => ?_)
  refine tt_iload_n (pc := 4) dX4_knowsUp_4 (.tail _ (.head _)) ?_
  refine tw_aldn (pc := 5) dX4_knowsUp_5 hw tq18 rfl (by decide) (by omega) (by omega) (fun f19 o20 ef19 gf19 to20 => ?_)
  refine tt_ifnull (tgt := 30) (pc := 6) dX4_knowsUp_6 (by decide) (fun z21 => ?_) (fun q22 z21 => ?_)
  · subst z21
    refine tt_loc [] (fun _ z => absurd z List.not_mem_nil) ?_
    exact B30 
  · have tq22 := to20 q22 z21
    subst z21
    refine tt_aload_n (pc := 9) dX4_knowsUp_9 (.head _) ?_
    refine tt_get (pc := 10) dX4_knowsUp_10 flX4_11 ef17 gf17 ?_
    refine tt_iload_n (pc := 13) dX4_knowsUp_13 (.tail _ (.head _)) ?_
    refine tt_aald (pc := 14) dX4_knowsUp_14 ef19 (by decide) (i_nn (by omega)) gf19 ?_
    refine tw_geti (pc := 15) dX4_knowsUp_15 flX4_55 hw tq22 (by decide) rfl (fun f23 x24 ef23 gf23 lx24 ux24 => ?_)
    refine tt_iload_n (pc := 18) dX4_knowsUp_18 (.tail _ (.tail _ (.head _))) ?_
    refine tt_ishr (pc := 19) dX4_knowsUp_19 ?_
    refine tw_any (fun x25 => ?_)
    have bx25 := i_ty x25
    refine tw_iconst (pc := 20) dX4_knowsUp_20 (by decide) (fun x26 ex26 => ?_)
    refine tt_iand (pc := 21) dX4_knowsUp_21 ?_
    refine tw_any (fun x27 => ?_)
    have bx27 := i_ty x27
    refine tw_iconst (pc := 22) dX4_knowsUp_22 (by decide) (fun x28 ex28 => ?_)
    refine tw_icmp (tgt := 30) (pc := 23) dX4_knowsUp_23 (by decide) (fun (c29 : x27.toInt ≠ x28.toInt) => ?_) (fun (c29 : ¬ (x27.toInt ≠ x28.toInt)) => ?_)
    · skip
      refine tt_loc [] (fun _ z => absurd z List.not_mem_nil) ?_
      exact B30 
    · skip
      refine tw_iconst (pc := 26) dX4_knowsUp_26 (by decide) (fun x30 ex30 => ?_)
      refine tt_goto (tgt := 31) (pc := 27) dX4_knowsUp_27 (by decide) ?_
      refine tt_stop ?_
      rw [hQ]
      exact Or.inr (Or.inl ⟨x30, dX4_knowsUp_31, rfl, Or.inr ⟨rfl, bool01 (by omega) (by omega)⟩, rfl, x30, rfl, by omega, by omega⟩)
abbrev mX4_isOwnLabel : tM := (RX4, cX4_isOwnLabel, 1, 0, 0, false)
set_option maxHeartbeats 4000000 in
theorem g_X4_isOwnLabel {l : Launch} {D : va_G} {N : Nat} {pk : Int} {τ : List Nat} (hN2 : 2 ≤ N) (hN8 : N ≤ 8) (hp0 : 0 ≤ pk) (hp64 : pk ≤ 64) {h : List tC} (hw : WT N pk τ h) (a0 : Int32) : TMc l D yX4_isOwnLabel cX4_isOwnLabel 1 (some .boolean) 0 0 0 0 [.inl a0] h (fun rv h' => h = h' ∧ ∃ x : Int32, rv = some (.inl x) ∧ 0 ≤ x.toInt ∧ x.toInt ≤ 1 ∧ (x.toInt ≠ 0 → 16 ≤ a0.toInt ∧ a0.toInt ≤ 79)) := by
  refine tmc_of false rfl (by decide) (Nat.le_of_ble_eq_true rfl) ?_
  suffices HQ : ∀ Q0, Q0 = tRt cX4_isOwnLabel (some .boolean) (fun rv h' => h = h' ∧ ∃ x : Int32, rv = some (.inl x) ∧ 0 ≤ x.toInt ∧ x.toInt ≤ 1 ∧ (x.toInt ≠ 0 → 16 ≤ a0.toInt ∧ a0.toInt ≤ 79)) → TT l D mX4_isOwnLabel Q0 0 0 0 [(0, .inl a0)] [] h from HQ _ rfl
  intro Q0 hQ
  have B16 : TT l D mX4_isOwnLabel Q0 0 0 16 [] [] h := by
    refine tw_iconst (pc := 16) dX4_isOwnLabel_16 (by decide) (fun x7 ex7 => ?_)
    refine tt_stop ?_
    rw [hQ]
    exact Or.inr (Or.inl ⟨x7, dX4_isOwnLabel_17, rfl, Or.inr ⟨rfl, bool01 (by omega) (by omega)⟩, rfl, x7, rfl, by omega, by omega, (fun zz => ⟨by omega, by omega⟩)⟩)
  have ba0 := i_ty a0
  refine tt_iload_n (pc := 0) dX4_isOwnLabel_0 (.head _) ?_
  refine tw_bipush (pc := 1) dX4_isOwnLabel_1 (by decide) (fun x8 ex8 => ?_)
  refine tw_icmp (tgt := 16) (pc := 3) dX4_isOwnLabel_3 (by decide) (fun (c9 : a0.toInt < x8.toInt) => ?_) (fun (c9 : ¬ (a0.toInt < x8.toInt)) => ?_)
  · skip
    refine tt_loc [] (fun _ z => absurd z List.not_mem_nil) ?_
    exact B16 
  · skip
    refine tt_iload_n (pc := 6) dX4_isOwnLabel_6 (.head _) ?_
    refine tw_bipush (pc := 7) dX4_isOwnLabel_7 (by decide) (fun x10 ex10 => ?_)
    refine tw_icmp (tgt := 16) (pc := 9) dX4_isOwnLabel_9 (by decide) (fun (c11 : x10.toInt ≤ a0.toInt) => ?_) (fun (c11 : ¬ (x10.toInt ≤ a0.toInt)) => ?_)
    · skip
      refine tt_loc [] (fun _ z => absurd z List.not_mem_nil) ?_
      exact B16 
    · skip
      refine tw_iconst (pc := 12) dX4_isOwnLabel_12 (by decide) (fun x12 ex12 => ?_)
      refine tt_goto (tgt := 17) (pc := 13) dX4_isOwnLabel_13 (by decide) ?_
      refine tt_stop ?_
      rw [hQ]
      exact Or.inr (Or.inl ⟨x12, dX4_isOwnLabel_17, rfl, Or.inr ⟨rfl, bool01 (by omega) (by omega)⟩, rfl, x12, rfl, by omega, by omega, (fun zz => ⟨by omega, by omega⟩)⟩)
abbrev mX4_forgetMapping : tM := (RX4, cX4_forgetMapping, 3, 0, 0, false)
set_option maxHeartbeats 4000000 in
theorem g_X4_forgetMapping {l : Launch} {D : va_G} {N : Nat} {pk : Int} {τ : List Nat} (hN2 : 2 ≤ N) (hN8 : N ≤ 8) (hp0 : 0 ≤ pk) (hp64 : pk ≤ 64) {h : List tC} (hw : WT N pk τ h) (a0 : Nat) (ta0 : τ[a0]? = some 4) (a1 : Int32) (la1 : 0 ≤ a1.toInt) (ua1 : a1.toInt ≤ 7) (a2 : Int32) (la2 : 0 ≤ a2.toInt) (ua2 : a2.toInt ≤ 11) : TMc l D yX4_forgetMapping cX4_forgetMapping 3 none 0 0 0 0 [.inr (some a0), .inl a1, .inl a2] h (fun rv h' => WT N pk τ h' ∧ Fr PX τ h h' ∧ rv = none) := by
  refine tmc_of false rfl (by decide) (Nat.le_of_ble_eq_true rfl) ?_
  suffices HQ : ∀ Q0, Q0 = tRt cX4_forgetMapping none (fun rv h' => WT N pk τ h' ∧ Fr PX τ h h' ∧ rv = none) → TT l D mX4_forgetMapping Q0 0 0 0 [(0, .inr (some a0)), (1, .inl a1), (2, .inl a2)] [] h from HQ _ rfl
  intro Q0 hQ
  have hf : Fr PX τ h h := Fr.rf
  refine tt_aload_n (pc := 0) dX4_forgetMapping_0 (.head _) ?_
  refine tw_getr (pc := 1) dX4_forgetMapping_1 flX4_22 hw ta0 (by decide) rfl (fun f15 q16 ef15 gf15 tq16 => ?_)
  refine tt_iload_n (pc := 4) dX4_forgetMapping_4 (.tail _ (.head _)) ?_
  refine tw_ald (pc := 5) dX4_forgetMapping_5 hw tq16 rfl (by decide) (by omega) (by omega) (fun f17 q18 ef17 gf17 tq18 => ?_)
  refine tt_iload_n (pc := 6) dX4_forgetMapping_6 (.tail _ (.tail _ (.head _))) ?_
  refine tw_iconst (pc := 7) dX4_forgetMapping_7 (by decide) (fun x19 ex19 => ?_)
  refine tw_ist (P := PX) (pc := 8) dX4_forgetMapping_8 hw tq18 rfl (by omega) (by omega) (by omega) (by omega) (by decide) (fun f20 h21 eh21 gh21 kh21 wh21 fh21 => ?_)
  have hfh21 := hf.tr fh21
  refine tt_aload_n (pc := 9) dX4_forgetMapping_9 (.head _) ?_
  refine tw_getr (pc := 10) dX4_forgetMapping_10 flX4_25 wh21 ta0 (by decide) rfl (fun f22 q23 ef22 gf22 tq23 => ?_)
  refine tt_iload_n (pc := 13) dX4_forgetMapping_13 (.tail _ (.head _)) ?_
  refine tw_ald (pc := 14) dX4_forgetMapping_14 wh21 tq23 rfl (by decide) (by omega) (by omega) (fun f24 q25 ef24 gf24 tq25 => ?_)
  refine tt_iload_n (pc := 15) dX4_forgetMapping_15 (.tail _ (.tail _ (.head _))) ?_
  refine tw_iconst (pc := 16) dX4_forgetMapping_16 (by decide) (fun x26 ex26 => ?_)
  refine tw_ist (P := PX) (pc := 17) dX4_forgetMapping_17 wh21 tq25 rfl (by omega) (by omega) (by omega) (by omega) (by decide) (fun f27 h28 eh28 gh28 kh28 wh28 fh28 => ?_)
  have hfh28 := hfh21.tr fh28
  refine tt_stop ?_
  rw [hQ]
  exact Or.inl ⟨dX4_forgetMapping_18, rfl, rfl, wh28, hfh28, rfl⟩
abbrev mX4_freeIfReleased : tM := (RX4, cX4_freeIfReleased, 2, 1, 20, false)
set_option maxHeartbeats 4000000 in
theorem g_X4_freeIfReleased {l : Launch} {D : va_G} {N : Nat} {pk : Int} {τ : List Nat} (hN2 : 2 ≤ N) (hN8 : N ≤ 8) (hp0 : 0 ≤ pk) (hp64 : pk ≤ 64) {h : List tC} (hw : WT N pk τ h) (a0 : Nat) (ta0 : τ[a0]? = some 4) (a1 : Int32) : TMc l D yX4_freeIfReleased cX4_freeIfReleased 2 none 1 20 0 0 [.inr (some a0), .inl a1] h (fun rv h' => WT N pk τ h' ∧ Fr PX τ h h' ∧ rv = none) := by
  refine tmc_of false rfl (by decide) (Nat.le_of_ble_eq_true rfl) ?_
  suffices HQ : ∀ Q0, Q0 = tRt cX4_freeIfReleased none (fun rv h' => WT N pk τ h' ∧ Fr PX τ h h' ∧ rv = none) → TT l D mX4_freeIfReleased Q0 0 0 0 [(0, .inr (some a0)), (1, .inl a1)] [] h from HQ _ rfl
  intro Q0 hQ
  have hf : Fr PX τ h h := Fr.rf
  have B48 : ∀ (hb : List tC) (hwb : WT N pk τ hb) (hfb : Fr PX τ h hb), TT l D mX4_freeIfReleased Q0 0 0 48 [] [] hb := by
    intro hb hwb hfb
    refine tt_stop ?_
    rw [hQ]
    exact Or.inl ⟨dX4_freeIfReleased_48, rfl, rfl, hwb, hfb, rfl⟩
  have ba1 := i_ty a1
  refine tt_iload_n (pc := 0) dX4_freeIfReleased_0 (.tail _ (.head _)) ?_
  refine tt_callS (kc := 0) (ks := 0) (mc := 0) (ms := 0) (as := [.inl a1]) (st := []) (pc := 1) dX4_freeIfReleased_1 lkX4_79 smX4_isOwnLabel rfl (by decide) (by decide) (Nat.le_of_ble_eq_true rfl) (g_X4_isOwnLabel hN2 hN8 hp0 hp64 hw a1) (fun rv h25 qh25 => ?_)
  obtain ⟨rfl, x26, rfl, lx26, ux26, Gx26⟩ := qh25
  show TT _ _ _ _ _ _ _ _ [.inl x26] _
  refine tw_if (tgt := 48) (pc := 4) dX4_freeIfReleased_4 (by decide) (fun (c29 : x26.toInt = 0) => ?_) (fun (c29 : ¬ (x26.toInt = 0)) => ?_)
  · skip
    refine tt_loc [] (fun _ z => absurd z List.not_mem_nil) ?_
    exact B48 h hw hf
  · obtain ⟨b27, b28⟩ := Gx26 (by omega)
    refine tt_aload_n (pc := 7) dX4_freeIfReleased_7 (.head _) ?_
    refine tw_getr (pc := 8) dX4_freeIfReleased_8 flX4_35 hw ta0 (by decide) rfl (fun f30 q31 ef30 gf30 tq31 => ?_)
    refine tt_iload_n (pc := 11) dX4_freeIfReleased_11 (.tail _ (.head _)) ?_
    refine tw_ild (pc := 12) dX4_freeIfReleased_12 hw tq31 rfl (by omega) (by omega) (fun f33 x32 ef33 gf33 lx32 ux32 => ?_)
    refine tw_iconst (pc := 13) dX4_freeIfReleased_13 (by decide) (fun x34 ex34 => ?_)
    refine tw_icmp (tgt := 48) (pc := 14) dX4_freeIfReleased_14 (by decide) (fun (c35 : x32.toInt = x34.toInt) => ?_) (fun (c35 : ¬ (x32.toInt = x34.toInt)) => ?_)
    · skip
      refine tt_loc [] (fun _ z => absurd z List.not_mem_nil) ?_
      exact B48 h hw hf
    · skip
      refine tt_aload_n (pc := 17) dX4_freeIfReleased_17 (.head _) ?_
      refine tw_getr (pc := 18) dX4_freeIfReleased_18 flX4_38 hw ta0 (by decide) rfl (fun f36 q37 ef36 gf36 tq37 => ?_)
      refine tt_iload_n (pc := 21) dX4_freeIfReleased_21 (.tail _ (.head _)) ?_
      refine tw_ild (pc := 22) dX4_freeIfReleased_22 hw tq37 rfl (by omega) (by omega) (fun f39 x38 ef39 gf39 lx38 ux38 => ?_)
      refine tw_if (tgt := 48) (pc := 23) dX4_freeIfReleased_23 (by decide) (fun (c40 : x38.toInt ≠ 0) => ?_) (fun (c40 : ¬ (x38.toInt ≠ 0)) => ?_)
      · skip
        refine tt_loc [] (fun _ z => absurd z List.not_mem_nil) ?_
        exact B48 h hw hf
      · skip
        refine tt_aload_n (pc := 26) dX4_freeIfReleased_26 (.head _) ?_
        refine tw_getr (pc := 27) dX4_freeIfReleased_27 flX4_28 hw ta0 (by decide) rfl (fun f41 q42 ef41 gf41 tq42 => ?_)
        refine tt_aload_n (pc := 30) dX4_freeIfReleased_30 (.head _) ?_
        refine tt_get (pc := 31) dX4_freeIfReleased_31 flX4_35 ef30 gf30 ?_
        refine tt_iload_n (pc := 34) dX4_freeIfReleased_34 (.tail _ (.head _)) ?_
        refine tt_iald (pc := 35) dX4_freeIfReleased_35 ef33 (i_nn (by omega)) gf33 ?_
        refine tw_ild (pc := 36) dX4_freeIfReleased_36 hw tq42 rfl (by omega) (by omega) (fun f44 x43 ef44 gf44 lx43 ux43 => ?_)
        refine tt_iload_n (pc := 37) dX4_freeIfReleased_37 (.tail _ (.head _)) ?_
        refine tw_icmp (tgt := 48) (pc := 38) dX4_freeIfReleased_38 (by decide) (fun (c45 : x43.toInt = a1.toInt) => ?_) (fun (c45 : ¬ (x43.toInt = a1.toInt)) => ?_)
        · skip
          refine tt_loc [] (fun _ z => absurd z List.not_mem_nil) ?_
          exact B48 h hw hf
        · skip
          refine tt_aload_n (pc := 41) dX4_freeIfReleased_41 (.head _) ?_
          refine tt_get (pc := 42) dX4_freeIfReleased_42 flX4_35 ef30 gf30 ?_
          refine tt_iload_n (pc := 45) dX4_freeIfReleased_45 (.tail _ (.head _)) ?_
          refine tw_iconst (pc := 46) dX4_freeIfReleased_46 (by decide) (fun x46 ex46 => ?_)
          refine tw_ist (P := PX) (pc := 47) dX4_freeIfReleased_47 hw tq31 rfl (by omega) (by omega) (by omega) (by omega) (by decide) (fun f47 h48 eh48 gh48 kh48 wh48 fh48 => ?_)
          have hfh48 := hf.tr fh48
          refine tt_loc [] (fun _ z => absurd z List.not_mem_nil) ?_
          exact B48 h48 wh48 hfh48
abbrev mX4_bind : tM := (RX4, cX4_bind, 4, 1, 20, false)
set_option maxHeartbeats 4000000 in
theorem g_X4_bind {l : Launch} {D : va_G} {N : Nat} {pk : Int} {τ : List Nat} (hN2 : 2 ≤ N) (hN8 : N ≤ 8) (hp0 : 0 ≤ pk) (hp64 : pk ≤ 64) {h : List tC} (hw : WT N pk τ h) (a0 : Nat) (ta0 : τ[a0]? = some 4) (a1 : Int32) (la1 : 0 ≤ a1.toInt) (ua1 : a1.toInt ≤ 7) (a2 : Int32) (a3 : Int32) : TMc l D yX4_bind cX4_bind 4 none 1 20 0 0 [.inr (some a0), .inl a1, .inl a2, .inl a3] h (fun rv h' => WT N pk τ h' ∧ Fr PX τ h h' ∧ rv = none) := by
  refine tmc_of false rfl (by decide) (Nat.le_of_ble_eq_true rfl) ?_
  suffices HQ : ∀ Q0, Q0 = tRt cX4_bind none (fun rv h' => WT N pk τ h' ∧ Fr PX τ h h' ∧ rv = none) → TT l D mX4_bind Q0 0 0 0 [(0, .inr (some a0)), (1, .inl a1), (2, .inl a2), (3, .inl a3)] [] h from HQ _ rfl
  intro Q0 hQ
  have hf : Fr PX τ h h := Fr.rf
  have B28 : ∀ (hb : List tC) (hwb : WT N pk τ hb) (hfb : Fr PX τ h hb), TT l D mX4_bind Q0 0 0 28 [] [] hb := by
    intro hb hwb hfb
    refine tt_stop ?_
    rw [hQ]
    exact Or.inl ⟨dX4_bind_28, rfl, rfl, hwb, hfb, rfl⟩
  have ba2 := i_ty a2
  have ba3 := i_ty a3
  refine tt_aload_n (pc := 0) dX4_bind_0 (.head _) ?_
  refine tw_getr (pc := 1) dX4_bind_1 flX4_28 hw ta0 (by decide) rfl (fun f18 q19 ef18 gf18 tq19 => ?_)
  refine tt_iload_n (pc := 4) dX4_bind_4 (.tail _ (.head _)) ?_
  refine tt_iload_n (pc := 5) dX4_bind_5 (.tail _ (.tail _ (.head _))) ?_
  refine tw_ist (P := PX) (pc := 6) dX4_bind_6 hw tq19 rfl (by omega) (by omega) (by omega) (by omega) (by decide) (fun f20 h21 eh21 gh21 kh21 wh21 fh21 => ?_)
  have hfh21 := hf.tr fh21
  refine tt_aload_n (pc := 7) dX4_bind_7 (.head _) ?_
  refine tw_getr (pc := 8) dX4_bind_8 flX4_32 wh21 ta0 (by decide) rfl (fun f22 q23 ef22 gf22 tq23 => ?_)
  refine tt_iload_n (pc := 11) dX4_bind_11 (.tail _ (.head _)) ?_
  refine tt_iload_n (pc := 12) dX4_bind_12 (.tail _ (.tail _ (.tail _ (.head _)))) ?_
  refine tw_ist (P := PX) (pc := 13) dX4_bind_13 wh21 tq23 rfl (by omega) (by omega) (by omega) (by omega) (by decide) (fun f24 h25 eh25 gh25 kh25 wh25 fh25 => ?_)
  have hfh25 := hfh21.tr fh25
  refine tt_iload_n (pc := 14) dX4_bind_14 (.tail _ (.tail _ (.head _))) ?_
  refine tt_callS (kc := 0) (ks := 0) (mc := 0) (ms := 0) (as := [.inl a2]) (st := []) (pc := 15) dX4_bind_15 lkX4_79 smX4_isOwnLabel rfl (by decide) (by decide) (Nat.le_of_ble_eq_true rfl) (g_X4_isOwnLabel hN2 hN8 hp0 hp64 wh25 a2) (fun rv h26 qh26 => ?_)
  obtain ⟨rfl, x27, rfl, lx27, ux27, Gx27⟩ := qh26
  show TT _ _ _ _ _ _ _ _ [.inl x27] _
  refine tw_if (tgt := 28) (pc := 18) dX4_bind_18 (by decide) (fun (c30 : x27.toInt = 0) => ?_) (fun (c30 : ¬ (x27.toInt = 0)) => ?_)
  · skip
    refine tt_loc [] (fun _ z => absurd z List.not_mem_nil) ?_
    exact B28 h25 wh25 hfh25
  · obtain ⟨b28, b29⟩ := Gx27 (by omega)
    refine tt_aload_n (pc := 21) dX4_bind_21 (.head _) ?_
    refine tw_getr (pc := 22) dX4_bind_22 flX4_35 wh25 ta0 (by decide) rfl (fun f31 q32 ef31 gf31 tq32 => ?_)
    refine tt_iload_n (pc := 25) dX4_bind_25 (.tail _ (.tail _ (.head _))) ?_
    refine tt_iload_n (pc := 26) dX4_bind_26 (.tail _ (.head _)) ?_
    refine tw_ist (P := PX) (pc := 27) dX4_bind_27 wh25 tq32 rfl (by omega) (by omega) (by omega) (by omega) (by decide) (fun f33 h34 eh34 gh34 kh34 wh34 fh34 => ?_)
    have hfh34 := hfh25.tr fh34
    refine tt_loc [] (fun _ z => absurd z List.not_mem_nil) ?_
    exact B28 h34 wh34 hfh34
abbrev mX4_releaseCounts : tM := (RX4, cX4_releaseCounts, 4, 2, 41, false)
set_option maxHeartbeats 4000000 in
theorem g_X4_releaseCounts {l : Launch} {D : va_G} {N : Nat} {pk : Int} {τ : List Nat} (hN2 : 2 ≤ N) (hN8 : N ≤ 8) (hp0 : 0 ≤ pk) (hp64 : pk ≤ 64) {h : List tC} (hw : WT N pk τ h) (a0 : Nat) (ta0 : τ[a0]? = some 4) (a1 : Int32) (a2 : Int32) (a3 : Int32) : TMc l D yX4_releaseCounts cX4_releaseCounts 4 (some .boolean) 2 41 0 0 [.inr (some a0), .inl a1, .inl a2, .inl a3] h (fun rv h' => WT N pk τ h' ∧ Fr PX τ h h' ∧ ∃ x : Int32, rv = some (.inl x) ∧ 0 ≤ x.toInt ∧ x.toInt ≤ 1) := by
  refine tmc_of false rfl (by decide) (Nat.le_of_ble_eq_true rfl) ?_
  suffices HQ : ∀ Q0, Q0 = tRt cX4_releaseCounts (some .boolean) (fun rv h' => WT N pk τ h' ∧ Fr PX τ h h' ∧ ∃ x : Int32, rv = some (.inl x) ∧ 0 ≤ x.toInt ∧ x.toInt ≤ 1) → TT l D mX4_releaseCounts Q0 0 0 0 [(0, .inr (some a0)), (1, .inl a1), (2, .inl a2), (3, .inl a3)] [] h from HQ _ rfl
  intro Q0 hQ
  have hf : Fr PX τ h h := Fr.rf
  have B17 : ∀ (hb : List tC) (hwb : WT N pk τ hb) (hfb : Fr PX τ h hb), TT l D mX4_releaseCounts Q0 0 0 17 [] [] hb := by
    intro hb hwb hfb
    refine tw_iconst (pc := 17) dX4_releaseCounts_17 (by decide) (fun x25 ex25 => ?_)
    refine tt_stop ?_
    rw [hQ]
    exact Or.inr (Or.inl ⟨x25, dX4_releaseCounts_18, rfl, Or.inr ⟨rfl, bool01 (by omega) (by omega)⟩, hwb, hfb, x25, rfl, by omega, by omega⟩)
  have ba1 := i_ty a1
  have ba2 := i_ty a2
  have ba3 := i_ty a3
  refine tt_iload_n (pc := 0) dX4_releaseCounts_0 (.tail _ (.tail _ (.head _))) ?_
  refine tt_callS (kc := 0) (ks := 0) (mc := 0) (ms := 0) (as := [.inl a2]) (st := []) (pc := 1) dX4_releaseCounts_1 lkX4_79 smX4_isOwnLabel rfl (by decide) (by decide) (Nat.le_of_ble_eq_true rfl) (g_X4_isOwnLabel hN2 hN8 hp0 hp64 hw a2) (fun rv h26 qh26 => ?_)
  obtain ⟨rfl, x27, rfl, lx27, ux27, Gx27⟩ := qh26
  show TT _ _ _ _ _ _ _ _ [.inl x27] _
  refine tw_if (tgt := 17) (pc := 4) dX4_releaseCounts_4 (by decide) (fun (c30 : x27.toInt = 0) => ?_) (fun (c30 : ¬ (x27.toInt = 0)) => ?_)
  · skip
    refine tt_loc [] (fun _ z => absurd z List.not_mem_nil) ?_
    exact B17 h hw hf
  · obtain ⟨b28, b29⟩ := Gx27 (by omega)
    refine tt_aload_n (pc := 7) dX4_releaseCounts_7 (.head _) ?_
    refine tw_getr (pc := 8) dX4_releaseCounts_8 flX4_35 hw ta0 (by decide) rfl (fun f31 q32 ef31 gf31 tq32 => ?_)
    refine tt_iload_n (pc := 11) dX4_releaseCounts_11 (.tail _ (.tail _ (.head _))) ?_
    refine tw_ild (pc := 12) dX4_releaseCounts_12 hw tq32 rfl (by omega) (by omega) (fun f34 x33 ef34 gf34 lx33 ux33 => ?_)
    refine tt_iload_n (pc := 13) dX4_releaseCounts_13 (.tail _ (.head _)) ?_
    refine tw_icmp (tgt := 19) (pc := 14) dX4_releaseCounts_14 (by decide) (fun (c35 : x33.toInt = a1.toInt) => ?_) (fun (c35 : ¬ (x33.toInt = a1.toInt)) => ?_)
    · skip
      refine tt_aload_n (pc := 19) dX4_releaseCounts_19 (.head _) ?_
      refine tw_getr (pc := 20) dX4_releaseCounts_20 flX4_38 hw ta0 (by decide) rfl (fun f36 q37 ef36 gf36 tq37 => ?_)
      refine tt_iload_n (pc := 23) dX4_releaseCounts_23 (.tail _ (.tail _ (.head _))) ?_
      refine tt_dup2 (pc := 24) dX4_releaseCounts_24 ?_
      refine tw_ild (pc := 25) dX4_releaseCounts_25 hw tq37 rfl (by omega) (by omega) (fun f39 x38 ef39 gf39 lx38 ux38 => ?_)
      refine tw_iconst (pc := 26) dX4_releaseCounts_26 (by decide) (fun x40 ex40 => ?_)
      refine tt_iload_n (pc := 27) dX4_releaseCounts_27 (.tail _ (.tail _ (.tail _ (.head _)))) ?_
      refine tt_ishl (pc := 28) dX4_releaseCounts_28 ?_
      refine tw_any (fun x41 => ?_)
      have bx41 := i_ty x41
      refine tw_iconst (pc := 29) dX4_releaseCounts_29 (by decide) (fun x42 ex42 => ?_)
      refine tt_ixor (pc := 30) dX4_releaseCounts_30 ?_
      refine tw_any (fun x43 => ?_)
      have bx43 := i_ty x43
      refine tt_iand (pc := 31) dX4_releaseCounts_31 ?_
      refine tw_any (fun x44 => ?_)
      have bx44 := i_ty x44
      refine tw_ist (P := PX) (pc := 32) dX4_releaseCounts_32 hw tq37 rfl (by omega) (by omega) (by omega) (by omega) (by decide) (fun f45 h46 eh46 gh46 kh46 wh46 fh46 => ?_)
      have hfh46 := hf.tr fh46
      refine tt_aload_n (pc := 33) dX4_releaseCounts_33 (.head _) ?_
      refine tt_iload_n (pc := 34) dX4_releaseCounts_34 (.tail _ (.tail _ (.head _))) ?_
      refine tw_callV (kc := 0) (ks := 0) (mc := 0) (ms := 0) (as := [.inl a2]) (st := []) (pc := 35) wh46 ta0 (by decide) dX4_releaseCounts_35 lkX4_71 imX4_freeIfReleased seX4_freeIfReleased rfl rfl (by decide) (by decide) (Nat.le_of_ble_eq_true rfl) (g_X4_freeIfReleased hN2 hN8 hp0 hp64 wh46 a0 ta0 a2) (fun rv h47 qh47 => ?_)
      obtain ⟨wh47, fh47, rfl⟩ := qh47
      have hfh47 := hfh46.tr fh47
      show TT _ _ _ _ _ _ _ _ [] _
      refine tw_iconst (pc := 38) dX4_releaseCounts_38 (by decide) (fun x48 ex48 => ?_)
      refine tt_stop ?_
      rw [hQ]
      exact Or.inr (Or.inl ⟨x48, dX4_releaseCounts_39, rfl, Or.inr ⟨rfl, bool01 (by omega) (by omega)⟩, wh47, hfh47, x48, rfl, by omega, by omega⟩)
    · skip
      refine tt_loc [] (fun _ z => absurd z List.not_mem_nil) ?_
      exact B17 h hw hf
end
section
abbrev mX4_forgetDistances : tM := (RX4, cX4_forgetDistances, 3, 0, 0, false)
set_option maxHeartbeats 4000000 in
theorem g_X4_forgetDistances {l : Launch} {D : va_G} {N : Nat} {pk : Int} {τ : List Nat} (hN2 : 2 ≤ N) (hN8 : N ≤ 8) (hp0 : 0 ≤ pk) (hp64 : pk ≤ 64) {h : List tC} (hw : WT N pk τ h) (a0 : Nat) (ta0 : τ[a0]? = some 4) : TMc l D yX4_forgetDistances cX4_forgetDistances 3 none 0 0 0 0 [.inr (some a0)] h (fun rv h' => WT N pk τ h' ∧ Fr PX τ h h' ∧ rv = none) := by
  refine tmc_of false rfl (by decide) (Nat.le_of_ble_eq_true rfl) ?_
  suffices HQ : ∀ Q0, Q0 = tRt cX4_forgetDistances none (fun rv h' => WT N pk τ h' ∧ Fr PX τ h h' ∧ rv = none) → TT l D mX4_forgetDistances Q0 0 0 0 [(0, .inr (some a0))] [] h from HQ _ rfl
  intro Q0 hQ
  have hf : Fr PX τ h h := Fr.rf
  have B2 : ∀ (n2 : Nat) (hb : List tC) (hwb : WT N pk τ hb) (hfb : Fr PX τ h hb) (q255 : Nat) (tq255 : τ[q255]? = some 4) (x256 : Int32) (lx256 : 0 ≤ x256.toInt) (ux256 : x256.toInt ≤ 8), 8 - x256.toInt < n2 → TT l D mX4_forgetDistances Q0 0 0 2 [(0, .inr (some q255)), (1, .inl x256)] [] hb := by
    intro n2
    induction n2 with
    | zero =>
      intro hb hwb hfb q255 tq255 x256 lx256 ux256 hn2
      exfalso
      omega
    | succ n2 ih2 =>
      intro hb hwb hfb q255 tq255 x256 lx256 ux256 hn2
      have B10 : ∀ (n10 : Nat) (hb : List tC) (hwb : WT N pk τ hb) (hfb : Fr PX τ h hb) (q257 : Nat) (tq257 : τ[q257]? = some 4) (x258 : Int32) (lx258 : 0 ≤ x258.toInt) (ux258 : x258.toInt ≤ 7) (x259 : Int32) (lx259 : 0 ≤ x259.toInt) (ux259 : x259.toInt ≤ 8) (hn2 : 8 - x258.toInt < ((n2 + 1 : Nat) : Int)), 8 - x259.toInt < n10 → TT l D mX4_forgetDistances Q0 0 0 10 [(0, .inr (some q257)), (1, .inl x258), (2, .inl x259)] [] hb := by
        intro n10
        induction n10 with
        | zero =>
          intro hb hwb hfb q257 tq257 x258 lx258 ux258 x259 lx259 ux259 hn2 hn10
          exfalso
          omega
        | succ n10 ih10 =>
          intro hb hwb hfb q257 tq257 x258 lx258 ux258 x259 lx259 ux259 hn2 hn10
          refine tt_iload_n (pc := 10) dX4_forgetDistances_10 (.tail _ (.tail _ (.head _))) ?_
          refine tw_bipush (pc := 11) dX4_forgetDistances_11 (by decide) (fun x260 ex260 => ?_)
          refine tw_icmp (tgt := 41) (pc := 13) dX4_forgetDistances_13 (by decide) (fun (c261 : x260.toInt ≤ x259.toInt) => ?_) (fun (c261 : ¬ (x260.toInt ≤ x259.toInt)) => ?_)
          · skip
            refine tw_iinc (pc := 41) dX4_forgetDistances_41 (.tail _ (.head _)) (by decide) (by decide) (by omega) (fun x262 ex262 => ?_)
            show TT _ _ _ _ _ _ _ [(1, .inl x262), (0, .inr (some q257)), (2, .inl x259)] _ _
            refine tt_goto (tgt := 2) (pc := 44) dX4_forgetDistances_44 (by decide) ?_
            refine tt_loc [(0, .inr (some q257)), (1, .inl x262)] (List.forall_mem_cons.mpr ⟨(.tail _ (.head _)), List.forall_mem_cons.mpr ⟨(.head _), fun _ z => absurd z List.not_mem_nil⟩⟩) ?_
            exact ih2 hb hwb hfb q257 tq257 x262 (by omega) (by omega) (by omega)
          · skip
            refine tt_aload_n (pc := 16) dX4_forgetDistances_16 (.head _) ?_
            refine tw_getr (pc := 17) dX4_forgetDistances_17 flX4_19 hwb tq257 (by decide) rfl (fun f263 q264 ef263 gf263 tq264 => ?_)
            refine tt_iload_n (pc := 20) dX4_forgetDistances_20 (.tail _ (.head _)) ?_
            refine tw_ald (pc := 21) dX4_forgetDistances_21 hwb tq264 rfl (by decide) (by omega) (by omega) (fun f265 q266 ef265 gf265 tq266 => ?_)
            refine tt_iload_n (pc := 22) dX4_forgetDistances_22 (.tail _ (.tail _ (.head _))) ?_
            refine tt_iload_n (pc := 23) dX4_forgetDistances_23 (.tail _ (.head _)) ?_
            refine tt_iload_n (pc := 24) dX4_forgetDistances_24 (.tail _ (.tail _ (.head _))) ?_
            refine tw_icmp (tgt := 32) (pc := 25) dX4_forgetDistances_25 (by decide) (fun (c267 : x258.toInt ≠ x259.toInt) => ?_) (fun (c267 : ¬ (x258.toInt ≠ x259.toInt)) => ?_)
            · skip
              refine tw_ldc (n := 1000000) (pc := 32) dX4_forgetDistances_32 rfl kcX4_58 (by decide) (fun x268 ex268 => ?_)
              refine tw_ist (P := PX) (pc := 34) dX4_forgetDistances_34 hwb tq266 rfl (by omega) (by omega) (by omega) (by omega) (by decide) (fun f269 h270 eh270 gh270 kh270 wh270 fh270 => ?_)
              have hfh270 := hfb.tr fh270
              refine tw_iinc (pc := 35) dX4_forgetDistances_35 (.tail _ (.tail _ (.head _))) (by decide) (by decide) (by omega) (fun x271 ex271 => ?_)
              show TT _ _ _ _ _ _ _ [(2, .inl x271), (0, .inr (some q257)), (1, .inl x258)] _ _
              refine tt_goto (tgt := 10) (pc := 38) dX4_forgetDistances_38 (by decide) ?_
              refine tt_loc [(0, .inr (some q257)), (1, .inl x258), (2, .inl x271)] (List.forall_mem_cons.mpr ⟨(.tail _ (.head _)), List.forall_mem_cons.mpr ⟨(.tail _ (.tail _ (.head _))), List.forall_mem_cons.mpr ⟨(.head _), fun _ z => absurd z List.not_mem_nil⟩⟩⟩) ?_
              exact ih10 h270 wh270 hfh270 q257 tq257 x258 (by omega) (by omega) x271 (by omega) (by omega) (by omega) (by omega)
            · skip
              refine tw_iconst (pc := 28) dX4_forgetDistances_28 (by decide) (fun x272 ex272 => ?_)
              refine tt_goto (tgt := 34) (pc := 29) dX4_forgetDistances_29 (by decide) ?_
              refine tw_ist (P := PX) (pc := 34) dX4_forgetDistances_34 hwb tq266 rfl (by omega) (by omega) (by omega) (by omega) (by decide) (fun f273 h274 eh274 gh274 kh274 wh274 fh274 => ?_)
              have hfh274 := hfb.tr fh274
              refine tw_iinc (pc := 35) dX4_forgetDistances_35 (.tail _ (.tail _ (.head _))) (by decide) (by decide) (by omega) (fun x275 ex275 => ?_)
              show TT _ _ _ _ _ _ _ [(2, .inl x275), (0, .inr (some q257)), (1, .inl x258)] _ _
              refine tt_goto (tgt := 10) (pc := 38) dX4_forgetDistances_38 (by decide) ?_
              refine tt_loc [(0, .inr (some q257)), (1, .inl x258), (2, .inl x275)] (List.forall_mem_cons.mpr ⟨(.tail _ (.head _)), List.forall_mem_cons.mpr ⟨(.tail _ (.tail _ (.head _))), List.forall_mem_cons.mpr ⟨(.head _), fun _ z => absurd z List.not_mem_nil⟩⟩⟩) ?_
              exact ih10 h274 wh274 hfh274 q257 tq257 x258 (by omega) (by omega) x275 (by omega) (by omega) (by omega) (by omega)
      refine tt_iload_n (pc := 2) dX4_forgetDistances_2 (.tail _ (.head _)) ?_
      refine tw_bipush (pc := 3) dX4_forgetDistances_3 (by decide) (fun x276 ex276 => ?_)
      refine tw_icmp (tgt := 47) (pc := 5) dX4_forgetDistances_5 (by decide) (fun (c277 : x276.toInt ≤ x256.toInt) => ?_) (fun (c277 : ¬ (x276.toInt ≤ x256.toInt)) => ?_)
      · skip
        refine tt_stop ?_
        rw [hQ]
        exact Or.inl ⟨dX4_forgetDistances_47, rfl, rfl, hwb, hfb, rfl⟩
      · skip
        refine tw_iconst (pc := 8) dX4_forgetDistances_8 (by decide) (fun x278 ex278 => ?_)
        refine tt_istore_n (pc := 9) dX4_forgetDistances_9 (by decide) ?_
        show TT _ _ _ _ _ _ _ [(2, .inl x278), (0, .inr (some q255)), (1, .inl x256)] _ _
        refine tt_loc [(0, .inr (some q255)), (1, .inl x256), (2, .inl x278)] (List.forall_mem_cons.mpr ⟨(.tail _ (.head _)), List.forall_mem_cons.mpr ⟨(.tail _ (.tail _ (.head _))), List.forall_mem_cons.mpr ⟨(.head _), fun _ z => absurd z List.not_mem_nil⟩⟩⟩) ?_
        exact B10 9 hb hwb hfb q255 tq255 x256 (by omega) (by omega) x278 (by omega) (by omega) (by omega) (by omega)
  refine tw_iconst (pc := 0) dX4_forgetDistances_0 (by decide) (fun x279 ex279 => ?_)
  refine tt_istore_n (pc := 1) dX4_forgetDistances_1 (by decide) ?_
  show TT _ _ _ _ _ _ _ [(1, .inl x279), (0, .inr (some a0))] _ _
  refine tt_loc [(0, .inr (some a0)), (1, .inl x279)] (List.forall_mem_cons.mpr ⟨(.tail _ (.head _)), List.forall_mem_cons.mpr ⟨(.head _), fun _ z => absurd z List.not_mem_nil⟩⟩) ?_
  exact B2 9 h hw hf a0 ta0 x279 (by omega) (by omega) (by omega)
abbrev mX4_takeStep : tM := (RX4, cX4_takeStep, 5, 1, 21, false)
set_option maxHeartbeats 4000000 in
theorem g_X4_takeStep {l : Launch} {D : va_G} {N : Nat} {pk : Int} {τ : List Nat} (hN2 : 2 ≤ N) (hN8 : N ≤ 8) (hp0 : 0 ≤ pk) (hp64 : pk ≤ 64) {h : List tC} (hw : WT N pk τ h) (a0 : Nat) (ta0 : τ[a0]? = some 4) (a1 : Int32) (la1 : 0 ≤ a1.toInt) (ua1 : a1.toInt ≤ 7) (a2 : Int32) (la2 : 0 ≤ a2.toInt) (ua2 : a2.toInt ≤ 7) (a3 : Int32) : TMc l D yX4_takeStep cX4_takeStep 5 none 1 21 0 0 [.inr (some a0), .inl a1, .inl a2, .inl a3] h (fun rv h' => WT N pk τ h' ∧ Fr PX τ h h' ∧ rv = none) := by
  refine tmc_of false rfl (by decide) (Nat.le_of_ble_eq_true rfl) ?_
  suffices HQ : ∀ Q0, Q0 = tRt cX4_takeStep none (fun rv h' => WT N pk τ h' ∧ Fr PX τ h h' ∧ rv = none) → TT l D mX4_takeStep Q0 0 0 0 [(0, .inr (some a0)), (1, .inl a1), (2, .inl a2), (3, .inl a3)] [] h from HQ _ rfl
  intro Q0 hQ
  have hf : Fr PX τ h h := Fr.rf
  have ba3 := i_ty a3
  refine tt_aload_n (pc := 0) dX4_takeStep_0 (.head _) ?_
  refine tw_getr (pc := 1) dX4_takeStep_1 flX4_19 hw ta0 (by decide) rfl (fun f16 q17 ef16 gf16 tq17 => ?_)
  refine tt_iload_n (pc := 4) dX4_takeStep_4 (.tail _ (.head _)) ?_
  refine tw_ald (pc := 5) dX4_takeStep_5 hw tq17 rfl (by decide) (by omega) (by omega) (fun f18 q19 ef18 gf18 tq19 => ?_)
  refine tt_iload_n (pc := 6) dX4_takeStep_6 (.tail _ (.tail _ (.head _))) ?_
  refine tw_ild (pc := 7) dX4_takeStep_7 hw tq19 rfl (by omega) (by omega) (fun f21 x20 ef21 gf21 lx20 ux20 => ?_)
  refine tt_iload_n (pc := 8) dX4_takeStep_8 (.tail _ (.tail _ (.tail _ (.head _)))) ?_
  refine tt_min (pc := 9) dX4_takeStep_9 mlX4_59 ms_min mi_math mc_min (by decide) (Nat.le_of_ble_eq_true rfl) ?_
  refine tw_minv (fun x22 ex22 => ?_)
  refine tt_istore (pc := 12) dX4_takeStep_12 (by decide) ?_
  show TT _ _ _ _ _ _ _ [(4, .inl x22), (0, .inr (some a0)), (1, .inl a1), (2, .inl a2), (3, .inl a3)] _ _
  refine tt_aload_n (pc := 14) dX4_takeStep_14 (.tail _ (.head _)) ?_
  refine tt_get (pc := 15) dX4_takeStep_15 flX4_19 ef16 gf16 ?_
  refine tt_iload_n (pc := 18) dX4_takeStep_18 (.tail _ (.tail _ (.head _))) ?_
  refine tt_aald (pc := 19) dX4_takeStep_19 ef18 (by decide) (i_nn (by omega)) gf18 ?_
  refine tt_iload_n (pc := 20) dX4_takeStep_20 (.tail _ (.tail _ (.tail _ (.head _)))) ?_
  refine tt_iload (pc := 21) dX4_takeStep_21 (.head _) ?_
  refine tw_ist (P := PX) (pc := 23) dX4_takeStep_23 hw tq19 rfl (by omega) (by omega) (by omega) (by omega) (by decide) (fun f23 h24 eh24 gh24 kh24 wh24 fh24 => ?_)
  have hfh24 := hf.tr fh24
  refine tt_aload_n (pc := 24) dX4_takeStep_24 (.tail _ (.head _)) ?_
  refine tw_getr (pc := 25) dX4_takeStep_25 flX4_19 wh24 ta0 (by decide) rfl (fun f25 q26 ef25 gf25 tq26 => ?_)
  refine tt_iload_n (pc := 28) dX4_takeStep_28 (.tail _ (.tail _ (.tail _ (.head _)))) ?_
  refine tw_ald (pc := 29) dX4_takeStep_29 wh24 tq26 rfl (by decide) (by omega) (by omega) (fun f27 q28 ef27 gf27 tq28 => ?_)
  refine tt_iload_n (pc := 30) dX4_takeStep_30 (.tail _ (.tail _ (.head _))) ?_
  refine tt_iload (pc := 31) dX4_takeStep_31 (.head _) ?_
  refine tw_ist (P := PX) (pc := 33) dX4_takeStep_33 wh24 tq28 rfl (by omega) (by omega) (by omega) (by omega) (by decide) (fun f29 h30 eh30 gh30 kh30 wh30 fh30 => ?_)
  have hfh30 := hfh24.tr fh30
  refine tt_stop ?_
  rw [hQ]
  exact Or.inl ⟨dX4_takeStep_34, rfl, rfl, wh30, hfh30, rfl⟩
abbrev mX4_joinAt : tM := (RX4, cX4_joinAt, 4, 1, 21, false)
set_option maxHeartbeats 4000000 in
theorem g_X4_joinAt {l : Launch} {D : va_G} {N : Nat} {pk : Int} {τ : List Nat} (hN2 : 2 ≤ N) (hN8 : N ≤ 8) (hp0 : 0 ≤ pk) (hp64 : pk ≤ 64) {h : List tC} (hw : WT N pk τ h) (a0 : Nat) (ta0 : τ[a0]? = some 4) (a1 : Int32) (la1 : 0 ≤ a1.toInt) (ua1 : a1.toInt ≤ 7) (a2 : Int32) (la2 : 0 ≤ a2.toInt) (ua2 : a2.toInt ≤ 7) : TMc l D yX4_joinAt cX4_joinAt 4 none 1 21 0 0 [.inr (some a0), .inl a1, .inl a2] h (fun rv h' => WT N pk τ h' ∧ Fr PX τ h h' ∧ rv = none) := by
  refine tmc_of false rfl (by decide) (Nat.le_of_ble_eq_true rfl) ?_
  suffices HQ : ∀ Q0, Q0 = tRt cX4_joinAt none (fun rv h' => WT N pk τ h' ∧ Fr PX τ h h' ∧ rv = none) → TT l D mX4_joinAt Q0 0 0 0 [(0, .inr (some a0)), (1, .inl a1), (2, .inl a2)] [] h from HQ _ rfl
  intro Q0 hQ
  have hf : Fr PX τ h h := Fr.rf
  have B2 : ∀ (n2 : Nat) (hb : List tC) (hwb : WT N pk τ hb) (hfb : Fr PX τ h hb) (q163 : Nat) (tq163 : τ[q163]? = some 4) (x164 : Int32) (lx164 : 0 ≤ x164.toInt) (ux164 : x164.toInt ≤ 7) (x165 : Int32) (lx165 : 0 ≤ x165.toInt) (ux165 : x165.toInt ≤ 7) (x166 : Int32) (lx166 : 0 ≤ x166.toInt) (ux166 : x166.toInt ≤ 8), 8 - x166.toInt < n2 → TT l D mX4_joinAt Q0 0 0 2 [(0, .inr (some q163)), (1, .inl x164), (2, .inl x165), (3, .inl x166)] [] hb := by
    intro n2
    induction n2 with
    | zero =>
      intro hb hwb hfb q163 tq163 x164 lx164 ux164 x165 lx165 ux165 x166 lx166 ux166 hn2
      exfalso
      omega
    | succ n2 ih2 =>
      intro hb hwb hfb q163 tq163 x164 lx164 ux164 x165 lx165 ux165 x166 lx166 ux166 hn2
      refine tt_iload_n (pc := 2) dX4_joinAt_2 (.tail _ (.tail _ (.tail _ (.head _)))) ?_
      refine tw_bipush (pc := 3) dX4_joinAt_3 (by decide) (fun x167 ex167 => ?_)
      refine tw_icmp (tgt := 50) (pc := 5) dX4_joinAt_5 (by decide) (fun (c168 : x167.toInt ≤ x166.toInt) => ?_) (fun (c168 : ¬ (x167.toInt ≤ x166.toInt)) => ?_)
      · skip
        refine tt_stop ?_
        rw [hQ]
        exact Or.inl ⟨dX4_joinAt_50, rfl, rfl, hwb, hfb, rfl⟩
      · skip
        refine tt_aload_n (pc := 8) dX4_joinAt_8 (.head _) ?_
        refine tw_getr (pc := 9) dX4_joinAt_9 flX4_19 hwb tq163 (by decide) rfl (fun f169 q170 ef169 gf169 tq170 => ?_)
        refine tt_iload_n (pc := 12) dX4_joinAt_12 (.tail _ (.head _)) ?_
        refine tw_ald (pc := 13) dX4_joinAt_13 hwb tq170 rfl (by decide) (by omega) (by omega) (fun f171 q172 ef171 gf171 tq172 => ?_)
        refine tt_iload_n (pc := 14) dX4_joinAt_14 (.tail _ (.tail _ (.tail _ (.head _)))) ?_
        refine tt_aload_n (pc := 15) dX4_joinAt_15 (.head _) ?_
        refine tt_get (pc := 16) dX4_joinAt_16 flX4_19 ef169 gf169 ?_
        refine tt_iload_n (pc := 19) dX4_joinAt_19 (.tail _ (.head _)) ?_
        refine tt_aald (pc := 20) dX4_joinAt_20 ef171 (by decide) (i_nn (by omega)) gf171 ?_
        refine tt_iload_n (pc := 21) dX4_joinAt_21 (.tail _ (.tail _ (.tail _ (.head _)))) ?_
        refine tw_ild (pc := 22) dX4_joinAt_22 hwb tq172 rfl (by omega) (by omega) (fun f174 x173 ef174 gf174 lx173 ux173 => ?_)
        refine tt_aload_n (pc := 23) dX4_joinAt_23 (.head _) ?_
        refine tt_get (pc := 24) dX4_joinAt_24 flX4_19 ef169 gf169 ?_
        refine tt_iload_n (pc := 27) dX4_joinAt_27 (.tail _ (.head _)) ?_
        refine tt_aald (pc := 28) dX4_joinAt_28 ef171 (by decide) (i_nn (by omega)) gf171 ?_
        refine tt_iload_n (pc := 29) dX4_joinAt_29 (.tail _ (.tail _ (.head _))) ?_
        refine tw_ild (pc := 30) dX4_joinAt_30 hwb tq172 rfl (by omega) (by omega) (fun f176 x175 ef176 gf176 lx175 ux175 => ?_)
        refine tt_aload_n (pc := 31) dX4_joinAt_31 (.head _) ?_
        refine tt_get (pc := 32) dX4_joinAt_32 flX4_19 ef169 gf169 ?_
        refine tt_iload_n (pc := 35) dX4_joinAt_35 (.tail _ (.tail _ (.head _))) ?_
        refine tw_ald (pc := 36) dX4_joinAt_36 hwb tq170 rfl (by decide) (by omega) (by omega) (fun f177 q178 ef177 gf177 tq178 => ?_)
        refine tt_iload_n (pc := 37) dX4_joinAt_37 (.tail _ (.tail _ (.tail _ (.head _)))) ?_
        refine tw_ild (pc := 38) dX4_joinAt_38 hwb tq178 rfl (by omega) (by omega) (fun f180 x179 ef180 gf180 lx179 ux179 => ?_)
        refine tt_iadd (pc := 39) dX4_joinAt_39 ?_
        refine tw_any (fun x181 => ?_)
        have bx181 := i_ty x181
        refine tt_min (pc := 40) dX4_joinAt_40 mlX4_59 ms_min mi_math mc_min (by decide) (Nat.le_of_ble_eq_true rfl) ?_
        refine tw_minv (fun x182 ex182 => ?_)
        refine tw_ist (P := PX) (pc := 43) dX4_joinAt_43 hwb tq172 rfl (by omega) (by omega) (by omega) (by omega) (by decide) (fun f183 h184 eh184 gh184 kh184 wh184 fh184 => ?_)
        have hfh184 := hfb.tr fh184
        refine tw_iinc (pc := 44) dX4_joinAt_44 (.tail _ (.tail _ (.tail _ (.head _)))) (by decide) (by decide) (by omega) (fun x185 ex185 => ?_)
        show TT _ _ _ _ _ _ _ [(3, .inl x185), (0, .inr (some q163)), (1, .inl x164), (2, .inl x165)] _ _
        refine tt_goto (tgt := 2) (pc := 47) dX4_joinAt_47 (by decide) ?_
        refine tt_loc [(0, .inr (some q163)), (1, .inl x164), (2, .inl x165), (3, .inl x185)] (List.forall_mem_cons.mpr ⟨(.tail _ (.head _)), List.forall_mem_cons.mpr ⟨(.tail _ (.tail _ (.head _))), List.forall_mem_cons.mpr ⟨(.tail _ (.tail _ (.tail _ (.head _)))), List.forall_mem_cons.mpr ⟨(.head _), fun _ z => absurd z List.not_mem_nil⟩⟩⟩⟩) ?_
        exact ih2 h184 wh184 hfh184 q163 tq163 x164 (by omega) (by omega) x165 (by omega) (by omega) x185 (by omega) (by omega) (by omega)
  refine tw_iconst (pc := 0) dX4_joinAt_0 (by decide) (fun x186 ex186 => ?_)
  refine tt_istore_n (pc := 1) dX4_joinAt_1 (by decide) ?_
  show TT _ _ _ _ _ _ _ [(3, .inl x186), (0, .inr (some a0)), (1, .inl a1), (2, .inl a2)] _ _
  refine tt_loc [(0, .inr (some a0)), (1, .inl a1), (2, .inl a2), (3, .inl x186)] (List.forall_mem_cons.mpr ⟨(.tail _ (.head _)), List.forall_mem_cons.mpr ⟨(.tail _ (.tail _ (.head _))), List.forall_mem_cons.mpr ⟨(.tail _ (.tail _ (.tail _ (.head _)))), List.forall_mem_cons.mpr ⟨(.head _), fun _ z => absurd z List.not_mem_nil⟩⟩⟩⟩) ?_
  exact B2 9 h hw hf a0 ta0 a1 (by omega) (by omega) a2 (by omega) (by omega) x186 (by omega) (by omega) (by omega)
abbrev mX4_joinSteps : tM := (RX4, cX4_joinSteps, 3, 2, 44, false)
set_option maxHeartbeats 4000000 in
theorem g_X4_joinSteps {l : Launch} {D : va_G} {N : Nat} {pk : Int} {τ : List Nat} (hN2 : 2 ≤ N) (hN8 : N ≤ 8) (hp0 : 0 ≤ pk) (hp64 : pk ≤ 64) {h : List tC} (hw : WT N pk τ h) (a0 : Nat) (ta0 : τ[a0]? = some 4) : TMc l D yX4_joinSteps cX4_joinSteps 3 none 2 44 0 0 [.inr (some a0)] h (fun rv h' => WT N pk τ h' ∧ Fr PX τ h h' ∧ rv = none) := by
  refine tmc_of false rfl (by decide) (Nat.le_of_ble_eq_true rfl) ?_
  suffices HQ : ∀ Q0, Q0 = tRt cX4_joinSteps none (fun rv h' => WT N pk τ h' ∧ Fr PX τ h h' ∧ rv = none) → TT l D mX4_joinSteps Q0 0 0 0 [(0, .inr (some a0))] [] h from HQ _ rfl
  intro Q0 hQ
  have hf : Fr PX τ h h := Fr.rf
  have B2 : ∀ (n2 : Nat) (hb : List tC) (hwb : WT N pk τ hb) (hfb : Fr PX τ h hb) (q255 : Nat) (tq255 : τ[q255]? = some 4) (x256 : Int32) (lx256 : 0 ≤ x256.toInt) (ux256 : x256.toInt ≤ 8), 8 - x256.toInt < n2 → TT l D mX4_joinSteps Q0 0 0 2 [(0, .inr (some q255)), (1, .inl x256)] [] hb := by
    intro n2
    induction n2 with
    | zero =>
      intro hb hwb hfb q255 tq255 x256 lx256 ux256 hn2
      exfalso
      omega
    | succ n2 ih2 =>
      intro hb hwb hfb q255 tq255 x256 lx256 ux256 hn2
      have B10 : ∀ (n10 : Nat) (hb : List tC) (hwb : WT N pk τ hb) (hfb : Fr PX τ h hb) (q257 : Nat) (tq257 : τ[q257]? = some 4) (x258 : Int32) (lx258 : 0 ≤ x258.toInt) (ux258 : x258.toInt ≤ 7) (x259 : Int32) (lx259 : 0 ≤ x259.toInt) (ux259 : x259.toInt ≤ 8) (hn2 : 8 - x258.toInt < ((n2 + 1 : Nat) : Int)), 8 - x259.toInt < n10 → TT l D mX4_joinSteps Q0 0 0 10 [(0, .inr (some q257)), (1, .inl x258), (2, .inl x259)] [] hb := by
        intro n10
        induction n10 with
        | zero =>
          intro hb hwb hfb q257 tq257 x258 lx258 ux258 x259 lx259 ux259 hn2 hn10
          exfalso
          omega
        | succ n10 ih10 =>
          intro hb hwb hfb q257 tq257 x258 lx258 ux258 x259 lx259 ux259 hn2 hn10
          have B35 : ∀ (hb : List tC) (hwb : WT N pk τ hb) (hfb : Fr PX τ h hb) (q260 : Nat) (tq260 : τ[q260]? = some 4) (x261 : Int32) (lx261 : 0 ≤ x261.toInt) (ux261 : x261.toInt ≤ 7) (x262 : Int32) (lx262 : 0 ≤ x262.toInt) (ux262 : x262.toInt ≤ 7) (hn2 : 8 - x261.toInt < ((n2 + 1 : Nat) : Int)) (hn10 : 8 - x262.toInt < ((n10 + 1 : Nat) : Int)), TT l D mX4_joinSteps Q0 0 0 35 [(0, .inr (some q260)), (1, .inl x261), (2, .inl x262)] [] hb := by
            intro hb hwb hfb q260 tq260 x261 lx261 ux261 x262 lx262 ux262 hn2 hn10
            refine tw_iinc (pc := 35) dX4_joinSteps_35 (.tail _ (.tail _ (.head _))) (by decide) (by decide) (by omega) (fun x263 ex263 => ?_)
            show TT _ _ _ _ _ _ _ [(2, .inl x263), (0, .inr (some q260)), (1, .inl x261)] _ _
            refine tt_goto (tgt := 10) (pc := 38) dX4_joinSteps_38 (by decide) ?_
            refine tt_loc [(0, .inr (some q260)), (1, .inl x261), (2, .inl x263)] (List.forall_mem_cons.mpr ⟨(.tail _ (.head _)), List.forall_mem_cons.mpr ⟨(.tail _ (.tail _ (.head _))), List.forall_mem_cons.mpr ⟨(.head _), fun _ z => absurd z List.not_mem_nil⟩⟩⟩) ?_
            exact ih10 hb hwb hfb q260 tq260 x261 (by omega) (by omega) x263 (by omega) (by omega) (by omega) (by omega)
          refine tt_iload_n (pc := 10) dX4_joinSteps_10 (.tail _ (.tail _ (.head _))) ?_
          refine tw_bipush (pc := 11) dX4_joinSteps_11 (by decide) (fun x264 ex264 => ?_)
          refine tw_icmp (tgt := 41) (pc := 13) dX4_joinSteps_13 (by decide) (fun (c265 : x264.toInt ≤ x259.toInt) => ?_) (fun (c265 : ¬ (x264.toInt ≤ x259.toInt)) => ?_)
          · skip
            refine tw_iinc (pc := 41) dX4_joinSteps_41 (.tail _ (.head _)) (by decide) (by decide) (by omega) (fun x266 ex266 => ?_)
            show TT _ _ _ _ _ _ _ [(1, .inl x266), (0, .inr (some q257)), (2, .inl x259)] _ _
            refine tt_goto (tgt := 2) (pc := 44) dX4_joinSteps_44 (by decide) ?_
            refine tt_loc [(0, .inr (some q257)), (1, .inl x266)] (List.forall_mem_cons.mpr ⟨(.tail _ (.head _)), List.forall_mem_cons.mpr ⟨(.head _), fun _ z => absurd z List.not_mem_nil⟩⟩) ?_
            exact ih2 hb hwb hfb q257 tq257 x266 (by omega) (by omega) (by omega)
          · skip
            refine tt_aload_n (pc := 16) dX4_joinSteps_16 (.head _) ?_
            refine tw_getr (pc := 17) dX4_joinSteps_17 flX4_19 hwb tq257 (by decide) rfl (fun f267 q268 ef267 gf267 tq268 => ?_)
            refine tt_iload_n (pc := 20) dX4_joinSteps_20 (.tail _ (.tail _ (.head _))) ?_
            refine tw_ald (pc := 21) dX4_joinSteps_21 hwb tq268 rfl (by decide) (by omega) (by omega) (fun f269 q270 ef269 gf269 tq270 => ?_)
            refine tt_iload_n (pc := 22) dX4_joinSteps_22 (.tail _ (.head _)) ?_
            refine tw_ild (pc := 23) dX4_joinSteps_23 hwb tq270 rfl (by omega) (by omega) (fun f272 x271 ef272 gf272 lx271 ux271 => ?_)
            refine tw_ldc (n := 1000000) (pc := 24) dX4_joinSteps_24 rfl kcX4_58 (by decide) (fun x273 ex273 => ?_)
            refine tw_icmp (tgt := 35) (pc := 26) dX4_joinSteps_26 (by decide) (fun (c274 : x273.toInt ≤ x271.toInt) => ?_) (fun (c274 : ¬ (x273.toInt ≤ x271.toInt)) => ?_)
            · skip
              refine tt_loc [(0, .inr (some q257)), (1, .inl x258), (2, .inl x259)] (List.forall_mem_cons.mpr ⟨(.head _), List.forall_mem_cons.mpr ⟨(.tail _ (.head _)), List.forall_mem_cons.mpr ⟨(.tail _ (.tail _ (.head _))), fun _ z => absurd z List.not_mem_nil⟩⟩⟩) ?_
              exact B35 hb hwb hfb q257 tq257 x258 (by omega) (by omega) x259 (by omega) (by omega) (by omega) (by omega)
            · skip
              refine tt_aload_n (pc := 29) dX4_joinSteps_29 (.head _) ?_
              refine tt_iload_n (pc := 30) dX4_joinSteps_30 (.tail _ (.tail _ (.head _))) ?_
              refine tt_iload_n (pc := 31) dX4_joinSteps_31 (.tail _ (.head _)) ?_
              refine tw_callV (kc := 0) (ks := 0) (mc := 0) (ms := 0) (as := [.inl x259, .inl x258]) (st := []) (pc := 32) hwb tq257 (by decide) dX4_joinSteps_32 lkX4_65 imX4_joinAt seX4_joinAt rfl rfl (by decide) (by decide) (Nat.le_of_ble_eq_true rfl) (g_X4_joinAt hN2 hN8 hp0 hp64 hwb q257 tq257 x259 (by omega) (by omega) x258 (by omega) (by omega)) (fun rv h275 qh275 => ?_)
              obtain ⟨wh275, fh275, rfl⟩ := qh275
              have hfh275 := hfb.tr fh275
              show TT _ _ _ _ _ _ _ _ [] _
              refine tt_loc [(0, .inr (some q257)), (1, .inl x258), (2, .inl x259)] (List.forall_mem_cons.mpr ⟨(.head _), List.forall_mem_cons.mpr ⟨(.tail _ (.head _)), List.forall_mem_cons.mpr ⟨(.tail _ (.tail _ (.head _))), fun _ z => absurd z List.not_mem_nil⟩⟩⟩) ?_
              exact B35 h275 wh275 hfh275 q257 tq257 x258 (by omega) (by omega) x259 (by omega) (by omega) (by omega) (by omega)
      refine tt_iload_n (pc := 2) dX4_joinSteps_2 (.tail _ (.head _)) ?_
      refine tw_bipush (pc := 3) dX4_joinSteps_3 (by decide) (fun x276 ex276 => ?_)
      refine tw_icmp (tgt := 47) (pc := 5) dX4_joinSteps_5 (by decide) (fun (c277 : x276.toInt ≤ x256.toInt) => ?_) (fun (c277 : ¬ (x276.toInt ≤ x256.toInt)) => ?_)
      · skip
        refine tt_stop ?_
        rw [hQ]
        exact Or.inl ⟨dX4_joinSteps_47, rfl, rfl, hwb, hfb, rfl⟩
      · skip
        refine tw_iconst (pc := 8) dX4_joinSteps_8 (by decide) (fun x278 ex278 => ?_)
        refine tt_istore_n (pc := 9) dX4_joinSteps_9 (by decide) ?_
        show TT _ _ _ _ _ _ _ [(2, .inl x278), (0, .inr (some q255)), (1, .inl x256)] _ _
        refine tt_loc [(0, .inr (some q255)), (1, .inl x256), (2, .inl x278)] (List.forall_mem_cons.mpr ⟨(.tail _ (.head _)), List.forall_mem_cons.mpr ⟨(.tail _ (.tail _ (.head _))), List.forall_mem_cons.mpr ⟨(.head _), fun _ z => absurd z List.not_mem_nil⟩⟩⟩) ?_
        exact B10 9 hb hwb hfb q255 tq255 x256 (by omega) (by omega) x278 (by omega) (by omega) (by omega) (by omega)
  refine tw_iconst (pc := 0) dX4_joinSteps_0 (by decide) (fun x279 ex279 => ?_)
  refine tt_istore_n (pc := 1) dX4_joinSteps_1 (by decide) ?_
  show TT _ _ _ _ _ _ _ [(1, .inl x279), (0, .inr (some a0))] _ _
  refine tt_loc [(0, .inr (some a0)), (1, .inl x279)] (List.forall_mem_cons.mpr ⟨(.tail _ (.head _)), List.forall_mem_cons.mpr ⟨(.head _), fun _ z => absurd z List.not_mem_nil⟩⟩) ?_
  exact B2 9 h hw hf a0 ta0 x279 (by omega) (by omega) (by omega)
abbrev mX4_egress : tM := (RX4, cX4_egress, 4, 0, 0, false)
set_option maxHeartbeats 4000000 in
theorem g_X4_egress {l : Launch} {D : va_G} {N : Nat} {pk : Int} {τ : List Nat} (hN2 : 2 ≤ N) (hN8 : N ≤ 8) (hp0 : 0 ≤ pk) (hp64 : pk ≤ 64) {h : List tC} (hw : WT N pk τ h) (a0 : Nat) (ta0 : τ[a0]? = some 4) (a1 : Int32) : TMc l D yX4_egress cX4_egress 4 (some .int) 0 0 0 0 [.inr (some a0), .inl a1] h (fun rv h' => h = h' ∧ ∃ x : Int32, rv = some (.inl x) ∧ -1 ≤ x.toInt ∧ x.toInt ≤ 7) := by
  refine tmc_of false rfl (by decide) (Nat.le_of_ble_eq_true rfl) ?_
  suffices HQ : ∀ Q0, Q0 = tRt cX4_egress (some .int) (fun rv h' => h = h' ∧ ∃ x : Int32, rv = some (.inl x) ∧ -1 ≤ x.toInt ∧ x.toInt ≤ 7) → TT l D mX4_egress Q0 0 0 0 [(0, .inr (some a0)), (1, .inl a1)] [] h from HQ _ rfl
  intro Q0 hQ
  have B2 : ∀ (n2 : Nat) (q223 : Nat) (tq223 : τ[q223]? = some 4) (x224 : Int32) (x225 : Int32) (lx225 : 0 ≤ x225.toInt) (ux225 : x225.toInt ≤ 8), 8 - x225.toInt < n2 → TT l D mX4_egress Q0 0 0 2 [(0, .inr (some q223)), (1, .inl x224), (2, .inl x225)] [] h := by
    intro n2
    induction n2 with
    | zero =>
      intro q223 tq223 x224 x225 lx225 ux225 hn2
      exfalso
      omega
    | succ n2 ih2 =>
      intro q223 tq223 x224 x225 lx225 ux225 hn2
      have bx224 := i_ty x224
      have B49 : ∀ (q226 : Nat) (tq226 : τ[q226]? = some 4) (x227 : Int32) (x228 : Int32) (lx228 : 0 ≤ x228.toInt) (ux228 : x228.toInt ≤ 7) (hn2 : 8 - x228.toInt < ((n2 + 1 : Nat) : Int)), TT l D mX4_egress Q0 0 0 49 [(0, .inr (some q226)), (1, .inl x227), (2, .inl x228)] [] h := by
        intro q226 tq226 x227 x228 lx228 ux228 hn2
        have bx227 := i_ty x227
        refine tw_iinc (pc := 49) dX4_egress_49 (.tail _ (.tail _ (.head _))) (by decide) (by decide) (by omega) (fun x229 ex229 => ?_)
        show TT _ _ _ _ _ _ _ [(2, .inl x229), (0, .inr (some q226)), (1, .inl x227)] _ _
        refine tt_goto (tgt := 2) (pc := 52) dX4_egress_52 (by decide) ?_
        refine tt_loc [(0, .inr (some q226)), (1, .inl x227), (2, .inl x229)] (List.forall_mem_cons.mpr ⟨(.tail _ (.head _)), List.forall_mem_cons.mpr ⟨(.tail _ (.tail _ (.head _))), List.forall_mem_cons.mpr ⟨(.head _), fun _ z => absurd z List.not_mem_nil⟩⟩⟩) ?_
        exact ih2 q226 tq226 x227 x229 (by omega) (by omega) (by omega)
      refine tt_iload_n (pc := 2) dX4_egress_2 (.tail _ (.tail _ (.head _))) ?_
      refine tw_bipush (pc := 3) dX4_egress_3 (by decide) (fun x230 ex230 => ?_)
      refine tw_icmp (tgt := 55) (pc := 5) dX4_egress_5 (by decide) (fun (c231 : x230.toInt ≤ x225.toInt) => ?_) (fun (c231 : ¬ (x230.toInt ≤ x225.toInt)) => ?_)
      · skip
        refine tw_iconst (pc := 55) dX4_egress_55 (by decide) (fun x232 ex232 => ?_)
        refine tt_stop ?_
        rw [hQ]
        exact Or.inr (Or.inl ⟨x232, dX4_egress_56, rfl, Or.inl rfl, rfl, x232, rfl, by omega, by omega⟩)
      · skip
        refine tt_aload_n (pc := 8) dX4_egress_8 (.head _) ?_
        refine tw_getr (pc := 9) dX4_egress_9 flX4_11 hw tq223 (by decide) rfl (fun f233 q234 ef233 gf233 tq234 => ?_)
        refine tt_iload_n (pc := 12) dX4_egress_12 (.tail _ (.tail _ (.head _))) ?_
        refine tw_aldn (pc := 13) dX4_egress_13 hw tq234 rfl (by decide) (by omega) (by omega) (fun f235 o236 ef235 gf235 to236 => ?_)
        refine tt_astore_n (pc := 14) dX4_egress_14 (by decide) ?_
        show TT _ _ _ _ _ _ _ [(3, .inr o236), (0, .inr (some q223)), (1, .inl x224), (2, .inl x225)] _ _
        refine tt_aload_n (pc := 15) dX4_egress_15 (.head _) ?_
        refine tt_ifnull (tgt := 49) (pc := 16) dX4_egress_16 (by decide) (fun z237 => ?_) (fun q238 z237 => ?_)
        · subst z237
          refine tt_loc [(0, .inr (some q223)), (1, .inl x224), (2, .inl x225)] (List.forall_mem_cons.mpr ⟨(.tail _ (.head _)), List.forall_mem_cons.mpr ⟨(.tail _ (.tail _ (.head _))), List.forall_mem_cons.mpr ⟨(.tail _ (.tail _ (.tail _ (.head _)))), fun _ z => absurd z List.not_mem_nil⟩⟩⟩) ?_
          exact B49 q223 tq223 x224 x225 (by omega) (by omega) (by omega)
        · have tq238 := to236 q238 z237
          subst z237
          refine tt_aload_n (pc := 19) dX4_egress_19 (.head _) ?_
          refine tw_geti (pc := 20) dX4_egress_20 flX4_68 hw tq238 (by decide) rfl (fun f239 x240 ef239 gf239 lx240 ux240 => ?_)
          refine tt_iload_n (pc := 23) dX4_egress_23 (.tail _ (.tail _ (.head _))) ?_
          refine tt_ishr (pc := 24) dX4_egress_24 ?_
          refine tw_any (fun x241 => ?_)
          have bx241 := i_ty x241
          refine tw_iconst (pc := 25) dX4_egress_25 (by decide) (fun x242 ex242 => ?_)
          refine tt_iand (pc := 26) dX4_egress_26 ?_
          refine tw_any (fun x243 => ?_)
          have bx243 := i_ty x243
          refine tw_iconst (pc := 27) dX4_egress_27 (by decide) (fun x244 ex244 => ?_)
          refine tw_icmp (tgt := 49) (pc := 28) dX4_egress_28 (by decide) (fun (c245 : x243.toInt ≠ x244.toInt) => ?_) (fun (c245 : ¬ (x243.toInt ≠ x244.toInt)) => ?_)
          · skip
            refine tt_loc [(0, .inr (some q223)), (1, .inl x224), (2, .inl x225)] (List.forall_mem_cons.mpr ⟨(.tail _ (.head _)), List.forall_mem_cons.mpr ⟨(.tail _ (.tail _ (.head _))), List.forall_mem_cons.mpr ⟨(.tail _ (.tail _ (.tail _ (.head _)))), fun _ z => absurd z List.not_mem_nil⟩⟩⟩) ?_
            exact B49 q223 tq223 x224 x225 (by omega) (by omega) (by omega)
          · skip
            refine tt_aload_n (pc := 31) dX4_egress_31 (.tail _ (.head _)) ?_
            refine tw_getr (pc := 32) dX4_egress_32 flX4_19 hw tq223 (by decide) rfl (fun f246 q247 ef246 gf246 tq247 => ?_)
            refine tt_aload_n (pc := 35) dX4_egress_35 (.tail _ (.head _)) ?_
            refine tw_geti (pc := 36) dX4_egress_36 flX4_41 hw tq223 (by decide) rfl (fun f248 x249 ef248 gf248 lx249 ux249 => ?_)
            refine tw_ald (pc := 39) dX4_egress_39 hw tq247 rfl (by decide) (by omega) (by omega) (fun f250 q251 ef250 gf250 tq251 => ?_)
            refine tt_iload_n (pc := 40) dX4_egress_40 (.tail _ (.tail _ (.tail _ (.head _)))) ?_
            refine tw_ild (pc := 41) dX4_egress_41 hw tq251 rfl (by omega) (by omega) (fun f253 x252 ef253 gf253 lx252 ux252 => ?_)
            refine tw_ldc (n := 1000000) (pc := 42) dX4_egress_42 rfl kcX4_58 (by decide) (fun x254 ex254 => ?_)
            refine tw_icmp (tgt := 49) (pc := 44) dX4_egress_44 (by decide) (fun (c255 : x254.toInt ≤ x252.toInt) => ?_) (fun (c255 : ¬ (x254.toInt ≤ x252.toInt)) => ?_)
            · skip
              refine tt_loc [(0, .inr (some q223)), (1, .inl x224), (2, .inl x225)] (List.forall_mem_cons.mpr ⟨(.tail _ (.head _)), List.forall_mem_cons.mpr ⟨(.tail _ (.tail _ (.head _))), List.forall_mem_cons.mpr ⟨(.tail _ (.tail _ (.tail _ (.head _)))), fun _ z => absurd z List.not_mem_nil⟩⟩⟩) ?_
              exact B49 q223 tq223 x224 x225 (by omega) (by omega) (by omega)
            · skip
              refine tt_iload_n (pc := 47) dX4_egress_47 (.tail _ (.tail _ (.tail _ (.head _)))) ?_
              refine tt_stop ?_
              rw [hQ]
              exact Or.inr (Or.inl ⟨x225, dX4_egress_48, rfl, Or.inl rfl, rfl, x225, rfl, by omega, by omega⟩)
  have ba1 := i_ty a1
  refine tw_iconst (pc := 0) dX4_egress_0 (by decide) (fun x256 ex256 => ?_)
  refine tt_istore_n (pc := 1) dX4_egress_1 (by decide) ?_
  show TT _ _ _ _ _ _ _ [(2, .inl x256), (0, .inr (some a0)), (1, .inl a1)] _ _
  refine tt_loc [(0, .inr (some a0)), (1, .inl a1), (2, .inl x256)] (List.forall_mem_cons.mpr ⟨(.tail _ (.head _)), List.forall_mem_cons.mpr ⟨(.tail _ (.tail _ (.head _))), List.forall_mem_cons.mpr ⟨(.head _), fun _ z => absurd z List.not_mem_nil⟩⟩⟩) ?_
  exact B2 9 a0 ta0 a1 x256 (by omega) (by omega) (by omega)
abbrev mX4_forgetLink : tM := (RX4, cX4_forgetLink, 3, 2, 41, false)
set_option maxHeartbeats 4000000 in
theorem g_X4_forgetLink {l : Launch} {D : va_G} {N : Nat} {pk : Int} {τ : List Nat} (hN2 : 2 ≤ N) (hN8 : N ≤ 8) (hp0 : 0 ≤ pk) (hp64 : pk ≤ 64) {h : List tC} (hw : WT N pk τ h) (a0 : Nat) (ta0 : τ[a0]? = some 4) (a1 : Int32) (la1 : 0 ≤ a1.toInt) (ua1 : a1.toInt ≤ 11) : TMc l D yX4_forgetLink cX4_forgetLink 3 none 2 41 0 0 [.inr (some a0), .inl a1] h (fun rv h' => WT N pk τ h' ∧ Fr PX τ h h' ∧ rv = none) := by
  refine tmc_of false rfl (by decide) (Nat.le_of_ble_eq_true rfl) ?_
  suffices HQ : ∀ Q0, Q0 = tRt cX4_forgetLink none (fun rv h' => WT N pk τ h' ∧ Fr PX τ h h' ∧ rv = none) → TT l D mX4_forgetLink Q0 0 0 0 [(0, .inr (some a0)), (1, .inl a1)] [] h from HQ _ rfl
  intro Q0 hQ
  have hf : Fr PX τ h h := Fr.rf
  have B23 : ∀ (n23 : Nat) (hb : List tC) (hwb : WT N pk τ hb) (hfb : Fr PX τ h hb) (q214 : Nat) (tq214 : τ[q214]? = some 4) (x215 : Int32) (lx215 : 0 ≤ x215.toInt) (ux215 : x215.toInt ≤ 11) (x216 : Int32) (lx216 : 16 ≤ x216.toInt) (ux216 : x216.toInt ≤ 80), 80 - x216.toInt < n23 → TT l D mX4_forgetLink Q0 0 0 23 [(0, .inr (some q214)), (1, .inl x215), (2, .inl x216)] [] hb := by
    intro n23
    induction n23 with
    | zero =>
      intro hb hwb hfb q214 tq214 x215 lx215 ux215 x216 lx216 ux216 hn23
      exfalso
      omega
    | succ n23 ih23 =>
      intro hb hwb hfb q214 tq214 x215 lx215 ux215 x216 lx216 ux216 hn23
      refine tt_iload_n (pc := 23) dX4_forgetLink_23 (.tail _ (.tail _ (.head _))) ?_
      refine tw_bipush (pc := 24) dX4_forgetLink_24 (by decide) (fun x217 ex217 => ?_)
      refine tw_icmp (tgt := 54) (pc := 26) dX4_forgetLink_26 (by decide) (fun (c218 : x217.toInt ≤ x216.toInt) => ?_) (fun (c218 : ¬ (x217.toInt ≤ x216.toInt)) => ?_)
      · skip
        refine tt_stop ?_
        rw [hQ]
        exact Or.inl ⟨dX4_forgetLink_54, rfl, rfl, hwb, hfb, rfl⟩
      · skip
        refine tt_aload_n (pc := 29) dX4_forgetLink_29 (.head _) ?_
        refine tw_getr (pc := 30) dX4_forgetLink_30 flX4_38 hwb tq214 (by decide) rfl (fun f219 q220 ef219 gf219 tq220 => ?_)
        refine tt_iload_n (pc := 33) dX4_forgetLink_33 (.tail _ (.tail _ (.head _))) ?_
        refine tt_dup2 (pc := 34) dX4_forgetLink_34 ?_
        refine tw_ild (pc := 35) dX4_forgetLink_35 hwb tq220 rfl (by omega) (by omega) (fun f222 x221 ef222 gf222 lx221 ux221 => ?_)
        refine tw_iconst (pc := 36) dX4_forgetLink_36 (by decide) (fun x223 ex223 => ?_)
        refine tt_iload_n (pc := 37) dX4_forgetLink_37 (.tail _ (.head _)) ?_
        refine tt_ishl (pc := 38) dX4_forgetLink_38 ?_
        refine tw_any (fun x224 => ?_)
        have bx224 := i_ty x224
        refine tw_iconst (pc := 39) dX4_forgetLink_39 (by decide) (fun x225 ex225 => ?_)
        refine tt_ixor (pc := 40) dX4_forgetLink_40 ?_
        refine tw_any (fun x226 => ?_)
        have bx226 := i_ty x226
        refine tt_iand (pc := 41) dX4_forgetLink_41 ?_
        refine tw_any (fun x227 => ?_)
        have bx227 := i_ty x227
        refine tw_ist (P := PX) (pc := 42) dX4_forgetLink_42 hwb tq220 rfl (by omega) (by omega) (by omega) (by omega) (by decide) (fun f228 h229 eh229 gh229 kh229 wh229 fh229 => ?_)
        have hfh229 := hfb.tr fh229
        refine tt_aload_n (pc := 43) dX4_forgetLink_43 (.head _) ?_
        refine tt_iload_n (pc := 44) dX4_forgetLink_44 (.tail _ (.tail _ (.head _))) ?_
        refine tw_callV (kc := 0) (ks := 0) (mc := 0) (ms := 0) (as := [.inl x216]) (st := []) (pc := 45) wh229 tq214 (by decide) dX4_forgetLink_45 lkX4_71 imX4_freeIfReleased seX4_freeIfReleased rfl rfl (by decide) (by decide) (Nat.le_of_ble_eq_true rfl) (g_X4_freeIfReleased hN2 hN8 hp0 hp64 wh229 q214 tq214 x216) (fun rv h230 qh230 => ?_)
        obtain ⟨wh230, fh230, rfl⟩ := qh230
        have hfh230 := hfh229.tr fh230
        show TT _ _ _ _ _ _ _ _ [] _
        refine tw_iinc (pc := 48) dX4_forgetLink_48 (.tail _ (.tail _ (.head _))) (by decide) (by decide) (by omega) (fun x231 ex231 => ?_)
        show TT _ _ _ _ _ _ _ [(2, .inl x231), (0, .inr (some q214)), (1, .inl x215)] _ _
        refine tt_goto (tgt := 23) (pc := 51) dX4_forgetLink_51 (by decide) ?_
        refine tt_loc [(0, .inr (some q214)), (1, .inl x215), (2, .inl x231)] (List.forall_mem_cons.mpr ⟨(.tail _ (.head _)), List.forall_mem_cons.mpr ⟨(.tail _ (.tail _ (.head _))), List.forall_mem_cons.mpr ⟨(.head _), fun _ z => absurd z List.not_mem_nil⟩⟩⟩) ?_
        exact ih23 h230 wh230 hfh230 q214 tq214 x215 (by omega) (by omega) x231 (by omega) (by omega) (by omega)
  have B2 : ∀ (n2 : Nat) (hb : List tC) (hwb : WT N pk τ hb) (hfb : Fr PX τ h hb) (q232 : Nat) (tq232 : τ[q232]? = some 4) (x233 : Int32) (lx233 : 0 ≤ x233.toInt) (ux233 : x233.toInt ≤ 11) (x234 : Int32) (lx234 : 0 ≤ x234.toInt) (ux234 : x234.toInt ≤ 8), 8 - x234.toInt < n2 → TT l D mX4_forgetLink Q0 0 0 2 [(0, .inr (some q232)), (1, .inl x233), (2, .inl x234)] [] hb := by
    intro n2
    induction n2 with
    | zero =>
      intro hb hwb hfb q232 tq232 x233 lx233 ux233 x234 lx234 ux234 hn2
      exfalso
      omega
    | succ n2 ih2 =>
      intro hb hwb hfb q232 tq232 x233 lx233 ux233 x234 lx234 ux234 hn2
      refine tt_iload_n (pc := 2) dX4_forgetLink_2 (.tail _ (.tail _ (.head _))) ?_
      refine tw_bipush (pc := 3) dX4_forgetLink_3 (by decide) (fun x235 ex235 => ?_)
      refine tw_icmp (tgt := 20) (pc := 5) dX4_forgetLink_5 (by decide) (fun (c236 : x235.toInt ≤ x234.toInt) => ?_) (fun (c236 : ¬ (x235.toInt ≤ x234.toInt)) => ?_)
      · skip
        refine tw_bipush (pc := 20) dX4_forgetLink_20 (by decide) (fun x237 ex237 => ?_)
        refine tt_istore_n (pc := 22) dX4_forgetLink_22 (by decide) ?_
        show TT _ _ _ _ _ _ _ [(2, .inl x237), (0, .inr (some q232)), (1, .inl x233)] _ _
        refine tt_loc [(0, .inr (some q232)), (1, .inl x233), (2, .inl x237)] (List.forall_mem_cons.mpr ⟨(.tail _ (.head _)), List.forall_mem_cons.mpr ⟨(.tail _ (.tail _ (.head _))), List.forall_mem_cons.mpr ⟨(.head _), fun _ z => absurd z List.not_mem_nil⟩⟩⟩) ?_
        exact B23 65 hb hwb hfb q232 tq232 x233 (by omega) (by omega) x237 (by omega) (by omega) (by omega)
      · skip
        refine tt_aload_n (pc := 8) dX4_forgetLink_8 (.head _) ?_
        refine tt_iload_n (pc := 9) dX4_forgetLink_9 (.tail _ (.tail _ (.head _))) ?_
        refine tt_iload_n (pc := 10) dX4_forgetLink_10 (.tail _ (.head _)) ?_
        refine tw_callV (kc := 0) (ks := 0) (mc := 0) (ms := 0) (as := [.inl x234, .inl x233]) (st := []) (pc := 11) hwb tq232 (by decide) dX4_forgetLink_11 lkX4_51 imX4_forgetMapping seX4_forgetMapping rfl rfl (by decide) (by decide) (Nat.le_of_ble_eq_true rfl) (g_X4_forgetMapping hN2 hN8 hp0 hp64 hwb q232 tq232 x234 (by omega) (by omega) x233 (by omega) (by omega)) (fun rv h238 qh238 => ?_)
        obtain ⟨wh238, fh238, rfl⟩ := qh238
        have hfh238 := hfb.tr fh238
        show TT _ _ _ _ _ _ _ _ [] _
        refine tw_iinc (pc := 14) dX4_forgetLink_14 (.tail _ (.tail _ (.head _))) (by decide) (by decide) (by omega) (fun x239 ex239 => ?_)
        show TT _ _ _ _ _ _ _ [(2, .inl x239), (0, .inr (some q232)), (1, .inl x233)] _ _
        refine tt_goto (tgt := 2) (pc := 17) dX4_forgetLink_17 (by decide) ?_
        refine tt_loc [(0, .inr (some q232)), (1, .inl x233), (2, .inl x239)] (List.forall_mem_cons.mpr ⟨(.tail _ (.head _)), List.forall_mem_cons.mpr ⟨(.tail _ (.tail _ (.head _))), List.forall_mem_cons.mpr ⟨(.head _), fun _ z => absurd z List.not_mem_nil⟩⟩⟩) ?_
        exact ih2 h238 wh238 hfh238 q232 tq232 x233 (by omega) (by omega) x239 (by omega) (by omega) (by omega)
  refine tw_iconst (pc := 0) dX4_forgetLink_0 (by decide) (fun x240 ex240 => ?_)
  refine tt_istore_n (pc := 1) dX4_forgetLink_1 (by decide) ?_
  show TT _ _ _ _ _ _ _ [(2, .inl x240), (0, .inr (some a0)), (1, .inl a1)] _ _
  refine tt_loc [(0, .inr (some a0)), (1, .inl a1), (2, .inl x240)] (List.forall_mem_cons.mpr ⟨(.tail _ (.head _)), List.forall_mem_cons.mpr ⟨(.tail _ (.tail _ (.head _))), List.forall_mem_cons.mpr ⟨(.head _), fun _ z => absurd z List.not_mem_nil⟩⟩⟩) ?_
  exact B2 9 h hw hf a0 ta0 a1 (by omega) (by omega) x240 (by omega) (by omega) (by omega)
abbrev mX4_leastFreeLabel : tM := (RX4, cX4_leastFreeLabel, 2, 0, 0, false)
set_option maxHeartbeats 4000000 in
theorem g_X4_leastFreeLabel {l : Launch} {D : va_G} {N : Nat} {pk : Int} {τ : List Nat} (hN2 : 2 ≤ N) (hN8 : N ≤ 8) (hp0 : 0 ≤ pk) (hp64 : pk ≤ 64) {h : List tC} (hw : WT N pk τ h) (a0 : Nat) (ta0 : τ[a0]? = some 4) : TMc l D yX4_leastFreeLabel cX4_leastFreeLabel 2 (some .int) 0 0 0 0 [.inr (some a0)] h (fun rv h' => h = h' ∧ ∃ x : Int32, rv = some (.inl x) ∧ -1 ≤ x.toInt ∧ x.toInt ≤ 79) := by
  refine tmc_of false rfl (by decide) (Nat.le_of_ble_eq_true rfl) ?_
  suffices HQ : ∀ Q0, Q0 = tRt cX4_leastFreeLabel (some .int) (fun rv h' => h = h' ∧ ∃ x : Int32, rv = some (.inl x) ∧ -1 ≤ x.toInt ∧ x.toInt ≤ 79) → TT l D mX4_leastFreeLabel Q0 0 0 0 [(0, .inr (some a0))] [] h from HQ _ rfl
  intro Q0 hQ
  have B3 : ∀ (n3 : Nat) (q102 : Nat) (tq102 : τ[q102]? = some 4) (x103 : Int32) (lx103 : 16 ≤ x103.toInt) (ux103 : x103.toInt ≤ 80), 80 - x103.toInt < n3 → TT l D mX4_leastFreeLabel Q0 0 0 3 [(0, .inr (some q102)), (1, .inl x103)] [] h := by
    intro n3
    induction n3 with
    | zero =>
      intro q102 tq102 x103 lx103 ux103 hn3
      exfalso
      omega
    | succ n3 ih3 =>
      intro q102 tq102 x103 lx103 ux103 hn3
      refine tt_iload_n (pc := 3) dX4_leastFreeLabel_3 (.tail _ (.head _)) ?_
      refine tw_bipush (pc := 4) dX4_leastFreeLabel_4 (by decide) (fun x104 ex104 => ?_)
      refine tw_icmp (tgt := 27) (pc := 6) dX4_leastFreeLabel_6 (by decide) (fun (c105 : x104.toInt ≤ x103.toInt) => ?_) (fun (c105 : ¬ (x104.toInt ≤ x103.toInt)) => ?_)
      · skip
        refine tw_iconst (pc := 27) dX4_leastFreeLabel_27 (by decide) (fun x106 ex106 => ?_)
        refine tt_stop ?_
        rw [hQ]
        exact Or.inr (Or.inl ⟨x106, dX4_leastFreeLabel_28, rfl, Or.inl rfl, rfl, x106, rfl, by omega, by omega⟩)
      · skip
        refine tt_aload_n (pc := 9) dX4_leastFreeLabel_9 (.head _) ?_
        refine tw_getr (pc := 10) dX4_leastFreeLabel_10 flX4_35 hw tq102 (by decide) rfl (fun f107 q108 ef107 gf107 tq108 => ?_)
        refine tt_iload_n (pc := 13) dX4_leastFreeLabel_13 (.tail _ (.head _)) ?_
        refine tw_ild (pc := 14) dX4_leastFreeLabel_14 hw tq108 rfl (by omega) (by omega) (fun f110 x109 ef110 gf110 lx109 ux109 => ?_)
        refine tw_iconst (pc := 15) dX4_leastFreeLabel_15 (by decide) (fun x111 ex111 => ?_)
        refine tw_icmp (tgt := 21) (pc := 16) dX4_leastFreeLabel_16 (by decide) (fun (c112 : x109.toInt ≠ x111.toInt) => ?_) (fun (c112 : ¬ (x109.toInt ≠ x111.toInt)) => ?_)
        · skip
          refine tw_iinc (pc := 21) dX4_leastFreeLabel_21 (.tail _ (.head _)) (by decide) (by decide) (by omega) (fun x113 ex113 => ?_)
          show TT _ _ _ _ _ _ _ [(1, .inl x113), (0, .inr (some q102))] _ _
          refine tt_goto (tgt := 3) (pc := 24) dX4_leastFreeLabel_24 (by decide) ?_
          refine tt_loc [(0, .inr (some q102)), (1, .inl x113)] (List.forall_mem_cons.mpr ⟨(.tail _ (.head _)), List.forall_mem_cons.mpr ⟨(.head _), fun _ z => absurd z List.not_mem_nil⟩⟩) ?_
          exact ih3 q102 tq102 x113 (by omega) (by omega) (by omega)
        · skip
          refine tt_iload_n (pc := 19) dX4_leastFreeLabel_19 (.tail _ (.head _)) ?_
          refine tt_stop ?_
          rw [hQ]
          exact Or.inr (Or.inl ⟨x103, dX4_leastFreeLabel_20, rfl, Or.inl rfl, rfl, x103, rfl, by omega, by omega⟩)
  refine tw_bipush (pc := 0) dX4_leastFreeLabel_0 (by decide) (fun x114 ex114 => ?_)
  refine tt_istore_n (pc := 2) dX4_leastFreeLabel_2 (by decide) ?_
  show TT _ _ _ _ _ _ _ [(1, .inl x114), (0, .inr (some a0))] _ _
  refine tt_loc [(0, .inr (some a0)), (1, .inl x114)] (List.forall_mem_cons.mpr ⟨(.tail _ (.head _)), List.forall_mem_cons.mpr ⟨(.head _), fun _ z => absurd z List.not_mem_nil⟩⟩) ?_
  exact B3 65 a0 ta0 x114 (by omega) (by omega) (by omega)
abbrev mX4_labelFor : tM := (RX4, cX4_labelFor, 3, 1, 21, false)
set_option maxHeartbeats 4000000 in
theorem g_X4_labelFor {l : Launch} {D : va_G} {N : Nat} {pk : Int} {τ : List Nat} (hN2 : 2 ≤ N) (hN8 : N ≤ 8) (hp0 : 0 ≤ pk) (hp64 : pk ≤ 64) {h : List tC} (hw : WT N pk τ h) (a0 : Nat) (ta0 : τ[a0]? = some 4) (a1 : Int32) (a2 : Int32) : TMc l D yX4_labelFor cX4_labelFor 3 (some .int) 1 21 0 0 [.inr (some a0), .inl a1, .inl a2] h (fun rv h' => h = h' ∧ ∃ x : Int32, rv = some (.inl x) ∧ -2147483648 ≤ x.toInt ∧ x.toInt ≤ 2147483647) := by
  refine tmc_of false rfl (by decide) (Nat.le_of_ble_eq_true rfl) ?_
  suffices HQ : ∀ Q0, Q0 = tRt cX4_labelFor (some .int) (fun rv h' => h = h' ∧ ∃ x : Int32, rv = some (.inl x) ∧ -2147483648 ≤ x.toInt ∧ x.toInt ≤ 2147483647) → TT l D mX4_labelFor Q0 0 0 0 [(0, .inr (some a0)), (1, .inl a1), (2, .inl a2)] [] h from HQ _ rfl
  intro Q0 hQ
  have ba1 := i_ty a1
  have ba2 := i_ty a2
  refine tt_iload_n (pc := 0) dX4_labelFor_0 (.tail _ (.tail _ (.head _))) ?_
  refine tw_iconst (pc := 1) dX4_labelFor_1 (by decide) (fun x14 ex14 => ?_)
  refine tw_icmp (tgt := 7) (pc := 2) dX4_labelFor_2 (by decide) (fun (c15 : a2.toInt ≠ x14.toInt) => ?_) (fun (c15 : ¬ (a2.toInt ≠ x14.toInt)) => ?_)
  · skip
    refine tt_iload_n (pc := 7) dX4_labelFor_7 (.tail _ (.tail _ (.head _))) ?_
    refine tw_iconst (pc := 8) dX4_labelFor_8 (by decide) (fun x16 ex16 => ?_)
    refine tt_aload_n (pc := 9) dX4_labelFor_9 (.head _) ?_
    refine tw_geti (pc := 10) dX4_labelFor_10 flX4_41 hw ta0 (by decide) rfl (fun f17 x18 ef17 gf17 lx18 ux18 => ?_)
    refine tt_ishl (pc := 13) dX4_labelFor_13 ?_
    refine tw_any (fun x19 => ?_)
    have bx19 := i_ty x19
    refine tw_icmp (tgt := 19) (pc := 14) dX4_labelFor_14 (by decide) (fun (c20 : a2.toInt ≠ x19.toInt) => ?_) (fun (c20 : ¬ (a2.toInt ≠ x19.toInt)) => ?_)
    · skip
      refine tt_iload_n (pc := 19) dX4_labelFor_19 (.tail _ (.head _)) ?_
      refine tw_bipush (pc := 20) dX4_labelFor_20 (by decide) (fun x21 ex21 => ?_)
      refine tw_icmp (tgt := 29) (pc := 22) dX4_labelFor_22 (by decide) (fun (c22 : a1.toInt < x21.toInt) => ?_) (fun (c22 : ¬ (a1.toInt < x21.toInt)) => ?_)
      · skip
        refine tt_aload_n (pc := 29) dX4_labelFor_29 (.head _) ?_
        refine tw_callV (kc := 0) (ks := 0) (mc := 0) (ms := 0) (as := []) (st := []) (pc := 30) hw ta0 (by decide) dX4_labelFor_30 lkX4_75 imX4_leastFreeLabel seX4_leastFreeLabel rfl rfl (by decide) (by decide) (Nat.le_of_ble_eq_true rfl) (g_X4_leastFreeLabel hN2 hN8 hp0 hp64 hw a0 ta0) (fun rv h23 qh23 => ?_)
        obtain ⟨rfl, x24, rfl, lx24, ux24⟩ := qh23
        show TT _ _ _ _ _ _ _ _ [.inl x24] _
        refine tt_stop ?_
        rw [hQ]
        exact Or.inr (Or.inl ⟨x24, dX4_labelFor_33, rfl, Or.inl rfl, rfl, x24, rfl, by omega, by omega⟩)
      · skip
        refine tt_iload_n (pc := 25) dX4_labelFor_25 (.tail _ (.head _)) ?_
        refine tt_goto (tgt := 33) (pc := 26) dX4_labelFor_26 (by decide) ?_
        refine tt_stop ?_
        rw [hQ]
        exact Or.inr (Or.inl ⟨a1, dX4_labelFor_33, rfl, Or.inl rfl, rfl, a1, rfl, by omega, by omega⟩)
    · skip
      refine tw_iconst (pc := 17) dX4_labelFor_17 (by decide) (fun x25 ex25 => ?_)
      refine tt_stop ?_
      rw [hQ]
      exact Or.inr (Or.inl ⟨x25, dX4_labelFor_18, rfl, Or.inl rfl, rfl, x25, rfl, by omega, by omega⟩)
  · skip
    refine tw_iconst (pc := 5) dX4_labelFor_5 (by decide) (fun x26 ex26 => ?_)
    refine tt_stop ?_
    rw [hQ]
    exact Or.inr (Or.inl ⟨x26, dX4_labelFor_6, rfl, Or.inl rfl, rfl, x26, rfl, by omega, by omega⟩)
abbrev mX4_prefixOfLabel : tM := (RX4, cX4_prefixOfLabel, 3, 0, 0, false)
set_option maxHeartbeats 4000000 in
theorem g_X4_prefixOfLabel {l : Launch} {D : va_G} {N : Nat} {pk : Int} {τ : List Nat} (hN2 : 2 ≤ N) (hN8 : N ≤ 8) (hp0 : 0 ≤ pk) (hp64 : pk ≤ 64) {h : List tC} (hw : WT N pk τ h) (a0 : Nat) (ta0 : τ[a0]? = some 4) (a1 : Int32) : TMc l D yX4_prefixOfLabel cX4_prefixOfLabel 3 (some .int) 0 0 0 0 [.inr (some a0), .inl a1] h (fun rv h' => h = h' ∧ ∃ x : Int32, rv = some (.inl x) ∧ -1 ≤ x.toInt ∧ x.toInt ≤ 7) := by
  refine tmc_of false rfl (by decide) (Nat.le_of_ble_eq_true rfl) ?_
  suffices HQ : ∀ Q0, Q0 = tRt cX4_prefixOfLabel (some .int) (fun rv h' => h = h' ∧ ∃ x : Int32, rv = some (.inl x) ∧ -1 ≤ x.toInt ∧ x.toInt ≤ 7) → TT l D mX4_prefixOfLabel Q0 0 0 0 [(0, .inr (some a0)), (1, .inl a1)] [] h from HQ _ rfl
  intro Q0 hQ
  have B2 : ∀ (n2 : Nat) (q80 : Nat) (tq80 : τ[q80]? = some 4) (x81 : Int32) (x82 : Int32) (lx82 : 0 ≤ x82.toInt) (ux82 : x82.toInt ≤ 8), 8 - x82.toInt < n2 → TT l D mX4_prefixOfLabel Q0 0 0 2 [(0, .inr (some q80)), (1, .inl x81), (2, .inl x82)] [] h := by
    intro n2
    induction n2 with
    | zero =>
      intro q80 tq80 x81 x82 lx82 ux82 hn2
      exfalso
      omega
    | succ n2 ih2 =>
      intro q80 tq80 x81 x82 lx82 ux82 hn2
      have bx81 := i_ty x81
      refine tt_iload_n (pc := 2) dX4_prefixOfLabel_2 (.tail _ (.tail _ (.head _))) ?_
      refine tw_bipush (pc := 3) dX4_prefixOfLabel_3 (by decide) (fun x83 ex83 => ?_)
      refine tw_icmp (tgt := 26) (pc := 5) dX4_prefixOfLabel_5 (by decide) (fun (c84 : x83.toInt ≤ x82.toInt) => ?_) (fun (c84 : ¬ (x83.toInt ≤ x82.toInt)) => ?_)
      · skip
        refine tw_iconst (pc := 26) dX4_prefixOfLabel_26 (by decide) (fun x85 ex85 => ?_)
        refine tt_stop ?_
        rw [hQ]
        exact Or.inr (Or.inl ⟨x85, dX4_prefixOfLabel_27, rfl, Or.inl rfl, rfl, x85, rfl, by omega, by omega⟩)
      · skip
        refine tt_aload_n (pc := 8) dX4_prefixOfLabel_8 (.head _) ?_
        refine tw_getr (pc := 9) dX4_prefixOfLabel_9 flX4_28 hw tq80 (by decide) rfl (fun f86 q87 ef86 gf86 tq87 => ?_)
        refine tt_iload_n (pc := 12) dX4_prefixOfLabel_12 (.tail _ (.tail _ (.head _))) ?_
        refine tw_ild (pc := 13) dX4_prefixOfLabel_13 hw tq87 rfl (by omega) (by omega) (fun f89 x88 ef89 gf89 lx88 ux88 => ?_)
        refine tt_iload_n (pc := 14) dX4_prefixOfLabel_14 (.tail _ (.head _)) ?_
        refine tw_icmp (tgt := 20) (pc := 15) dX4_prefixOfLabel_15 (by decide) (fun (c90 : x88.toInt ≠ x81.toInt) => ?_) (fun (c90 : ¬ (x88.toInt ≠ x81.toInt)) => ?_)
        · skip
          refine tw_iinc (pc := 20) dX4_prefixOfLabel_20 (.tail _ (.tail _ (.head _))) (by decide) (by decide) (by omega) (fun x91 ex91 => ?_)
          show TT _ _ _ _ _ _ _ [(2, .inl x91), (0, .inr (some q80)), (1, .inl x81)] _ _
          refine tt_goto (tgt := 2) (pc := 23) dX4_prefixOfLabel_23 (by decide) ?_
          refine tt_loc [(0, .inr (some q80)), (1, .inl x81), (2, .inl x91)] (List.forall_mem_cons.mpr ⟨(.tail _ (.head _)), List.forall_mem_cons.mpr ⟨(.tail _ (.tail _ (.head _))), List.forall_mem_cons.mpr ⟨(.head _), fun _ z => absurd z List.not_mem_nil⟩⟩⟩) ?_
          exact ih2 q80 tq80 x81 x91 (by omega) (by omega) (by omega)
        · skip
          refine tt_iload_n (pc := 18) dX4_prefixOfLabel_18 (.tail _ (.tail _ (.head _))) ?_
          refine tt_stop ?_
          rw [hQ]
          exact Or.inr (Or.inl ⟨x82, dX4_prefixOfLabel_19, rfl, Or.inl rfl, rfl, x82, rfl, by omega, by omega⟩)
  have ba1 := i_ty a1
  refine tw_iconst (pc := 0) dX4_prefixOfLabel_0 (by decide) (fun x92 ex92 => ?_)
  refine tt_istore_n (pc := 1) dX4_prefixOfLabel_1 (by decide) ?_
  show TT _ _ _ _ _ _ _ [(2, .inl x92), (0, .inr (some a0)), (1, .inl a1)] _ _
  refine tt_loc [(0, .inr (some a0)), (1, .inl a1), (2, .inl x92)] (List.forall_mem_cons.mpr ⟨(.tail _ (.head _)), List.forall_mem_cons.mpr ⟨(.tail _ (.tail _ (.head _))), List.forall_mem_cons.mpr ⟨(.head _), fun _ z => absurd z List.not_mem_nil⟩⟩⟩) ?_
  exact B2 9 a0 ta0 a1 x92 (by omega) (by omega) (by omega)
abbrev mX4_labelsInUse : tM := (RX4, cX4_labelsInUse, 3, 0, 0, false)
set_option maxHeartbeats 4000000 in
theorem g_X4_labelsInUse {l : Launch} {D : va_G} {N : Nat} {pk : Int} {τ : List Nat} (hN2 : 2 ≤ N) (hN8 : N ≤ 8) (hp0 : 0 ≤ pk) (hp64 : pk ≤ 64) {h : List tC} (hw : WT N pk τ h) (a0 : Nat) (ta0 : τ[a0]? = some 4) : TMc l D yX4_labelsInUse cX4_labelsInUse 3 (some .int) 0 0 0 0 [.inr (some a0)] h (fun rv h' => h = h' ∧ ∃ x : Int32, rv = some (.inl x) ∧ -2147483648 ≤ x.toInt ∧ x.toInt ≤ 2147483647) := by
  refine tmc_of false rfl (by decide) (Nat.le_of_ble_eq_true rfl) ?_
  suffices HQ : ∀ Q0, Q0 = tRt cX4_labelsInUse (some .int) (fun rv h' => h = h' ∧ ∃ x : Int32, rv = some (.inl x) ∧ -2147483648 ≤ x.toInt ∧ x.toInt ≤ 2147483647) → TT l D mX4_labelsInUse Q0 0 0 0 [(0, .inr (some a0))] [] h from HQ _ rfl
  intro Q0 hQ
  have B5 : ∀ (n5 : Nat) (q447 : Nat) (tq447 : τ[q447]? = some 4) (x448 : Int32) (x449 : Int32) (lx449 : 16 ≤ x449.toInt) (ux449 : x449.toInt ≤ 80), 80 - x449.toInt < n5 → TT l D mX4_labelsInUse Q0 0 0 5 [(0, .inr (some q447)), (1, .inl x448), (2, .inl x449)] [] h := by
    intro n5
    induction n5 with
    | zero =>
      intro q447 tq447 x448 x449 lx449 ux449 hn5
      exfalso
      omega
    | succ n5 ih5 =>
      intro q447 tq447 x448 x449 lx449 ux449 hn5
      have bx448 := i_ty x448
      have B24 : ∀ (q450 : Nat) (tq450 : τ[q450]? = some 4) (x451 : Int32) (x452 : Int32) (lx452 : 16 ≤ x452.toInt) (ux452 : x452.toInt ≤ 79) (hn5 : 80 - x452.toInt < ((n5 + 1 : Nat) : Int)), TT l D mX4_labelsInUse Q0 0 0 24 [(0, .inr (some q450)), (1, .inl x451), (2, .inl x452)] [] h := by
        intro q450 tq450 x451 x452 lx452 ux452 hn5
        have bx451 := i_ty x451
        refine tw_iinc (pc := 24) dX4_labelsInUse_24 (.tail _ (.tail _ (.head _))) (by decide) (by decide) (by omega) (fun x453 ex453 => ?_)
        show TT _ _ _ _ _ _ _ [(2, .inl x453), (0, .inr (some q450)), (1, .inl x451)] _ _
        refine tt_goto (tgt := 5) (pc := 27) dX4_labelsInUse_27 (by decide) ?_
        refine tt_loc [(0, .inr (some q450)), (1, .inl x451), (2, .inl x453)] (List.forall_mem_cons.mpr ⟨(.tail _ (.head _)), List.forall_mem_cons.mpr ⟨(.tail _ (.tail _ (.head _))), List.forall_mem_cons.mpr ⟨(.head _), fun _ z => absurd z List.not_mem_nil⟩⟩⟩) ?_
        exact ih5 q450 tq450 x451 x453 (by omega) (by omega) (by omega)
      refine tt_iload_n (pc := 5) dX4_labelsInUse_5 (.tail _ (.tail _ (.head _))) ?_
      refine tw_bipush (pc := 6) dX4_labelsInUse_6 (by decide) (fun x454 ex454 => ?_)
      refine tw_icmp (tgt := 30) (pc := 8) dX4_labelsInUse_8 (by decide) (fun (c455 : x454.toInt ≤ x449.toInt) => ?_) (fun (c455 : ¬ (x454.toInt ≤ x449.toInt)) => ?_)
      · skip
        refine tt_iload_n (pc := 30) dX4_labelsInUse_30 (.tail _ (.head _)) ?_
        refine tt_stop ?_
        rw [hQ]
        exact Or.inr (Or.inl ⟨x448, dX4_labelsInUse_31, rfl, Or.inl rfl, rfl, x448, rfl, by omega, by omega⟩)
      · skip
        refine tt_aload_n (pc := 11) dX4_labelsInUse_11 (.head _) ?_
        refine tw_getr (pc := 12) dX4_labelsInUse_12 flX4_35 hw tq447 (by decide) rfl (fun f456 q457 ef456 gf456 tq457 => ?_)
        refine tt_iload_n (pc := 15) dX4_labelsInUse_15 (.tail _ (.tail _ (.head _))) ?_
        refine tw_ild (pc := 16) dX4_labelsInUse_16 hw tq457 rfl (by omega) (by omega) (fun f459 x458 ef459 gf459 lx458 ux458 => ?_)
        refine tw_iconst (pc := 17) dX4_labelsInUse_17 (by decide) (fun x460 ex460 => ?_)
        refine tw_icmp (tgt := 24) (pc := 18) dX4_labelsInUse_18 (by decide) (fun (c461 : x458.toInt = x460.toInt) => ?_) (fun (c461 : ¬ (x458.toInt = x460.toInt)) => ?_)
        · skip
          refine tt_loc [(0, .inr (some q447)), (1, .inl x448), (2, .inl x449)] (List.forall_mem_cons.mpr ⟨(.head _), List.forall_mem_cons.mpr ⟨(.tail _ (.head _)), List.forall_mem_cons.mpr ⟨(.tail _ (.tail _ (.head _))), fun _ z => absurd z List.not_mem_nil⟩⟩⟩) ?_
          exact B24 q447 tq447 x448 x449 (by omega) (by omega) (by omega)
        · skip
          refine tw_iincA (pc := 21) dX4_labelsInUse_21 (.tail _ (.head _)) (by decide) (fun x462 => ?_)
          show TT _ _ _ _ _ _ _ [(1, .inl x462), (0, .inr (some q447)), (2, .inl x449)] _ _
          have bx462 := i_ty x462
          refine tt_loc [(0, .inr (some q447)), (1, .inl x462), (2, .inl x449)] (List.forall_mem_cons.mpr ⟨(.tail _ (.head _)), List.forall_mem_cons.mpr ⟨(.head _), List.forall_mem_cons.mpr ⟨(.tail _ (.tail _ (.head _))), fun _ z => absurd z List.not_mem_nil⟩⟩⟩) ?_
          exact B24 q447 tq447 x462 x449 (by omega) (by omega) (by omega)
  refine tw_iconst (pc := 0) dX4_labelsInUse_0 (by decide) (fun x463 ex463 => ?_)
  refine tt_istore_n (pc := 1) dX4_labelsInUse_1 (by decide) ?_
  show TT _ _ _ _ _ _ _ [(1, .inl x463), (0, .inr (some a0))] _ _
  refine tw_bipush (pc := 2) dX4_labelsInUse_2 (by decide) (fun x464 ex464 => ?_)
  refine tt_istore_n (pc := 4) dX4_labelsInUse_4 (by decide) ?_
  show TT _ _ _ _ _ _ _ [(2, .inl x464), (1, .inl x463), (0, .inr (some a0))] _ _
  refine tt_loc [(0, .inr (some a0)), (1, .inl x463), (2, .inl x464)] (List.forall_mem_cons.mpr ⟨(.tail _ (.tail _ (.head _))), List.forall_mem_cons.mpr ⟨(.tail _ (.head _)), List.forall_mem_cons.mpr ⟨(.head _), fun _ z => absurd z List.not_mem_nil⟩⟩⟩) ?_
  exact B5 65 a0 ta0 x463 x464 (by omega) (by omega) (by omega)
end
