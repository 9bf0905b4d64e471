-- ===== PART A: goes FIRST, ahead of the names: the tables' words, and 'selects' of the private methods out of them =====
/-- a private method of a class that the tables say can be made, by its rows of tables_1 -/
def lw_okq (q : MethodName × Nat) : Prop := (q.1.cls ≠ "java/lang/invoke/MethodHandle" ∧ q.1.cls ≠ "java/lang/invoke/VarHandle") ∧ Cond.instantiable q.1.cls q.2 ∈ tables_1 ∧ Cond.privateMethod q.1 ∈ tables_1 ∧ Cond.instanceMethod q.1 ∈ tables_1
theorem lw_p0 : lw_okq (⟨"CallForks", "requireParty", "(I)V"⟩, 5) := ⟨⟨by decide +kernel, by decide +kernel⟩, List.mem_of_getElem? (i := 24) (by decide +kernel), List.mem_of_getElem? (i := 245) (by decide +kernel), List.mem_of_getElem? (i := 246) (by decide +kernel)⟩
theorem lw_p1 : lw_okq (⟨"java/lang/Throwable", "fillInStackTrace", "(I)Ljava/lang/Throwable;"⟩, 6) := ⟨⟨by decide +kernel, by decide +kernel⟩, List.mem_of_getElem? (i := 292) (by decide +kernel), List.mem_of_getElem? (i := 290) (by decide +kernel), List.mem_of_getElem? (i := 291) (by decide +kernel)⟩
theorem lw_p2 : lw_okq (⟨"CallForks$Exchange", "callerOf", "(I)I"⟩, 9) := ⟨⟨by decide +kernel, by decide +kernel⟩, List.mem_of_getElem? (i := 32) (by decide +kernel), List.mem_of_getElem? (i := 348) (by decide +kernel), List.mem_of_getElem? (i := 349) (by decide +kernel)⟩
theorem lw_p3 : lw_okq (⟨"CallForks$Exchange", "ringsAt", "(II)Z"⟩, 9) := ⟨⟨by decide +kernel, by decide +kernel⟩, List.mem_of_getElem? (i := 32) (by decide +kernel), List.mem_of_getElem? (i := 364) (by decide +kernel), List.mem_of_getElem? (i := 365) (by decide +kernel)⟩
theorem lw_p4 : lw_okq (⟨"CallForks", "requireCall", "(I)V"⟩, 5) := ⟨⟨by decide +kernel, by decide +kernel⟩, List.mem_of_getElem? (i := 24) (by decide +kernel), List.mem_of_getElem? (i := 373) (by decide +kernel), List.mem_of_getElem? (i := 374) (by decide +kernel)⟩
theorem lw_p5 : lw_okq (⟨"CallForks", "requireLeg", "(I)V"⟩, 5) := ⟨⟨by decide +kernel, by decide +kernel⟩, List.mem_of_getElem? (i := 24) (by decide +kernel), List.mem_of_getElem? (i := 386) (by decide +kernel), List.mem_of_getElem? (i := 387) (by decide +kernel)⟩
theorem lw_p6 : lw_okq (⟨"CallForks$SetupReader", "nextToken", "()V"⟩, 15) := ⟨⟨by decide +kernel, by decide +kernel⟩, List.mem_of_getElem? (i := 126) (by decide +kernel), List.mem_of_getElem? (i := 419) (by decide +kernel), List.mem_of_getElem? (i := 420) (by decide +kernel)⟩
theorem lw_p7 : lw_okq (⟨"CallForks$SetupReader", "byteAt", "(I)I"⟩, 15) := ⟨⟨by decide +kernel, by decide +kernel⟩, List.mem_of_getElem? (i := 126) (by decide +kernel), List.mem_of_getElem? (i := 423) (by decide +kernel), List.mem_of_getElem? (i := 424) (by decide +kernel)⟩
theorem lw_p8 : lw_okq (⟨"CallForks$SetupReader", "atWord", "(Ljava/lang/String;)Z"⟩, 15) := ⟨⟨by decide +kernel, by decide +kernel⟩, List.mem_of_getElem? (i := 126) (by decide +kernel), List.mem_of_getElem? (i := 438) (by decide +kernel), List.mem_of_getElem? (i := 439) (by decide +kernel)⟩
theorem lw_p9 : lw_okq (⟨"CallForks$SetupReader", "fail", "(I)V"⟩, 15) := ⟨⟨by decide +kernel, by decide +kernel⟩, List.mem_of_getElem? (i := 126) (by decide +kernel), List.mem_of_getElem? (i := 490) (by decide +kernel), List.mem_of_getElem? (i := 491) (by decide +kernel)⟩
theorem lw_p10 : lw_okq (⟨"CallForks$SetupReader", "takeSign", "(C)V"⟩, 15) := ⟨⟨by decide +kernel, by decide +kernel⟩, List.mem_of_getElem? (i := 126) (by decide +kernel), List.mem_of_getElem? (i := 494) (by decide +kernel), List.mem_of_getElem? (i := 495) (by decide +kernel)⟩
theorem lw_p11 : lw_okq (⟨"CallForks$SetupReader", "atSign", "(C)Z"⟩, 15) := ⟨⟨by decide +kernel, by decide +kernel⟩, List.mem_of_getElem? (i := 126) (by decide +kernel), List.mem_of_getElem? (i := 498) (by decide +kernel), List.mem_of_getElem? (i := 499) (by decide +kernel)⟩
theorem lw_p12 : lw_okq (⟨"CallForks$SetupReader", "readStatement", "()V"⟩, 15) := ⟨⟨by decide +kernel, by decide +kernel⟩, List.mem_of_getElem? (i := 126) (by decide +kernel), List.mem_of_getElem? (i := 502) (by decide +kernel), List.mem_of_getElem? (i := 503) (by decide +kernel)⟩
theorem lw_p13 : lw_okq (⟨"CallForks$SetupReader", "readParty", "()V"⟩, 15) := ⟨⟨by decide +kernel, by decide +kernel⟩, List.mem_of_getElem? (i := 126) (by decide +kernel), List.mem_of_getElem? (i := 507) (by decide +kernel), List.mem_of_getElem? (i := 508) (by decide +kernel)⟩
theorem lw_p14 : lw_okq (⟨"CallForks$SetupReader", "takeNumber", "(II)I"⟩, 15) := ⟨⟨by decide +kernel, by decide +kernel⟩, List.mem_of_getElem? (i := 126) (by decide +kernel), List.mem_of_getElem? (i := 511) (by decide +kernel), List.mem_of_getElem? (i := 512) (by decide +kernel)⟩
theorem lw_p15 : lw_okq (⟨"CallForks$SetupReader", "numberInRange", "(II)I"⟩, 15) := ⟨⟨by decide +kernel, by decide +kernel⟩, List.mem_of_getElem? (i := 126) (by decide +kernel), List.mem_of_getElem? (i := 515) (by decide +kernel), List.mem_of_getElem? (i := 516) (by decide +kernel)⟩
def lw_privs_1 : List (MethodName × Nat) := [(⟨"CallForks", "requireParty", "(I)V"⟩, 5), (⟨"java/lang/Throwable", "fillInStackTrace", "(I)Ljava/lang/Throwable;"⟩, 6), (⟨"CallForks$Exchange", "callerOf", "(I)I"⟩, 9), (⟨"CallForks$Exchange", "ringsAt", "(II)Z"⟩, 9), (⟨"CallForks", "requireCall", "(I)V"⟩, 5), (⟨"CallForks", "requireLeg", "(I)V"⟩, 5), (⟨"CallForks$SetupReader", "nextToken", "()V"⟩, 15), (⟨"CallForks$SetupReader", "byteAt", "(I)I"⟩, 15), (⟨"CallForks$SetupReader", "atWord", "(Ljava/lang/String;)Z"⟩, 15), (⟨"CallForks$SetupReader", "fail", "(I)V"⟩, 15), (⟨"CallForks$SetupReader", "takeSign", "(C)V"⟩, 15), (⟨"CallForks$SetupReader", "atSign", "(C)Z"⟩, 15), (⟨"CallForks$SetupReader", "readStatement", "()V"⟩, 15), (⟨"CallForks$SetupReader", "readParty", "()V"⟩, 15), (⟨"CallForks$SetupReader", "takeNumber", "(II)I"⟩, 15), (⟨"CallForks$SetupReader", "numberInRange", "(II)I"⟩, 15)]
theorem lw_r1 : ∀ q ∈ lw_privs_1, lw_okq q := List.forall_mem_cons.mpr ⟨lw_p0, List.forall_mem_cons.mpr ⟨lw_p1, List.forall_mem_cons.mpr ⟨lw_p2, List.forall_mem_cons.mpr ⟨lw_p3, List.forall_mem_cons.mpr ⟨lw_p4, List.forall_mem_cons.mpr ⟨lw_p5, List.forall_mem_cons.mpr ⟨lw_p6, List.forall_mem_cons.mpr ⟨lw_p7, List.forall_mem_cons.mpr ⟨lw_p8, List.forall_mem_cons.mpr ⟨lw_p9, List.forall_mem_cons.mpr ⟨lw_p10, List.forall_mem_cons.mpr ⟨lw_p11, List.forall_mem_cons.mpr ⟨lw_p12, List.forall_mem_cons.mpr ⟨lw_p13, List.forall_mem_cons.mpr ⟨lw_p14, List.forall_mem_cons.mpr ⟨lw_p15, fun _ h => absurd h List.not_mem_nil⟩⟩⟩⟩⟩⟩⟩⟩⟩⟩⟩⟩⟩⟩⟩⟩
theorem lw_p16 : lw_okq (⟨"CallForks$SetupReader", "readWait", "()V"⟩, 15) := ⟨⟨by decide +kernel, by decide +kernel⟩, List.mem_of_getElem? (i := 126) (by decide +kernel), List.mem_of_getElem? (i := 525) (by decide +kernel), List.mem_of_getElem? (i := 526) (by decide +kernel)⟩
theorem lw_p17 : lw_okq (⟨"CallForks$SetupReader", "readPatience", "()V"⟩, 15) := ⟨⟨by decide +kernel, by decide +kernel⟩, List.mem_of_getElem? (i := 126) (by decide +kernel), List.mem_of_getElem? (i := 530) (by decide +kernel), List.mem_of_getElem? (i := 531) (by decide +kernel)⟩
theorem lw_p18 : lw_okq (⟨"CallForks$SetupReader", "readSum", "(I)V"⟩, 15) := ⟨⟨by decide +kernel, by decide +kernel⟩, List.mem_of_getElem? (i := 126) (by decide +kernel), List.mem_of_getElem? (i := 535) (by decide +kernel), List.mem_of_getElem? (i := 536) (by decide +kernel)⟩
theorem lw_p19 : lw_okq (⟨"CallForks$SetupReader", "readTerm", "(I)V"⟩, 15) := ⟨⟨by decide +kernel, by decide +kernel⟩, List.mem_of_getElem? (i := 126) (by decide +kernel), List.mem_of_getElem? (i := 539) (by decide +kernel), List.mem_of_getElem? (i := 540) (by decide +kernel)⟩
theorem lw_p20 : lw_okq (⟨"CallForks$SetupReader", "readFactor", "(I)V"⟩, 15) := ⟨⟨by decide +kernel, by decide +kernel⟩, List.mem_of_getElem? (i := 126) (by decide +kernel), List.mem_of_getElem? (i := 543) (by decide +kernel), List.mem_of_getElem? (i := 544) (by decide +kernel)⟩
theorem lw_p21 : lw_okq (⟨"CallForks$SetupReader", "addCode", "(I)V"⟩, 15) := ⟨⟨by decide +kernel, by decide +kernel⟩, List.mem_of_getElem? (i := 126) (by decide +kernel), List.mem_of_getElem? (i := 547) (by decide +kernel), List.mem_of_getElem? (i := 548) (by decide +kernel)⟩
theorem lw_p22 : lw_okq (⟨"CallForks", "playUntilSettled", "(I)I"⟩, 5) := ⟨⟨by decide +kernel, by decide +kernel⟩, List.mem_of_getElem? (i := 24) (by decide +kernel), List.mem_of_getElem? (i := 655) (by decide +kernel), List.mem_of_getElem? (i := 656) (by decide +kernel)⟩
theorem lw_p23 : lw_okq (⟨"CallForks$Exchange", "repeatOffer", "(II)V"⟩, 9) := ⟨⟨by decide +kernel, by decide +kernel⟩, List.mem_of_getElem? (i := 32) (by decide +kernel), List.mem_of_getElem? (i := 663) (by decide +kernel), List.mem_of_getElem? (i := 664) (by decide +kernel)⟩
theorem lw_p24 : lw_okq (⟨"CallForks$Exchange", "setOffer", "(III)V"⟩, 9) := ⟨⟨by decide +kernel, by decide +kernel⟩, List.mem_of_getElem? (i := 32) (by decide +kernel), List.mem_of_getElem? (i := 667) (by decide +kernel), List.mem_of_getElem? (i := 668) (by decide +kernel)⟩
theorem lw_p25 : lw_okq (⟨"CallForks$Exchange", "tally", "(I)V"⟩, 9) := ⟨⟨by decide +kernel, by decide +kernel⟩, List.mem_of_getElem? (i := 32) (by decide +kernel), List.mem_of_getElem? (i := 671) (by decide +kernel), List.mem_of_getElem? (i := 672) (by decide +kernel)⟩
theorem lw_p26 : lw_okq (⟨"CallForks$Exchange", "settleOffer", "(I)V"⟩, 9) := ⟨⟨by decide +kernel, by decide +kernel⟩, List.mem_of_getElem? (i := 32) (by decide +kernel), List.mem_of_getElem? (i := 675) (by decide +kernel), List.mem_of_getElem? (i := 676) (by decide +kernel)⟩
theorem lw_p27 : lw_okq (⟨"CallForks$Exchange", "partyOn", "(II)I"⟩, 9) := ⟨⟨by decide +kernel, by decide +kernel⟩, List.mem_of_getElem? (i := 32) (by decide +kernel), List.mem_of_getElem? (i := 679) (by decide +kernel), List.mem_of_getElem? (i := 680) (by decide +kernel)⟩
theorem lw_p28 : lw_okq (⟨"CallForks$Exchange", "isAnsweredNow", "(I)Z"⟩, 9) := ⟨⟨by decide +kernel, by decide +kernel⟩, List.mem_of_getElem? (i := 32) (by decide +kernel), List.mem_of_getElem? (i := 683) (by decide +kernel), List.mem_of_getElem? (i := 684) (by decide +kernel)⟩
theorem lw_p29 : lw_okq (⟨"CallForks$Exchange", "answer", "(I)V"⟩, 9) := ⟨⟨by decide +kernel, by decide +kernel⟩, List.mem_of_getElem? (i := 32) (by decide +kernel), List.mem_of_getElem? (i := 688) (by decide +kernel), List.mem_of_getElem? (i := 689) (by decide +kernel)⟩
theorem lw_p30 : lw_okq (⟨"CallForks$Exchange", "endRinging", "(II)V"⟩, 9) := ⟨⟨by decide +kernel, by decide +kernel⟩, List.mem_of_getElem? (i := 32) (by decide +kernel), List.mem_of_getElem? (i := 692) (by decide +kernel), List.mem_of_getElem? (i := 693) (by decide +kernel)⟩
theorem lw_p31 : lw_okq (⟨"CallForks$Exchange", "endLeg", "(II)V"⟩, 9) := ⟨⟨by decide +kernel, by decide +kernel⟩, List.mem_of_getElem? (i := 32) (by decide +kernel), List.mem_of_getElem? (i := 696) (by decide +kernel), List.mem_of_getElem? (i := 697) (by decide +kernel)⟩
def lw_privs_2 : List (MethodName × Nat) := [(⟨"CallForks$SetupReader", "readWait", "()V"⟩, 15), (⟨"CallForks$SetupReader", "readPatience", "()V"⟩, 15), (⟨"CallForks$SetupReader", "readSum", "(I)V"⟩, 15), (⟨"CallForks$SetupReader", "readTerm", "(I)V"⟩, 15), (⟨"CallForks$SetupReader", "readFactor", "(I)V"⟩, 15), (⟨"CallForks$SetupReader", "addCode", "(I)V"⟩, 15), (⟨"CallForks", "playUntilSettled", "(I)I"⟩, 5), (⟨"CallForks$Exchange", "repeatOffer", "(II)V"⟩, 9), (⟨"CallForks$Exchange", "setOffer", "(III)V"⟩, 9), (⟨"CallForks$Exchange", "tally", "(I)V"⟩, 9), (⟨"CallForks$Exchange", "settleOffer", "(I)V"⟩, 9), (⟨"CallForks$Exchange", "partyOn", "(II)I"⟩, 9), (⟨"CallForks$Exchange", "isAnsweredNow", "(I)Z"⟩, 9), (⟨"CallForks$Exchange", "answer", "(I)V"⟩, 9), (⟨"CallForks$Exchange", "endRinging", "(II)V"⟩, 9), (⟨"CallForks$Exchange", "endLeg", "(II)V"⟩, 9)]
theorem lw_r2 : ∀ q ∈ lw_privs_2, lw_okq q := List.forall_mem_cons.mpr ⟨lw_p16, List.forall_mem_cons.mpr ⟨lw_p17, List.forall_mem_cons.mpr ⟨lw_p18, List.forall_mem_cons.mpr ⟨lw_p19, List.forall_mem_cons.mpr ⟨lw_p20, List.forall_mem_cons.mpr ⟨lw_p21, List.forall_mem_cons.mpr ⟨lw_p22, List.forall_mem_cons.mpr ⟨lw_p23, List.forall_mem_cons.mpr ⟨lw_p24, List.forall_mem_cons.mpr ⟨lw_p25, List.forall_mem_cons.mpr ⟨lw_p26, List.forall_mem_cons.mpr ⟨lw_p27, List.forall_mem_cons.mpr ⟨lw_p28, List.forall_mem_cons.mpr ⟨lw_p29, List.forall_mem_cons.mpr ⟨lw_p30, List.forall_mem_cons.mpr ⟨lw_p31, fun _ h => absurd h List.not_mem_nil⟩⟩⟩⟩⟩⟩⟩⟩⟩⟩⟩⟩⟩⟩⟩⟩
theorem lw_p32 : lw_okq (⟨"CallForks$Exchange", "dropOffers", "(I)V"⟩, 9) := ⟨⟨by decide +kernel, by decide +kernel⟩, List.mem_of_getElem? (i := 32) (by decide +kernel), List.mem_of_getElem? (i := 700) (by decide +kernel), List.mem_of_getElem? (i := 701) (by decide +kernel)⟩
theorem lw_p33 : lw_okq (⟨"CallForks$Exchange", "endRingingAt", "(II)I"⟩, 9) := ⟨⟨by decide +kernel, by decide +kernel⟩, List.mem_of_getElem? (i := 32) (by decide +kernel), List.mem_of_getElem? (i := 704) (by decide +kernel), List.mem_of_getElem? (i := 705) (by decide +kernel)⟩
theorem lw_p34 : lw_okq (⟨"CallForks$Exchange", "failCall", "(I)V"⟩, 9) := ⟨⟨by decide +kernel, by decide +kernel⟩, List.mem_of_getElem? (i := 32) (by decide +kernel), List.mem_of_getElem? (i := 709) (by decide +kernel), List.mem_of_getElem? (i := 710) (by decide +kernel)⟩
theorem lw_p35 : lw_okq (⟨"CallForks$Exchange", "resumeReferrer", "(I)V"⟩, 9) := ⟨⟨by decide +kernel, by decide +kernel⟩, List.mem_of_getElem? (i := 32) (by decide +kernel), List.mem_of_getElem? (i := 713) (by decide +kernel), List.mem_of_getElem? (i := 714) (by decide +kernel)⟩
theorem lw_p36 : lw_okq (⟨"CallForks$Exchange", "ringTime", "(III)I"⟩, 9) := ⟨⟨by decide +kernel, by decide +kernel⟩, List.mem_of_getElem? (i := 32) (by decide +kernel), List.mem_of_getElem? (i := 772) (by decide +kernel), List.mem_of_getElem? (i := 773) (by decide +kernel)⟩
theorem lw_p37 : lw_okq (⟨"CallForks$RingRule", "push", "(I)V"⟩, 3) := ⟨⟨by decide +kernel, by decide +kernel⟩, List.mem_of_getElem? (i := 555) (by decide +kernel), List.mem_of_getElem? (i := 780) (by decide +kernel), List.mem_of_getElem? (i := 781) (by decide +kernel)⟩
theorem lw_p38 : lw_okq (⟨"CallForks$RingRule", "operate", "(I)V"⟩, 3) := ⟨⟨by decide +kernel, by decide +kernel⟩, List.mem_of_getElem? (i := 555) (by decide +kernel), List.mem_of_getElem? (i := 784) (by decide +kernel), List.mem_of_getElem? (i := 785) (by decide +kernel)⟩
theorem lw_p39 : lw_okq (⟨"CallForks$RingRule", "pop", "()I"⟩, 3) := ⟨⟨by decide +kernel, by decide +kernel⟩, List.mem_of_getElem? (i := 555) (by decide +kernel), List.mem_of_getElem? (i := 788) (by decide +kernel), List.mem_of_getElem? (i := 789) (by decide +kernel)⟩
theorem lw_p40 : lw_okq (⟨"CallForks$Exchange", "addLeg", "(II)I"⟩, 9) := ⟨⟨by decide +kernel, by decide +kernel⟩, List.mem_of_getElem? (i := 32) (by decide +kernel), List.mem_of_getElem? (i := 798) (by decide +kernel), List.mem_of_getElem? (i := 799) (by decide +kernel)⟩
theorem lw_p41 : lw_okq (⟨"CallForks$Exchange", "ringingCallOf", "(I)I"⟩, 9) := ⟨⟨by decide +kernel, by decide +kernel⟩, List.mem_of_getElem? (i := 32) (by decide +kernel), List.mem_of_getElem? (i := 833) (by decide +kernel), List.mem_of_getElem? (i := 834) (by decide +kernel)⟩
theorem lw_p42 : lw_okq (⟨"CallForks$Exchange", "planRepetition", "(III)V"⟩, 9) := ⟨⟨by decide +kernel, by decide +kernel⟩, List.mem_of_getElem? (i := 32) (by decide +kernel), List.mem_of_getElem? (i := 850) (by decide +kernel), List.mem_of_getElem? (i := 851) (by decide +kernel)⟩
theorem lw_p43 : lw_okq (⟨"CallForksModel", "fails", "(ZI)Z"⟩, 17) := ⟨⟨by decide +kernel, by decide +kernel⟩, List.mem_of_getElem? (i := 862) (by decide +kernel), List.mem_of_getElem? (i := 941) (by decide +kernel), List.mem_of_getElem? (i := 942) (by decide +kernel)⟩
theorem lw_p44 : lw_okq (⟨"CallForksModel", "takeWord", "(Ljava/lang/String;)Z"⟩, 17) := ⟨⟨by decide +kernel, by decide +kernel⟩, List.mem_of_getElem? (i := 862) (by decide +kernel), List.mem_of_getElem? (i := 946) (by decide +kernel), List.mem_of_getElem? (i := 947) (by decide +kernel)⟩
theorem lw_p45 : lw_okq (⟨"CallForksModel", "isGood", "()Z"⟩, 17) := ⟨⟨by decide +kernel, by decide +kernel⟩, List.mem_of_getElem? (i := 862) (by decide +kernel), List.mem_of_getElem? (i := 950) (by decide +kernel), List.mem_of_getElem? (i := 951) (by decide +kernel)⟩
theorem lw_p46 : lw_okq (⟨"CallForksModel", "next", "()I"⟩, 17) := ⟨⟨by decide +kernel, by decide +kernel⟩, List.mem_of_getElem? (i := 862) (by decide +kernel), List.mem_of_getElem? (i := 954) (by decide +kernel), List.mem_of_getElem? (i := 955) (by decide +kernel)⟩
theorem lw_p47 : lw_okq (⟨"CallForksModel", "byteAt", "(I)I"⟩, 17) := ⟨⟨by decide +kernel, by decide +kernel⟩, List.mem_of_getElem? (i := 862) (by decide +kernel), List.mem_of_getElem? (i := 958) (by decide +kernel), List.mem_of_getElem? (i := 959) (by decide +kernel)⟩
def lw_privs_3 : List (MethodName × Nat) := [(⟨"CallForks$Exchange", "dropOffers", "(I)V"⟩, 9), (⟨"CallForks$Exchange", "endRingingAt", "(II)I"⟩, 9), (⟨"CallForks$Exchange", "failCall", "(I)V"⟩, 9), (⟨"CallForks$Exchange", "resumeReferrer", "(I)V"⟩, 9), (⟨"CallForks$Exchange", "ringTime", "(III)I"⟩, 9), (⟨"CallForks$RingRule", "push", "(I)V"⟩, 3), (⟨"CallForks$RingRule", "operate", "(I)V"⟩, 3), (⟨"CallForks$RingRule", "pop", "()I"⟩, 3), (⟨"CallForks$Exchange", "addLeg", "(II)I"⟩, 9), (⟨"CallForks$Exchange", "ringingCallOf", "(I)I"⟩, 9), (⟨"CallForks$Exchange", "planRepetition", "(III)V"⟩, 9), (⟨"CallForksModel", "fails", "(ZI)Z"⟩, 17), (⟨"CallForksModel", "takeWord", "(Ljava/lang/String;)Z"⟩, 17), (⟨"CallForksModel", "isGood", "()Z"⟩, 17), (⟨"CallForksModel", "next", "()I"⟩, 17), (⟨"CallForksModel", "byteAt", "(I)I"⟩, 17)]
theorem lw_r3 : ∀ q ∈ lw_privs_3, lw_okq q := List.forall_mem_cons.mpr ⟨lw_p32, List.forall_mem_cons.mpr ⟨lw_p33, List.forall_mem_cons.mpr ⟨lw_p34, List.forall_mem_cons.mpr ⟨lw_p35, List.forall_mem_cons.mpr ⟨lw_p36, List.forall_mem_cons.mpr ⟨lw_p37, List.forall_mem_cons.mpr ⟨lw_p38, List.forall_mem_cons.mpr ⟨lw_p39, List.forall_mem_cons.mpr ⟨lw_p40, List.forall_mem_cons.mpr ⟨lw_p41, List.forall_mem_cons.mpr ⟨lw_p42, List.forall_mem_cons.mpr ⟨lw_p43, List.forall_mem_cons.mpr ⟨lw_p44, List.forall_mem_cons.mpr ⟨lw_p45, List.forall_mem_cons.mpr ⟨lw_p46, List.forall_mem_cons.mpr ⟨lw_p47, fun _ h => absurd h List.not_mem_nil⟩⟩⟩⟩⟩⟩⟩⟩⟩⟩⟩⟩⟩⟩⟩⟩
theorem lw_p48 : lw_okq (⟨"CallForksModel", "report", "(II)V"⟩, 17) := ⟨⟨by decide +kernel, by decide +kernel⟩, List.mem_of_getElem? (i := 862) (by decide +kernel), List.mem_of_getElem? (i := 964) (by decide +kernel), List.mem_of_getElem? (i := 965) (by decide +kernel)⟩
theorem lw_p49 : lw_okq (⟨"CallForksModel", "expect", "(I)V"⟩, 17) := ⟨⟨by decide +kernel, by decide +kernel⟩, List.mem_of_getElem? (i := 862) (by decide +kernel), List.mem_of_getElem? (i := 968) (by decide +kernel), List.mem_of_getElem? (i := 969) (by decide +kernel)⟩
theorem lw_p50 : lw_okq (⟨"CallForksModel", "statement", "()V"⟩, 17) := ⟨⟨by decide +kernel, by decide +kernel⟩, List.mem_of_getElem? (i := 862) (by decide +kernel), List.mem_of_getElem? (i := 972) (by decide +kernel), List.mem_of_getElem? (i := 973) (by decide +kernel)⟩
theorem lw_p51 : lw_okq (⟨"CallForksModel", "readParty", "(I)V"⟩, 17) := ⟨⟨by decide +kernel, by decide +kernel⟩, List.mem_of_getElem? (i := 862) (by decide +kernel), List.mem_of_getElem? (i := 977) (by decide +kernel), List.mem_of_getElem? (i := 978) (by decide +kernel)⟩
theorem lw_p52 : lw_okq (⟨"CallForksModel", "number", "(II)I"⟩, 17) := ⟨⟨by decide +kernel, by decide +kernel⟩, List.mem_of_getElem? (i := 862) (by decide +kernel), List.mem_of_getElem? (i := 981) (by decide +kernel), List.mem_of_getElem? (i := 982) (by decide +kernel)⟩
theorem lw_p53 : lw_okq (⟨"CallForksModel", "once", "(II)V"⟩, 17) := ⟨⟨by decide +kernel, by decide +kernel⟩, List.mem_of_getElem? (i := 862) (by decide +kernel), List.mem_of_getElem? (i := 993) (by decide +kernel), List.mem_of_getElem? (i := 994) (by decide +kernel)⟩
theorem lw_p54 : lw_okq (⟨"CallForksModel", "sum", "()V"⟩, 17) := ⟨⟨by decide +kernel, by decide +kernel⟩, List.mem_of_getElem? (i := 862) (by decide +kernel), List.mem_of_getElem? (i := 999) (by decide +kernel), List.mem_of_getElem? (i := 1000) (by decide +kernel)⟩
theorem lw_p55 : lw_okq (⟨"CallForksModel", "term", "()V"⟩, 17) := ⟨⟨by decide +kernel, by decide +kernel⟩, List.mem_of_getElem? (i := 862) (by decide +kernel), List.mem_of_getElem? (i := 1003) (by decide +kernel), List.mem_of_getElem? (i := 1004) (by decide +kernel)⟩
theorem lw_p56 : lw_okq (⟨"CallForksModel", "factor", "()V"⟩, 17) := ⟨⟨by decide +kernel, by decide +kernel⟩, List.mem_of_getElem? (i := 862) (by decide +kernel), List.mem_of_getElem? (i := 1007) (by decide +kernel), List.mem_of_getElem? (i := 1008) (by decide +kernel)⟩
theorem lw_p57 : lw_okq (⟨"CallForksModel", "emit", "(I)V"⟩, 17) := ⟨⟨by decide +kernel, by decide +kernel⟩, List.mem_of_getElem? (i := 862) (by decide +kernel), List.mem_of_getElem? (i := 1015) (by decide +kernel), List.mem_of_getElem? (i := 1016) (by decide +kernel)⟩
theorem lw_p58 : lw_okq (⟨"CallForksModel", "remember", "()V"⟩, 17) := ⟨⟨by decide +kernel, by decide +kernel⟩, List.mem_of_getElem? (i := 862) (by decide +kernel), List.mem_of_getElem? (i := 1019) (by decide +kernel), List.mem_of_getElem? (i := 1020) (by decide +kernel)⟩
theorem lw_p59 : lw_okq (⟨"CallForksModel", "noWhat", "(III)Z"⟩, 17) := ⟨⟨by decide +kernel, by decide +kernel⟩, List.mem_of_getElem? (i := 862) (by decide +kernel), List.mem_of_getElem? (i := 1038) (by decide +kernel), List.mem_of_getElem? (i := 1039) (by decide +kernel)⟩
theorem lw_p60 : lw_okq (⟨"CallForksModel", "countOf", "(I)I"⟩, 17) := ⟨⟨by decide +kernel, by decide +kernel⟩, List.mem_of_getElem? (i := 862) (by decide +kernel), List.mem_of_getElem? (i := 1042) (by decide +kernel), List.mem_of_getElem? (i := 1043) (by decide +kernel)⟩
theorem lw_p61 : lw_okq (⟨"CallForksModel", "is", "(II)Z"⟩, 17) := ⟨⟨by decide +kernel, by decide +kernel⟩, List.mem_of_getElem? (i := 862) (by decide +kernel), List.mem_of_getElem? (i := 1046) (by decide +kernel), List.mem_of_getElem? (i := 1047) (by decide +kernel)⟩
theorem lw_p62 : lw_okq (⟨"CallForksModel", "ofLeg", "(II)I"⟩, 17) := ⟨⟨by decide +kernel, by decide +kernel⟩, List.mem_of_getElem? (i := 862) (by decide +kernel), List.mem_of_getElem? (i := 1050) (by decide +kernel), List.mem_of_getElem? (i := 1051) (by decide +kernel)⟩
theorem lw_p63 : lw_okq (⟨"CallForksModel", "noParty", "(I)Z"⟩, 17) := ⟨⟨by decide +kernel, by decide +kernel⟩, List.mem_of_getElem? (i := 862) (by decide +kernel), List.mem_of_getElem? (i := 1061) (by decide +kernel), List.mem_of_getElem? (i := 1062) (by decide +kernel)⟩
def lw_privs_4 : List (MethodName × Nat) := [(⟨"CallForksModel", "report", "(II)V"⟩, 17), (⟨"CallForksModel", "expect", "(I)V"⟩, 17), (⟨"CallForksModel", "statement", "()V"⟩, 17), (⟨"CallForksModel", "readParty", "(I)V"⟩, 17), (⟨"CallForksModel", "number", "(II)I"⟩, 17), (⟨"CallForksModel", "once", "(II)V"⟩, 17), (⟨"CallForksModel", "sum", "()V"⟩, 17), (⟨"CallForksModel", "term", "()V"⟩, 17), (⟨"CallForksModel", "factor", "()V"⟩, 17), (⟨"CallForksModel", "emit", "(I)V"⟩, 17), (⟨"CallForksModel", "remember", "()V"⟩, 17), (⟨"CallForksModel", "noWhat", "(III)Z"⟩, 17), (⟨"CallForksModel", "countOf", "(I)I"⟩, 17), (⟨"CallForksModel", "is", "(II)Z"⟩, 17), (⟨"CallForksModel", "ofLeg", "(II)I"⟩, 17), (⟨"CallForksModel", "noParty", "(I)Z"⟩, 17)]
theorem lw_r4 : ∀ q ∈ lw_privs_4, lw_okq q := List.forall_mem_cons.mpr ⟨lw_p48, List.forall_mem_cons.mpr ⟨lw_p49, List.forall_mem_cons.mpr ⟨lw_p50, List.forall_mem_cons.mpr ⟨lw_p51, List.forall_mem_cons.mpr ⟨lw_p52, List.forall_mem_cons.mpr ⟨lw_p53, List.forall_mem_cons.mpr ⟨lw_p54, List.forall_mem_cons.mpr ⟨lw_p55, List.forall_mem_cons.mpr ⟨lw_p56, List.forall_mem_cons.mpr ⟨lw_p57, List.forall_mem_cons.mpr ⟨lw_p58, List.forall_mem_cons.mpr ⟨lw_p59, List.forall_mem_cons.mpr ⟨lw_p60, List.forall_mem_cons.mpr ⟨lw_p61, List.forall_mem_cons.mpr ⟨lw_p62, List.forall_mem_cons.mpr ⟨lw_p63, fun _ h => absurd h List.not_mem_nil⟩⟩⟩⟩⟩⟩⟩⟩⟩⟩⟩⟩⟩⟩⟩⟩
theorem lw_p64 : lw_okq (⟨"CallForksModel", "tellParty", "(II)I"⟩, 17) := ⟨⟨by decide +kernel, by decide +kernel⟩, List.mem_of_getElem? (i := 862) (by decide +kernel), List.mem_of_getElem? (i := 1065) (by decide +kernel), List.mem_of_getElem? (i := 1066) (by decide +kernel)⟩
theorem lw_p65 : lw_okq (⟨"CallForksModel", "ofParty", "(II)I"⟩, 17) := ⟨⟨by decide +kernel, by decide +kernel⟩, List.mem_of_getElem? (i := 862) (by decide +kernel), List.mem_of_getElem? (i := 1069) (by decide +kernel), List.mem_of_getElem? (i := 1070) (by decide +kernel)⟩
theorem lw_p66 : lw_okq (⟨"CallForksModel", "isEngaged", "(I)Z"⟩, 17) := ⟨⟨by decide +kernel, by decide +kernel⟩, List.mem_of_getElem? (i := 862) (by decide +kernel), List.mem_of_getElem? (i := 1073) (by decide +kernel), List.mem_of_getElem? (i := 1074) (by decide +kernel)⟩
theorem lw_p67 : lw_okq (⟨"CallForksModel", "legWith", "(II)I"⟩, 17) := ⟨⟨by decide +kernel, by decide +kernel⟩, List.mem_of_getElem? (i := 862) (by decide +kernel), List.mem_of_getElem? (i := 1077) (by decide +kernel), List.mem_of_getElem? (i := 1078) (by decide +kernel)⟩
theorem lw_p68 : lw_okq (⟨"CallForksModel", "isIn", "(II)Z"⟩, 17) := ⟨⟨by decide +kernel, by decide +kernel⟩, List.mem_of_getElem? (i := 862) (by decide +kernel), List.mem_of_getElem? (i := 1081) (by decide +kernel), List.mem_of_getElem? (i := 1082) (by decide +kernel)⟩
theorem lw_p69 : lw_okq (⟨"CallForksModel", "callerOf", "(I)I"⟩, 17) := ⟨⟨by decide +kernel, by decide +kernel⟩, List.mem_of_getElem? (i := 862) (by decide +kernel), List.mem_of_getElem? (i := 1085) (by decide +kernel), List.mem_of_getElem? (i := 1086) (by decide +kernel)⟩
theorem lw_p70 : lw_okq (⟨"CallForksModel", "ofCall", "(II)I"⟩, 17) := ⟨⟨by decide +kernel, by decide +kernel⟩, List.mem_of_getElem? (i := 862) (by decide +kernel), List.mem_of_getElem? (i := 1089) (by decide +kernel), List.mem_of_getElem? (i := 1090) (by decide +kernel)⟩
theorem lw_p71 : lw_okq (⟨"CallForksModel", "ringingOf", "(I)I"⟩, 17) := ⟨⟨by decide +kernel, by decide +kernel⟩, List.mem_of_getElem? (i := 862) (by decide +kernel), List.mem_of_getElem? (i := 1096) (by decide +kernel), List.mem_of_getElem? (i := 1097) (by decide +kernel)⟩
theorem lw_p72 : lw_okq (⟨"CallForksModel", "rings", "(I)Z"⟩, 17) := ⟨⟨by decide +kernel, by decide +kernel⟩, List.mem_of_getElem? (i := 862) (by decide +kernel), List.mem_of_getElem? (i := 1100) (by decide +kernel), List.mem_of_getElem? (i := 1101) (by decide +kernel)⟩
theorem lw_p73 : lw_okq (⟨"CallForksModel", "rungAt", "(I)I"⟩, 17) := ⟨⟨by decide +kernel, by decide +kernel⟩, List.mem_of_getElem? (i := 862) (by decide +kernel), List.mem_of_getElem? (i := 1104) (by decide +kernel), List.mem_of_getElem? (i := 1105) (by decide +kernel)⟩
theorem lw_p74 : lw_okq (⟨"CallForksModel", "noCall", "(I)Z"⟩, 17) := ⟨⟨by decide +kernel, by decide +kernel⟩, List.mem_of_getElem? (i := 862) (by decide +kernel), List.mem_of_getElem? (i := 1112) (by decide +kernel), List.mem_of_getElem? (i := 1113) (by decide +kernel)⟩
theorem lw_p75 : lw_okq (⟨"CallForksModel", "tellCall", "(II)I"⟩, 17) := ⟨⟨by decide +kernel, by decide +kernel⟩, List.mem_of_getElem? (i := 862) (by decide +kernel), List.mem_of_getElem? (i := 1116) (by decide +kernel), List.mem_of_getElem? (i := 1117) (by decide +kernel)⟩
theorem lw_p76 : lw_okq (⟨"CallForksModel", "noLeg", "(I)Z"⟩, 17) := ⟨⟨by decide +kernel, by decide +kernel⟩, List.mem_of_getElem? (i := 862) (by decide +kernel), List.mem_of_getElem? (i := 1124) (by decide +kernel), List.mem_of_getElem? (i := 1125) (by decide +kernel)⟩
theorem lw_p77 : lw_okq (⟨"CallForksModel", "settle", "(I)I"⟩, 17) := ⟨⟨by decide +kernel, by decide +kernel⟩, List.mem_of_getElem? (i := 862) (by decide +kernel), List.mem_of_getElem? (i := 1144) (by decide +kernel), List.mem_of_getElem? (i := 1145) (by decide +kernel)⟩
theorem lw_p78 : lw_okq (⟨"CallForksModel", "second", "()V"⟩, 17) := ⟨⟨by decide +kernel, by decide +kernel⟩, List.mem_of_getElem? (i := 862) (by decide +kernel), List.mem_of_getElem? (i := 1148) (by decide +kernel), List.mem_of_getElem? (i := 1149) (by decide +kernel)⟩
theorem lw_p79 : lw_okq (⟨"CallForksModel", "repeat", "(II)V"⟩, 17) := ⟨⟨by decide +kernel, by decide +kernel⟩, List.mem_of_getElem? (i := 862) (by decide +kernel), List.mem_of_getElem? (i := 1152) (by decide +kernel), List.mem_of_getElem? (i := 1153) (by decide +kernel)⟩
def lw_privs_5 : List (MethodName × Nat) := [(⟨"CallForksModel", "tellParty", "(II)I"⟩, 17), (⟨"CallForksModel", "ofParty", "(II)I"⟩, 17), (⟨"CallForksModel", "isEngaged", "(I)Z"⟩, 17), (⟨"CallForksModel", "legWith", "(II)I"⟩, 17), (⟨"CallForksModel", "isIn", "(II)Z"⟩, 17), (⟨"CallForksModel", "callerOf", "(I)I"⟩, 17), (⟨"CallForksModel", "ofCall", "(II)I"⟩, 17), (⟨"CallForksModel", "ringingOf", "(I)I"⟩, 17), (⟨"CallForksModel", "rings", "(I)Z"⟩, 17), (⟨"CallForksModel", "rungAt", "(I)I"⟩, 17), (⟨"CallForksModel", "noCall", "(I)Z"⟩, 17), (⟨"CallForksModel", "tellCall", "(II)I"⟩, 17), (⟨"CallForksModel", "noLeg", "(I)Z"⟩, 17), (⟨"CallForksModel", "settle", "(I)I"⟩, 17), (⟨"CallForksModel", "second", "()V"⟩, 17), (⟨"CallForksModel", "repeat", "(II)V"⟩, 17)]
theorem lw_r5 : ∀ q ∈ lw_privs_5, lw_okq q := List.forall_mem_cons.mpr ⟨lw_p64, List.forall_mem_cons.mpr ⟨lw_p65, List.forall_mem_cons.mpr ⟨lw_p66, List.forall_mem_cons.mpr ⟨lw_p67, List.forall_mem_cons.mpr ⟨lw_p68, List.forall_mem_cons.mpr ⟨lw_p69, List.forall_mem_cons.mpr ⟨lw_p70, List.forall_mem_cons.mpr ⟨lw_p71, List.forall_mem_cons.mpr ⟨lw_p72, List.forall_mem_cons.mpr ⟨lw_p73, List.forall_mem_cons.mpr ⟨lw_p74, List.forall_mem_cons.mpr ⟨lw_p75, List.forall_mem_cons.mpr ⟨lw_p76, List.forall_mem_cons.mpr ⟨lw_p77, List.forall_mem_cons.mpr ⟨lw_p78, List.forall_mem_cons.mpr ⟨lw_p79, fun _ h => absurd h List.not_mem_nil⟩⟩⟩⟩⟩⟩⟩⟩⟩⟩⟩⟩⟩⟩⟩⟩
theorem lw_p80 : lw_okq (⟨"CallForksModel", "adds", "(I)V"⟩, 17) := ⟨⟨by decide +kernel, by decide +kernel⟩, List.mem_of_getElem? (i := 862) (by decide +kernel), List.mem_of_getElem? (i := 1156) (by decide +kernel), List.mem_of_getElem? (i := 1157) (by decide +kernel)⟩
theorem lw_p81 : lw_okq (⟨"CallForksModel", "layOffer", "(III)V"⟩, 17) := ⟨⟨by decide +kernel, by decide +kernel⟩, List.mem_of_getElem? (i := 862) (by decide +kernel), List.mem_of_getElem? (i := 1160) (by decide +kernel), List.mem_of_getElem? (i := 1161) (by decide +kernel)⟩
theorem lw_p82 : lw_okq (⟨"CallForksModel", "reply", "(I)V"⟩, 17) := ⟨⟨by decide +kernel, by decide +kernel⟩, List.mem_of_getElem? (i := 862) (by decide +kernel), List.mem_of_getElem? (i := 1164) (by decide +kernel), List.mem_of_getElem? (i := 1165) (by decide +kernel)⟩
theorem lw_p83 : lw_okq (⟨"CallForksModel", "partyOn", "(II)I"⟩, 17) := ⟨⟨by decide +kernel, by decide +kernel⟩, List.mem_of_getElem? (i := 862) (by decide +kernel), List.mem_of_getElem? (i := 1168) (by decide +kernel), List.mem_of_getElem? (i := 1169) (by decide +kernel)⟩
theorem lw_p84 : lw_okq (⟨"CallForksModel", "mayAnswer", "(I)V"⟩, 17) := ⟨⟨by decide +kernel, by decide +kernel⟩, List.mem_of_getElem? (i := 862) (by decide +kernel), List.mem_of_getElem? (i := 1172) (by decide +kernel), List.mem_of_getElem? (i := 1173) (by decide +kernel)⟩
theorem lw_p85 : lw_okq (⟨"CallForksModel", "answer", "(I)V"⟩, 17) := ⟨⟨by decide +kernel, by decide +kernel⟩, List.mem_of_getElem? (i := 862) (by decide +kernel), List.mem_of_getElem? (i := 1176) (by decide +kernel), List.mem_of_getElem? (i := 1177) (by decide +kernel)⟩
theorem lw_p86 : lw_okq (⟨"CallForksModel", "endAll", "(III)V"⟩, 17) := ⟨⟨by decide +kernel, by decide +kernel⟩, List.mem_of_getElem? (i := 862) (by decide +kernel), List.mem_of_getElem? (i := 1180) (by decide +kernel), List.mem_of_getElem? (i := 1181) (by decide +kernel)⟩
theorem lw_p87 : lw_okq (⟨"CallForksModel", "end", "(II)V"⟩, 17) := ⟨⟨by decide +kernel, by decide +kernel⟩, List.mem_of_getElem? (i := 862) (by decide +kernel), List.mem_of_getElem? (i := 1184) (by decide +kernel), List.mem_of_getElem? (i := 1185) (by decide +kernel)⟩
theorem lw_p88 : lw_okq (⟨"CallForksModel", "withoutOffers", "(I)V"⟩, 17) := ⟨⟨by decide +kernel, by decide +kernel⟩, List.mem_of_getElem? (i := 862) (by decide +kernel), List.mem_of_getElem? (i := 1188) (by decide +kernel), List.mem_of_getElem? (i := 1189) (by decide +kernel)⟩
theorem lw_p89 : lw_okq (⟨"CallForksModel", "endAllTo", "(II)V"⟩, 17) := ⟨⟨by decide +kernel, by decide +kernel⟩, List.mem_of_getElem? (i := 862) (by decide +kernel), List.mem_of_getElem? (i := 1192) (by decide +kernel), List.mem_of_getElem? (i := 1193) (by decide +kernel)⟩
theorem lw_p90 : lw_okq (⟨"CallForksModel", "failCall", "(I)V"⟩, 17) := ⟨⟨by decide +kernel, by decide +kernel⟩, List.mem_of_getElem? (i := 862) (by decide +kernel), List.mem_of_getElem? (i := 1196) (by decide +kernel), List.mem_of_getElem? (i := 1197) (by decide +kernel)⟩
theorem lw_p91 : lw_okq (⟨"CallForksModel", "takeBack", "(I)V"⟩, 17) := ⟨⟨by decide +kernel, by decide +kernel⟩, List.mem_of_getElem? (i := 862) (by decide +kernel), List.mem_of_getElem? (i := 1200) (by decide +kernel), List.mem_of_getElem? (i := 1201) (by decide +kernel)⟩
theorem lw_p92 : lw_okq (⟨"CallForksModel", "beginCall", "(III)I"⟩, 17) := ⟨⟨by decide +kernel, by decide +kernel⟩, List.mem_of_getElem? (i := 862) (by decide +kernel), List.mem_of_getElem? (i := 1216) (by decide +kernel), List.mem_of_getElem? (i := 1217) (by decide +kernel)⟩
theorem lw_p93 : lw_okq (⟨"CallForksModel", "ringTime", "(III)I"⟩, 17) := ⟨⟨by decide +kernel, by decide +kernel⟩, List.mem_of_getElem? (i := 862) (by decide +kernel), List.mem_of_getElem? (i := 1220) (by decide +kernel), List.mem_of_getElem? (i := 1221) (by decide +kernel)⟩
theorem lw_p94 : lw_okq (⟨"CallForksModel", "makeLeg", "(II)V"⟩, 17) := ⟨⟨by decide +kernel, by decide +kernel⟩, List.mem_of_getElem? (i := 862) (by decide +kernel), List.mem_of_getElem? (i := 1234) (by decide +kernel), List.mem_of_getElem? (i := 1235) (by decide +kernel)⟩
def lw_privs_6 : List (MethodName × Nat) := [(⟨"CallForksModel", "adds", "(I)V"⟩, 17), (⟨"CallForksModel", "layOffer", "(III)V"⟩, 17), (⟨"CallForksModel", "reply", "(I)V"⟩, 17), (⟨"CallForksModel", "partyOn", "(II)I"⟩, 17), (⟨"CallForksModel", "mayAnswer", "(I)V"⟩, 17), (⟨"CallForksModel", "answer", "(I)V"⟩, 17), (⟨"CallForksModel", "endAll", "(III)V"⟩, 17), (⟨"CallForksModel", "end", "(II)V"⟩, 17), (⟨"CallForksModel", "withoutOffers", "(I)V"⟩, 17), (⟨"CallForksModel", "endAllTo", "(II)V"⟩, 17), (⟨"CallForksModel", "failCall", "(I)V"⟩, 17), (⟨"CallForksModel", "takeBack", "(I)V"⟩, 17), (⟨"CallForksModel", "beginCall", "(III)I"⟩, 17), (⟨"CallForksModel", "ringTime", "(III)I"⟩, 17), (⟨"CallForksModel", "makeLeg", "(II)V"⟩, 17)]
theorem lw_r6 : ∀ q ∈ lw_privs_6, lw_okq q := List.forall_mem_cons.mpr ⟨lw_p80, List.forall_mem_cons.mpr ⟨lw_p81, List.forall_mem_cons.mpr ⟨lw_p82, List.forall_mem_cons.mpr ⟨lw_p83, List.forall_mem_cons.mpr ⟨lw_p84, List.forall_mem_cons.mpr ⟨lw_p85, List.forall_mem_cons.mpr ⟨lw_p86, List.forall_mem_cons.mpr ⟨lw_p87, List.forall_mem_cons.mpr ⟨lw_p88, List.forall_mem_cons.mpr ⟨lw_p89, List.forall_mem_cons.mpr ⟨lw_p90, List.forall_mem_cons.mpr ⟨lw_p91, List.forall_mem_cons.mpr ⟨lw_p92, List.forall_mem_cons.mpr ⟨lw_p93, List.forall_mem_cons.mpr ⟨lw_p94, fun _ h => absurd h List.not_mem_nil⟩⟩⟩⟩⟩⟩⟩⟩⟩⟩⟩⟩⟩⟩⟩
def lw_privs : List (MethodName × Nat) := lw_privs_1 ++ (lw_privs_2 ++ (lw_privs_3 ++ (lw_privs_4 ++ (lw_privs_5 ++ (lw_privs_6)))))
def lw_tbl : List Cond := k2_sels lw_privs ++ tables_1
theorem lw_privs_ok : ∀ q ∈ lw_privs, lw_okq q := by
  show ∀ q ∈ lw_privs_1 ++ (lw_privs_2 ++ (lw_privs_3 ++ (lw_privs_4 ++ (lw_privs_5 ++ (lw_privs_6))))), lw_okq q
  exact List.forall_mem_append.mpr ⟨lw_r1, List.forall_mem_append.mpr ⟨lw_r2, List.forall_mem_append.mpr ⟨lw_r3, List.forall_mem_append.mpr ⟨lw_r4, List.forall_mem_append.mpr ⟨lw_r5, lw_r6⟩⟩⟩⟩⟩
def RX0 : String := "CallForks$Exchange"
def TX0 : u_T := fun k => match k with
  | 0 => ("CallForks$Exchange", "parties", "LCallForks$Table;", true)
  | 1 => ("CallForks$Exchange", "calls", "LCallForks$Table;", true)
  | 2 => ("CallForks$Exchange", "legs", "LCallForks$Table;", true)
  | 3 => ("CallForks$Exchange", "totals", "LCallForks$Table;", true)
  | 4 => ("CallForks$Exchange", "ring", "LCallForks$RingRule;", false)
  | 5 => ("CallForks$Exchange", "time", "I", false)
  | 6 => ("CallForks$Exchange", "callerWait", "I", false)
  | 7 => ("CallForks$Exchange", "calleeWait", "I", false)
  | _ => ("CallForks$Exchange", "patience", "I", false)
def tyX0 : Nat → FieldType := fun k => match k with
  | 0 => .object "CallForks$Table"
  | 1 => .object "CallForks$Table"
  | 2 => .object "CallForks$Table"
  | 3 => .object "CallForks$Table"
  | 4 => .object "CallForks$RingRule"
  | 5 => .int
  | 6 => .int
  | 7 => .int
  | _ => .int
abbrev wsX00 : List Cond := u_ws RX0 TX0 9
theorem nmX0 : ∀ a, a < 9 → ∀ b, b < 9 → a ≠ b → (TX0 a).2.1 ≠ (TX0 b).2.1 := by decide +kernel
theorem tyX0_ok : ∀ k, k < 9 → parseFieldDescriptor (TX0 k).2.2.1 = some (tyX0 k) := by decide +kernel
abbrev cX0_init : ByteArray := prog_2_method_1_code
def yX0_init : MethodName := ⟨RX0, "<init>", "()V"⟩
abbrev cX0_clear : ByteArray := prog_2_method_2_code
def yX0_clear : MethodName := ⟨RX0, "clear", "()V"⟩
abbrev cX0_copyFrom : ByteArray := prog_2_method_3_code
def yX0_copyFrom : MethodName := ⟨RX0, "copyFrom", "(LCallForks$Exchange;)V"⟩
abbrev cX0_addParty : ByteArray := prog_2_method_4_code
def yX0_addParty : MethodName := ⟨RX0, "addParty", "(III)V"⟩
abbrev cX0_legsInState : ByteArray := prog_2_method_5_code
def yX0_legsInState : MethodName := ⟨RX0, "legsInState", "(I)I"⟩
abbrev cX0_legsRingingAt : ByteArray := prog_2_method_6_code
def yX0_legsRingingAt : MethodName := ⟨RX0, "legsRingingAt", "(I)I"⟩
abbrev cX0_hasRoomFor : ByteArray := prog_2_method_7_code
def yX0_hasRoomFor : MethodName := ⟨RX0, "hasRoomFor", "(I)Z"⟩
abbrev cX0_isEngaged : ByteArray := prog_2_method_8_code
def yX0_isEngaged : MethodName := ⟨RX0, "isEngaged", "(I)Z"⟩
abbrev cX0_legOf : ByteArray := prog_2_method_9_code
def yX0_legOf : MethodName := ⟨RX0, "legOf", "(II)I"⟩
abbrev cX0_isIn : ByteArray := prog_2_method_10_code
def yX0_isIn : MethodName := ⟨RX0, "isIn", "(II)Z"⟩
abbrev cX0_sideOf : ByteArray := prog_2_method_11_code
def yX0_sideOf : MethodName := ⟨RX0, "sideOf", "(II)I"⟩
abbrev cX0_rings : ByteArray := prog_2_method_12_code
def yX0_rings : MethodName := ⟨RX0, "rings", "(I)Z"⟩
abbrev cX0_beginCall : ByteArray := prog_2_method_13_code
def yX0_beginCall : MethodName := ⟨RX0, "beginCall", "(III)I"⟩
abbrev cX0_referOtherParty : ByteArray := prog_2_method_14_code
def yX0_referOtherParty : MethodName := ⟨RX0, "referOtherParty", "(III)I"⟩
abbrev cX0_leave : ByteArray := prog_2_method_15_code
def yX0_leave : MethodName := ⟨RX0, "leave", "(I)I"⟩
abbrev cX0_makeOffer : ByteArray := prog_2_method_16_code
def yX0_makeOffer : MethodName := ⟨RX0, "makeOffer", "(III)I"⟩
abbrev cX0_passSecond : ByteArray := prog_2_method_17_code
def yX0_passSecond : MethodName := ⟨RX0, "passSecond", "()V"⟩
abbrev cX0_ringTime : ByteArray := prog_2_method_18_code
def yX0_ringTime : MethodName := ⟨RX0, "ringTime", "(III)I"⟩
abbrev cX0_callerOf : ByteArray := prog_2_method_19_code
def yX0_callerOf : MethodName := ⟨RX0, "callerOf", "(I)I"⟩
abbrev cX0_partyOn : ByteArray := prog_2_method_20_code
def yX0_partyOn : MethodName := ⟨RX0, "partyOn", "(II)I"⟩
abbrev cX0_ringsAt : ByteArray := prog_2_method_21_code
def yX0_ringsAt : MethodName := ⟨RX0, "ringsAt", "(II)Z"⟩
abbrev cX0_ringingCallOf : ByteArray := prog_2_method_22_code
def yX0_ringingCallOf : MethodName := ⟨RX0, "ringingCallOf", "(I)I"⟩
abbrev cX0_addLeg : ByteArray := prog_2_method_23_code
def yX0_addLeg : MethodName := ⟨RX0, "addLeg", "(II)I"⟩
abbrev cX0_endLeg : ByteArray := prog_2_method_24_code
def yX0_endLeg : MethodName := ⟨RX0, "endLeg", "(II)V"⟩
abbrev cX0_endRinging : ByteArray := prog_2_method_25_code
def yX0_endRinging : MethodName := ⟨RX0, "endRinging", "(II)V"⟩
abbrev cX0_endRingingAt : ByteArray := prog_2_method_26_code
def yX0_endRingingAt : MethodName := ⟨RX0, "endRingingAt", "(II)I"⟩
abbrev cX0_failCall : ByteArray := prog_2_method_27_code
def yX0_failCall : MethodName := ⟨RX0, "failCall", "(I)V"⟩
abbrev cX0_resumeReferrer : ByteArray := prog_2_method_28_code
def yX0_resumeReferrer : MethodName := ⟨RX0, "resumeReferrer", "(I)V"⟩
abbrev cX0_isAnsweredNow : ByteArray := prog_2_method_29_code
def yX0_isAnsweredNow : MethodName := ⟨RX0, "isAnsweredNow", "(I)Z"⟩
abbrev cX0_answer : ByteArray := prog_2_method_30_code
def yX0_answer : MethodName := ⟨RX0, "answer", "(I)V"⟩
abbrev cX0_setOffer : ByteArray := prog_2_method_31_code
def yX0_setOffer : MethodName := ⟨RX0, "setOffer", "(III)V"⟩
abbrev cX0_planRepetition : ByteArray := prog_2_method_32_code
def yX0_planRepetition : MethodName := ⟨RX0, "planRepetition", "(III)V"⟩
abbrev cX0_dropOffers : ByteArray := prog_2_method_33_code
def yX0_dropOffers : MethodName := ⟨RX0, "dropOffers", "(I)V"⟩
abbrev cX0_repeatOffer : ByteArray := prog_2_method_34_code
def yX0_repeatOffer : MethodName := ⟨RX0, "repeatOffer", "(II)V"⟩
abbrev cX0_settleOffer : ByteArray := prog_2_method_35_code
def yX0_settleOffer : MethodName := ⟨RX0, "settleOffer", "(I)V"⟩
abbrev cX0_tally : ByteArray := prog_2_method_36_code
def yX0_tally : MethodName := ⟨RX0, "tally", "(I)V"⟩
def RX1 : String := "CallForks$History"
def TX1 : u_T := fun k => match k with
  | 0 => ("CallForks$History", "saved", "[LCallForks$Exchange;", true)
  | 1 => ("CallForks$History", "next", "I", false)
  | _ => ("CallForks$History", "undoable", "I", false)
def tyX1 : Nat → FieldType := fun k => match k with
  | 0 => .array (.object "CallForks$Exchange")
  | 1 => .int
  | _ => .int
abbrev wsX10 : List Cond := u_ws RX1 TX1 3
theorem nmX1 : ∀ a, a < 3 → ∀ b, b < 3 → a ≠ b → (TX1 a).2.1 ≠ (TX1 b).2.1 := by decide +kernel
theorem tyX1_ok : ∀ k, k < 3 → parseFieldDescriptor (TX1 k).2.2.1 = some (tyX1 k) := by decide +kernel
abbrev cX1_init : ByteArray := prog_3_method_1_code
def yX1_init : MethodName := ⟨RX1, "<init>", "()V"⟩
abbrev cX1_push : ByteArray := prog_3_method_2_code
def yX1_push : MethodName := ⟨RX1, "push", "(LCallForks$Exchange;)V"⟩
abbrev cX1_popInto : ByteArray := prog_3_method_3_code
def yX1_popInto : MethodName := ⟨RX1, "popInto", "(LCallForks$Exchange;)I"⟩
def RX2 : String := "CallForks$RingRule"
def TX2 : u_T := fun k => match k with
  | 0 => ("CallForks$RingRule", "codes", "[I", true)
  | 1 => ("CallForks$RingRule", "values", "[I", true)
  | _ => ("CallForks$RingRule", "height", "I", false)
def tyX2 : Nat → FieldType := fun k => match k with
  | 0 => .array .int
  | 1 => .array .int
  | _ => .int
abbrev wsX20 : List Cond := u_ws RX2 TX2 3
theorem nmX2 : ∀ a, a < 3 → ∀ b, b < 3 → a ≠ b → (TX2 a).2.1 ≠ (TX2 b).2.1 := by decide +kernel
theorem tyX2_ok : ∀ k, k < 3 → parseFieldDescriptor (TX2 k).2.2.1 = some (tyX2 k) := by decide +kernel
abbrev cX2_init : ByteArray := prog_4_method_1_code
def yX2_init : MethodName := ⟨RX2, "<init>", "([I)V"⟩
abbrev cX2_valueFor : ByteArray := prog_4_method_2_code
def yX2_valueFor : MethodName := ⟨RX2, "valueFor", "(IIII)I"⟩
abbrev cX2_push : ByteArray := prog_4_method_3_code
def yX2_push : MethodName := ⟨RX2, "push", "(I)V"⟩
abbrev cX2_pop : ByteArray := prog_4_method_4_code
def yX2_pop : MethodName := ⟨RX2, "pop", "()I"⟩
abbrev cX2_operate : ByteArray := prog_4_method_5_code
def yX2_operate : MethodName := ⟨RX2, "operate", "(I)V"⟩
def RX3 : String := "CallForks$SetupReader"
def TX3 : u_T := fun k => match k with
  | 0 => ("CallForks$SetupReader", "text", "[B", true)
  | 1 => ("CallForks$SetupReader", "bytesAdded", "I", false)
  | 2 => ("CallForks$SetupReader", "setup", "LCallForks$Exchange;", true)
  | 3 => ("CallForks$SetupReader", "codes", "[I", true)
  | 4 => ("CallForks$SetupReader", "codeCount", "I", false)
  | 5 => ("CallForks$SetupReader", "length", "I", false)
  | 6 => ("CallForks$SetupReader", "position", "I", false)
  | 7 => ("CallForks$SetupReader", "token", "I", false)
  | 8 => ("CallForks$SetupReader", "tokenStart", "I", false)
  | 9 => ("CallForks$SetupReader", "tokenValue", "I", false)
  | 10 => ("CallForks$SetupReader", "waitSeen", "Z", false)
  | 11 => ("CallForks$SetupReader", "patienceSeen", "Z", false)
  | 12 => ("CallForks$SetupReader", "ringSeen", "Z", false)
  | 13 => ("CallForks$SetupReader", "error", "I", false)
  | _ => ("CallForks$SetupReader", "errorOffset", "I", false)
def tyX3 : Nat → FieldType := fun k => match k with
  | 0 => .array .byte
  | 1 => .int
  | 2 => .object "CallForks$Exchange"
  | 3 => .array .int
  | 4 => .int
  | 5 => .int
  | 6 => .int
  | 7 => .int
  | 8 => .int
  | 9 => .int
  | 10 => .boolean
  | 11 => .boolean
  | 12 => .boolean
  | 13 => .int
  | _ => .int
abbrev wsX30 : List Cond := u_ws RX3 TX3 15
theorem nmX3 : ∀ a, a < 15 → ∀ b, b < 15 → a ≠ b → (TX3 a).2.1 ≠ (TX3 b).2.1 := by decide +kernel
theorem tyX3_ok : ∀ k, k < 15 → parseFieldDescriptor (TX3 k).2.2.1 = some (tyX3 k) := by decide +kernel
abbrev cX3_init : ByteArray := prog_5_method_1_code
def yX3_init : MethodName := ⟨RX3, "<init>", "()V"⟩
abbrev cX3_hasRoomFor : ByteArray := prog_5_method_2_code
def yX3_hasRoomFor : MethodName := ⟨RX3, "hasRoomFor", "(I)Z"⟩
abbrev cX3_addWord : ByteArray := prog_5_method_3_code
def yX3_addWord : MethodName := ⟨RX3, "addWord", "(I)V"⟩
abbrev cX3_readSetup : ByteArray := prog_5_method_4_code
def yX3_readSetup : MethodName := ⟨RX3, "readSetup", "(I)I"⟩
abbrev cX3_readStatement : ByteArray := prog_5_method_5_code
def yX3_readStatement : MethodName := ⟨RX3, "readStatement", "()V"⟩
abbrev cX3_readParty : ByteArray := prog_5_method_6_code
def yX3_readParty : MethodName := ⟨RX3, "readParty", "()V"⟩
abbrev cX3_readWait : ByteArray := prog_5_method_7_code
def yX3_readWait : MethodName := ⟨RX3, "readWait", "()V"⟩
abbrev cX3_readPatience : ByteArray := prog_5_method_8_code
def yX3_readPatience : MethodName := ⟨RX3, "readPatience", "()V"⟩
abbrev cX3_readSum : ByteArray := prog_5_method_9_code
def yX3_readSum : MethodName := ⟨RX3, "readSum", "(I)V"⟩
abbrev cX3_readTerm : ByteArray := prog_5_method_10_code
def yX3_readTerm : MethodName := ⟨RX3, "readTerm", "(I)V"⟩
abbrev cX3_readFactor : ByteArray := prog_5_method_11_code
def yX3_readFactor : MethodName := ⟨RX3, "readFactor", "(I)V"⟩
abbrev cX3_addCode : ByteArray := prog_5_method_12_code
def yX3_addCode : MethodName := ⟨RX3, "addCode", "(I)V"⟩
abbrev cX3_fail : ByteArray := prog_5_method_13_code
def yX3_fail : MethodName := ⟨RX3, "fail", "(I)V"⟩
abbrev cX3_takeSign : ByteArray := prog_5_method_14_code
def yX3_takeSign : MethodName := ⟨RX3, "takeSign", "(C)V"⟩
abbrev cX3_takeNumber : ByteArray := prog_5_method_15_code
def yX3_takeNumber : MethodName := ⟨RX3, "takeNumber", "(II)I"⟩
abbrev cX3_numberInRange : ByteArray := prog_5_method_16_code
def yX3_numberInRange : MethodName := ⟨RX3, "numberInRange", "(II)I"⟩
abbrev cX3_atSign : ByteArray := prog_5_method_17_code
def yX3_atSign : MethodName := ⟨RX3, "atSign", "(C)Z"⟩
abbrev cX3_atWord : ByteArray := prog_5_method_18_code
def yX3_atWord : MethodName := ⟨RX3, "atWord", "(Ljava/lang/String;)Z"⟩
abbrev cX3_nextToken : ByteArray := prog_5_method_19_code
def yX3_nextToken : MethodName := ⟨RX3, "nextToken", "()V"⟩
abbrev cX3_byteAt : ByteArray := prog_5_method_20_code
def yX3_byteAt : MethodName := ⟨RX3, "byteAt", "(I)I"⟩
abbrev cX3_isDigit : ByteArray := prog_5_method_21_code
def yX3_isDigit : MethodName := ⟨RX3, "isDigit", "(I)Z"⟩
abbrev cX3_isLetter : ByteArray := prog_5_method_22_code
def yX3_isLetter : MethodName := ⟨RX3, "isLetter", "(I)Z"⟩
def RX4 : String := "CallForks$Table"
def TX4 : u_T := fun k => match k with
  | 0 => ("CallForks$Table", "cells", "[I", true)
  | 1 => ("CallForks$Table", "columns", "I", true)
  | _ => ("CallForks$Table", "rows", "I", false)
def tyX4 : Nat → FieldType := fun k => match k with
  | 0 => .array .int
  | 1 => .int
  | _ => .int
abbrev wsX40 : List Cond := u_ws RX4 TX4 3
theorem nmX4 : ∀ a, a < 3 → ∀ b, b < 3 → a ≠ b → (TX4 a).2.1 ≠ (TX4 b).2.1 := by decide +kernel
theorem tyX4_ok : ∀ k, k < 3 → parseFieldDescriptor (TX4 k).2.2.1 = some (tyX4 k) := by decide +kernel
abbrev cX4_init : ByteArray := prog_6_method_1_code
def yX4_init : MethodName := ⟨RX4, "<init>", "([II)V"⟩
abbrev cX4_has : ByteArray := prog_6_method_2_code
def yX4_has : MethodName := ⟨RX4, "has", "(I)Z"⟩
abbrev cX4_get : ByteArray := prog_6_method_3_code
def yX4_get : MethodName := ⟨RX4, "get", "(II)I"⟩
abbrev cX4_set : ByteArray := prog_6_method_4_code
def yX4_set : MethodName := ⟨RX4, "set", "(III)V"⟩
abbrev cX4_addRow : ByteArray := prog_6_method_5_code
def yX4_addRow : MethodName := ⟨RX4, "addRow", "()I"⟩
abbrev cX4_clear : ByteArray := prog_6_method_6_code
def yX4_clear : MethodName := ⟨RX4, "clear", "()V"⟩
abbrev cX4_copyFrom : ByteArray := prog_6_method_7_code
def yX4_copyFrom : MethodName := ⟨RX4, "copyFrom", "(LCallForks$Table;)V"⟩
def RX5 : String := "CallForks"
def TX5 : u_T := fun k => match k with
  | 0 => ("CallForks", "now", "LCallForks$Exchange;", true)
  | 1 => ("CallForks", "future", "LCallForks$Exchange;", true)
  | 2 => ("CallForks", "history", "LCallForks$History;", true)
  | 3 => ("CallForks", "reader", "LCallForks$SetupReader;", true)
  | _ => ("CallForks", "latestErrorOffset", "I", false)
def tyX5 : Nat → FieldType := fun k => match k with
  | 0 => .object "CallForks$Exchange"
  | 1 => .object "CallForks$Exchange"
  | 2 => .object "CallForks$History"
  | 3 => .object "CallForks$SetupReader"
  | _ => .int
abbrev wsX50 : List Cond := u_ws RX5 TX5 5
theorem nmX5 : ∀ a, a < 5 → ∀ b, b < 5 → a ≠ b → (TX5 a).2.1 ≠ (TX5 b).2.1 := by decide +kernel
theorem tyX5_ok : ∀ k, k < 5 → parseFieldDescriptor (TX5 k).2.2.1 = some (tyX5 k) := by decide +kernel
abbrev cX5_init : ByteArray := prog_1_method_1_code
def yX5_init : MethodName := ⟨RX5, "<init>", "()V"⟩
abbrev cX5_append : ByteArray := prog_1_method_2_code
def yX5_append : MethodName := ⟨RX5, "append", "(IIIII)I"⟩
abbrev cX5_load : ByteArray := prog_1_method_3_code
def yX5_load : MethodName := ⟨RX5, "load", "(I)I"⟩
abbrev cX5_errorOffset : ByteArray := prog_1_method_4_code
def yX5_errorOffset : MethodName := ⟨RX5, "errorOffset", "()I"⟩
abbrev cX5_time : ByteArray := prog_1_method_5_code
def yX5_time : MethodName := ⟨RX5, "time", "()I"⟩
abbrev cX5_count : ByteArray := prog_1_method_6_code
def yX5_count : MethodName := ⟨RX5, "count", "(I)I"⟩
abbrev cX5_party : ByteArray := prog_1_method_7_code
def yX5_party : MethodName := ⟨RX5, "party", "(II)I"⟩
abbrev cX5_call : ByteArray := prog_1_method_8_code
def yX5_call : MethodName := ⟨RX5, "call", "(II)I"⟩
abbrev cX5_leg : ByteArray := prog_1_method_9_code
def yX5_leg : MethodName := ⟨RX5, "leg", "(II)I"⟩
abbrev cX5_pending : ByteArray := prog_1_method_10_code
def yX5_pending : MethodName := ⟨RX5, "pending", "(II)I"⟩
abbrev cX5_repetition : ByteArray := prog_1_method_11_code
def yX5_repetition : MethodName := ⟨RX5, "repetition", "(II)I"⟩
abbrev cX5_total : ByteArray := prog_1_method_12_code
def yX5_total : MethodName := ⟨RX5, "total", "(I)I"⟩
abbrev cX5_settlesIn : ByteArray := prog_1_method_13_code
def yX5_settlesIn : MethodName := ⟨RX5, "settlesIn", "(I)I"⟩
abbrev cX5_answeredBy : ByteArray := prog_1_method_14_code
def yX5_answeredBy : MethodName := ⟨RX5, "answeredBy", "(I)I"⟩
abbrev cX5_pass : ByteArray := prog_1_method_15_code
def yX5_pass : MethodName := ⟨RX5, "pass", "(I)I"⟩
abbrev cX5_dial : ByteArray := prog_1_method_16_code
def yX5_dial : MethodName := ⟨RX5, "dial", "(II)I"⟩
abbrev cX5_transfer : ByteArray := prog_1_method_17_code
def yX5_transfer : MethodName := ⟨RX5, "transfer", "(II)I"⟩
abbrev cX5_hangUp : ByteArray := prog_1_method_18_code
def yX5_hangUp : MethodName := ⟨RX5, "hangUp", "(I)I"⟩
abbrev cX5_offer : ByteArray := prog_1_method_19_code
def yX5_offer : MethodName := ⟨RX5, "offer", "(II)I"⟩
abbrev cX5_setParty : ByteArray := prog_1_method_20_code
def yX5_setParty : MethodName := ⟨RX5, "setParty", "(III)I"⟩
abbrev cX5_undo : ByteArray := prog_1_method_21_code
def yX5_undo : MethodName := ⟨RX5, "undo", "()I"⟩
abbrev cX5_checksum : ByteArray := prog_1_method_22_code
def yX5_checksum : MethodName := ⟨RX5, "checksum", "()J"⟩
abbrev cX5_requireParty : ByteArray := prog_1_method_23_code
def yX5_requireParty : MethodName := ⟨RX5, "requireParty", "(I)V"⟩
abbrev cX5_requireCall : ByteArray := prog_1_method_24_code
def yX5_requireCall : MethodName := ⟨RX5, "requireCall", "(I)V"⟩
abbrev cX5_requireLeg : ByteArray := prog_1_method_25_code
def yX5_requireLeg : MethodName := ⟨RX5, "requireLeg", "(I)V"⟩
abbrev cX5_requireRange : ByteArray := prog_1_method_26_code
def yX5_requireRange : MethodName := ⟨RX5, "requireRange", "(III)V"⟩
abbrev cX5_playUntilSettled : ByteArray := prog_1_method_27_code
def yX5_playUntilSettled : MethodName := ⟨RX5, "playUntilSettled", "(I)I"⟩
abbrev cX5_limit : ByteArray := prog_1_method_28_code
def yX5_limit : MethodName := ⟨RX5, "limit", "(JII)I"⟩
def RX6 : String := "CallForksModel"
def TX6 : u_T := fun k => match k with
  | 0 => ("CallForksModel", "thrown", "I", false)
  | 1 => ("CallForksModel", "buffer", "[I", true)
  | 2 => ("CallForksModel", "bufferLength", "I", false)
  | 3 => ("CallForksModel", "textLength", "I", false)
  | 4 => ("CallForksModel", "position", "I", false)
  | 5 => ("CallForksModel", "error", "I", false)
  | 6 => ("CallForksModel", "errorAt", "I", false)
  | 7 => ("CallForksModel", "errorOffset", "I", false)
  | 8 => ("CallForksModel", "data", "[I", true)
  | 9 => ("CallForksModel", "draft", "[I", true)
  | 10 => ("CallForksModel", "tried", "[I", true)
  | 11 => ("CallForksModel", "history", "[[I", true)
  | 12 => ("CallForksModel", "undoDepth", "I", false)
  | 13 => ("CallForksModel", "numberStart", "I", false)
  | 14 => ("CallForksModel", "nesting", "I", false)
  | 15 => ("CallForksModel", "seen", "I", false)
  | _ => ("CallForksModel", "stack", "[J", true)
def tyX6 : Nat → FieldType := fun k => match k with
  | 0 => .int
  | 1 => .array .int
  | 2 => .int
  | 3 => .int
  | 4 => .int
  | 5 => .int
  | 6 => .int
  | 7 => .int
  | 8 => .array .int
  | 9 => .array .int
  | 10 => .array .int
  | 11 => .array (.array .int)
  | 12 => .int
  | 13 => .int
  | 14 => .int
  | 15 => .int
  | _ => .array .long
abbrev wsX60 : List Cond := u_ws RX6 TX6 17
theorem nmX6 : ∀ a, a < 17 → ∀ b, b < 17 → a ≠ b → (TX6 a).2.1 ≠ (TX6 b).2.1 := by decide +kernel
theorem tyX6_ok : ∀ k, k < 17 → parseFieldDescriptor (TX6 k).2.2.1 = some (tyX6 k) := by decide +kernel
abbrev cX6_init : ByteArray := prog_8_method_1_code
def yX6_init : MethodName := ⟨RX6, "<init>", "()V"⟩
abbrev cX6_thrown : ByteArray := prog_8_method_2_code
def yX6_thrown : MethodName := ⟨RX6, "thrown", "()I"⟩
abbrev cX6_fails : ByteArray := prog_8_method_3_code
def yX6_fails : MethodName := ⟨RX6, "fails", "(ZI)Z"⟩
abbrev cX6_in : ByteArray := prog_8_method_4_code
def yX6_in : MethodName := ⟨RX6, "in", "(III)Z"⟩
abbrev cX6_min : ByteArray := prog_8_method_5_code
def yX6_min : MethodName := ⟨RX6, "min", "(II)I"⟩
abbrev cX6_copy : ByteArray := prog_8_method_6_code
def yX6_copy : MethodName := ⟨RX6, "copy", "([I[I)V"⟩
abbrev cX6_layUsual : ByteArray := prog_8_method_7_code
def yX6_layUsual : MethodName := ⟨RX6, "layUsual", "([I)V"⟩
abbrev cX6_append : ByteArray := prog_8_method_8_code
def yX6_append : MethodName := ⟨RX6, "append", "(IIIII)I"⟩
abbrev cX6_byteAt : ByteArray := prog_8_method_9_code
def yX6_byteAt : MethodName := ⟨RX6, "byteAt", "(I)I"⟩
abbrev cX6_next : ByteArray := prog_8_method_10_code
def yX6_next : MethodName := ⟨RX6, "next", "()I"⟩
abbrev cX6_isGood : ByteArray := prog_8_method_11_code
def yX6_isGood : MethodName := ⟨RX6, "isGood", "()Z"⟩
abbrev cX6_report : ByteArray := prog_8_method_12_code
def yX6_report : MethodName := ⟨RX6, "report", "(II)V"⟩
abbrev cX6_isDigit : ByteArray := prog_8_method_13_code
def yX6_isDigit : MethodName := ⟨RX6, "isDigit", "(I)Z"⟩
abbrev cX6_takeWord : ByteArray := prog_8_method_14_code
def yX6_takeWord : MethodName := ⟨RX6, "takeWord", "(Ljava/lang/String;)Z"⟩
abbrev cX6_expect : ByteArray := prog_8_method_15_code
def yX6_expect : MethodName := ⟨RX6, "expect", "(I)V"⟩
abbrev cX6_number : ByteArray := prog_8_method_16_code
def yX6_number : MethodName := ⟨RX6, "number", "(II)I"⟩
abbrev cX6_emit : ByteArray := prog_8_method_17_code
def yX6_emit : MethodName := ⟨RX6, "emit", "(I)V"⟩
abbrev cX6_factor : ByteArray := prog_8_method_18_code
def yX6_factor : MethodName := ⟨RX6, "factor", "()V"⟩
abbrev cX6_term : ByteArray := prog_8_method_19_code
def yX6_term : MethodName := ⟨RX6, "term", "()V"⟩
abbrev cX6_sum : ByteArray := prog_8_method_20_code
def yX6_sum : MethodName := ⟨RX6, "sum", "()V"⟩
abbrev cX6_once : ByteArray := prog_8_method_21_code
def yX6_once : MethodName := ⟨RX6, "once", "(II)V"⟩
abbrev cX6_readParty : ByteArray := prog_8_method_22_code
def yX6_readParty : MethodName := ⟨RX6, "readParty", "(I)V"⟩
abbrev cX6_statement : ByteArray := prog_8_method_23_code
def yX6_statement : MethodName := ⟨RX6, "statement", "()V"⟩
abbrev cX6_load : ByteArray := prog_8_method_24_code
def yX6_load : MethodName := ⟨RX6, "load", "(I)I"⟩
abbrev cX6_errorOffset : ByteArray := prog_8_method_25_code
def yX6_errorOffset : MethodName := ⟨RX6, "errorOffset", "()I"⟩
abbrev cX6_ofParty : ByteArray := prog_8_method_26_code
def yX6_ofParty : MethodName := ⟨RX6, "ofParty", "(II)I"⟩
abbrev cX6_callAt : ByteArray := prog_8_method_27_code
def yX6_callAt : MethodName := ⟨RX6, "callAt", "(I)I"⟩
abbrev cX6_legAt : ByteArray := prog_8_method_28_code
def yX6_legAt : MethodName := ⟨RX6, "legAt", "(I)I"⟩
abbrev cX6_ofCall : ByteArray := prog_8_method_29_code
def yX6_ofCall : MethodName := ⟨RX6, "ofCall", "(II)I"⟩
abbrev cX6_ofLeg : ByteArray := prog_8_method_30_code
def yX6_ofLeg : MethodName := ⟨RX6, "ofLeg", "(II)I"⟩
abbrev cX6_is : ByteArray := prog_8_method_31_code
def yX6_is : MethodName := ⟨RX6, "is", "(II)Z"⟩
abbrev cX6_callerOf : ByteArray := prog_8_method_32_code
def yX6_callerOf : MethodName := ⟨RX6, "callerOf", "(I)I"⟩
abbrev cX6_isIn : ByteArray := prog_8_method_33_code
def yX6_isIn : MethodName := ⟨RX6, "isIn", "(II)Z"⟩
abbrev cX6_legWith : ByteArray := prog_8_method_34_code
def yX6_legWith : MethodName := ⟨RX6, "legWith", "(II)I"⟩
abbrev cX6_rings : ByteArray := prog_8_method_35_code
def yX6_rings : MethodName := ⟨RX6, "rings", "(I)Z"⟩
abbrev cX6_ringingOf : ByteArray := prog_8_method_36_code
def yX6_ringingOf : MethodName := ⟨RX6, "ringingOf", "(I)I"⟩
abbrev cX6_isEngaged : ByteArray := prog_8_method_37_code
def yX6_isEngaged : MethodName := ⟨RX6, "isEngaged", "(I)Z"⟩
abbrev cX6_countOf : ByteArray := prog_8_method_38_code
def yX6_countOf : MethodName := ⟨RX6, "countOf", "(I)I"⟩
abbrev cX6_rungAt : ByteArray := prog_8_method_39_code
def yX6_rungAt : MethodName := ⟨RX6, "rungAt", "(I)I"⟩
abbrev cX6_adds : ByteArray := prog_8_method_40_code
def yX6_adds : MethodName := ⟨RX6, "adds", "(I)V"⟩
abbrev cX6_withoutOffers : ByteArray := prog_8_method_41_code
def yX6_withoutOffers : MethodName := ⟨RX6, "withoutOffers", "(I)V"⟩
abbrev cX6_end : ByteArray := prog_8_method_42_code
def yX6_end : MethodName := ⟨RX6, "end", "(II)V"⟩
abbrev cX6_takeBack : ByteArray := prog_8_method_43_code
def yX6_takeBack : MethodName := ⟨RX6, "takeBack", "(I)V"⟩
abbrev cX6_failCall : ByteArray := prog_8_method_44_code
def yX6_failCall : MethodName := ⟨RX6, "failCall", "(I)V"⟩
abbrev cX6_endAll : ByteArray := prog_8_method_45_code
def yX6_endAll : MethodName := ⟨RX6, "endAll", "(III)V"⟩
abbrev cX6_endAllTo : ByteArray := prog_8_method_46_code
def yX6_endAllTo : MethodName := ⟨RX6, "endAllTo", "(II)V"⟩
abbrev cX6_answer : ByteArray := prog_8_method_47_code
def yX6_answer : MethodName := ⟨RX6, "answer", "(I)V"⟩
abbrev cX6_limited : ByteArray := prog_8_method_48_code
def yX6_limited : MethodName := ⟨RX6, "limited", "(J)J"⟩
abbrev cX6_operate : ByteArray := prog_8_method_49_code
def yX6_operate : MethodName := ⟨RX6, "operate", "(IJJ)J"⟩
abbrev cX6_ringTime : ByteArray := prog_8_method_50_code
def yX6_ringTime : MethodName := ⟨RX6, "ringTime", "(III)I"⟩
abbrev cX6_makeLeg : ByteArray := prog_8_method_51_code
def yX6_makeLeg : MethodName := ⟨RX6, "makeLeg", "(II)V"⟩
abbrev cX6_beginCall : ByteArray := prog_8_method_52_code
def yX6_beginCall : MethodName := ⟨RX6, "beginCall", "(III)I"⟩
abbrev cX6_partyOn : ByteArray := prog_8_method_53_code
def yX6_partyOn : MethodName := ⟨RX6, "partyOn", "(II)I"⟩
abbrev cX6_repeat : ByteArray := prog_8_method_54_code
def yX6_repeat : MethodName := ⟨RX6, "repeat", "(II)V"⟩
abbrev cX6_layOffer : ByteArray := prog_8_method_55_code
def yX6_layOffer : MethodName := ⟨RX6, "layOffer", "(III)V"⟩
abbrev cX6_reply : ByteArray := prog_8_method_56_code
def yX6_reply : MethodName := ⟨RX6, "reply", "(I)V"⟩
abbrev cX6_mayAnswer : ByteArray := prog_8_method_57_code
def yX6_mayAnswer : MethodName := ⟨RX6, "mayAnswer", "(I)V"⟩
abbrev cX6_second : ByteArray := prog_8_method_58_code
def yX6_second : MethodName := ⟨RX6, "second", "()V"⟩
abbrev cX6_noParty : ByteArray := prog_8_method_59_code
def yX6_noParty : MethodName := ⟨RX6, "noParty", "(I)Z"⟩
abbrev cX6_noCall : ByteArray := prog_8_method_60_code
def yX6_noCall : MethodName := ⟨RX6, "noCall", "(I)Z"⟩
abbrev cX6_noLeg : ByteArray := prog_8_method_61_code
def yX6_noLeg : MethodName := ⟨RX6, "noLeg", "(I)Z"⟩
abbrev cX6_noWhat : ByteArray := prog_8_method_62_code
def yX6_noWhat : MethodName := ⟨RX6, "noWhat", "(III)Z"⟩
abbrev cX6_time : ByteArray := prog_8_method_63_code
def yX6_time : MethodName := ⟨RX6, "time", "()I"⟩
abbrev cX6_count : ByteArray := prog_8_method_64_code
def yX6_count : MethodName := ⟨RX6, "count", "(I)I"⟩
abbrev cX6_tellParty : ByteArray := prog_8_method_65_code
def yX6_tellParty : MethodName := ⟨RX6, "tellParty", "(II)I"⟩
abbrev cX6_party : ByteArray := prog_8_method_66_code
def yX6_party : MethodName := ⟨RX6, "party", "(II)I"⟩
abbrev cX6_tellCall : ByteArray := prog_8_method_67_code
def yX6_tellCall : MethodName := ⟨RX6, "tellCall", "(II)I"⟩
abbrev cX6_call : ByteArray := prog_8_method_68_code
def yX6_call : MethodName := ⟨RX6, "call", "(II)I"⟩
abbrev cX6_leg : ByteArray := prog_8_method_69_code
def yX6_leg : MethodName := ⟨RX6, "leg", "(II)I"⟩
abbrev cX6_pending : ByteArray := prog_8_method_70_code
def yX6_pending : MethodName := ⟨RX6, "pending", "(II)I"⟩
abbrev cX6_repetition : ByteArray := prog_8_method_71_code
def yX6_repetition : MethodName := ⟨RX6, "repetition", "(II)I"⟩
abbrev cX6_total : ByteArray := prog_8_method_72_code
def yX6_total : MethodName := ⟨RX6, "total", "(I)I"⟩
abbrev cX6_settle : ByteArray := prog_8_method_73_code
def yX6_settle : MethodName := ⟨RX6, "settle", "(I)I"⟩
abbrev cX6_settlesIn : ByteArray := prog_8_method_74_code
def yX6_settlesIn : MethodName := ⟨RX6, "settlesIn", "(I)I"⟩
abbrev cX6_answeredBy : ByteArray := prog_8_method_75_code
def yX6_answeredBy : MethodName := ⟨RX6, "answeredBy", "(I)I"⟩
abbrev cX6_remember : ByteArray := prog_8_method_76_code
def yX6_remember : MethodName := ⟨RX6, "remember", "()V"⟩
abbrev cX6_pass : ByteArray := prog_8_method_77_code
def yX6_pass : MethodName := ⟨RX6, "pass", "(I)I"⟩
abbrev cX6_dial : ByteArray := prog_8_method_78_code
def yX6_dial : MethodName := ⟨RX6, "dial", "(II)I"⟩
abbrev cX6_transfer : ByteArray := prog_8_method_79_code
def yX6_transfer : MethodName := ⟨RX6, "transfer", "(II)I"⟩
abbrev cX6_hangUp : ByteArray := prog_8_method_80_code
def yX6_hangUp : MethodName := ⟨RX6, "hangUp", "(I)I"⟩
abbrev cX6_offer : ByteArray := prog_8_method_81_code
def yX6_offer : MethodName := ⟨RX6, "offer", "(II)I"⟩
abbrev cX6_setParty : ByteArray := prog_8_method_82_code
def yX6_setParty : MethodName := ⟨RX6, "setParty", "(III)I"⟩
abbrev cX6_undo : ByteArray := prog_8_method_83_code
def yX6_undo : MethodName := ⟨RX6, "undo", "()I"⟩
abbrev cX6_checksum : ByteArray := prog_8_method_84_code
def yX6_checksum : MethodName := ⟨RX6, "checksum", "()J"⟩
def RJx145de : String := "java/io/Serializable"
def TJx145de : u_T := fun k => match k with
  | _ => ("", "", "", false)
def tyJx145de : Nat → FieldType := fun k => match k with
  | _ => .int
abbrev wsJx145de0 : List Cond := u_ws RJx145de TJx145de 0
theorem nmJx145de : ∀ a, a < 0 → ∀ b, b < 0 → a ≠ b → (TJx145de a).2.1 ≠ (TJx145de b).2.1 := by decide +kernel
theorem tyJx145de_ok : ∀ k, k < 0 → parseFieldDescriptor (TJx145de k).2.2.1 = some (tyJx145de k) := by decide +kernel
def RJx9f9b0 : String := "java/lang/CharSequence"
def TJx9f9b0 : u_T := fun k => match k with
  | _ => ("", "", "", false)
def tyJx9f9b0 : Nat → FieldType := fun k => match k with
  | _ => .int
abbrev wsJx9f9b00 : List Cond := u_ws RJx9f9b0 TJx9f9b0 0
theorem nmJx9f9b0 : ∀ a, a < 0 → ∀ b, b < 0 → a ≠ b → (TJx9f9b0 a).2.1 ≠ (TJx9f9b0 b).2.1 := by decide +kernel
theorem tyJx9f9b0_ok : ∀ k, k < 0 → parseFieldDescriptor (TJx9f9b0 k).2.2.1 = some (tyJx9f9b0 k) := by decide +kernel
def RJx8e188 : String := "java/lang/Cloneable"
def TJx8e188 : u_T := fun k => match k with
  | _ => ("", "", "", false)
def tyJx8e188 : Nat → FieldType := fun k => match k with
  | _ => .int
abbrev wsJx8e1880 : List Cond := u_ws RJx8e188 TJx8e188 0
theorem nmJx8e188 : ∀ a, a < 0 → ∀ b, b < 0 → a ≠ b → (TJx8e188 a).2.1 ≠ (TJx8e188 b).2.1 := by decide +kernel
theorem tyJx8e188_ok : ∀ k, k < 0 → parseFieldDescriptor (TJx8e188 k).2.2.1 = some (tyJx8e188 k) := by decide +kernel
def RJxb160c : String := "java/lang/Comparable"
def TJxb160c : u_T := fun k => match k with
  | _ => ("", "", "", false)
def tyJxb160c : Nat → FieldType := fun k => match k with
  | _ => .int
abbrev wsJxb160c0 : List Cond := u_ws RJxb160c TJxb160c 0
theorem nmJxb160c : ∀ a, a < 0 → ∀ b, b < 0 → a ≠ b → (TJxb160c a).2.1 ≠ (TJxb160c b).2.1 := by decide +kernel
theorem tyJxb160c_ok : ∀ k, k < 0 → parseFieldDescriptor (TJxb160c k).2.2.1 = some (tyJxb160c k) := by decide +kernel
def RJ6 : String := "java/lang/Integer"
def TJ6 : u_T := fun k => match k with
  | _ => ("", "", "", false)
def tyJ6 : Nat → FieldType := fun k => match k with
  | _ => .int
abbrev wsJ60 : List Cond := u_ws RJ6 TJ6 0
theorem nmJ6 : ∀ a, a < 0 → ∀ b, b < 0 → a ≠ b → (TJ6 a).2.1 ≠ (TJ6 b).2.1 := by decide +kernel
theorem tyJ6_ok : ∀ k, k < 0 → parseFieldDescriptor (TJ6 k).2.2.1 = some (tyJ6 k) := by decide +kernel
abbrev cJ6_bitCount_0f7a4 : ByteArray := prog_17_method_49_code
def yJ6_bitCount_0f7a4 : MethodName := ⟨RJ6, "bitCount", "(I)I"⟩
def RJ9 : String := "java/lang/Math"
def TJ9 : u_T := fun k => match k with
  | _ => ("", "", "", false)
def tyJ9 : Nat → FieldType := fun k => match k with
  | _ => .int
abbrev wsJ90 : List Cond := u_ws RJ9 TJ9 0
theorem nmJ9 : ∀ a, a < 0 → ∀ b, b < 0 → a ≠ b → (TJ9 a).2.1 ≠ (TJ9 b).2.1 := by decide +kernel
theorem tyJ9_ok : ∀ k, k < 0 → parseFieldDescriptor (TJ9 k).2.2.1 = some (tyJ9 k) := by decide +kernel
abbrev cJ9_min_7cf53 : ByteArray := prog_18_method_69_code
def yJ9_min_7cf53 : MethodName := ⟨RJ9, "min", "(II)I"⟩
def RJ0 : String := "java/lang/String"
def TJ0 : u_T := fun k => match k with
  | _ => ("", "", "", false)
def tyJ0 : Nat → FieldType := fun k => match k with
  | _ => .int
abbrev wsJ00 : List Cond := u_ws RJ0 TJ0 0
theorem nmJ0 : ∀ a, a < 0 → ∀ b, b < 0 → a ≠ b → (TJ0 a).2.1 ≠ (TJ0 b).2.1 := by decide +kernel
theorem tyJ0_ok : ∀ k, k < 0 → parseFieldDescriptor (TJ0 k).2.2.1 = some (tyJ0 k) := by decide +kernel
abbrev cJ0_length_8abf5 : ByteArray := prog_20_method_54_code
def yJ0_length_8abf5 : MethodName := ⟨RJ0, "length", "()I"⟩
abbrev cJ0_charAt_5068e : ByteArray := prog_20_method_56_code
def yJ0_charAt_5068e : MethodName := ⟨RJ0, "charAt", "(I)C"⟩
abbrev cJ0_coder_7d493 : ByteArray := prog_20_method_152_code
def yJ0_coder_7d493 : MethodName := ⟨RJ0, "coder", "()B"⟩
abbrev cJ0_isLatin1_aae02 : ByteArray := prog_20_method_154_code
def yJ0_isLatin1_aae02 : MethodName := ⟨RJ0, "isLatin1", "()Z"⟩
abbrev cJ0_checkIndex_df160 : ByteArray := prog_20_method_155_code
def yJ0_checkIndex_df160 : MethodName := ⟨RJ0, "checkIndex", "(II)V"⟩
def RJ1 : String := "java/lang/StringLatin1"
def TJ1 : u_T := fun k => match k with
  | _ => ("", "", "", false)
def tyJ1 : Nat → FieldType := fun k => match k with
  | _ => .int
abbrev wsJ10 : List Cond := u_ws RJ1 TJ1 0
theorem nmJ1 : ∀ a, a < 0 → ∀ b, b < 0 → a ≠ b → (TJ1 a).2.1 ≠ (TJ1 b).2.1 := by decide +kernel
theorem tyJ1_ok : ∀ k, k < 0 → parseFieldDescriptor (TJ1 k).2.2.1 = some (tyJ1 k) := by decide +kernel
abbrev cJ1_charAt_3b067 : ByteArray := prog_21_method_2_code
def yJ1_charAt_3b067 : MethodName := ⟨RJ1, "charAt", "([BI)C"⟩
def RJ2 : String := "java/lang/StringUTF16"
def TJ2 : u_T := fun k => match k with
  | _ => ("", "", "", false)
def tyJ2 : Nat → FieldType := fun k => match k with
  | _ => .int
abbrev wsJ20 : List Cond := u_ws RJ2 TJ2 0
theorem nmJ2 : ∀ a, a < 0 → ∀ b, b < 0 → a ≠ b → (TJ2 a).2.1 ≠ (TJ2 b).2.1 := by decide +kernel
theorem tyJ2_ok : ∀ k, k < 0 → parseFieldDescriptor (TJ2 k).2.2.1 = some (tyJ2 k) := by decide +kernel
abbrev cJ2_getChar_3b067 : ByteArray := prog_22_method_5_code
def yJ2_getChar_3b067 : MethodName := ⟨RJ2, "getChar", "([BI)C"⟩
abbrev cJ2_length_9d52b : ByteArray := prog_22_method_6_code
def yJ2_length_9d52b : MethodName := ⟨RJ2, "length", "([B)I"⟩
abbrev cJ2_charAt_3b067 : ByteArray := prog_22_method_83_code
def yJ2_charAt_3b067 : MethodName := ⟨RJ2, "charAt", "([BI)C"⟩
abbrev cJ2_checkIndex_2214a : ByteArray := prog_22_method_91_code
def yJ2_checkIndex_2214a : MethodName := ⟨RJ2, "checkIndex", "(I[B)V"⟩
def RJ10 : String := "java/lang/System"
def TJ10 : u_T := fun k => match k with
  | _ => ("", "", "", false)
def tyJ10 : Nat → FieldType := fun k => match k with
  | _ => .int
abbrev wsJ100 : List Cond := u_ws RJ10 TJ10 0
theorem nmJ10 : ∀ a, a < 0 → ∀ b, b < 0 → a ≠ b → (TJ10 a).2.1 ≠ (TJ10 b).2.1 := by decide +kernel
theorem tyJ10_ok : ∀ k, k < 0 → parseFieldDescriptor (TJ10 k).2.2.1 = some (tyJ10 k) := by decide +kernel
def RJxfd54e : String := "java/lang/constant/Constable"
def TJxfd54e : u_T := fun k => match k with
  | _ => ("", "", "", false)
def tyJxfd54e : Nat → FieldType := fun k => match k with
  | _ => .int
abbrev wsJxfd54e0 : List Cond := u_ws RJxfd54e TJxfd54e 0
theorem nmJxfd54e : ∀ a, a < 0 → ∀ b, b < 0 → a ≠ b → (TJxfd54e a).2.1 ≠ (TJxfd54e b).2.1 := by decide +kernel
theorem tyJxfd54e_ok : ∀ k, k < 0 → parseFieldDescriptor (TJxfd54e k).2.2.1 = some (tyJxfd54e k) := by decide +kernel
def RJx3cf43 : String := "java/lang/constant/ConstantDesc"
def TJx3cf43 : u_T := fun k => match k with
  | _ => ("", "", "", false)
def tyJx3cf43 : Nat → FieldType := fun k => match k with
  | _ => .int
abbrev wsJx3cf430 : List Cond := u_ws RJx3cf43 TJx3cf43 0
theorem nmJx3cf43 : ∀ a, a < 0 → ∀ b, b < 0 → a ≠ b → (TJx3cf43 a).2.1 ≠ (TJx3cf43 b).2.1 := by decide +kernel
theorem tyJx3cf43_ok : ∀ k, k < 0 → parseFieldDescriptor (TJx3cf43 k).2.2.1 = some (tyJx3cf43 k) := by decide +kernel
def RJ7 : String := "java/util/Arrays"
def TJ7 : u_T := fun k => match k with
  | _ => ("", "", "", false)
def tyJ7 : Nat → FieldType := fun k => match k with
  | _ => .int
abbrev wsJ70 : List Cond := u_ws RJ7 TJ7 0
theorem nmJ7 : ∀ a, a < 0 → ∀ b, b < 0 → a ≠ b → (TJ7 a).2.1 ≠ (TJ7 b).2.1 := by decide +kernel
theorem tyJ7_ok : ∀ k, k < 0 → parseFieldDescriptor (TJ7 k).2.2.1 = some (tyJ7 k) := by decide +kernel
abbrev cJ7_copyOf_59c91 : ByteArray := prog_27_method_123_code
def yJ7_copyOf_59c91 : MethodName := ⟨RJ7, "copyOf", "([II)[I"⟩
def RJ3 : String := "jdk/internal/util/Preconditions"
def TJ3 : u_T := fun k => match k with
  | _ => ("", "", "", false)
def tyJ3 : Nat → FieldType := fun k => match k with
  | _ => .int
abbrev wsJ30 : List Cond := u_ws RJ3 TJ3 0
theorem nmJ3 : ∀ a, a < 0 → ∀ b, b < 0 → a ≠ b → (TJ3 a).2.1 ≠ (TJ3 b).2.1 := by decide +kernel
theorem tyJ3_ok : ∀ k, k < 0 → parseFieldDescriptor (TJ3 k).2.2.1 = some (tyJ3 k) := by decide +kernel
abbrev cJ3_checkIndex_8e157 : ByteArray := prog_29_method_11_code
def yJ3_checkIndex_8e157 : MethodName := ⟨RJ3, "checkIndex", "(IILjava/util/function/BiFunction;)I"⟩
def RL : String := "CallForksLaw"
abbrev cL_load : ByteArray := method_3_code
def yL_load : MethodName := ⟨RL, "load", "(LCallForks;I[J)I"⟩
abbrev cL_count : ByteArray := method_4_code
def yL_count : MethodName := ⟨RL, "count", "(LCallForks;I[J)I"⟩
abbrev cL_party : ByteArray := method_5_code
def yL_party : MethodName := ⟨RL, "party", "(LCallForks;II[J)I"⟩
abbrev cL_call : ByteArray := method_6_code
def yL_call : MethodName := ⟨RL, "call", "(LCallForks;II[J)I"⟩
abbrev cL_leg : ByteArray := method_7_code
def yL_leg : MethodName := ⟨RL, "leg", "(LCallForks;II[J)I"⟩
abbrev cL_pending : ByteArray := method_8_code
def yL_pending : MethodName := ⟨RL, "pending", "(LCallForks;II[J)I"⟩
abbrev cL_repetition : ByteArray := method_9_code
def yL_repetition : MethodName := ⟨RL, "repetition", "(LCallForks;II[J)I"⟩
abbrev cL_total : ByteArray := method_10_code
def yL_total : MethodName := ⟨RL, "total", "(LCallForks;I[J)I"⟩
abbrev cL_settlesIn : ByteArray := method_11_code
def yL_settlesIn : MethodName := ⟨RL, "settlesIn", "(LCallForks;I[J)I"⟩
abbrev cL_answeredBy : ByteArray := method_12_code
def yL_answeredBy : MethodName := ⟨RL, "answeredBy", "(LCallForks;I[J)I"⟩
abbrev cL_pass : ByteArray := method_13_code
def yL_pass : MethodName := ⟨RL, "pass", "(LCallForks;I[J)I"⟩
abbrev cL_dial : ByteArray := method_14_code
def yL_dial : MethodName := ⟨RL, "dial", "(LCallForks;II[J)I"⟩
abbrev cL_transfer : ByteArray := method_15_code
def yL_transfer : MethodName := ⟨RL, "transfer", "(LCallForks;II[J)I"⟩
abbrev cL_hangUp : ByteArray := method_16_code
def yL_hangUp : MethodName := ⟨RL, "hangUp", "(LCallForks;I[J)I"⟩
abbrev cL_offer : ByteArray := method_17_code
def yL_offer : MethodName := ⟨RL, "offer", "(LCallForks;II[J)I"⟩
abbrev cL_setParty : ByteArray := method_18_code
def yL_setParty : MethodName := ⟨RL, "setParty", "(LCallForks;III[J)I"⟩
abbrev cL_law : ByteArray := code
def yL_law : MethodName := ⟨RL, "law", "([I)Z"⟩
abbrev vwCl : List vw_C := [(RX0, TX0, 9), (RX1, TX1, 3), (RX2, TX2, 3), (RX3, TX3, 15), (RX4, TX4, 3), (RX5, TX5, 5), (RX6, TX6, 17)]
