section
-- ===== PART A: goes FIRST, ahead of the names: the tables' words, and 'selects' of the private methods out of them =====
/-- a private method of a class that the tables say can be made, by its rows of tables_1 -/
def lw_okq (q : MethodName × Nat) : Prop := (q.1.cls ≠ "java/lang/invoke/MethodHandle" ∧ q.1.cls ≠ "java/lang/invoke/VarHandle") ∧ Cond.instantiable q.1.cls q.2 ∈ tables_1 ∧ Cond.privateMethod q.1 ∈ tables_1 ∧ Cond.instanceMethod q.1 ∈ tables_1
theorem lw_p0 : lw_okq (⟨"BlockingShop", "putWord", "(II)V"⟩, 10) := ⟨⟨by decide +kernel, by decide +kernel⟩, List.mem_of_getElem? (i := 23) (by decide +kernel), List.mem_of_getElem? (i := 262) (by decide +kernel), List.mem_of_getElem? (i := 263) (by decide +kernel)⟩
theorem lw_p1 : lw_okq (⟨"BlockingShop$Schedule", "lastOf", "(I)I"⟩, 8) := ⟨⟨by decide +kernel, by decide +kernel⟩, List.mem_of_getElem? (i := 159) (by decide +kernel), List.mem_of_getElem? (i := 290) (by decide +kernel), List.mem_of_getElem? (i := 291) (by decide +kernel)⟩
theorem lw_p2 : lw_okq (⟨"BlockingShop$Schedule", "criticalEnd", "()I"⟩, 8) := ⟨⟨by decide +kernel, by decide +kernel⟩, List.mem_of_getElem? (i := 159) (by decide +kernel), List.mem_of_getElem? (i := 338) (by decide +kernel), List.mem_of_getElem? (i := 339) (by decide +kernel)⟩
theorem lw_p3 : lw_okq (⟨"BlockingShop$Schedule", "isOnPath", "(I)Z"⟩, 8) := ⟨⟨by decide +kernel, by decide +kernel⟩, List.mem_of_getElem? (i := 159) (by decide +kernel), List.mem_of_getElem? (i := 343) (by decide +kernel), List.mem_of_getElem? (i := 344) (by decide +kernel)⟩
theorem lw_p4 : lw_okq (⟨"BlockingShop$Schedule", "criticalSource", "(I)I"⟩, 8) := ⟨⟨by decide +kernel, by decide +kernel⟩, List.mem_of_getElem? (i := 159) (by decide +kernel), List.mem_of_getElem? (i := 347) (by decide +kernel), List.mem_of_getElem? (i := 348) (by decide +kernel)⟩
theorem lw_p5 : lw_okq (⟨"BlockingShop", "trySwap", "(II)Z"⟩, 10) := ⟨⟨by decide +kernel, by decide +kernel⟩, List.mem_of_getElem? (i := 23) (by decide +kernel), List.mem_of_getElem? (i := 368) (by decide +kernel), List.mem_of_getElem? (i := 369) (by decide +kernel)⟩
theorem lw_p6 : lw_okq (⟨"BlockingShop$Schedule", "setArcs", "(I)V"⟩, 8) := ⟨⟨by decide +kernel, by decide +kernel⟩, List.mem_of_getElem? (i := 159) (by decide +kernel), List.mem_of_getElem? (i := 387) (by decide +kernel), List.mem_of_getElem? (i := 388) (by decide +kernel)⟩
theorem lw_p7 : lw_okq (⟨"BlockingShop$Schedule", "unsettleAll", "()I"⟩, 8) := ⟨⟨by decide +kernel, by decide +kernel⟩, List.mem_of_getElem? (i := 159) (by decide +kernel), List.mem_of_getElem? (i := 395) (by decide +kernel), List.mem_of_getElem? (i := 396) (by decide +kernel)⟩
theorem lw_p8 : lw_okq (⟨"BlockingShop$Schedule", "settleSome", "()I"⟩, 8) := ⟨⟨by decide +kernel, by decide +kernel⟩, List.mem_of_getElem? (i := 159) (by decide +kernel), List.mem_of_getElem? (i := 402) (by decide +kernel), List.mem_of_getElem? (i := 403) (by decide +kernel)⟩
theorem lw_p9 : lw_okq (⟨"BlockingShop$Schedule", "isReady", "(I)Z"⟩, 8) := ⟨⟨by decide +kernel, by decide +kernel⟩, List.mem_of_getElem? (i := 159) (by decide +kernel), List.mem_of_getElem? (i := 406) (by decide +kernel), List.mem_of_getElem? (i := 407) (by decide +kernel)⟩
theorem lw_p10 : lw_okq (⟨"BlockingShop$Schedule", "earliestStart", "(I)I"⟩, 8) := ⟨⟨by decide +kernel, by decide +kernel⟩, List.mem_of_getElem? (i := 159) (by decide +kernel), List.mem_of_getElem? (i := 410) (by decide +kernel), List.mem_of_getElem? (i := 411) (by decide +kernel)⟩
theorem lw_p11 : lw_okq (⟨"BlockingShop$Schedule", "settleRing", "()I"⟩, 8) := ⟨⟨by decide +kernel, by decide +kernel⟩, List.mem_of_getElem? (i := 159) (by decide +kernel), List.mem_of_getElem? (i := 414) (by decide +kernel), List.mem_of_getElem? (i := 415) (by decide +kernel)⟩
theorem lw_p12 : lw_okq (⟨"BlockingShop$Schedule", "sizeOfRing", "(I)I"⟩, 8) := ⟨⟨by decide +kernel, by decide +kernel⟩, List.mem_of_getElem? (i := 159) (by decide +kernel), List.mem_of_getElem? (i := 418) (by decide +kernel), List.mem_of_getElem? (i := 419) (by decide +kernel)⟩
theorem lw_p13 : lw_okq (⟨"BlockingShop$Schedule", "startTogether", "(II)V"⟩, 8) := ⟨⟨by decide +kernel, by decide +kernel⟩, List.mem_of_getElem? (i := 159) (by decide +kernel), List.mem_of_getElem? (i := 422) (by decide +kernel), List.mem_of_getElem? (i := 423) (by decide +kernel)⟩
theorem lw_p14 : lw_okq (⟨"BlockingShop", "remember", "()V"⟩, 10) := ⟨⟨by decide +kernel, by decide +kernel⟩, List.mem_of_getElem? (i := 23) (by decide +kernel), List.mem_of_getElem? (i := 435) (by decide +kernel), List.mem_of_getElem? (i := 436) (by decide +kernel)⟩
theorem lw_p15 : lw_okq (⟨"BlockingShop$Plan", "setFirstOrder", "(I)V"⟩, 3) := ⟨⟨by decide +kernel, by decide +kernel⟩, List.mem_of_getElem? (i := 175) (by decide +kernel), List.mem_of_getElem? (i := 443) (by decide +kernel), List.mem_of_getElem? (i := 444) (by decide +kernel)⟩
def lw_privs_1 : List (MethodName × Nat) := [(⟨"BlockingShop", "putWord", "(II)V"⟩, 10), (⟨"BlockingShop$Schedule", "lastOf", "(I)I"⟩, 8), (⟨"BlockingShop$Schedule", "criticalEnd", "()I"⟩, 8), (⟨"BlockingShop$Schedule", "isOnPath", "(I)Z"⟩, 8), (⟨"BlockingShop$Schedule", "criticalSource", "(I)I"⟩, 8), (⟨"BlockingShop", "trySwap", "(II)Z"⟩, 10), (⟨"BlockingShop$Schedule", "setArcs", "(I)V"⟩, 8), (⟨"BlockingShop$Schedule", "unsettleAll", "()I"⟩, 8), (⟨"BlockingShop$Schedule", "settleSome", "()I"⟩, 8), (⟨"BlockingShop$Schedule", "isReady", "(I)Z"⟩, 8), (⟨"BlockingShop$Schedule", "earliestStart", "(I)I"⟩, 8), (⟨"BlockingShop$Schedule", "settleRing", "()I"⟩, 8), (⟨"BlockingShop$Schedule", "sizeOfRing", "(I)I"⟩, 8), (⟨"BlockingShop$Schedule", "startTogether", "(II)V"⟩, 8), (⟨"BlockingShop", "remember", "()V"⟩, 10), (⟨"BlockingShop$Plan", "setFirstOrder", "(I)V"⟩, 3)]
theorem lw_r1 : ∀ q ∈ lw_privs_1, lw_okq q := List.forall_mem_cons.mpr ⟨lw_p0, List.forall_mem_cons.mpr ⟨lw_p1, List.forall_mem_cons.mpr ⟨lw_p2, List.forall_mem_cons.mpr ⟨lw_p3, List.forall_mem_cons.mpr ⟨lw_p4, List.forall_mem_cons.mpr ⟨lw_p5, List.forall_mem_cons.mpr ⟨lw_p6, List.forall_mem_cons.mpr ⟨lw_p7, List.forall_mem_cons.mpr ⟨lw_p8, List.forall_mem_cons.mpr ⟨lw_p9, List.forall_mem_cons.mpr ⟨lw_p10, List.forall_mem_cons.mpr ⟨lw_p11, List.forall_mem_cons.mpr ⟨lw_p12, List.forall_mem_cons.mpr ⟨lw_p13, List.forall_mem_cons.mpr ⟨lw_p14, List.forall_mem_cons.mpr ⟨lw_p15, fun _ h => absurd h List.not_mem_nil⟩⟩⟩⟩⟩⟩⟩⟩⟩⟩⟩⟩⟩⟩⟩⟩
theorem lw_p16 : lw_okq (⟨"java/lang/Throwable", "fillInStackTrace", "(I)Ljava/lang/Throwable;"⟩, 6) := ⟨⟨by decide +kernel, by decide +kernel⟩, List.mem_of_getElem? (i := 508) (by decide +kernel), List.mem_of_getElem? (i := 506) (by decide +kernel), List.mem_of_getElem? (i := 507) (by decide +kernel)⟩
theorem lw_p17 : lw_okq (⟨"BlockingShop$SetupReader", "next", "()V"⟩, 10) := ⟨⟨by decide +kernel, by decide +kernel⟩, List.mem_of_getElem? (i := 31) (by decide +kernel), List.mem_of_getElem? (i := 545) (by decide +kernel), List.mem_of_getElem? (i := 546) (by decide +kernel)⟩
theorem lw_p18 : lw_okq (⟨"BlockingShop$SetupReader", "readHead", "(LBlockingShop$Shop;)V"⟩, 10) := ⟨⟨by decide +kernel, by decide +kernel⟩, List.mem_of_getElem? (i := 31) (by decide +kernel), List.mem_of_getElem? (i := 549) (by decide +kernel), List.mem_of_getElem? (i := 550) (by decide +kernel)⟩
theorem lw_p19 : lw_okq (⟨"BlockingShop$SetupReader", "expectWord", "(Ljava/lang/String;)V"⟩, 10) := ⟨⟨by decide +kernel, by decide +kernel⟩, List.mem_of_getElem? (i := 31) (by decide +kernel), List.mem_of_getElem? (i := 554) (by decide +kernel), List.mem_of_getElem? (i := 555) (by decide +kernel)⟩
theorem lw_p20 : lw_okq (⟨"BlockingShop$SetupReader", "isWord", "(Ljava/lang/String;)Z"⟩, 10) := ⟨⟨by decide +kernel, by decide +kernel⟩, List.mem_of_getElem? (i := 31) (by decide +kernel), List.mem_of_getElem? (i := 558) (by decide +kernel), List.mem_of_getElem? (i := 559) (by decide +kernel)⟩
theorem lw_p21 : lw_okq (⟨"BlockingShop$SetupReader", "fail", "(I)V"⟩, 10) := ⟨⟨by decide +kernel, by decide +kernel⟩, List.mem_of_getElem? (i := 31) (by decide +kernel), List.mem_of_getElem? (i := 610) (by decide +kernel), List.mem_of_getElem? (i := 611) (by decide +kernel)⟩
theorem lw_p22 : lw_okq (⟨"BlockingShop$SetupReader", "readNumber", "(II)I"⟩, 10) := ⟨⟨by decide +kernel, by decide +kernel⟩, List.mem_of_getElem? (i := 31) (by decide +kernel), List.mem_of_getElem? (i := 614) (by decide +kernel), List.mem_of_getElem? (i := 615) (by decide +kernel)⟩
theorem lw_p23 : lw_okq (⟨"BlockingShop$SetupReader", "valueOfToken", "()I"⟩, 10) := ⟨⟨by decide +kernel, by decide +kernel⟩, List.mem_of_getElem? (i := 31) (by decide +kernel), List.mem_of_getElem? (i := 618) (by decide +kernel), List.mem_of_getElem? (i := 619) (by decide +kernel)⟩
theorem lw_p24 : lw_okq (⟨"BlockingShop$SetupReader", "expect", "(C)V"⟩, 10) := ⟨⟨by decide +kernel, by decide +kernel⟩, List.mem_of_getElem? (i := 31) (by decide +kernel), List.mem_of_getElem? (i := 623) (by decide +kernel), List.mem_of_getElem? (i := 624) (by decide +kernel)⟩
theorem lw_p25 : lw_okq (⟨"BlockingShop$SetupReader", "readJob", "(LBlockingShop$Shop;)V"⟩, 10) := ⟨⟨by decide +kernel, by decide +kernel⟩, List.mem_of_getElem? (i := 31) (by decide +kernel), List.mem_of_getElem? (i := 628) (by decide +kernel), List.mem_of_getElem? (i := 629) (by decide +kernel)⟩
theorem lw_p26 : lw_okq (⟨"BlockingShop$SetupReader", "readOperation", "(LBlockingShop$Shop;I)V"⟩, 10) := ⟨⟨by decide +kernel, by decide +kernel⟩, List.mem_of_getElem? (i := 31) (by decide +kernel), List.mem_of_getElem? (i := 632) (by decide +kernel), List.mem_of_getElem? (i := 633) (by decide +kernel)⟩
theorem lw_p27 : lw_okq (⟨"BlockingShop$SetupReader", "needsAlready", "(LBlockingShop$Shop;II)Z"⟩, 10) := ⟨⟨by decide +kernel, by decide +kernel⟩, List.mem_of_getElem? (i := 31) (by decide +kernel), List.mem_of_getElem? (i := 637) (by decide +kernel), List.mem_of_getElem? (i := 638) (by decide +kernel)⟩
theorem lw_p28 : lw_okq (⟨"BlockingShop$SetupReader", "readMachine", "(LBlockingShop$Shop;)V"⟩, 10) := ⟨⟨by decide +kernel, by decide +kernel⟩, List.mem_of_getElem? (i := 31) (by decide +kernel), List.mem_of_getElem? (i := 643) (by decide +kernel), List.mem_of_getElem? (i := 644) (by decide +kernel)⟩
theorem lw_p29 : lw_okq (⟨"BlockingShop$SetupReader", "readSum", "(I)V"⟩, 10) := ⟨⟨by decide +kernel, by decide +kernel⟩, List.mem_of_getElem? (i := 31) (by decide +kernel), List.mem_of_getElem? (i := 648) (by decide +kernel), List.mem_of_getElem? (i := 649) (by decide +kernel)⟩
theorem lw_p30 : lw_okq (⟨"BlockingShop$SetupReader", "readTerm", "(I)V"⟩, 10) := ⟨⟨by decide +kernel, by decide +kernel⟩, List.mem_of_getElem? (i := 31) (by decide +kernel), List.mem_of_getElem? (i := 652) (by decide +kernel), List.mem_of_getElem? (i := 653) (by decide +kernel)⟩
theorem lw_p31 : lw_okq (⟨"BlockingShop$SetupReader", "readFactor", "(I)V"⟩, 10) := ⟨⟨by decide +kernel, by decide +kernel⟩, List.mem_of_getElem? (i := 31) (by decide +kernel), List.mem_of_getElem? (i := 656) (by decide +kernel), List.mem_of_getElem? (i := 657) (by decide +kernel)⟩
def lw_privs_2 : List (MethodName × Nat) := [(⟨"java/lang/Throwable", "fillInStackTrace", "(I)Ljava/lang/Throwable;"⟩, 6), (⟨"BlockingShop$SetupReader", "next", "()V"⟩, 10), (⟨"BlockingShop$SetupReader", "readHead", "(LBlockingShop$Shop;)V"⟩, 10), (⟨"BlockingShop$SetupReader", "expectWord", "(Ljava/lang/String;)V"⟩, 10), (⟨"BlockingShop$SetupReader", "isWord", "(Ljava/lang/String;)Z"⟩, 10), (⟨"BlockingShop$SetupReader", "fail", "(I)V"⟩, 10), (⟨"BlockingShop$SetupReader", "readNumber", "(II)I"⟩, 10), (⟨"BlockingShop$SetupReader", "valueOfToken", "()I"⟩, 10), (⟨"BlockingShop$SetupReader", "expect", "(C)V"⟩, 10), (⟨"BlockingShop$SetupReader", "readJob", "(LBlockingShop$Shop;)V"⟩, 10), (⟨"BlockingShop$SetupReader", "readOperation", "(LBlockingShop$Shop;I)V"⟩, 10), (⟨"BlockingShop$SetupReader", "needsAlready", "(LBlockingShop$Shop;II)Z"⟩, 10), (⟨"BlockingShop$SetupReader", "readMachine", "(LBlockingShop$Shop;)V"⟩, 10), (⟨"BlockingShop$SetupReader", "readSum", "(I)V"⟩, 10), (⟨"BlockingShop$SetupReader", "readTerm", "(I)V"⟩, 10), (⟨"BlockingShop$SetupReader", "readFactor", "(I)V"⟩, 10)]
theorem lw_r2 : ∀ q ∈ lw_privs_2, lw_okq q := List.forall_mem_cons.mpr ⟨lw_p16, List.forall_mem_cons.mpr ⟨lw_p17, List.forall_mem_cons.mpr ⟨lw_p18, List.forall_mem_cons.mpr ⟨lw_p19, List.forall_mem_cons.mpr ⟨lw_p20, List.forall_mem_cons.mpr ⟨lw_p21, List.forall_mem_cons.mpr ⟨lw_p22, List.forall_mem_cons.mpr ⟨lw_p23, List.forall_mem_cons.mpr ⟨lw_p24, List.forall_mem_cons.mpr ⟨lw_p25, List.forall_mem_cons.mpr ⟨lw_p26, List.forall_mem_cons.mpr ⟨lw_p27, List.forall_mem_cons.mpr ⟨lw_p28, List.forall_mem_cons.mpr ⟨lw_p29, List.forall_mem_cons.mpr ⟨lw_p30, List.forall_mem_cons.mpr ⟨lw_p31, fun _ h => absurd h List.not_mem_nil⟩⟩⟩⟩⟩⟩⟩⟩⟩⟩⟩⟩⟩⟩⟩⟩
theorem lw_p32 : lw_okq (⟨"BlockingShop$SetupReader", "addToCost", "(I)V"⟩, 10) := ⟨⟨by decide +kernel, by decide +kernel⟩, List.mem_of_getElem? (i := 31) (by decide +kernel), List.mem_of_getElem? (i := 660) (by decide +kernel), List.mem_of_getElem? (i := 661) (by decide +kernel)⟩
theorem lw_p33 : lw_okq (⟨"BlockingShop$SetupReader", "readName", "()V"⟩, 10) := ⟨⟨by decide +kernel, by decide +kernel⟩, List.mem_of_getElem? (i := 31) (by decide +kernel), List.mem_of_getElem? (i := 664) (by decide +kernel), List.mem_of_getElem? (i := 665) (by decide +kernel)⟩
theorem lw_p34 : lw_okq (⟨"BlockingShop", "needJob", "(I)V"⟩, 10) := ⟨⟨by decide +kernel, by decide +kernel⟩, List.mem_of_getElem? (i := 23) (by decide +kernel), List.mem_of_getElem? (i := 697) (by decide +kernel), List.mem_of_getElem? (i := 698) (by decide +kernel)⟩
theorem lw_p35 : lw_okq (⟨"BlockingShop", "needOperation", "(II)V"⟩, 10) := ⟨⟨by decide +kernel, by decide +kernel⟩, List.mem_of_getElem? (i := 23) (by decide +kernel), List.mem_of_getElem? (i := 724) (by decide +kernel), List.mem_of_getElem? (i := 725) (by decide +kernel)⟩
theorem lw_p36 : lw_okq (⟨"BlockingShop", "needMachine", "(I)V"⟩, 10) := ⟨⟨by decide +kernel, by decide +kernel⟩, List.mem_of_getElem? (i := 23) (by decide +kernel), List.mem_of_getElem? (i := 741) (by decide +kernel), List.mem_of_getElem? (i := 742) (by decide +kernel)⟩
theorem lw_p37 : lw_okq (⟨"BlockingShop", "needSwap", "(II)V"⟩, 10) := ⟨⟨by decide +kernel, by decide +kernel⟩, List.mem_of_getElem? (i := 23) (by decide +kernel), List.mem_of_getElem? (i := 827) (by decide +kernel), List.mem_of_getElem? (i := 828) (by decide +kernel)⟩
theorem lw_p38 : lw_okq (⟨"BlockingShop", "adoptTrial", "()V"⟩, 10) := ⟨⟨by decide +kernel, by decide +kernel⟩, List.mem_of_getElem? (i := 23) (by decide +kernel), List.mem_of_getElem? (i := 863) (by decide +kernel), List.mem_of_getElem? (i := 864) (by decide +kernel)⟩
theorem lw_p39 : lw_okq (⟨"BlockingShopModel", "fails", "(ZI)Z"⟩, 25) := ⟨⟨by decide +kernel, by decide +kernel⟩, List.mem_of_getElem? (i := 900) (by decide +kernel), List.mem_of_getElem? (i := 1000) (by decide +kernel), List.mem_of_getElem? (i := 1001) (by decide +kernel)⟩
theorem lw_p40 : lw_okq (⟨"BlockingShopModel", "takeWord", "(Ljava/lang/String;)Z"⟩, 25) := ⟨⟨by decide +kernel, by decide +kernel⟩, List.mem_of_getElem? (i := 900) (by decide +kernel), List.mem_of_getElem? (i := 1005) (by decide +kernel), List.mem_of_getElem? (i := 1006) (by decide +kernel)⟩
theorem lw_p41 : lw_okq (⟨"BlockingShopModel", "isGood", "()Z"⟩, 25) := ⟨⟨by decide +kernel, by decide +kernel⟩, List.mem_of_getElem? (i := 900) (by decide +kernel), List.mem_of_getElem? (i := 1009) (by decide +kernel), List.mem_of_getElem? (i := 1010) (by decide +kernel)⟩
theorem lw_p42 : lw_okq (⟨"BlockingShopModel", "next", "()I"⟩, 25) := ⟨⟨by decide +kernel, by decide +kernel⟩, List.mem_of_getElem? (i := 900) (by decide +kernel), List.mem_of_getElem? (i := 1013) (by decide +kernel), List.mem_of_getElem? (i := 1014) (by decide +kernel)⟩
theorem lw_p43 : lw_okq (⟨"BlockingShopModel", "byteAt", "(I)I"⟩, 25) := ⟨⟨by decide +kernel, by decide +kernel⟩, List.mem_of_getElem? (i := 900) (by decide +kernel), List.mem_of_getElem? (i := 1017) (by decide +kernel), List.mem_of_getElem? (i := 1018) (by decide +kernel)⟩
theorem lw_p44 : lw_okq (⟨"BlockingShopModel", "report", "(II)V"⟩, 25) := ⟨⟨by decide +kernel, by decide +kernel⟩, List.mem_of_getElem? (i := 900) (by decide +kernel), List.mem_of_getElem? (i := 1023) (by decide +kernel), List.mem_of_getElem? (i := 1024) (by decide +kernel)⟩
theorem lw_p45 : lw_okq (⟨"BlockingShopModel", "number", "(II)I"⟩, 25) := ⟨⟨by decide +kernel, by decide +kernel⟩, List.mem_of_getElem? (i := 900) (by decide +kernel), List.mem_of_getElem? (i := 1027) (by decide +kernel), List.mem_of_getElem? (i := 1028) (by decide +kernel)⟩
theorem lw_p46 : lw_okq (⟨"BlockingShopModel", "expect", "(I)V"⟩, 25) := ⟨⟨by decide +kernel, by decide +kernel⟩, List.mem_of_getElem? (i := 900) (by decide +kernel), List.mem_of_getElem? (i := 1038) (by decide +kernel), List.mem_of_getElem? (i := 1039) (by decide +kernel)⟩
theorem lw_p47 : lw_okq (⟨"BlockingShopModel", "statement", "()V"⟩, 25) := ⟨⟨by decide +kernel, by decide +kernel⟩, List.mem_of_getElem? (i := 900) (by decide +kernel), List.mem_of_getElem? (i := 1042) (by decide +kernel), List.mem_of_getElem? (i := 1043) (by decide +kernel)⟩
def lw_privs_3 : List (MethodName × Nat) := [(⟨"BlockingShop$SetupReader", "addToCost", "(I)V"⟩, 10), (⟨"BlockingShop$SetupReader", "readName", "()V"⟩, 10), (⟨"BlockingShop", "needJob", "(I)V"⟩, 10), (⟨"BlockingShop", "needOperation", "(II)V"⟩, 10), (⟨"BlockingShop", "needMachine", "(I)V"⟩, 10), (⟨"BlockingShop", "needSwap", "(II)V"⟩, 10), (⟨"BlockingShop", "adoptTrial", "()V"⟩, 10), (⟨"BlockingShopModel", "fails", "(ZI)Z"⟩, 25), (⟨"BlockingShopModel", "takeWord", "(Ljava/lang/String;)Z"⟩, 25), (⟨"BlockingShopModel", "isGood", "()Z"⟩, 25), (⟨"BlockingShopModel", "next", "()I"⟩, 25), (⟨"BlockingShopModel", "byteAt", "(I)I"⟩, 25), (⟨"BlockingShopModel", "report", "(II)V"⟩, 25), (⟨"BlockingShopModel", "number", "(II)I"⟩, 25), (⟨"BlockingShopModel", "expect", "(I)V"⟩, 25), (⟨"BlockingShopModel", "statement", "()V"⟩, 25)]
theorem lw_r3 : ∀ q ∈ lw_privs_3, lw_okq q := List.forall_mem_cons.mpr ⟨lw_p32, List.forall_mem_cons.mpr ⟨lw_p33, List.forall_mem_cons.mpr ⟨lw_p34, List.forall_mem_cons.mpr ⟨lw_p35, List.forall_mem_cons.mpr ⟨lw_p36, List.forall_mem_cons.mpr ⟨lw_p37, List.forall_mem_cons.mpr ⟨lw_p38, List.forall_mem_cons.mpr ⟨lw_p39, List.forall_mem_cons.mpr ⟨lw_p40, List.forall_mem_cons.mpr ⟨lw_p41, List.forall_mem_cons.mpr ⟨lw_p42, List.forall_mem_cons.mpr ⟨lw_p43, List.forall_mem_cons.mpr ⟨lw_p44, List.forall_mem_cons.mpr ⟨lw_p45, List.forall_mem_cons.mpr ⟨lw_p46, List.forall_mem_cons.mpr ⟨lw_p47, fun _ h => absurd h List.not_mem_nil⟩⟩⟩⟩⟩⟩⟩⟩⟩⟩⟩⟩⟩⟩⟩⟩
theorem lw_p48 : lw_okq (⟨"BlockingShopModel", "readJob", "(I)V"⟩, 25) := ⟨⟨by decide +kernel, by decide +kernel⟩, List.mem_of_getElem? (i := 900) (by decide +kernel), List.mem_of_getElem? (i := 1047) (by decide +kernel), List.mem_of_getElem? (i := 1048) (by decide +kernel)⟩
theorem lw_p49 : lw_okq (⟨"BlockingShopModel", "readOperation", "(II)V"⟩, 25) := ⟨⟨by decide +kernel, by decide +kernel⟩, List.mem_of_getElem? (i := 900) (by decide +kernel), List.mem_of_getElem? (i := 1055) (by decide +kernel), List.mem_of_getElem? (i := 1056) (by decide +kernel)⟩
theorem lw_p50 : lw_okq (⟨"BlockingShopModel", "readMachine", "()V"⟩, 25) := ⟨⟨by decide +kernel, by decide +kernel⟩, List.mem_of_getElem? (i := 900) (by decide +kernel), List.mem_of_getElem? (i := 1063) (by decide +kernel), List.mem_of_getElem? (i := 1064) (by decide +kernel)⟩
theorem lw_p51 : lw_okq (⟨"BlockingShopModel", "once", "(II)V"⟩, 25) := ⟨⟨by decide +kernel, by decide +kernel⟩, List.mem_of_getElem? (i := 900) (by decide +kernel), List.mem_of_getElem? (i := 1071) (by decide +kernel), List.mem_of_getElem? (i := 1072) (by decide +kernel)⟩
theorem lw_p52 : lw_okq (⟨"BlockingShopModel", "sum", "()V"⟩, 25) := ⟨⟨by decide +kernel, by decide +kernel⟩, List.mem_of_getElem? (i := 900) (by decide +kernel), List.mem_of_getElem? (i := 1075) (by decide +kernel), List.mem_of_getElem? (i := 1076) (by decide +kernel)⟩
theorem lw_p53 : lw_okq (⟨"BlockingShopModel", "term", "()V"⟩, 25) := ⟨⟨by decide +kernel, by decide +kernel⟩, List.mem_of_getElem? (i := 900) (by decide +kernel), List.mem_of_getElem? (i := 1079) (by decide +kernel), List.mem_of_getElem? (i := 1080) (by decide +kernel)⟩
theorem lw_p54 : lw_okq (⟨"BlockingShopModel", "factor", "()V"⟩, 25) := ⟨⟨by decide +kernel, by decide +kernel⟩, List.mem_of_getElem? (i := 900) (by decide +kernel), List.mem_of_getElem? (i := 1083) (by decide +kernel), List.mem_of_getElem? (i := 1084) (by decide +kernel)⟩
theorem lw_p55 : lw_okq (⟨"BlockingShopModel", "emit", "(I)V"⟩, 25) := ⟨⟨by decide +kernel, by decide +kernel⟩, List.mem_of_getElem? (i := 900) (by decide +kernel), List.mem_of_getElem? (i := 1091) (by decide +kernel), List.mem_of_getElem? (i := 1092) (by decide +kernel)⟩
theorem lw_p56 : lw_okq (⟨"BlockingShopModel", "remember", "()V"⟩, 25) := ⟨⟨by decide +kernel, by decide +kernel⟩, List.mem_of_getElem? (i := 900) (by decide +kernel), List.mem_of_getElem? (i := 1095) (by decide +kernel), List.mem_of_getElem? (i := 1096) (by decide +kernel)⟩
theorem lw_p57 : lw_okq (⟨"BlockingShopModel", "layFirst", "()V"⟩, 25) := ⟨⟨by decide +kernel, by decide +kernel⟩, List.mem_of_getElem? (i := 900) (by decide +kernel), List.mem_of_getElem? (i := 1102) (by decide +kernel), List.mem_of_getElem? (i := 1103) (by decide +kernel)⟩
theorem lw_p58 : lw_okq (⟨"BlockingShopModel", "noJob", "(I)Z"⟩, 25) := ⟨⟨by decide +kernel, by decide +kernel⟩, List.mem_of_getElem? (i := 900) (by decide +kernel), List.mem_of_getElem? (i := 1122) (by decide +kernel), List.mem_of_getElem? (i := 1123) (by decide +kernel)⟩
theorem lw_p59 : lw_okq (⟨"BlockingShopModel", "noOperation", "(II)Z"⟩, 25) := ⟨⟨by decide +kernel, by decide +kernel⟩, List.mem_of_getElem? (i := 900) (by decide +kernel), List.mem_of_getElem? (i := 1130) (by decide +kernel), List.mem_of_getElem? (i := 1131) (by decide +kernel)⟩
theorem lw_p60 : lw_okq (⟨"BlockingShopModel", "placeOf", "(I)I"⟩, 25) := ⟨⟨by decide +kernel, by decide +kernel⟩, List.mem_of_getElem? (i := 900) (by decide +kernel), List.mem_of_getElem? (i := 1134) (by decide +kernel), List.mem_of_getElem? (i := 1135) (by decide +kernel)⟩
theorem lw_p61 : lw_okq (⟨"BlockingShopModel", "machineOf", "(I)I"⟩, 25) := ⟨⟨by decide +kernel, by decide +kernel⟩, List.mem_of_getElem? (i := 900) (by decide +kernel), List.mem_of_getElem? (i := 1138) (by decide +kernel), List.mem_of_getElem? (i := 1139) (by decide +kernel)⟩
theorem lw_p62 : lw_okq (⟨"BlockingShopModel", "noMachine", "(I)Z"⟩, 25) := ⟨⟨by decide +kernel, by decide +kernel⟩, List.mem_of_getElem? (i := 900) (by decide +kernel), List.mem_of_getElem? (i := 1146) (by decide +kernel), List.mem_of_getElem? (i := 1147) (by decide +kernel)⟩
theorem lw_p63 : lw_okq (⟨"BlockingShopModel", "findStarts", "()Z"⟩, 25) := ⟨⟨by decide +kernel, by decide +kernel⟩, List.mem_of_getElem? (i := 900) (by decide +kernel), List.mem_of_getElem? (i := 1161) (by decide +kernel), List.mem_of_getElem? (i := 1162) (by decide +kernel)⟩
def lw_privs_4 : List (MethodName × Nat) := [(⟨"BlockingShopModel", "readJob", "(I)V"⟩, 25), (⟨"BlockingShopModel", "readOperation", "(II)V"⟩, 25), (⟨"BlockingShopModel", "readMachine", "()V"⟩, 25), (⟨"BlockingShopModel", "once", "(II)V"⟩, 25), (⟨"BlockingShopModel", "sum", "()V"⟩, 25), (⟨"BlockingShopModel", "term", "()V"⟩, 25), (⟨"BlockingShopModel", "factor", "()V"⟩, 25), (⟨"BlockingShopModel", "emit", "(I)V"⟩, 25), (⟨"BlockingShopModel", "remember", "()V"⟩, 25), (⟨"BlockingShopModel", "layFirst", "()V"⟩, 25), (⟨"BlockingShopModel", "noJob", "(I)Z"⟩, 25), (⟨"BlockingShopModel", "noOperation", "(II)Z"⟩, 25), (⟨"BlockingShopModel", "placeOf", "(I)I"⟩, 25), (⟨"BlockingShopModel", "machineOf", "(I)I"⟩, 25), (⟨"BlockingShopModel", "noMachine", "(I)Z"⟩, 25), (⟨"BlockingShopModel", "findStarts", "()Z"⟩, 25)]
theorem lw_r4 : ∀ q ∈ lw_privs_4, lw_okq q := List.forall_mem_cons.mpr ⟨lw_p48, List.forall_mem_cons.mpr ⟨lw_p49, List.forall_mem_cons.mpr ⟨lw_p50, List.forall_mem_cons.mpr ⟨lw_p51, List.forall_mem_cons.mpr ⟨lw_p52, List.forall_mem_cons.mpr ⟨lw_p53, List.forall_mem_cons.mpr ⟨lw_p54, List.forall_mem_cons.mpr ⟨lw_p55, List.forall_mem_cons.mpr ⟨lw_p56, List.forall_mem_cons.mpr ⟨lw_p57, List.forall_mem_cons.mpr ⟨lw_p58, List.forall_mem_cons.mpr ⟨lw_p59, List.forall_mem_cons.mpr ⟨lw_p60, List.forall_mem_cons.mpr ⟨lw_p61, List.forall_mem_cons.mpr ⟨lw_p62, List.forall_mem_cons.mpr ⟨lw_p63, fun _ h => absurd h List.not_mem_nil⟩⟩⟩⟩⟩⟩⟩⟩⟩⟩⟩⟩⟩⟩⟩⟩
theorem lw_p64 : lw_okq (⟨"BlockingShopModel", "layArcs", "()V"⟩, 25) := ⟨⟨by decide +kernel, by decide +kernel⟩, List.mem_of_getElem? (i := 900) (by decide +kernel), List.mem_of_getElem? (i := 1165) (by decide +kernel), List.mem_of_getElem? (i := 1166) (by decide +kernel)⟩
theorem lw_p65 : lw_okq (⟨"BlockingShopModel", "isBlocking", "(I)Z"⟩, 25) := ⟨⟨by decide +kernel, by decide +kernel⟩, List.mem_of_getElem? (i := 900) (by decide +kernel), List.mem_of_getElem? (i := 1169) (by decide +kernel), List.mem_of_getElem? (i := 1170) (by decide +kernel)⟩
theorem lw_p66 : lw_okq (⟨"BlockingShopModel", "isLast", "(I)Z"⟩, 25) := ⟨⟨by decide +kernel, by decide +kernel⟩, List.mem_of_getElem? (i := 900) (by decide +kernel), List.mem_of_getElem? (i := 1173) (by decide +kernel), List.mem_of_getElem? (i := 1174) (by decide +kernel)⟩
theorem lw_p67 : lw_okq (⟨"BlockingShopModel", "durationOf", "(I)I"⟩, 25) := ⟨⟨by decide +kernel, by decide +kernel⟩, List.mem_of_getElem? (i := 900) (by decide +kernel), List.mem_of_getElem? (i := 1177) (by decide +kernel), List.mem_of_getElem? (i := 1178) (by decide +kernel)⟩
theorem lw_p68 : lw_okq (⟨"BlockingShopModel", "isThere", "(I)Z"⟩, 25) := ⟨⟨by decide +kernel, by decide +kernel⟩, List.mem_of_getElem? (i := 900) (by decide +kernel), List.mem_of_getElem? (i := 1181) (by decide +kernel), List.mem_of_getElem? (i := 1182) (by decide +kernel)⟩
theorem lw_p69 : lw_okq (⟨"BlockingShopModel", "raises", "(I)Z"⟩, 25) := ⟨⟨by decide +kernel, by decide +kernel⟩, List.mem_of_getElem? (i := 900) (by decide +kernel), List.mem_of_getElem? (i := 1185) (by decide +kernel), List.mem_of_getElem? (i := 1186) (by decide +kernel)⟩
theorem lw_p70 : lw_okq (⟨"BlockingShopModel", "leaveOf", "(I)I"⟩, 25) := ⟨⟨by decide +kernel, by decide +kernel⟩, List.mem_of_getElem? (i := 900) (by decide +kernel), List.mem_of_getElem? (i := 1196) (by decide +kernel), List.mem_of_getElem? (i := 1197) (by decide +kernel)⟩
theorem lw_p71 : lw_okq (⟨"BlockingShopModel", "completionOf", "(I)I"⟩, 25) := ⟨⟨by decide +kernel, by decide +kernel⟩, List.mem_of_getElem? (i := 900) (by decide +kernel), List.mem_of_getElem? (i := 1204) (by decide +kernel), List.mem_of_getElem? (i := 1205) (by decide +kernel)⟩
theorem lw_p72 : lw_okq (⟨"BlockingShopModel", "spanNow", "()I"⟩, 25) := ⟨⟨by decide +kernel, by decide +kernel⟩, List.mem_of_getElem? (i := 900) (by decide +kernel), List.mem_of_getElem? (i := 1212) (by decide +kernel), List.mem_of_getElem? (i := 1213) (by decide +kernel)⟩
theorem lw_p73 : lw_okq (⟨"BlockingShopModel", "makespanOf", "()I"⟩, 25) := ⟨⟨by decide +kernel, by decide +kernel⟩, List.mem_of_getElem? (i := 900) (by decide +kernel), List.mem_of_getElem? (i := 1216) (by decide +kernel), List.mem_of_getElem? (i := 1217) (by decide +kernel)⟩
theorem lw_p74 : lw_okq (⟨"BlockingShopModel", "costOf", "(I)I"⟩, 25) := ⟨⟨by decide +kernel, by decide +kernel⟩, List.mem_of_getElem? (i := 900) (by decide +kernel), List.mem_of_getElem? (i := 1224) (by decide +kernel), List.mem_of_getElem? (i := 1225) (by decide +kernel)⟩
theorem lw_p75 : lw_okq (⟨"BlockingShopModel", "costOfPlan", "()I"⟩, 25) := ⟨⟨by decide +kernel, by decide +kernel⟩, List.mem_of_getElem? (i := 900) (by decide +kernel), List.mem_of_getElem? (i := 1240) (by decide +kernel), List.mem_of_getElem? (i := 1241) (by decide +kernel)⟩
theorem lw_p76 : lw_okq (⟨"BlockingShopModel", "findPath", "()V"⟩, 25) := ⟨⟨by decide +kernel, by decide +kernel⟩, List.mem_of_getElem? (i := 900) (by decide +kernel), List.mem_of_getElem? (i := 1252) (by decide +kernel), List.mem_of_getElem? (i := 1253) (by decide +kernel)⟩
theorem lw_p77 : lw_okq (⟨"BlockingShopModel", "isOnPath", "(I)Z"⟩, 25) := ⟨⟨by decide +kernel, by decide +kernel⟩, List.mem_of_getElem? (i := 900) (by decide +kernel), List.mem_of_getElem? (i := 1256) (by decide +kernel), List.mem_of_getElem? (i := 1257) (by decide +kernel)⟩
theorem lw_p78 : lw_okq (⟨"BlockingShopModel", "noSwap", "(II)Z"⟩, 25) := ⟨⟨by decide +kernel, by decide +kernel⟩, List.mem_of_getElem? (i := 900) (by decide +kernel), List.mem_of_getElem? (i := 1276) (by decide +kernel), List.mem_of_getElem? (i := 1277) (by decide +kernel)⟩
theorem lw_p79 : lw_okq (⟨"BlockingShopModel", "spanAfter", "(II)I"⟩, 25) := ⟨⟨by decide +kernel, by decide +kernel⟩, List.mem_of_getElem? (i := 900) (by decide +kernel), List.mem_of_getElem? (i := 1280) (by decide +kernel), List.mem_of_getElem? (i := 1281) (by decide +kernel)⟩
def lw_privs_5 : List (MethodName × Nat) := [(⟨"BlockingShopModel", "layArcs", "()V"⟩, 25), (⟨"BlockingShopModel", "isBlocking", "(I)Z"⟩, 25), (⟨"BlockingShopModel", "isLast", "(I)Z"⟩, 25), (⟨"BlockingShopModel", "durationOf", "(I)I"⟩, 25), (⟨"BlockingShopModel", "isThere", "(I)Z"⟩, 25), (⟨"BlockingShopModel", "raises", "(I)Z"⟩, 25), (⟨"BlockingShopModel", "leaveOf", "(I)I"⟩, 25), (⟨"BlockingShopModel", "completionOf", "(I)I"⟩, 25), (⟨"BlockingShopModel", "spanNow", "()I"⟩, 25), (⟨"BlockingShopModel", "makespanOf", "()I"⟩, 25), (⟨"BlockingShopModel", "costOf", "(I)I"⟩, 25), (⟨"BlockingShopModel", "costOfPlan", "()I"⟩, 25), (⟨"BlockingShopModel", "findPath", "()V"⟩, 25), (⟨"BlockingShopModel", "isOnPath", "(I)Z"⟩, 25), (⟨"BlockingShopModel", "noSwap", "(II)Z"⟩, 25), (⟨"BlockingShopModel", "spanAfter", "(II)I"⟩, 25)]
theorem lw_r5 : ∀ q ∈ lw_privs_5, lw_okq q := List.forall_mem_cons.mpr ⟨lw_p64, List.forall_mem_cons.mpr ⟨lw_p65, List.forall_mem_cons.mpr ⟨lw_p66, List.forall_mem_cons.mpr ⟨lw_p67, List.forall_mem_cons.mpr ⟨lw_p68, List.forall_mem_cons.mpr ⟨lw_p69, List.forall_mem_cons.mpr ⟨lw_p70, List.forall_mem_cons.mpr ⟨lw_p71, List.forall_mem_cons.mpr ⟨lw_p72, List.forall_mem_cons.mpr ⟨lw_p73, List.forall_mem_cons.mpr ⟨lw_p74, List.forall_mem_cons.mpr ⟨lw_p75, List.forall_mem_cons.mpr ⟨lw_p76, List.forall_mem_cons.mpr ⟨lw_p77, List.forall_mem_cons.mpr ⟨lw_p78, List.forall_mem_cons.mpr ⟨lw_p79, fun _ h => absurd h List.not_mem_nil⟩⟩⟩⟩⟩⟩⟩⟩⟩⟩⟩⟩⟩⟩⟩⟩
theorem lw_p80 : lw_okq (⟨"BlockingShopModel", "exchange", "(II)V"⟩, 25) := ⟨⟨by decide +kernel, by decide +kernel⟩, List.mem_of_getElem? (i := 900) (by decide +kernel), List.mem_of_getElem? (i := 1284) (by decide +kernel), List.mem_of_getElem? (i := 1285) (by decide +kernel)⟩
theorem lw_p81 : lw_okq (⟨"BlockingShopModel", "isDeadlocked", "()Z"⟩, 25) := ⟨⟨by decide +kernel, by decide +kernel⟩, List.mem_of_getElem? (i := 900) (by decide +kernel), List.mem_of_getElem? (i := 1288) (by decide +kernel), List.mem_of_getElem? (i := 1289) (by decide +kernel)⟩
theorem lw_p82 : lw_okq (⟨"BlockingShopModel", "hasCycle", "()Z"⟩, 25) := ⟨⟨by decide +kernel, by decide +kernel⟩, List.mem_of_getElem? (i := 900) (by decide +kernel), List.mem_of_getElem? (i := 1292) (by decide +kernel), List.mem_of_getElem? (i := 1293) (by decide +kernel)⟩
theorem lw_p83 : lw_okq (⟨"BlockingShopModel", "findBest", "()I"⟩, 25) := ⟨⟨by decide +kernel, by decide +kernel⟩, List.mem_of_getElem? (i := 900) (by decide +kernel), List.mem_of_getElem? (i := 1304) (by decide +kernel), List.mem_of_getElem? (i := 1305) (by decide +kernel)⟩
theorem lw_p84 : lw_okq (⟨"BlockingShopModel", "bring", "(II)V"⟩, 25) := ⟨⟨by decide +kernel, by decide +kernel⟩, List.mem_of_getElem? (i := 900) (by decide +kernel), List.mem_of_getElem? (i := 1323) (by decide +kernel), List.mem_of_getElem? (i := 1324) (by decide +kernel)⟩
def lw_privs_6 : List (MethodName × Nat) := [(⟨"BlockingShopModel", "exchange", "(II)V"⟩, 25), (⟨"BlockingShopModel", "isDeadlocked", "()Z"⟩, 25), (⟨"BlockingShopModel", "hasCycle", "()Z"⟩, 25), (⟨"BlockingShopModel", "findBest", "()I"⟩, 25), (⟨"BlockingShopModel", "bring", "(II)V"⟩, 25)]
theorem lw_r6 : ∀ q ∈ lw_privs_6, lw_okq q := List.forall_mem_cons.mpr ⟨lw_p80, List.forall_mem_cons.mpr ⟨lw_p81, List.forall_mem_cons.mpr ⟨lw_p82, List.forall_mem_cons.mpr ⟨lw_p83, List.forall_mem_cons.mpr ⟨lw_p84, fun _ h => absurd h List.not_mem_nil⟩⟩⟩⟩⟩
def lw_privs : List (MethodName × Nat) := lw_privs_1 ++ (lw_privs_2 ++ (lw_privs_3 ++ (lw_privs_4 ++ (lw_privs_5 ++ (lw_privs_6)))))
def lw_tbl : List Cond := k2_sels lw_privs ++ tables_1
theorem lw_privs_ok : ∀ q ∈ lw_privs, lw_okq q := by
  show ∀ q ∈ lw_privs_1 ++ (lw_privs_2 ++ (lw_privs_3 ++ (lw_privs_4 ++ (lw_privs_5 ++ (lw_privs_6))))), lw_okq q
  exact List.forall_mem_append.mpr ⟨lw_r1, List.forall_mem_append.mpr ⟨lw_r2, List.forall_mem_append.mpr ⟨lw_r3, List.forall_mem_append.mpr ⟨lw_r4, List.forall_mem_append.mpr ⟨lw_r5, lw_r6⟩⟩⟩⟩⟩
end
section
/-! ===== BEGIN words of one list among another's, by their places ===== -/
theorem goodIn_r {big : List Cond} (ws : List Cond) (ps : List Nat) (hp : ws = ps.filterMap (fun i => big[i]?)) (h : ws.all goodWord = true) : GoodIn big ws := by
  intro w hw
  have h1 := List.all_eq_true.mp h w hw
  rw [hp] at hw
  obtain ⟨i, -, hi⟩ := List.mem_filterMap.mp hw
  have hm : w ∈ big := by first | exact List.mem_of_getElem? hi | exact List.getElem?_mem hi
  exact ⟨hm, good_of_word h1⟩
theorem goodIn_app {big a b : List Cond} (ha : GoodIn big a) (hb : GoodIn big b) : GoodIn big (a ++ b) := fun w h => (List.mem_append.mp h).elim (ha w) (hb w)
theorem goodIn_ca {big a b : List Cond} {c : Cond} (ha : GoodIn big (c :: a)) (hb : GoodIn big b) : GoodIn big (c :: (a ++ b)) := fun w h => (List.mem_cons.mp h).elim (fun e => ha w (List.mem_cons.mpr (Or.inl e))) (fun h => (List.mem_append.mp h).elim (fun h => ha w (List.mem_cons.mpr (Or.inr h))) (hb w))
theorem goodIn_sub {big ws : List Cond} (hm : ∀ w ∈ ws, w ∈ big) (h : ws.all goodWord = true) : GoodIn big ws := fun w hw => ⟨hm w hw, good_of_word (List.all_eq_true.mp h w hw)⟩
/-! ===== END ===== -/

/-! ===== BEGIN exceptions that leave a method, and their catching by the caller (launches without stack traces) ===== -/
section VXA
/-! The laws vx_back, vx_callV, vx_callS, vx_callSW, vx_throw0, vx_throwS follow proofs of the library, with one case more: JvmDerived/Free/Laws.lean (Back.of_free), Shelf42/LK1.lean (callV, callS), Shelf/KitTraced.lean (throwNew0V, throwNewS). -/
/-- where a method has thrown q: the class by its name, the cell, what was written, the world -/
def vx_T (XC : String → State → State → Prop) (st : State) (q : Addr) (t : State) (mc ms : Nat) (free : Addr → Prop) : Prop :=
  ∃ (E : String) (ce : Cell) (L : List Loc), XC E st t ∧ t.heap[q]? = some ce ∧ ce.vm = .none ∧ st.vm.findClass E = some ce.cls ∧ st.WarmedH t.vm ∧ st.sameButNew ({ t with vm := st.vm } : State) L mc ms ∧ ∀ z ∈ L, free z.base
def vx_Q (Qc : Array Value → State → Outcome → State → Prop) (XC : String → State → State → Prop) (mc ms : Nat) (free : Addr → Prop) : Array Value → State → Outcome → State → Prop := fun a st o t =>
  (Qc a st o t ∧ ∃ L, FrameEnd st o t L mc ms ∧ ∀ q ∈ L, free q.base) ∨ ∃ q, o = .threw q ∧ vx_T XC st q t mc ms free
/-- a callee that returns or throws -/
def vx_Met (l : Launch) (y : MethodName) (ws : List Cond) (rm : Room) (Pc : Array Value → State → Prop) (Qc : Array Value → State → Outcome → State → Prop) (XC : String → State → State → Prop) (mc ms : Nat) (free : Addr → Prop) : Prop :=
  MetFree l y (headSpec ws rm) Pc (fun _ _ _ _ _ => True) (vx_Q Qc XC mc ms free)
def vx_Post (XC : String → State → State → Prop) (mc ms : Nat) (free : Addr → Prop) : Pt → Array Value → Addr → Pt → Prop := fun A a q B =>
  ∃ (g : JFrame) (mk : MethodId) (t : State) (L : List Loc) (E : String) (ce : Cell), B.U.heap = t.heap ∧ B.U.vm = t.vm ∧ XC E (A.U.calling g mk a) t ∧ t.heap[q]? = some ce ∧ ce.vm = .none ∧ A.U.vm.findClass E = some ce.cls ∧ B.locs = A.locs ++ L ∧ (∀ z ∈ L, free z.base) ∧ B.cells = A.cells + mc ∧ B.slots = A.slots + ms
def vx_Back (l : Launch) (R : Room) (p : Program) (e : Env) (below : List Frame) (s : State) (sargs : Array Value) (y : MethodName) (len W9 : Nat)
    (Pre : Pt → Array Value → Prop) (Post : Pt → Array Value → Option Value → Pt → Prop) (PostX : Pt → Array Value → Addr → Pt → Prop) : Prop :=
  ∀ (m : MethodId) (meth : Method) (c : Code) (A : Pt) (g : JFrame) (ig : Instr) (mk : MethodId) (a : Array Value),
    Stand p l e R s m sargs below meth c A.U A.locs A.cells A.slots → g.method = m → g.locals.size = c.maxLocals → decode c.code g.pc = .ok (ig, len) →
    2 * g.monitorRoom + (g.stack.map fun v => v.category).sum ≤ W9 → A.U.methodNamed? y = some mk → Pre A a →
    (∃ (v : Option Value) (B : Pt), Stand p l e R s m sargs below meth c B.U B.locs B.cells B.slots ∧ Post A a v B ∧
      Steps p.tables e below (doInvoke e (A.U.setTop g) [] mk a).1 (B.U.setTop { g with pc := g.pc + len, stack := v.toList ++ g.stack })) ∨
    (∃ (q : Addr) (B : Pt), Stand p l e R s m sargs below meth c B.U B.locs B.cells B.slots ∧ PostX A a q B ∧
      Steps p.tables e below (doInvoke e (A.U.setTop g) [] mk a).1 ((B.U.setTop g).pushFrame (.throwing q)))
section Payer
variable {l : Launch} {R : Room} {p : Program} {e : Env} {below : List Frame} {s : State} {sargs : Array Value} {y : MethodName} {len W9 : Nat}
theorem vx_back {ws : List Cond} {rm : Room} {Pc : Array Value → State → Prop} {Qc : Array Value → State → Outcome → State → Prop} {XC : String → State → State → Prop} {mc ms : Nat} {free : Addr → Prop} {bytes : ByteArray} {maxL : Nat} {ret : Option FieldType}
    (hM : vx_Met l y ws rm Pc Qc XC mc ms free) (hblind : FrameBlind Pc) (hrc : rm.cells = mc) (hrs : rm.slots = ms)
    (hframes : rm.frames + 1 ≤ R.frames) (hlocals : W9 + (maxL + 11) + rm.locals ≤ R.locals)
    (hws : ∀ w ∈ ws, ∀ a' U, s.WarmedH U.vm → w.before a' U = true) (hcode : Cond.code y bytes maxL ret ∈ ws) (hinit : ∀ a' U, s.WarmedH U.vm → (Cond.initialized y.cls).before a' U = true) :
    vx_Back l R p e below s sargs y len W9 (PreOf R mc ms Pc) (PostOf Qc mc ms free) (vx_Post XC mc ms free) := by
  intro m meth c A g ig mk a X hg hsize hdg hW hn hp
  have h1 : (headSpec ws rm).pre.before a A.U = true := atoms_intro fun w hw => hws w hw _ _ X.warmed
  have h2 : (Cond.code y bytes maxL ret).before a A.U = true := hws _ hcode _ _ X.warmed
  have h3 : (Cond.initialized y.cls).before a A.U = true := hinit _ _ X.warmed
  have h4 : A.cells + (headSpec ws rm).room.cells ≤ R.cells := by rw [show (headSpec ws rm).room.cells = mc from hrc]; exact hp.1
  have h5 : A.slots + (headSpec ws rm).room.slots ≤ R.slots := by rw [show (headSpec ws rm).room.slots = ms from hrs]; exact hp.2.1
  have hPc : Pc a (A.U.calling g mk a) := hblind _ _ _ _ hp.2.2
  obtain ⟨U, Ls, c0, s0⟩ := A
  dsimp only [Pt.U, Pt.locs, Pt.cells, Pt.slots] at h1 h2 h3 h4 h5 X hn hPc ⊢
  obtain ⟨methY, cY, hmY, hcY, -, hlY, -, -, -, -⟩ := Cond.code_spec hn h2
  obtain ⟨kY, hkY, -⟩ := className_of_methodNamed hn
  have hinitY : kY.init = .initialized := Cond.initialized_spec (findClass_of_methodNamed hn) hkY h3
  have h : At U g.method c below := by rw [hg]; exact X.here
  have hlocals9 : W9 + (maxL + 11) + (headSpec ws rm).room.locals ≤ R.locals := hlocals
  have happ : (headSpec ws rm).appliesLoose y e.platform (U.calling g mk a) = true :=
    Spec.appliesLoose_calling (g := g) h hdg hn hkY hinitY
      (X.room_calling (g := g) (R' := (headSpec ws rm).room) hsize hmY hcY hframes (by rw [hlY]; omega) h4 h5) h1
  obtain ⟨mid, hmid⟩ := h.above
  have hfr : (U.setTop g).frames = (.java g :: mid) ++ below := by rw [State.frames_setTop' g h.top, hmid]; rfl
  obtain ⟨o, s₂, hsteps, -, hend, hq⟩ := Steps.callFree hM p X.admits X.cas X.clock (acts := []) hfr happ hPc trivial
  have hq' : vx_Q Qc XC mc ms free a (U.calling g mk a) o s₂ := hq
  rw [State.frames_setTop' g h.top] at hend
  obtain ⟨g₀, hg0⟩ := Option.isSome_iff_exists.mp h.top
  obtain ⟨r, hr⟩ := State.topJava?_eq_some.mp hg0
  have hr' : (({ U with heap := s₂.heap, slotsUsed := s₂.slotsUsed } : State).setVm s₂.vm).frames = .java g₀ :: r := hr
  rcases hq' with ⟨hqc, L, hfe, hL⟩ | ⟨q, rfl, E, ce, L, hx, hce, hcv, hcl, hW₂, hsm, hL⟩
  · obtain ⟨⟨v, rfl⟩, hW₂, e2, q2, q3, q4, q5, q6⟩ := id hfe
    have e3 : s₂ = ({ (U.calling g mk a).setFrames s₂.frames with heap := s₂.heap, slotsUsed := s₂.slotsUsed } : State).setVm s₂.vm := by
      have : s₂ = ({ s₂ with vm := (U.calling g mk a).vm } : State).setVm s₂.vm := rfl
      rw [e2] at this
      exact this
    obtain ⟨c₂, i₂, len₂, hc₂, hd₂, hf₂⟩ := hend
    have hW' : U.WarmedH s₂.vm := hW₂
    have hcc : c₂ = c := by
      have h1 : s₂.code? g.method = U.code? g.method := by
        rw [State.code?_eq, State.code?_eq, hW'.alike.method?]
      exact Option.some.inj (hc₂.symm.trans (h1.trans h.code))
    subst hcc
    have hlen : len₂ = len := by rw [hdg] at hd₂; cases hd₂; rfl
    subst hlen
    have hs₂ : s₂ = (({ U with heap := s₂.heap, slotsUsed := s₂.slotsUsed } : State).setVm s₂.vm).setTop { g with pc := g.pc + len₂, stack := v.toList ++ g.stack } := by
      refine e3.trans ?_
      rw [hf₂, State.calling_eq h.top, State.setFrames_setFrames, State.setTop_of_frames _ hr', hr]
      rfl
    have hsame : U.sameButNew ({ U with heap := s₂.heap, slotsUsed := s₂.slotsUsed } : State) L mc ms := by
      refine ⟨?_, q2, q3, q4, q5, q6⟩
      obtain ⟨t, ht, -⟩ := State.frames_cons hr
      show ({ U with heap := s₂.heap, slotsUsed := s₂.slotsUsed } : State) = { U.setFrames U.frames with heap := s₂.heap, slotsUsed := s₂.slotsUsed }
      rw [State.setFrames_self ht]
    subst hg
    refine Or.inl ⟨v, ⟨(({ U with heap := s₂.heap, slotsUsed := s₂.slotsUsed } : State).setVm s₂.vm), Ls ++ L, c0 + mc, s0 + ms⟩,
      ⟨X.admits, X.cas, X.clock, X.frames, X.room, X.hears, X.method, X.code, (X.here.setHeapUsed s₂.heap s₂.slotsUsed).setVm hW'.alike, X.tail, State.WarmedH.trans X.warmed hW', X.limits, X.bytes, X.same.trans (hsame.setVm s.vm)⟩,
      ⟨g, mk, s₂, L, rfl, rfl, hqc, rfl, hL, rfl, rfl⟩, ?_⟩
    show Steps p.tables e below _ ((({ U with heap := s₂.heap, slotsUsed := s₂.slotsUsed } : State).setVm s₂.vm).setTop { g with pc := g.pc + len₂, stack := v.toList ++ g.stack })
    rw [← hs₂]
    exact hsteps
  · obtain ⟨e2, q2, q3, q4, q5, q6⟩ := id hsm
    have e3 : s₂ = ({ (U.calling g mk a).setFrames s₂.frames with heap := s₂.heap, slotsUsed := s₂.slotsUsed } : State).setVm s₂.vm := by
      have : s₂ = ({ s₂ with vm := (U.calling g mk a).vm } : State).setVm s₂.vm := rfl
      rw [e2] at this
      exact this
    have hf₂ : s₂.frames = .throwing q :: .java g :: U.frames.tail := hend
    have hW' : U.WarmedH s₂.vm := hW₂
    have hs₂ : s₂ = ((({ U with heap := s₂.heap, slotsUsed := s₂.slotsUsed } : State).setVm s₂.vm).setTop g).pushFrame (.throwing q) := by
      refine e3.trans ?_
      rw [hf₂, State.calling_eq h.top, State.setFrames_setFrames, State.pushFrame, State.frames_setTop _ hr', State.setTop_of_frames _ hr', State.setFrames_setFrames, hr]
      rfl
    have hsame : U.sameButNew ({ U with heap := s₂.heap, slotsUsed := s₂.slotsUsed } : State) L mc ms := by
      refine ⟨?_, q2, q3, q4, q5, q6⟩
      obtain ⟨t, ht, -⟩ := State.frames_cons hr
      show ({ U with heap := s₂.heap, slotsUsed := s₂.slotsUsed } : State) = { U.setFrames U.frames with heap := s₂.heap, slotsUsed := s₂.slotsUsed }
      rw [State.setFrames_self ht]
    subst hg
    refine Or.inr ⟨q, ⟨(({ U with heap := s₂.heap, slotsUsed := s₂.slotsUsed } : State).setVm s₂.vm), Ls ++ L, c0 + mc, s0 + ms⟩,
      ⟨X.admits, X.cas, X.clock, X.frames, X.room, X.hears, X.method, X.code, (X.here.setHeapUsed s₂.heap s₂.slotsUsed).setVm hW'.alike, X.tail, State.WarmedH.trans X.warmed hW', X.limits, X.bytes, X.same.trans (hsame.setVm s.vm)⟩,
      ⟨g, mk, s₂, L, E, ce, rfl, rfl, hx, hce, hcv, hcl, rfl, hL, rfl, rfl⟩, ?_⟩
    show Steps p.tables e below _ (((({ U with heap := s₂.heap, slotsUsed := s₂.slotsUsed } : State).setVm s₂.vm).setTop g).pushFrame (.throwing q))
    rw [← hs₂]
    exact hsteps
end Payer
section Calls
variable {p : Program} {l : Launch} {e : Env} {R : Room} {s : State} {m : MethodId} {args : Array Value} {below : List Frame} {meth : Method} {c : Code} {T : State} {locs : List Loc} {cells slots : Nat}
theorem vx_callV (X : Stand p l e R s m args below meth c T locs cells slots) (hexec : p.tables.exec = Jvm.exec) {own C : String} {index : Nat} {y : MethodName} {bytes : ByteArray} {maxL : Nat} {ret : Option FieldType}
    (hown : s.vm.findClass own = some m.cls) (hlink : (Cond.methodLink own index y).before args s = true) (hinst : (Cond.instanceMethod y).before args s = true) (hsel : (Cond.selects C y y).before args s = true)
    (hcode : (Cond.code y bytes maxL ret).before args s = true) (hy : y.cls ≠ "java/lang/invoke/MethodHandle" ∧ y.cls ≠ "java/lang/invoke/VarHandle")
    {W9 : Nat} {Pre : Pt → Array Value → Prop} {Post : Pt → Array Value → Option Value → Pt → Prop} {PostX : Pt → Array Value → Addr → Pt → Prop} (hK : vx_Back l R p e below s args y 3 W9 Pre Post PostX)
    {b : Addr} {cellB : Cell} (hcell : T.heap[b]? = some cellB) (hobj : cellB.vm.isStatics = false) (hcls : s.vm.findClass C = some cellB.cls)
    {g : JFrame} (hg : g.method = m) (hsize : g.locals.size = c.maxLocals) {argsL rest : List Value} (hlen : ∀ sig, parseMethodDescriptor y.desc = some sig → argsL.length = sig.parameters.length)
    (hstack : g.stack = argsL.reverse ++ .ref b :: rest) (hW : 2 * g.monitorRoom + (rest.map fun v => v.category).sum ≤ W9) (hdg : decode c.code g.pc = .ok (.invokevirtual index, 3))
    (hpre : ∀ vm₁, s.WarmedH vm₁ → Pre ⟨T.setVm vm₁, locs, cells, slots⟩ (Value.ref b :: argsL).toArray) :
    (∃ (v : Option Value) (vm₁ : Vm) (B : Pt), s.WarmedH vm₁ ∧ Stand p l e R s m args below meth c B.U B.locs B.cells B.slots ∧ Post ⟨T.setVm vm₁, locs, cells, slots⟩ (Value.ref b :: argsL).toArray v B ∧
      ∀ target, Steps p.tables e below (B.U.setTop { g with pc := g.pc + 3, stack := v.toList ++ rest }) target → Steps p.tables e below (T.setTop g) target) ∨
    (∃ (q : Addr) (vm₁ : Vm) (B : Pt), s.WarmedH vm₁ ∧ Stand p l e R s m args below meth c B.U B.locs B.cells B.slots ∧ PostX ⟨T.setVm vm₁, locs, cells, slots⟩ (Value.ref b :: argsL).toArray q B ∧
      Steps p.tables e below (T.setTop g) ((B.U.setTop { g with stack := rest }).pushFrame (.throwing q))) := by
  obtain ⟨mk, methM, hnamed, hmethM, hstM, habM⟩ := Cond.instanceMethod_spec hinst
  obtain ⟨methM', cM, hmethM', -, -, -, -, -, -, hsigM⟩ := Cond.code_spec hnamed hcode
  cases hmethM.symm.trans hmethM'
  obtain ⟨c2, r2, m2, q1, q2, q3, q4, kP, hkP, hkPi⟩ := Cond.selects_spec hsel
  cases hcls.symm.trans q1
  cases (State.methodFound?_of_named hnamed hy).symm.trans q2
  cases hnamed.symm.trans q3
  have hselP : selectMethod e.platform s.vm cellB.cls mk = .method mk := by rw [Launch.admits_selectMethod X.admits]; exact q4
  obtain ⟨vm₁, X₁, hstep₁⟩ := X.invokevirtual hexec hown hlink hnamed hmethM hstM hkP hkPi hy (a := b) (cell := cellB) hcell
    (fun z h => by rw [h] at hobj; cases hobj) hselP hmethM habM hkP hkPi (g := g) hg (argsL := argsL) (rest := rest) (hlen _ hsigM) hstack hdg
  rcases hK m meth c ⟨T.setVm vm₁, locs, cells, slots⟩ { g with stack := rest } (.invokevirtual index) mk (Value.ref b :: argsL).toArray X₁ hg hsize hdg hW (X₁.named hnamed) (hpre vm₁ X₁.warmed) with ⟨v, B, X', hpost, hsteps⟩ | ⟨q, B, X', hpost, hsteps⟩
  · exact Or.inl ⟨v, vm₁, B, X₁.warmed, X', hpost, fun target h => hstep₁ _ fun acts => by rw [doInvoke_state]; exact hsteps.trans h⟩
  · exact Or.inr ⟨q, vm₁, B, X₁.warmed, X', hpost, hstep₁ _ fun acts => by rw [doInvoke_state]; exact hsteps⟩
theorem vx_callS (X : Stand p l e R s m args below meth c T locs cells slots) (hexec : p.tables.exec = Jvm.exec) {own : String} {index : Nat} {y : MethodName} {bytes : ByteArray} {maxL : Nat} {ret : Option FieldType}
    (hown : s.vm.findClass own = some m.cls) (hlink : (Cond.methodLink own index y).before args s = true) (hstat : (Cond.static y).before args s = true) (hinit : (Cond.initialized y.cls).before args s = true)
    (hcode : (Cond.code y bytes maxL ret).before args s = true) (hy : y.cls ≠ "java/lang/invoke/MethodHandle" ∧ y.cls ≠ "java/lang/invoke/VarHandle")
    {W9 : Nat} {Pre : Pt → Array Value → Prop} {Post : Pt → Array Value → Option Value → Pt → Prop} {PostX : Pt → Array Value → Addr → Pt → Prop} (hK : vx_Back l R p e below s args y 3 W9 Pre Post PostX)
    {g : JFrame} (hg : g.method = m) (hsize : g.locals.size = c.maxLocals) {argsL rest : List Value} (hlen : ∀ sig, parseMethodDescriptor y.desc = some sig → argsL.length = sig.parameters.length)
    (hstack : g.stack = argsL.reverse ++ rest) (hW : 2 * g.monitorRoom + (rest.map fun v => v.category).sum ≤ W9) (hdg : decode c.code g.pc = .ok (.invokestatic index, 3))
    (hpre : ∀ vm₁, s.WarmedH vm₁ → Pre ⟨T.setVm vm₁, locs, cells, slots⟩ argsL.toArray) :
    (∃ (v : Option Value) (vm₁ : Vm) (B : Pt), s.WarmedH vm₁ ∧ Stand p l e R s m args below meth c B.U B.locs B.cells B.slots ∧ Post ⟨T.setVm vm₁, locs, cells, slots⟩ argsL.toArray v B ∧
      ∀ target, Steps p.tables e below (B.U.setTop { g with pc := g.pc + 3, stack := v.toList ++ rest }) target → Steps p.tables e below (T.setTop g) target) ∨
    (∃ (q : Addr) (vm₁ : Vm) (B : Pt), s.WarmedH vm₁ ∧ Stand p l e R s m args below meth c B.U B.locs B.cells B.slots ∧ PostX ⟨T.setVm vm₁, locs, cells, slots⟩ argsL.toArray q B ∧
      Steps p.tables e below (T.setTop g) ((B.U.setTop { g with stack := rest }).pushFrame (.throwing q))) := by
  obtain ⟨mk, hnamed⟩ := Cond.code_named hcode
  obtain ⟨methM, cM, hmethM, -, -, -, -, -, -, hsigM⟩ := Cond.code_spec hnamed hcode
  have hstatic : methM.isStatic = true := Cond.static_spec hnamed hmethM hstat
  obtain ⟨kP, hkP, -⟩ := className_of_methodNamed hnamed
  have hinitP : kP.init = .initialized := Cond.initialized_spec (findClass_of_methodNamed hnamed) hkP hinit
  obtain ⟨vm₁, X₁, hstep₁⟩ := X.invokestatic hexec hown hlink hnamed hmethM hstatic hkP hinitP hy (g := g) hg (argsL := argsL) (rest := rest) (hlen _ hsigM) hstack hdg
  rcases hK m meth c ⟨T.setVm vm₁, locs, cells, slots⟩ { g with stack := rest } (.invokestatic index) mk argsL.toArray X₁ hg hsize hdg hW (X₁.named hnamed) (hpre vm₁ X₁.warmed) with ⟨v, B, X', hpost, hsteps⟩ | ⟨q, B, X', hpost, hsteps⟩
  · exact Or.inl ⟨v, vm₁, B, X₁.warmed, X', hpost, fun target h => hstep₁ _ fun acts => by rw [doInvoke_state]; exact hsteps.trans h⟩
  · exact Or.inr ⟨q, vm₁, B, X₁.warmed, X', hpost, hstep₁ _ fun acts => by rw [doInvoke_state]; exact hsteps⟩
end Calls
theorem vx_cls {s : State} {T : State} {vm₁ : Vm} {E : String} {k : ClassId} (hW : s.WarmedH vm₁) (h : (T.setVm vm₁).vm.findClass E = some k) : s.vm.findClass E = some k := by
  have h1 : vm₁.findClass E = some k := h
  rw [hW.alike.findClass] at h1
  exact h1
/-- the method's frame g, with q thrown over it -/
def vx_W (p : Program) (l : Launch) (e : Env) (R : Room) (s : State) (m : MethodId) (args : Array Value) (below : List Frame) (meth : Method) (c : Code) (H : Heap) (locs : List Loc) (cells slots : Nat) (Q : State → Prop) (g : JFrame) (q : Addr) : Prop :=
  ∀ T : State, T.heap = H → Stand p l e R s m args below meth c T locs cells slots → ∃ t, Steps p.tables e below ((T.setTop g).pushFrame (.throwing q)) t ∧ Q t
def vx_Run (p : Program) (l : Launch) (e : Env) (R : Room) (s : State) (m : MethodId) (args : Array Value) (below : List Frame) (meth : Method) (c : Code) (H : Heap) (locs : List Loc) (cells slots mc ms : Nat) (g : JFrame) (rest : List Value) (Qa : State → Outcome → State → Prop) (XC : String → State → State → Prop) (free : Addr → Prop) : Prop :=
  ∀ T : State, T.heap = H → Stand p l e R s m args below meth c T locs cells slots →
    (∃ (v : Option Value) (st₀ t T' : State) (L : List Loc), st₀.heap = H ∧ Stand p l e R s m args below meth c T' (locs ++ L) (cells + mc) (slots + ms) ∧ (∀ q ∈ L, free q.base) ∧ T'.heap = t.heap ∧ T'.vm = t.vm ∧ Qa st₀ (.returned v) t ∧
      Goes p e below T g T' { g with pc := g.pc + 3, stack := v.toList ++ rest }) ∨
    (∃ (q : Addr) (st₀ t T' : State) (L : List Loc) (E : String) (ce : Cell), st₀.heap = H ∧ Stand p l e R s m args below meth c T' (locs ++ L) (cells + mc) (slots + ms) ∧ (∀ z ∈ L, free z.base) ∧ T'.heap = t.heap ∧ T'.vm = t.vm ∧ XC E st₀ t ∧ t.heap[q]? = some ce ∧ ce.vm = .none ∧ s.vm.findClass E = some ce.cls ∧
      Steps p.tables e below (T.setTop g) ((T'.setTop { g with stack := rest }).pushFrame (.throwing q)))
def vx_X {S : Type} (px : S → Prop) (B : String → S → State → Prop) (A : Nat → Prop) : String → State → State → Prop := fun E st t => ∃ u : S, px u ∧ B E u t ∧ va_F A st t
section Runs
variable {p : Program} {l : Launch} {e : Env} {R : Room} {s : State} {m : MethodId} {args : Array Value} {below : List Frame} {meth : Method} {c : Code} {H : Heap} {locs : List Loc} {cells slots : Nat}
variable {y : MethodName} {bytes cc : ByteArray} {maxL nL mc ms n index : Nat} {ret : Option FieldType} {ws : List Cond} {rm : Room} {Pc : Array Value → State → Prop} {Qc : Array Value → State → Outcome → State → Prop} {XC : String → State → State → Prop} {free : Addr → Prop} {Ts : List Cond} {own C : String} {b : Addr} {As rest : List Value} {g : JFrame}
theorem vx_callBack (cb : CallB R s args own index y bytes maxL ret ws rm mc ms n) (hM : vx_Met l y ws rm Pc Qc XC mc ms free) (hbl : FrameBlind Pc) : vx_Back l R p e below s args y 3 8 (PreOf R mc ms Pc) (PostOf Qc mc ms free) (vx_Post XC mc ms free) := by
  obtain ⟨hrc, hrs, hfr, hlo, hws, hcw, -, hini, -⟩ := cb
  exact vx_back (bytes := bytes) (maxL := maxL) (ret := ret) hM hbl hrc hrs hfr hlo hws hcw (fun a' U hW => word_at hW (Or.inl (by first | rfl | simp [Cond.onTables, Cond.keeps, Cond.steady])) hini)
theorem vx_runV (S : CallFix p m c cc nL s args Ts own) (hM : vx_Met l y ws rm Pc Qc XC mc ms free) (cw : CallW R s args own C index y bytes maxL ret ws rm mc ms n) (hp : PreV s H C b Pc As)
    (hg : g.method = m) (hn : As.length = n) (hsize : g.locals.size = nL) (hstack : g.stack = As.reverse ++ .ref b :: rest) (hW : 2 * g.monitorRoom + (rest.map fun v => v.category).sum ≤ 8) (hdg : decode cc g.pc = .ok (.invokevirtual index, 3)) (hf : cells + mc ≤ R.cells ∧ slots + ms ≤ R.slots) :
    vx_Run p l e R s m args below meth c H locs cells slots mc ms g rest (Qc (Value.ref b :: As).toArray) XC free := by
  have hK : vx_Back l R p e below s args y 3 8 (PreOf R mc ms Pc) (PostOf Qc mc ms free) (vx_Post XC mc ms free) := vx_callBack cw.1 hM hp.1
  obtain ⟨⟨-, -, -, -, -, -, hcode, -, hy, hlen, hl⟩, hin, hse⟩ := cw
  obtain ⟨hx, hb, hml, ho, -⟩ := S
  obtain ⟨-, ⟨cellB, hcB, hoB, hclB⟩, hPc⟩ := hp
  intro T hT X
  rcases vx_callV X hx (C := C) (bytes := bytes) (maxL := maxL) (ret := ret) ho hl hin hse hcode hy hK (by rw [hT]; exact hcB) hoB hclB hg (hsize.trans hml.symm) (argsL := As) (rest := rest) (fun sig h => hn.trans (hlen sig h)) hstack hW (by rw [hb]; exact hdg)
    (fun vm₁ hW₁ => ⟨hf.1, hf.2, hPc (T.setVm vm₁) hT hW₁⟩) with ⟨v, vm₁, ⟨U', l2, c2, s2⟩, hW₁, X', ⟨g', mk, t, L, e1, e2, hq, h1, hL, h2, h3⟩, st⟩ | ⟨q, vm₁, ⟨U', l2, c2, s2⟩, hW₁, X', ⟨g', mk, t, L, E, ce, e1, e2, hq, hce, hcv, hcl, h1, hL, h2, h3⟩, st⟩
  · dsimp only [Pt.U, Pt.locs, Pt.cells, Pt.slots] at X' e1 e2 h1 h2 h3 st
    subst h1; subst h2; subst h3
    exact Or.inl ⟨v, (T.setVm vm₁).calling g' mk (Value.ref b :: As).toArray, t, U', L, hT, X', hL, e1, e2, hq, st⟩
  · dsimp only [Pt.U, Pt.locs, Pt.cells, Pt.slots] at X' e1 e2 h1 h2 h3 st hcl
    subst h1; subst h2; subst h3
    exact Or.inr ⟨q, (T.setVm vm₁).calling g' mk (Value.ref b :: As).toArray, t, U', L, E, ce, hT, X', hL, e1, e2, hq, hce, hcv, vx_cls hW₁ hcl, st⟩
theorem vx_runS (S : CallFix p m c cc nL s args Ts own) (hM : vx_Met l y ws rm Pc Qc XC mc ms free) (cw : CallB R s args own index y bytes maxL ret ws rm mc ms n ∧ (Cond.static y).before args s = true) (hp : PreS s H Pc As)
    (hg : g.method = m) (hn : As.length = n) (hsize : g.locals.size = nL) (hstack : g.stack = As.reverse ++ rest) (hW : 2 * g.monitorRoom + (rest.map fun v => v.category).sum ≤ 8) (hdg : decode cc g.pc = .ok (.invokestatic index, 3)) (hf : cells + mc ≤ R.cells ∧ slots + ms ≤ R.slots) :
    vx_Run p l e R s m args below meth c H locs cells slots mc ms g rest (Qc As.toArray) XC free := by
  have hK : vx_Back l R p e below s args y 3 8 (PreOf R mc ms Pc) (PostOf Qc mc ms free) (vx_Post XC mc ms free) := vx_callBack cw.1 hM hp.1
  obtain ⟨⟨-, -, -, -, -, -, hcode, hini, hy, hlen, hl⟩, hstt⟩ := cw
  obtain ⟨hx, hb, hml, ho, -⟩ := S
  intro T hT X
  rcases vx_callS X hx (bytes := bytes) (maxL := maxL) (ret := ret) ho hl hstt hini hcode hy hK hg (hsize.trans hml.symm) (argsL := As) (rest := rest) (fun sig h => hn.trans (hlen sig h)) hstack hW (by rw [hb]; exact hdg)
    (fun vm₁ hW₁ => ⟨hf.1, hf.2, hp.2 (T.setVm vm₁) hT hW₁⟩) with ⟨v, vm₁, ⟨U', l2, c2, s2⟩, hW₁, X', ⟨g', mk, t, L, e1, e2, hq, h1, hL, h2, h3⟩, st⟩ | ⟨q, vm₁, ⟨U', l2, c2, s2⟩, hW₁, X', ⟨g', mk, t, L, E, ce, e1, e2, hq, hce, hcv, hcl, h1, hL, h2, h3⟩, st⟩
  · dsimp only [Pt.U, Pt.locs, Pt.cells, Pt.slots] at X' e1 e2 h1 h2 h3 st
    subst h1; subst h2; subst h3
    exact Or.inl ⟨v, (T.setVm vm₁).calling g' mk As.toArray, t, U', L, hT, X', hL, e1, e2, hq, st⟩
  · dsimp only [Pt.U, Pt.locs, Pt.cells, Pt.slots] at X' e1 e2 h1 h2 h3 st hcl
    subst h1; subst h2; subst h3
    exact Or.inr ⟨q, (T.setVm vm₁).calling g' mk As.toArray, t, U', L, E, ce, hT, X', hL, e1, e2, hq, hce, hcv, vx_cls hW₁ hcl, st⟩
end Runs
section Rows
variable {p : Program} {l : Launch} {e : Env} {R : Room} {s : State} {m : MethodId} {args : Array Value} {below : List Frame} {meth : Method} {c : Code} {H : Heap} {locs : List Loc} {cells slots : Nat} {Q : State → Prop}
variable {mc ms : Nat} {free : Addr → Prop} {A0 A1 : Nat → Prop} {H0 : Heap} {a : Array Value} {pc : Nat} {ls : Array Slot} {st0 rest : List Value}
theorem vx_keep {st₀ t T' : State} {L : List Loc} (h0 : st₀.heap = H) (e1 : T'.heap = t.heap) (hS : va_S A0 H0 H locs) (hA : ∀ q, q < H.size → A1 q → A0 q) (hf : ∀ q, free q → A0 q) (hL : ∀ q ∈ L, free q.base) (hF : va_F A1 st₀ t) :
    H.size ≤ T'.heap.size ∧ (∀ q : Nat, q < H.size → ¬ A1 q → T'.heap[q]? = H[q]?) ∧ va_S A0 H0 T'.heap (locs ++ L) := by
  obtain ⟨hz, hk⟩ := hF
  rw [h0] at hz hk
  exact ⟨by rw [e1]; exact hz, fun q h1 h2 => by rw [e1]; exact hk q h1 h2,
    ⟨Nat.le_trans hS.1 (by rw [e1]; exact hz), fun q h1 h2 => by rw [e1, hk q (Nat.lt_of_lt_of_le h1 hS.1) (fun z => h2 (hA q (Nat.lt_of_lt_of_le h1 hS.1) z))]; exact hS.2.1 q h1 h2, fun q hq => by
      rcases List.mem_append.mp hq with h | h
      · exact hS.2.2 q h
      · exact hf _ (hL q h)⟩⟩
theorem vx_calli {S SX : Type} {post : Int32 → S → Prop} {px : SX → Prop} {B : S → State → Prop} {BX : String → SX → State → Prop} {AX : Nat → Prop} (hr : vx_Run p l e R s m args below meth c H locs cells slots mc ms (F0 m pc ls st0) rest (va_Qi post B A1 a) (vx_X px BX AX) free) (hS : va_S A0 H0 H locs) (hA : ∀ q, q < H.size → A1 q → A0 q) (hf : ∀ q, free q → A0 q) (hAX : ∀ q, q < H.size → AX q → A0 q)
    (kx : ∀ (E : String) (ce : Cell) (q9 : Addr) (u : SX) (t : State) (H1 : Heap) (locs1 : List Loc), t.heap = H1 → s.vm.Alike t.vm → px u → BX E u t → H.size ≤ H1.size → (∀ q : Nat, q < H.size → ¬ AX q → H1[q]? = H[q]?) → va_S A0 H0 H1 locs1 → H1[q9]? = some ce → ce.vm = .none → s.vm.findClass E = some ce.cls → vx_W p l e R s m args below meth c H1 locs1 (cells + mc) (slots + ms) Q (F0 m pc ls rest) q9)
    (kk : ∀ (r : Int32) (u : S) (t : State) (H1 : Heap) (locs1 : List Loc), t.heap = H1 → s.vm.Alike t.vm → post r u → B u t → H.size ≤ H1.size → (∀ q : Nat, q < H.size → ¬ A1 q → H1[q]? = H[q]?) → va_S A0 H0 H1 locs1 → W p l e R s m args below meth c H1 locs1 (cells + mc) (slots + ms) Q (F0 m (pc + 3) ls (.int r :: rest))) : W p l e R s m args below meth c H locs cells slots Q (F0 m pc ls st0) := by
  intro T hT X
  rcases hr T hT X with ⟨v, st₀, t, T', L, h0, X', hL, e1, e2, ⟨⟨r, u, hv, hp, hb⟩, hF⟩, st⟩ | ⟨q, st₀, t, T', L, E, ce, h0, X', hL, e1, e2, ⟨u, hp, hb, hF⟩, hce, hcv, hcl, st⟩
  · cases hv
    obtain ⟨k1, k2, k3⟩ := vx_keep h0 e1 hS hA hf hL hF
    obtain ⟨t2, a1, b1⟩ := kk r u t T'.heap (locs ++ L) e1.symm (by rw [← e2]; exact X'.warmed.alike) hp hb k1 k2 k3 T' rfl X'
    exact ⟨t2, st t2 a1, b1⟩
  · obtain ⟨k1, k2, k3⟩ := vx_keep h0 e1 hS hAX hf hL hF
    obtain ⟨t2, a1, b1⟩ := kx E ce q u t T'.heap (locs ++ L) e1.symm (by rw [← e2]; exact X'.warmed.alike) hp hb k1 k2 k3 (by rw [e1]; exact hce) hcv hcl T' rfl X'
    exact ⟨t2, st.trans a1, b1⟩
theorem vx_calll {S SX : Type} {post : Int64 → S → Prop} {px : SX → Prop} {B : S → State → Prop} {BX : String → SX → State → Prop} {AX : Nat → Prop} (hr : vx_Run p l e R s m args below meth c H locs cells slots mc ms (F0 m pc ls st0) rest (va_Ql post B A1 a) (vx_X px BX AX) free) (hS : va_S A0 H0 H locs) (hA : ∀ q, q < H.size → A1 q → A0 q) (hf : ∀ q, free q → A0 q) (hAX : ∀ q, q < H.size → AX q → A0 q)
    (kx : ∀ (E : String) (ce : Cell) (q9 : Addr) (u : SX) (t : State) (H1 : Heap) (locs1 : List Loc), t.heap = H1 → s.vm.Alike t.vm → px u → BX E u t → H.size ≤ H1.size → (∀ q : Nat, q < H.size → ¬ AX q → H1[q]? = H[q]?) → va_S A0 H0 H1 locs1 → H1[q9]? = some ce → ce.vm = .none → s.vm.findClass E = some ce.cls → vx_W p l e R s m args below meth c H1 locs1 (cells + mc) (slots + ms) Q (F0 m pc ls rest) q9)
    (kk : ∀ (r : Int64) (u : S) (t : State) (H1 : Heap) (locs1 : List Loc), t.heap = H1 → s.vm.Alike t.vm → post r u → B u t → H.size ≤ H1.size → (∀ q : Nat, q < H.size → ¬ A1 q → H1[q]? = H[q]?) → va_S A0 H0 H1 locs1 → W p l e R s m args below meth c H1 locs1 (cells + mc) (slots + ms) Q (F0 m (pc + 3) ls (.long r :: rest))) : W p l e R s m args below meth c H locs cells slots Q (F0 m pc ls st0) := by
  intro T hT X
  rcases hr T hT X with ⟨v, st₀, t, T', L, h0, X', hL, e1, e2, ⟨⟨r, u, hv, hp, hb⟩, hF⟩, st⟩ | ⟨q, st₀, t, T', L, E, ce, h0, X', hL, e1, e2, ⟨u, hp, hb, hF⟩, hce, hcv, hcl, st⟩
  · cases hv
    obtain ⟨k1, k2, k3⟩ := vx_keep h0 e1 hS hA hf hL hF
    obtain ⟨t2, a1, b1⟩ := kk r u t T'.heap (locs ++ L) e1.symm (by rw [← e2]; exact X'.warmed.alike) hp hb k1 k2 k3 T' rfl X'
    exact ⟨t2, st t2 a1, b1⟩
  · obtain ⟨k1, k2, k3⟩ := vx_keep h0 e1 hS hAX hf hL hF
    obtain ⟨t2, a1, b1⟩ := kx E ce q u t T'.heap (locs ++ L) e1.symm (by rw [← e2]; exact X'.warmed.alike) hp hb k1 k2 k3 (by rw [e1]; exact hce) hcv hcl T' rfl X'
    exact ⟨t2, st.trans a1, b1⟩
theorem vx_callf {S SX : Type} {post : UInt32 → S → Prop} {px : SX → Prop} {B : S → State → Prop} {BX : String → SX → State → Prop} {AX : Nat → Prop} (hr : vx_Run p l e R s m args below meth c H locs cells slots mc ms (F0 m pc ls st0) rest (va_Qf post B A1 a) (vx_X px BX AX) free) (hS : va_S A0 H0 H locs) (hA : ∀ q, q < H.size → A1 q → A0 q) (hf : ∀ q, free q → A0 q) (hAX : ∀ q, q < H.size → AX q → A0 q)
    (kx : ∀ (E : String) (ce : Cell) (q9 : Addr) (u : SX) (t : State) (H1 : Heap) (locs1 : List Loc), t.heap = H1 → s.vm.Alike t.vm → px u → BX E u t → H.size ≤ H1.size → (∀ q : Nat, q < H.size → ¬ AX q → H1[q]? = H[q]?) → va_S A0 H0 H1 locs1 → H1[q9]? = some ce → ce.vm = .none → s.vm.findClass E = some ce.cls → vx_W p l e R s m args below meth c H1 locs1 (cells + mc) (slots + ms) Q (F0 m pc ls rest) q9)
    (kk : ∀ (r : UInt32) (u : S) (t : State) (H1 : Heap) (locs1 : List Loc), t.heap = H1 → s.vm.Alike t.vm → post r u → B u t → H.size ≤ H1.size → (∀ q : Nat, q < H.size → ¬ A1 q → H1[q]? = H[q]?) → va_S A0 H0 H1 locs1 → W p l e R s m args below meth c H1 locs1 (cells + mc) (slots + ms) Q (F0 m (pc + 3) ls (.float r :: rest))) : W p l e R s m args below meth c H locs cells slots Q (F0 m pc ls st0) := by
  intro T hT X
  rcases hr T hT X with ⟨v, st₀, t, T', L, h0, X', hL, e1, e2, ⟨⟨r, u, hv, hp, hb⟩, hF⟩, st⟩ | ⟨q, st₀, t, T', L, E, ce, h0, X', hL, e1, e2, ⟨u, hp, hb, hF⟩, hce, hcv, hcl, st⟩
  · cases hv
    obtain ⟨k1, k2, k3⟩ := vx_keep h0 e1 hS hA hf hL hF
    obtain ⟨t2, a1, b1⟩ := kk r u t T'.heap (locs ++ L) e1.symm (by rw [← e2]; exact X'.warmed.alike) hp hb k1 k2 k3 T' rfl X'
    exact ⟨t2, st t2 a1, b1⟩
  · obtain ⟨k1, k2, k3⟩ := vx_keep h0 e1 hS hAX hf hL hF
    obtain ⟨t2, a1, b1⟩ := kx E ce q u t T'.heap (locs ++ L) e1.symm (by rw [← e2]; exact X'.warmed.alike) hp hb k1 k2 k3 (by rw [e1]; exact hce) hcv hcl T' rfl X'
    exact ⟨t2, st.trans a1, b1⟩
theorem vx_calld {S SX : Type} {post : UInt64 → S → Prop} {px : SX → Prop} {B : S → State → Prop} {BX : String → SX → State → Prop} {AX : Nat → Prop} (hr : vx_Run p l e R s m args below meth c H locs cells slots mc ms (F0 m pc ls st0) rest (va_Qd post B A1 a) (vx_X px BX AX) free) (hS : va_S A0 H0 H locs) (hA : ∀ q, q < H.size → A1 q → A0 q) (hf : ∀ q, free q → A0 q) (hAX : ∀ q, q < H.size → AX q → A0 q)
    (kx : ∀ (E : String) (ce : Cell) (q9 : Addr) (u : SX) (t : State) (H1 : Heap) (locs1 : List Loc), t.heap = H1 → s.vm.Alike t.vm → px u → BX E u t → H.size ≤ H1.size → (∀ q : Nat, q < H.size → ¬ AX q → H1[q]? = H[q]?) → va_S A0 H0 H1 locs1 → H1[q9]? = some ce → ce.vm = .none → s.vm.findClass E = some ce.cls → vx_W p l e R s m args below meth c H1 locs1 (cells + mc) (slots + ms) Q (F0 m pc ls rest) q9)
    (kk : ∀ (r : UInt64) (u : S) (t : State) (H1 : Heap) (locs1 : List Loc), t.heap = H1 → s.vm.Alike t.vm → post r u → B u t → H.size ≤ H1.size → (∀ q : Nat, q < H.size → ¬ A1 q → H1[q]? = H[q]?) → va_S A0 H0 H1 locs1 → W p l e R s m args below meth c H1 locs1 (cells + mc) (slots + ms) Q (F0 m (pc + 3) ls (.double r :: rest))) : W p l e R s m args below meth c H locs cells slots Q (F0 m pc ls st0) := by
  intro T hT X
  rcases hr T hT X with ⟨v, st₀, t, T', L, h0, X', hL, e1, e2, ⟨⟨r, u, hv, hp, hb⟩, hF⟩, st⟩ | ⟨q, st₀, t, T', L, E, ce, h0, X', hL, e1, e2, ⟨u, hp, hb, hF⟩, hce, hcv, hcl, st⟩
  · cases hv
    obtain ⟨k1, k2, k3⟩ := vx_keep h0 e1 hS hA hf hL hF
    obtain ⟨t2, a1, b1⟩ := kk r u t T'.heap (locs ++ L) e1.symm (by rw [← e2]; exact X'.warmed.alike) hp hb k1 k2 k3 T' rfl X'
    exact ⟨t2, st t2 a1, b1⟩
  · obtain ⟨k1, k2, k3⟩ := vx_keep h0 e1 hS hAX hf hL hF
    obtain ⟨t2, a1, b1⟩ := kx E ce q u t T'.heap (locs ++ L) e1.symm (by rw [← e2]; exact X'.warmed.alike) hp hb k1 k2 k3 (by rw [e1]; exact hce) hcv hcl T' rfl X'
    exact ⟨t2, st.trans a1, b1⟩
theorem vx_callv {S SX : Type} {post : S → Prop} {px : SX → Prop} {B : S → State → Prop} {BX : String → SX → State → Prop} {AX : Nat → Prop} (hr : vx_Run p l e R s m args below meth c H locs cells slots mc ms (F0 m pc ls st0) rest (va_Qv post B A1 a) (vx_X px BX AX) free) (hS : va_S A0 H0 H locs) (hA : ∀ q, q < H.size → A1 q → A0 q) (hf : ∀ q, free q → A0 q) (hAX : ∀ q, q < H.size → AX q → A0 q)
    (kx : ∀ (E : String) (ce : Cell) (q9 : Addr) (u : SX) (t : State) (H1 : Heap) (locs1 : List Loc), t.heap = H1 → s.vm.Alike t.vm → px u → BX E u t → H.size ≤ H1.size → (∀ q : Nat, q < H.size → ¬ AX q → H1[q]? = H[q]?) → va_S A0 H0 H1 locs1 → H1[q9]? = some ce → ce.vm = .none → s.vm.findClass E = some ce.cls → vx_W p l e R s m args below meth c H1 locs1 (cells + mc) (slots + ms) Q (F0 m pc ls rest) q9)
    (kk : ∀ (u : S) (t : State) (H1 : Heap) (locs1 : List Loc), t.heap = H1 → s.vm.Alike t.vm → post u → B u t → H.size ≤ H1.size → (∀ q : Nat, q < H.size → ¬ A1 q → H1[q]? = H[q]?) → va_S A0 H0 H1 locs1 → W p l e R s m args below meth c H1 locs1 (cells + mc) (slots + ms) Q (F0 m (pc + 3) ls (rest))) : W p l e R s m args below meth c H locs cells slots Q (F0 m pc ls st0) := by
  intro T hT X
  rcases hr T hT X with ⟨v, st₀, t, T', L, h0, X', hL, e1, e2, ⟨⟨u, hv, hp, hb⟩, hF⟩, st⟩ | ⟨q, st₀, t, T', L, E, ce, h0, X', hL, e1, e2, ⟨u, hp, hb, hF⟩, hce, hcv, hcl, st⟩
  · cases hv
    obtain ⟨k1, k2, k3⟩ := vx_keep h0 e1 hS hA hf hL hF
    obtain ⟨t2, a1, b1⟩ := kk u t T'.heap (locs ++ L) e1.symm (by rw [← e2]; exact X'.warmed.alike) hp hb k1 k2 k3 T' rfl X'
    exact ⟨t2, st t2 a1, b1⟩
  · obtain ⟨k1, k2, k3⟩ := vx_keep h0 e1 hS hAX hf hL hF
    obtain ⟨t2, a1, b1⟩ := kx E ce q u t T'.heap (locs ++ L) e1.symm (by rw [← e2]; exact X'.warmed.alike) hp hb k1 k2 k3 (by rw [e1]; exact hce) hcv hcl T' rfl X'
    exact ⟨t2, st.trans a1, b1⟩
/-- caught by the row x of this method's table; the rows ahead don't take it -/
theorem vx_catch {own name : String} {E : String} {ce : Cell} {q : Addr} (hown : s.vm.findClass own = some m.cls) (pre : List ExceptionTableEntry) (x : ExceptionTableEntry) (suf : List ExceptionTableEntry) (hsplit : c.exceptionTable.toList = pre ++ x :: suf)
    (hpass : ∀ z ∈ pre, covers z pc = false ∨ (z.catchType ≠ 0 ∧ ∃ nm : String, (Cond.classLink own z.catchType nm).before args s = true ∧ va_Nc E nm s)) (hx : covers x pc = true) (h0 : x.catchType ≠ 0)
    (hlink : (Cond.classLink own x.catchType name).before args s = true) (hcast : (Cond.castable E name).before args s = true) (hcell : H[q]? = some ce) (hv : ce.vm = .none) (hcl : s.vm.findClass E = some ce.cls)
    (kk : W p l e R s m args below meth c H locs cells slots Q (F0 m x.handlerPc ls [.ref q])) : vx_W p l e R s m args below meth c H locs cells slots Q (F0 m pc ls rest) q := by
  intro T hT X
  have hpl : e.platform.magicAccessors = ({} : Platform).magicAccessors := by rw [X.admits.platform]
  obtain ⟨c3, c4, hc3, hc4, hasg⟩ := Cond.castable_spec hcast
  cases Option.some.inj (hc3.symm.trans hcl)
  obtain ⟨c5, hc5, hcl5⟩ := Cond.classLink_spec hown hlink e.platform hpl
  cases Option.some.inj (hc4.symm.trans hc5)
  obtain ⟨vm', X', st⟩ := X.thenCaughtThrough q (g := F0 m pc ls rest) rfl (Steps.refl _) (by rw [hT]; exact hcell) (by rw [hv]; rfl) (by obtain ⟨k9, h9, -⟩ := Vm.findClass_spec hcl; exact ⟨k9, h9⟩) pre x suf hsplit
    (fun z hz => by
      rcases hpass z hz with h | ⟨hz0, nm, hl1, hn1⟩
      · exact Or.inl h
      · obtain ⟨c6, hc6, hcl6⟩ := Cond.classLink_spec hown hl1 e.platform hpl
        obtain ⟨a8, b8, h1, h2, h3⟩ := hn1
        cases Option.some.inj (h1.symm.trans hcl)
        cases Option.some.inj (h2.symm.trans hc6)
        exact Or.inr ⟨hz0, _, hcl6, h3⟩) hx (Or.inr ⟨h0, c4, hcl5, hasg⟩)
  obtain ⟨t, a1, b1⟩ := kk (T.setVm vm') hT X'
  exact ⟨t, st.trans a1, b1⟩
end Rows
section Ends
variable {p : Program} {l : Launch} {e : Env} {R : Room} {s : State} {m : MethodId} {args : Array Value} {below : List Frame} {meth : Method} {c : Code} {H : Heap} {locs : List Loc} {cells slots : Nat} {Q : State → Prop}
variable {mc ms : Nat} {free : Addr → Prop} {A0 A1 : Nat → Prop} {H0 : Heap} {a : Array Value} {ls : Array Slot} {st0 rest : List Value}
variable {Qc : Array Value → State → Outcome → State → Prop} {XC : String → State → State → Prop}
/-- what a body that may throw owes at its end -/
def vx_MQ (below : List Frame) (Qc : Array Value → State → Outcome → State → Prop) (XC : String → State → State → Prop) (a : Array Value) (s : State) (mc ms : Nat) (free : Addr → Prop) : State → Prop := fun t =>
  ∃ o, t.status = .running ∧ Ended t below o ∧ vx_Q Qc XC mc ms free a s o t
theorem vx_ret {g : JFrame} {mc ms : Nat} (k : W p l e R s m args below meth c H locs cells slots (MQ below Qc args s mc ms free) g) : W p l e R s m args below meth c H locs cells slots (vx_MQ below Qc XC args s mc ms free) g := by
  intro T hT X
  obtain ⟨t, a1, o, b1, b2, b3, b4⟩ := k T hT X
  exact ⟨t, a1, o, b1, b2, Or.inl ⟨b3, b4⟩⟩
/-- not caught here: it goes on to the caller -/
theorem vx_widen {g : JFrame} {q : Addr} {k n : Nat} (h1 : cells ≤ k) (h2 : slots ≤ n) (kk : vx_W p l e R s m args below meth c H locs k n Q g q) : vx_W p l e R s m args below meth c H locs cells slots Q g q := fun T hT X => kk T hT (stand_widen X h1 h2)
theorem vx_out {pc : Nat} {E : String} {ce : Cell} {q : Addr} {mc ms : Nat} (hout : ∀ x ∈ c.exceptionTable.toList, covers x pc = false) (hlocks : meth.locks = false) (hcell : H[q]? = some ce) (hv : ce.vm = .none) (hcl : s.vm.findClass E = some ce.cls)
    (hx : ∀ t : State, t.heap = H → s.vm.Alike t.vm → XC E s t) (hf : ∀ z ∈ locs, free z.base) (hc : cells ≤ mc) (hs : slots ≤ ms) :
    vx_W p l e R s m args below meth c H locs cells slots (vx_MQ below Qc XC args s mc ms free) (F0 m pc ls rest) q := by
  intro T hT X
  obtain ⟨st1, hrun, hend, hW, hsm⟩ := X.leaveThrown q (g := F0 m pc ls rest) rfl rfl rfl hout hlocks
  have hcell9 : (T.setFrames (.throwing q :: below)).heap[q]? = some ce := by
    show T.heap[q]? = some ce
    rw [hT]; exact hcell
  exact ⟨_, st1, .threw q, hrun, hend, Or.inr ⟨q, rfl, E, ce, locs, hx _ hT hW.alike, hcell9, hv, hcl, hW, hsm.mono hc hs, hf⟩⟩
theorem vx_frame {U : State} {k n : Nat} (h : s.sameButNew ({ U with vm := s.vm } : State) locs k n) : s.heap.size ≤ U.heap.size ∧ ∀ q : Nat, q < s.heap.size → (∀ z ∈ locs, z.base ≠ q) → U.heap[q]? = s.heap[q]? := by
  obtain ⟨-, h2, -, -, -, h6⟩ := h
  refine ⟨h2, fun q hq hz => ?_⟩
  obtain ⟨c9, e1, e2, e3, e4⟩ := h6 q _ (Array.getElem?_eq_getElem hq)
  have hs : c9.slots = (s.heap[q]).slots := Array.ext_getElem? fun i => e4 i fun hm => hz _ hm rfl
  have h9 : c9 = s.heap[q] := by
    rw [hs] at e2
    exact e2
  have e5 : U.heap[q]? = some c9 := e1
  rw [e5, h9, Array.getElem?_eq_getElem hq]
/-- the words of a throw but the four that speak of the heap -/
def vx_no (w : Cond) : Bool := decide (w ≠ .isRef (.static Bundle.tN "UNASSIGNED_STACK" Bundle.steD)) && decide (w ≠ .isRef (.static Bundle.tN "SUPPRESSED_SENTINEL" Bundle.listD)) && decide (w ≠ .laysStatic Bundle.tN "UNASSIGNED_STACK" Bundle.steD) && decide (w ≠ .laysStatic Bundle.tN "SUPPRESSED_SENTINEL" Bundle.listD)
def vx_at0 (own : String) (ic : Nat) (X : String) (names : List String) : List Cond := (Bundle.ownAtoms0 own ic X names).filter vx_no
def vx_atS (own : String) (ic : Nat) (X : String) (names : List String) : List Cond := (Bundle.ownAtoms own ic X names).filter vx_no
/-- a word that the tables alone decide, or a good one -/
def vx_ot (w : Cond) : Bool := w.onTables || goodWord w
theorem vx_ot_at {args a' : Array Value} {s U : State} {w : Cond} (hW : s.WarmedH U.vm) (hvm : s.vm = U.vm) (hg : vx_ot w = true) (h : w.before args s = true) : w.before a' U = true := by
  simp only [vx_ot, Bool.or_eq_true] at hg
  rcases hg with hg | hg
  · exact va_tabs hg hvm h
  · exact word_at hW (good_of_word hg) h
/-- a list's words: the good ones out of the method's own list, the others by premises of their own -/
theorem vx_hat {args : Array Value} {s : State} {L B : List Cond} (h1 : ∀ w ∈ L.filter goodWord, w.before args s = true) (h2 : ∀ w ∈ L.filter (fun w => !goodWord w), w ∈ B) (h3 : ∀ w ∈ B, w.before args s = true) : ∀ w ∈ L, w.before args s = true := by
  intro w hw
  by_cases g : goodWord w = true
  · exact h1 w (List.mem_filter.mpr ⟨hw, g⟩)
  · refine h3 w (h2 w (List.mem_filter.mpr ⟨hw, ?_⟩))
    show (!goodWord w) = true
    cases hgw : goodWord w
    · rfl
    · exact absurd hgw g
theorem vx_c {args : Array Value} {s : State} {w : Cond} {B : List Cond} (h : w.before args s = true) (t : ∀ w ∈ B, w.before args s = true) : ∀ w' ∈ w :: B, w'.before args s = true := fun w' h' => (List.mem_cons.mp h').elim (fun e => by rw [e]; exact h) (t w')
theorem vx_n {args : Array Value} {s : State} : ∀ w ∈ ([] : List Cond), w.before args s = true := fun _ h => nomatch h
theorem vx_own {args : Array Value} {s : State} {L : List Cond} (h1 : ∀ w ∈ L.filter vx_no, w.before args s = true)
    (hU : (Cond.isRef (.static Bundle.tN "UNASSIGNED_STACK" Bundle.steD)).before args s = true) (hN : (Cond.isRef (.static Bundle.tN "SUPPRESSED_SENTINEL" Bundle.listD)).before args s = true)
    (lU : (Cond.laysStatic Bundle.tN "UNASSIGNED_STACK" Bundle.steD).before args s = true) (lN : (Cond.laysStatic Bundle.tN "SUPPRESSED_SENTINEL" Bundle.listD).before args s = true) : ∀ w ∈ L, w.before args s = true := by
  intro w hw
  by_cases e1 : w = .isRef (.static Bundle.tN "UNASSIGNED_STACK" Bundle.steD)
  · rw [e1]; exact hU
  · by_cases e2 : w = .isRef (.static Bundle.tN "SUPPRESSED_SENTINEL" Bundle.listD)
    · rw [e2]; exact hN
    · by_cases e3 : w = .laysStatic Bundle.tN "UNASSIGNED_STACK" Bundle.steD
      · rw [e3]; exact lU
      · by_cases e4 : w = .laysStatic Bundle.tN "SUPPRESSED_SENTINEL" Bundle.listD
        · rw [e4]; exact lN
        · exact h1 w (List.mem_filter.mpr ⟨hw, by unfold vx_no; rw [decide_eq_true e1, decide_eq_true e2, decide_eq_true e3, decide_eq_true e4]; rfl⟩)
/-- where a static field lies, its class's statics cell in H -/
def vx_L (C n d : String) (A : Nat → Prop) (U : State) (H : Heap) : Prop := ∃ (c : ClassId) (k : Class) (i : Nat) (f : Field) (a : Nat) (cell : Cell), U.vm.findClass C = some c ∧ U.fieldFound? C n d = some (c, k, i, f) ∧ f.isStatic = true ∧ k.statics = some a ∧ H[a]? = some cell ∧ cell.vm.isStatics = true ∧ cell.cls = c ∧ f.slot < cell.slots.size ∧ k.staticTypes[f.slot]? = some f.type ∧ ¬ A a
theorem vx_L.moved {C n d : String} {A : Nat → Prop} {u U : State} {H : Heap} (hvm : u.vm.Alike U.vm) (h : vx_L C n d A u H) : vx_L C n d A U H := by
  obtain ⟨c, k, i, f, a, cell, h1, h2, h3, h4, h5, h6, h7, h8, h9, h10⟩ := h
  obtain ⟨k', hi', he⟩ := State.fieldFound?_setVm hvm h2
  exact ⟨c, k', i, f, a, cell, by rw [hvm.findClass]; exact h1, hi', h3, by rw [he]; exact h4, h5, h6, h7, h8, by rw [he]; exact h9, h10⟩
theorem vx_L.kept {C n d : String} {A : Nat → Prop} {U : State} {H H1 : Heap} (h : vx_L C n d A U H) (hq : ∀ a : Nat, a < H.size → ¬ A a → H1[a]? = H[a]?) : vx_L C n d A U H1 := by
  obtain ⟨c, k, i, f, a, cell, h1, h2, h3, h4, h5, h6, h7, h8, h9, h10⟩ := h
  exact ⟨c, k, i, f, a, cell, h1, h2, h3, h4, by rw [hq a (Array.getElem?_eq_some_iff.mp h5).1 h10]; exact h5, h6, h7, h8, h9, h10⟩
theorem vx_L.narrow {C n d : String} {A B : Nat → Prop} {U : State} {H : Heap} (h : vx_L C n d A U H) (hAB : ∀ q, B q → A q) : vx_L C n d B U H := by
  obtain ⟨c, k, i, f, a, cell, h1, h2, h3, h4, h5, h6, h7, h8, h9, h10⟩ := h
  exact ⟨c, k, i, f, a, cell, h1, h2, h3, h4, h5, h6, h7, h8, h9, fun z => h10 (hAB _ z)⟩
theorem vx_L.word {C n d : String} {A : Nat → Prop} {s : State} {args : Array Value} (h : vx_L C n d A s s.heap) : (Cond.laysStatic C n d).before args s = true := by
  obtain ⟨c, k, i, f, a, cell, h1, h2, h3, h4, h5, h6, h7, h8, h9, -⟩ := h
  show (Cond.laysStatic C n d).holds args s none s [] = true
  exact Cond.laysStatic_of h1 h2 h3 h4 h5 h6 h7 h8 h9
/-- .. and what it holds: null or some reference -/
def vx_Zq (C n d : String) (A : Nat → Prop) (U : State) (H : Heap) : Prop := va_Zq C n d A U H ∧ vx_L C n d A U H
theorem vx_Zq.moved {C n d : String} {A : Nat → Prop} {u U : State} {H : Heap} (hvm : u.vm.Alike U.vm) (h : vx_Zq C n d A u H) : vx_Zq C n d A U H := ⟨va_Zq.moved hvm h.1, vx_L.moved hvm h.2⟩
theorem vx_Zq.kept {C n d : String} {A : Nat → Prop} {U : State} {H H1 : Heap} (h : vx_Zq C n d A U H) (hq : ∀ a : Nat, a < H.size → ¬ A a → H1[a]? = H[a]?) : vx_Zq C n d A U H1 := ⟨va_Zq.kept h.1 hq, vx_L.kept h.2 hq⟩
theorem vx_Zq.narrow {C n d : String} {A B : Nat → Prop} {U : State} {H : Heap} (h : vx_Zq C n d A U H) (hAB : ∀ q, B q → A q) : vx_Zq C n d B U H := ⟨va_Zq.narrow h.1 hAB, vx_L.narrow h.2 hAB⟩
theorem vx_Zqof {args : Array Value} {s : State} {C n d : String} {A : Nat → Prop} (hl : (Cond.laysStatic C n d).before args s = true) (hini : (Cond.initialized C).before args s = true) (h : (Cond.isRef (.static C n d)).before args s = true) (hA : ∀ a : Nat, a < s.heap.size → ¬ A a) : vx_Zq C n d A s s.heap := by
  refine ⟨va_Zqof hl hini h hA, ?_⟩
  obtain ⟨c, k, i, f, a, cell, h1, h2, h3, h4, h5, h6, h7, h8, h9⟩ := Cond.laysStatic_spec hl
  exact ⟨c, k, i, f, a, cell, h1, h2, h3, h4, h5, h6, h7, h8, h9, hA a (Array.getElem?_eq_some_iff.mp h5).1⟩
theorem vx_isRef {C n d : String} {v : Value} {A : Nat → Prop} {s : State} {args : Array Value} (h : va_Z C n d v A s s.heap) (hv : v.isRef = true) : (Cond.isRef (.static C n d)).before args s = true := by
  obtain ⟨cf, kf, fi, f, a, cell, h1, h2, h3, h4, h5, h6, h7, -⟩ := h
  have he : (Term.static C n d).eval args s none [] s = some v := by
    simp [Term.eval, State.fieldNamed?, h1, h2, h4, h5, h6, h7]
  simp only [Cond.before, Cond.holds, Cond.value, he]
  cases v <;> simp_all [Value.isRef]
theorem vx_isRefq {C n d : String} {A : Nat → Prop} {s : State} {args : Array Value} (h : va_Zq C n d A s s.heap) : (Cond.isRef (.static C n d)).before args s = true := by
  rcases h with h | ⟨t, h⟩
  · exact vx_isRef h rfl
  · exact vx_isRef h rfl
/-- the same frame, seen from here: as if the method were called anew in this heap -/
theorem vx_rebase {T : State} (X : Stand p l e R s m args below meth c T locs cells slots) {R' : Room} (hf : R'.frames ≤ R.frames) (hl : R'.locals ≤ R.locals) (hc : cells + R'.cells ≤ R.cells) (hs : slots + R'.slots ≤ R.slots) :
    Stand p l e R' ((T.setVm s.vm).setFrames (.invoking m args :: below)) m args below meth c T [] 0 0 := by
  have htop : (T.setVm s.vm).topJava?.isSome := X.here.top
  have hF : ((T.setVm s.vm).setFrames (.invoking m args :: below)).frames = .invoking m args :: below := State.frames_setFrames _ (State.cur_lt_of_top htop)
  obtain ⟨g₀, hg0⟩ := Option.isSome_iff_exists.mp htop
  obtain ⟨r, hr⟩ := State.topJava?_eq_some.mp hg0
  have hl9 : e.platform.stackLimits (T.setVm s.vm).me = e.platform.stackLimits s.me := X.limits
  have hb9 : (T.setVm s.vm).me.stackBytes = s.me.stackBytes := X.bytes
  refine ⟨X.admits, X.cas, X.clock, hF, ?_, X.hears, X.method, X.code, X.here, X.tail, X.warmed, ?_, ?_, ?_⟩
  · have h := X.room
    have hU : ((T.setVm s.vm).setFrames (.invoking m args :: below)).localsInUse = s.localsInUse := by
      rw [State.localsInUse_invoking hF (meth := meth) (c := c) X.method X.code, State.localsInUse_invoking X.frames X.method X.code]
    simp only [State.hasRoom, Bool.and_eq_true, decide_eq_true_eq] at h ⊢
    obtain ⟨⟨⟨⟨h1, h2, h3, h4, h5, h6⟩, h7⟩, h8⟩, h9⟩ := h
    rw [X.frames, List.length_cons] at h2 h3
    have q1 := X.heapSize
    have q2 := X.used
    simp only [hF, hU, List.length_cons, State.stackLimits_setFrames, State.stackBytes_setFrames, hl9, hb9]
    refine ⟨⟨⟨⟨by omega, by omega, by omega, by omega, by omega, h6⟩, ?_⟩, ?_⟩, X.book⟩
    · show T.heap.size + R'.cells ≤ e.platform.maxCells
      omega
    · show T.slotsUsed + R'.slots ≤ e.platform.maxSlots
      omega
  · rw [State.stackLimits_setFrames]; rfl
  · rw [State.stackBytes_setFrames]; rfl
  · refine ⟨?_, Nat.le_refl _, Nat.le_refl _, ?_, ?_, fun a c9 h9 => ⟨c9, h9, rfl, rfl, fun _ _ => rfl⟩⟩
    · obtain ⟨t, ht, -⟩ := State.frames_cons hr
      show T.setVm s.vm = { ((T.setVm s.vm).setFrames (.invoking m args :: below)).setFrames (T.setVm s.vm).frames with heap := T.heap, slotsUsed := T.slotsUsed }
      rw [State.setFrames_setFrames, State.setFrames_self ht]
      rfl
    · show T.slotsUsed = T.slotsUsed + ((T.heap.toList.drop T.heap.size).map (·.slots.size)).sum
      rw [List.drop_eq_nil_of_le (Nat.le_of_eq Array.length_toList)]
      rfl
    · show ((T.heap.toList.drop T.heap.size).map (·.slots.size)).sum ≤ 0
      rw [List.drop_eq_nil_of_le (Nat.le_of_eq Array.length_toList)]
      exact Nat.le_refl _
/-- 'throw new E()': new; dup; invokespecial; athrow -/
theorem vx_throw0 {cc : ByteArray} {pc : Nat} (hexec : p.tables.exec = Jvm.exec) (hb : c.code = cc) (hl : l.stackTraces = false) {own cls : String} {names : List String} {ik ic mc ms : Nat} {A : Nat → Prop}
    (hown : s.vm.findClass own = some m.cls) (hcls : Bundle.fit cls = true) (hnames : ∀ n ∈ names, Bundle.fit n = true)
    (hk : (Cond.classLink own ik cls).before args s = true) (hini : (Cond.initialized cls).before args s = true) (hat : ∀ w ∈ vx_at0 own ic cls names, w.before args s = true)
    (hgood : ∀ w ∈ Cond.classLink own ik cls :: Cond.initialized cls :: vx_at0 own ic cls names, vx_ot w = true)
    (hU : vx_Zq Bundle.tN "UNASSIGNED_STACK" Bundle.steD A s s.heap) (hN : vx_Zq Bundle.tN "SUPPRESSED_SENTINEL" Bundle.listD A s s.heap) (hS : va_S A s.heap H locs) (hsize : ls.size = c.maxLocals)
    (d0 : decode cc pc = .ok (.new ik, 3)) (d3 : decode cc (pc + 3) = .ok (.dup, 1)) (d4 : decode cc (pc + 4) = .ok (.invokespecial ic, 3)) (d7 : decode cc (pc + 7) = .ok (.athrow, 1))
    (hout : ∀ x ∈ c.exceptionTable.toList, covers x (pc + 7) = false)
    (hRframes : names.length + 3 < R.frames) (hRlocals : (rest.map fun v => v.category).sum + (13 * (names.length + 1) + 42) ≤ R.locals) (hRcells : cells + 1 ≤ R.cells) (hRslots : slots + 6 ≤ R.slots) (hlocks : meth.locks = false)
    (hx : ∀ t : State, s.vm.Alike t.vm → H.size ≤ t.heap.size → (∀ q : Nat, q < H.size → t.heap[q]? = H[q]?) → XC cls s t)
    (hf : ∀ z ∈ locs, free z.base) (hc : cells + 1 ≤ mc) (hs : slots + 6 ≤ ms) :
    W p l e R s m args below meth c H locs cells slots (vx_MQ below Qc XC args s mc ms free) (F0 m pc ls rest) := by
  intro T hT X
  have htr : e.platform.stackTraces = false := (show e.platform.stackTraces = l.stackTraces by rw [X.admits.platform]).trans hl
  have Y := vx_rebase X (R' := { frames := R.frames, locals := R.locals, cells := 1, slots := 6 }) (Nat.le_refl _) (Nat.le_refl _) hRcells hRslots
  obtain ⟨s', hA⟩ : ∃ z, z = (T.setVm s.vm).setFrames (.invoking m args :: below) := ⟨_, rfl⟩
  rw [← hA] at Y
  have hvm : s'.vm = s.vm := by rw [hA]; rfl
  have hhp : s'.heap = H := by rw [hA]; exact hT
  have hW0 : s.WarmedH s'.vm := by rw [hvm]; exact State.WarmedH.refl s
  have hat' : ∀ w ∈ vx_at0 own ic cls names, w.before args s' = true := fun w hw => vx_ot_at hW0 hvm.symm (hgood w (List.mem_cons_of_mem _ (List.mem_cons_of_mem _ hw))) (hat w hw)
  have hk' : (Cond.classLink own ik cls).before args s' = true := vx_ot_at hW0 hvm.symm (hgood _ List.mem_cons_self) hk
  have hini' : (Cond.initialized cls).before args s' = true := vx_ot_at hW0 hvm.symm (hgood _ (List.mem_cons_of_mem _ List.mem_cons_self)) hini
  have hU' : vx_Zq Bundle.tN "UNASSIGNED_STACK" Bundle.steD A s' s'.heap := by rw [hhp]; exact vx_Zq.moved hW0.alike (hU.kept hS.2.1)
  have hN' : vx_Zq Bundle.tN "SUPPRESSED_SENTINEL" Bundle.listD A s' s'.heap := by rw [hhp]; exact vx_Zq.moved hW0.alike (hN.kept hS.2.1)
  have h : ∀ w ∈ Bundle.ownAtoms0 own ic cls names, w.before args s' = true := vx_own hat' (vx_isRefq hU'.1) (vx_isRefq hN'.1) hU'.2.word hN'.2.word
  have hown' : s'.vm.findClass own = some m.cls := by rw [hvm]; exact hown
  have hins : (Cond.instantiable cls 6).before args s' = true := h _ (by simp [Bundle.ownAtoms0])
  obtain ⟨vm₁, cX, kX, hfX, hkX, -, -, X₁, st1⟩ := Y.newCold hexec (own := own) (C := cls) (index := ik) (n := 6) hown' hk' hins hini'
    (g := F0 m pc ls rest) rfl (by rw [hb]; exact d0) (Nat.le_refl _) (Nat.le_refl _)
  generalize hT1 : (T.setVm vm₁).pushCell { cls := cX, slots := kX.instanceTypes.map defaultValue, vm := .none } = T1 at X₁ st1
  have hcat : (Value.ref T.heap.size).category = 1 := rfl
  have hcellA : T1.heap[T.heap.size]? = some (freshCell cX kX) := by rw [← hT1]; exact State.heap_pushCell_size _ _
  have d3' : decode c.code (pc + 3) = .ok (.dup, 1) := by rw [hb]; exact d3
  obtain ⟨U, hsteps, hrun, hend, hW, hsame, ce, hce, hO⟩ := X₁.ctorThrow0 hexec htr (own := own) (cls := cls) (names := names) (ic := ic) hown' hcls hnames h (fun x hx => nomatch hx) hfX hkX hcellA (by rw [hhp, hT]; exact Nat.le_refl _)
    (g := { method := m, pc := pc + 4, locals := ls, stack := .ref T.heap.size :: .ref T.heap.size :: rest, locked := none }) rfl hsize rfl rfl (rest := rest) rfl
    (by rw [hb]; exact d4) (by rw [hb]; exact d7) hout hRframes (by simp only [List.map_cons, List.sum_cons, hcat]; omega) hlocks
  obtain ⟨f1, f2⟩ := vx_frame hsame
  rw [hhp] at f1 f2
  have hWs : s.WarmedH U.vm := State.WarmedH.trans hW0 hW
  have hcl : s.vm.findClass cls = some ce.cls := by
    have h9 := hO.cls
    rw [hvm] at h9
    exact h9
  have hall : s.sameButNew ({ U with vm := s.vm } : State) locs mc ms := by
    subst hA
    obtain ⟨e1, e2⟩ := hsame
    rw [State.setFrames_setFrames] at e1
    have h2 : (T.setVm s.vm).sameButNew ({ U with vm := s.vm } : State) [] (0 + 1) (0 + 6) := ⟨e1, e2⟩
    have h3 := X.same.trans h2
    rw [List.append_nil] at h3
    exact h3.mono hc hs
  refine ⟨U, ?_, .threw T.heap.size, hrun, hend, Or.inr ⟨T.heap.size, rfl, cls, ce, locs, hx U hWs.alike f1 (fun q hq => f2 q hq (fun z hz => nomatch hz)), hce, hO.vm, hcl, hWs, hall, hf⟩⟩
  refine st1 _ ?_
  show Steps p.tables e below (T1.setTop { method := m, pc := pc + 3, locals := ls, stack := .ref T.heap.size :: rest, locked := none }) _
  jvm_step X₁.here [X₁.here.top, hexec, d3', Value.category]
  exact hsteps
/-- 'throw new E("text")': new; dup; ldc; invokespecial; athrow -/
theorem vx_throwS {cc : ByteArray} {pc : Nat} (hexec : p.tables.exec = Jvm.exec) (hb : c.code = cc) (hl : l.stackTraces = false) {own cls text : String} {names : List String} {ik is ic mc ms sa : Nat} {A : Nat → Prop}
    (hown : s.vm.findClass own = some m.cls) (hcls : Bundle.fit cls = true) (hnames : ∀ n ∈ names, Bundle.fit n = true)
    (hk : (Cond.classLink own ik cls).before args s = true) (hini : (Cond.initialized cls).before args s = true) (hstr : vk_R own is text sa s) (hat : ∀ w ∈ vx_atS own ic cls names, w.before args s = true)
    (hgood : ∀ w ∈ Cond.classLink own ik cls :: Cond.initialized cls :: vx_atS own ic cls names, vx_ot w = true)
    (hU : vx_Zq Bundle.tN "UNASSIGNED_STACK" Bundle.steD A s s.heap) (hN : vx_Zq Bundle.tN "SUPPRESSED_SENTINEL" Bundle.listD A s s.heap) (hS : va_S A s.heap H locs) (hsize : ls.size = c.maxLocals)
    (d0 : decode cc pc = .ok (.new ik, 3)) (d3 : decode cc (pc + 3) = .ok (.dup, 1)) (d4 : decode cc (pc + 4) = .ok (.ldc is, 2)) (d6 : decode cc (pc + 6) = .ok (.invokespecial ic, 3)) (d9 : decode cc (pc + 9) = .ok (.athrow, 1))
    (hout : ∀ x ∈ c.exceptionTable.toList, covers x (pc + 9) = false)
    (hRframes : names.length + 3 < R.frames) (hRlocals : (rest.map fun v => v.category).sum + (13 * (names.length + 1) + 43) ≤ R.locals) (hRcells : cells + 1 ≤ R.cells) (hRslots : slots + 6 ≤ R.slots) (hlocks : meth.locks = false)
    (hx : ∀ t : State, s.vm.Alike t.vm → H.size ≤ t.heap.size → (∀ q : Nat, q < H.size → t.heap[q]? = H[q]?) → XC cls s t)
    (hf : ∀ z ∈ locs, free z.base) (hc : cells + 1 ≤ mc) (hs : slots + 6 ≤ ms) :
    W p l e R s m args below meth c H locs cells slots (vx_MQ below Qc XC args s mc ms free) (F0 m pc ls rest) := by
  intro T hT X
  have htr : e.platform.stackTraces = false := (show e.platform.stackTraces = l.stackTraces by rw [X.admits.platform]).trans hl
  have Y := vx_rebase X (R' := { frames := R.frames, locals := R.locals, cells := 1, slots := 6 }) (Nat.le_refl _) (Nat.le_refl _) hRcells hRslots
  obtain ⟨s', hA⟩ : ∃ z, z = (T.setVm s.vm).setFrames (.invoking m args :: below) := ⟨_, rfl⟩
  rw [← hA] at Y
  have hvm : s'.vm = s.vm := by rw [hA]; rfl
  have hhp : s'.heap = H := by rw [hA]; exact hT
  have hW0 : s.WarmedH s'.vm := by rw [hvm]; exact State.WarmedH.refl s
  have hat' : ∀ w ∈ vx_atS own ic cls names, w.before args s' = true := fun w hw => vx_ot_at hW0 hvm.symm (hgood w (List.mem_cons_of_mem _ (List.mem_cons_of_mem _ hw))) (hat w hw)
  have hk' : (Cond.classLink own ik cls).before args s' = true := vx_ot_at hW0 hvm.symm (hgood _ List.mem_cons_self) hk
  have hini' : (Cond.initialized cls).before args s' = true := vx_ot_at hW0 hvm.symm (hgood _ (List.mem_cons_of_mem _ List.mem_cons_self)) hini
  have hU' : vx_Zq Bundle.tN "UNASSIGNED_STACK" Bundle.steD A s' s'.heap := by rw [hhp]; exact vx_Zq.moved hW0.alike (hU.kept hS.2.1)
  have hN' : vx_Zq Bundle.tN "SUPPRESSED_SENTINEL" Bundle.listD A s' s'.heap := by rw [hhp]; exact vx_Zq.moved hW0.alike (hN.kept hS.2.1)
  have h : ∀ w ∈ Bundle.ownAtoms own ic cls names, w.before args s' = true := vx_own hat' (vx_isRefq hU'.1) (vx_isRefq hN'.1) hU'.2.word hN'.2.word
  have hown' : s'.vm.findClass own = some m.cls := by rw [hvm]; exact hown
  have hins : (Cond.instantiable cls 6).before args s' = true := h _ (by simp [Bundle.ownAtoms])
  obtain ⟨vm₁, cX, kX, hfX, hkX, -, -, X₁, st1⟩ := Y.newCold hexec (own := own) (C := cls) (index := ik) (n := 6) hown' hk' hins hini'
    (g := F0 m pc ls rest) rfl (by rw [hb]; exact d0) (Nat.le_refl _) (Nat.le_refl _)
  generalize hT1 : (T.setVm vm₁).pushCell { cls := cX, slots := kX.instanceTypes.map defaultValue, vm := .none } = T1 at X₁ st1
  have hcat : (Value.ref T.heap.size).category = 1 := rfl
  have hcellA : T1.heap[T.heap.size]? = some (freshCell cX kX) := by rw [← hT1]; exact State.heap_pushCell_size _ _
  have d3' : decode c.code (pc + 3) = .ok (.dup, 1) := by rw [hb]; exact d3
  have d4' : decode c.code (pc + 4) = .ok (.ldc is, 2) := by rw [hb]; exact d4
  have hstr' : vk_R own is text sa s' := vk_R.warm hW0 hstr
  obtain ⟨U, hsteps, hrun, hend, hW, hsame, ce, hce, hO⟩ := X₁.ctorThrowS hexec htr (own := own) (cls := cls) (names := names) (ic := ic) hown' hcls hnames h (fun x hx => nomatch hx) hfX hkX hcellA (by rw [hhp, hT]; exact Nat.le_refl _) (msg := .ref sa) rfl
    (g := { method := m, pc := pc + 6, locals := ls, stack := .ref sa :: .ref T.heap.size :: .ref T.heap.size :: rest, locked := none }) rfl hsize rfl rfl (rest := rest) rfl
    (by rw [hb]; exact d6) (by rw [hb]; exact d9) hout hRframes (by simp only [List.map_cons, List.sum_cons, hcat]; omega) hlocks
  obtain ⟨f1, f2⟩ := vx_frame hsame
  rw [hhp] at f1 f2
  have hWs : s.WarmedH U.vm := State.WarmedH.trans hW0 hW
  have hcl : s.vm.findClass cls = some ce.cls := by
    have h9 := hO.cls
    rw [hvm] at h9
    exact h9
  have hall : s.sameButNew ({ U with vm := s.vm } : State) locs mc ms := by
    subst hA
    obtain ⟨e1, e2⟩ := hsame
    rw [State.setFrames_setFrames] at e1
    have h2 : (T.setVm s.vm).sameButNew ({ U with vm := s.vm } : State) [] (0 + 1) (0 + 6) := ⟨e1, e2⟩
    have h3 := X.same.trans h2
    rw [List.append_nil] at h3
    exact h3.mono hc hs
  refine ⟨U, ?_, .threw T.heap.size, hrun, hend, Or.inr ⟨T.heap.size, rfl, cls, ce, locs, hx U hWs.alike f1 (fun q hq => f2 q hq (fun z hz => nomatch hz)), hce, hO.vm, hcl, hWs, hall, hf⟩⟩
  refine st1 _ ?_
  show Steps p.tables e below (T1.setTop { method := m, pc := pc + 3, locals := ls, stack := .ref T.heap.size :: rest, locked := none }) _
  jvm_step X₁.here [X₁.here.top, hexec, d3', Value.category]
  exact X₁.ldcString hexec (own := own) (text := text) (index := is) (a := sa) hown' hstr'.1 hstr'.2
    (g := { method := m, pc := pc + 4, locals := ls, stack := .ref T.heap.size :: .ref T.heap.size :: rest, locked := none }) rfl d4' _ hsteps
/-- 'throw new E("text")', the text by a wide index -/
theorem vx_throwSW {cc : ByteArray} {pc : Nat} (hexec : p.tables.exec = Jvm.exec) (hb : c.code = cc) (hl : l.stackTraces = false) {own cls text : String} {names : List String} {ik is ic mc ms sa : Nat} {A : Nat → Prop}
    (hown : s.vm.findClass own = some m.cls) (hcls : Bundle.fit cls = true) (hnames : ∀ n ∈ names, Bundle.fit n = true)
    (hk : (Cond.classLink own ik cls).before args s = true) (hini : (Cond.initialized cls).before args s = true) (hstr : vk_R own is text sa s) (hat : ∀ w ∈ vx_atS own ic cls names, w.before args s = true)
    (hgood : ∀ w ∈ Cond.classLink own ik cls :: Cond.initialized cls :: vx_atS own ic cls names, vx_ot w = true)
    (hU : vx_Zq Bundle.tN "UNASSIGNED_STACK" Bundle.steD A s s.heap) (hN : vx_Zq Bundle.tN "SUPPRESSED_SENTINEL" Bundle.listD A s s.heap) (hS : va_S A s.heap H locs) (hsize : ls.size = c.maxLocals)
    (d0 : decode cc pc = .ok (.new ik, 3)) (d3 : decode cc (pc + 3) = .ok (.dup, 1)) (d4 : decode cc (pc + 4) = .ok (.ldc_w is, 3)) (d7 : decode cc (pc + 7) = .ok (.invokespecial ic, 3)) (d10 : decode cc (pc + 10) = .ok (.athrow, 1))
    (hout : ∀ x ∈ c.exceptionTable.toList, covers x (pc + 10) = false)
    (hRframes : names.length + 3 < R.frames) (hRlocals : (rest.map fun v => v.category).sum + (13 * (names.length + 1) + 43) ≤ R.locals) (hRcells : cells + 1 ≤ R.cells) (hRslots : slots + 6 ≤ R.slots) (hlocks : meth.locks = false)
    (hx : ∀ t : State, s.vm.Alike t.vm → H.size ≤ t.heap.size → (∀ q : Nat, q < H.size → t.heap[q]? = H[q]?) → XC cls s t)
    (hf : ∀ z ∈ locs, free z.base) (hc : cells + 1 ≤ mc) (hs : slots + 6 ≤ ms) :
    W p l e R s m args below meth c H locs cells slots (vx_MQ below Qc XC args s mc ms free) (F0 m pc ls rest) := by
  intro T hT X
  have htr : e.platform.stackTraces = false := (show e.platform.stackTraces = l.stackTraces by rw [X.admits.platform]).trans hl
  have Y := vx_rebase X (R' := { frames := R.frames, locals := R.locals, cells := 1, slots := 6 }) (Nat.le_refl _) (Nat.le_refl _) hRcells hRslots
  obtain ⟨s', hA⟩ : ∃ z, z = (T.setVm s.vm).setFrames (.invoking m args :: below) := ⟨_, rfl⟩
  rw [← hA] at Y
  have hvm : s'.vm = s.vm := by rw [hA]; rfl
  have hhp : s'.heap = H := by rw [hA]; exact hT
  have hW0 : s.WarmedH s'.vm := by rw [hvm]; exact State.WarmedH.refl s
  have hat' : ∀ w ∈ vx_atS own ic cls names, w.before args s' = true := fun w hw => vx_ot_at hW0 hvm.symm (hgood w (List.mem_cons_of_mem _ (List.mem_cons_of_mem _ hw))) (hat w hw)
  have hk' : (Cond.classLink own ik cls).before args s' = true := vx_ot_at hW0 hvm.symm (hgood _ List.mem_cons_self) hk
  have hini' : (Cond.initialized cls).before args s' = true := vx_ot_at hW0 hvm.symm (hgood _ (List.mem_cons_of_mem _ List.mem_cons_self)) hini
  have hU' : vx_Zq Bundle.tN "UNASSIGNED_STACK" Bundle.steD A s' s'.heap := by rw [hhp]; exact vx_Zq.moved hW0.alike (hU.kept hS.2.1)
  have hN' : vx_Zq Bundle.tN "SUPPRESSED_SENTINEL" Bundle.listD A s' s'.heap := by rw [hhp]; exact vx_Zq.moved hW0.alike (hN.kept hS.2.1)
  have h : ∀ w ∈ Bundle.ownAtoms own ic cls names, w.before args s' = true := vx_own hat' (vx_isRefq hU'.1) (vx_isRefq hN'.1) hU'.2.word hN'.2.word
  have hown' : s'.vm.findClass own = some m.cls := by rw [hvm]; exact hown
  have hins : (Cond.instantiable cls 6).before args s' = true := h _ (by simp [Bundle.ownAtoms])
  obtain ⟨vm₁, cX, kX, hfX, hkX, -, -, X₁, st1⟩ := Y.newCold hexec (own := own) (C := cls) (index := ik) (n := 6) hown' hk' hins hini'
    (g := F0 m pc ls rest) rfl (by rw [hb]; exact d0) (Nat.le_refl _) (Nat.le_refl _)
  generalize hT1 : (T.setVm vm₁).pushCell { cls := cX, slots := kX.instanceTypes.map defaultValue, vm := .none } = T1 at X₁ st1
  have hcat : (Value.ref T.heap.size).category = 1 := rfl
  have hcellA : T1.heap[T.heap.size]? = some (freshCell cX kX) := by rw [← hT1]; exact State.heap_pushCell_size _ _
  have d3' : decode c.code (pc + 3) = .ok (.dup, 1) := by rw [hb]; exact d3
  have d4' : decode c.code (pc + 4) = .ok (.ldc_w is, 3) := by rw [hb]; exact d4
  have hstr' : vk_R own is text sa s' := vk_R.warm hW0 hstr
  obtain ⟨U, hsteps, hrun, hend, hW, hsame, ce, hce, hO⟩ := X₁.ctorThrowS hexec htr (own := own) (cls := cls) (names := names) (ic := ic) hown' hcls hnames h (fun x hx => nomatch hx) hfX hkX hcellA (by rw [hhp, hT]; exact Nat.le_refl _) (msg := .ref sa) rfl
    (g := { method := m, pc := pc + 7, locals := ls, stack := .ref sa :: .ref T.heap.size :: .ref T.heap.size :: rest, locked := none }) rfl hsize rfl rfl (rest := rest) rfl
    (by rw [hb]; exact d7) (by rw [hb]; exact d10) hout hRframes (by simp only [List.map_cons, List.sum_cons, hcat]; omega) hlocks
  obtain ⟨f1, f2⟩ := vx_frame hsame
  rw [hhp] at f1 f2
  have hWs : s.WarmedH U.vm := State.WarmedH.trans hW0 hW
  have hcl : s.vm.findClass cls = some ce.cls := by
    have h9 := hO.cls
    rw [hvm] at h9
    exact h9
  have hall : s.sameButNew ({ U with vm := s.vm } : State) locs mc ms := by
    subst hA
    obtain ⟨e1, e2⟩ := hsame
    rw [State.setFrames_setFrames] at e1
    have h2 : (T.setVm s.vm).sameButNew ({ U with vm := s.vm } : State) [] (0 + 1) (0 + 6) := ⟨e1, e2⟩
    have h3 := X.same.trans h2
    rw [List.append_nil] at h3
    exact h3.mono hc hs
  refine ⟨U, ?_, .threw T.heap.size, hrun, hend, Or.inr ⟨T.heap.size, rfl, cls, ce, locs, hx U hWs.alike f1 (fun q hq => f2 q hq (fun z hz => nomatch hz)), hce, hO.vm, hcl, hWs, hall, hf⟩⟩
  refine st1 _ ?_
  show Steps p.tables e below (T1.setTop { method := m, pc := pc + 3, locals := ls, stack := .ref T.heap.size :: rest, locked := none }) _
  jvm_step X₁.here [X₁.here.top, hexec, d3', Value.category]
  exact X₁.ldcStringW hexec (own := own) (text := text) (index := is) (a := sa) hown' hstr'.1 hstr'.2
    (g := { method := m, pc := pc + 4, locals := ls, stack := .ref T.heap.size :: .ref T.heap.size :: rest, locked := none }) rfl d4' _ hsteps
end Ends
section Bodies
variable {l : Launch}
theorem vx_ofW {y : MethodName} {ws ws' : List Cond} {rm : Room} {Pc : Array Value → State → Prop} {Qc : Array Value → State → Outcome → State → Prop} {XC : String → State → State → Prop} {mc ms : Nat} {free : Addr → Prop} {cc : ByteArray} {maxL : Nat} {ret : Option FieldType}
    (hy : plainName y.cls = true) (hw : ws = Cond.code y cc maxL ret :: ws')
    (body : ∀ p e s m args below meth c s₁, BodyLoose p l y (headSpec ws rm) cc maxL ret e s m args below meth c s₁ → c.maxLocals = maxL → (∀ x ∈ c.exceptionTable.toList, False) → Pc args s →
      W p l e (headSpec ws rm).room s m args below meth c s.heap [] 0 0 (vx_MQ below Qc XC args s mc ms free) (entryFrame m args maxL)) : vx_Met l y ws rm Pc Qc XC mc ms free := by
  refine MetFree.of_bodyS (code := cc) (maxLocals := maxL) (ret := ret) hy ?_ ?_
  · intro args s m h hn
    obtain ⟨meth, c, h1, h2, h3, h4, h5, h6, -, -⟩ := Cond.code_spec hn (atoms_spec (ws := ws) h _ (by rw [hw]; exact List.mem_cons_self))
    exact ⟨meth, c, h1, h2, h3, h4, h5, h6⟩
  · intro p e s m args below meth c s₁ B hml hP _
    have hh0 : s₁.heap = s.heap := by rw [B.state]; rfl
    have ht : ∀ x ∈ c.exceptionTable.toList, False := by
      obtain ⟨meth9, c9, h1, h2, -, -, -, -, h7, -⟩ := Cond.code_spec B.named (atoms_spec (ws := ws) B.pre _ (by rw [hw]; exact List.mem_cons_self))
      cases Option.some.inj (h1.symm.trans B.method)
      cases Option.some.inj (h2.symm.trans (Stand.of_body B).code)
      intro x hx
      rw [Array.isEmpty_iff.mp h7] at hx
      cases hx
    obtain ⟨t, a1, o, b1, b2, b3⟩ := body p e s m args below meth c s₁ B hml ht hP s₁ hh0 (Stand.of_body B)
    exact ⟨t, o, a1, b1, b2, b3⟩
/-- the table of a body with handlers -/
theorem vx_table {p : Program} {x y : MethodName} {S : Spec} {cc bytes : ByteArray} {maxL maxL' : Nat} {ret ret' : Option FieldType} {e : Env} {s s₁ : State} {m : MethodId} {args : Array Value} {below : List Frame} {meth : Method} {c : Code} {hh : List (Nat × Nat × Nat × Nat)}
    (B : BodyLoose p l y S cc maxL ret e s m args below meth c s₁) (h : (Cond.codeWith y bytes maxL' ret' hh).before args s = true) : c.exceptionTable.toList = tableOf hh := by
  obtain ⟨m9, meth9, c9, hn9, h1, h2, -, -, h6, -⟩ := Cond.codeWith_spec h
  cases Option.some.inj (hn9.symm.trans B.named)
  cases Option.some.inj (h1.symm.trans B.method)
  cases Option.some.inj (h2.symm.trans (Stand.of_body B).code)
  rw [← h6, table_eq]
end Bodies
end VXA
/-! ===== END ===== -/
/-! ===== BEGIN a static call of a method with an exception table ===== -/
section VXS
variable {p : Program} {l : Launch} {e : Env} {R : Room} {s : State} {m : MethodId} {args : Array Value} {below : List Frame} {meth : Method} {c : Code} {T : State} {H : Heap} {locs : List Loc} {cells slots : Nat}
abbrev vx_CSW (R : Room) (s : State) (args : Array Value) (own : String) (index : Nat) (y : MethodName) (bytes : ByteArray) (maxL : Nat) (ret : Option FieldType) (hh : List (Nat × Nat × Nat × Nat)) (ws : List Cond) (rm : Room) (mc ms n : Nat) : Prop :=
  (rm.cells = mc ∧ rm.slots = ms ∧ rm.frames + 1 ≤ R.frames ∧ 8 + (maxL + 11) + rm.locals ≤ R.locals ∧ (∀ w ∈ ws, ∀ (a' : Array Value) (U : State), s.WarmedH U.vm → w.before a' U = true) ∧ Cond.codeWith y bytes maxL ret hh ∈ ws) ∧
  (Cond.codeWith y bytes maxL ret hh).before args s = true ∧ (Cond.initialized y.cls).before args s = true ∧ (y.cls ≠ "java/lang/invoke/MethodHandle" ∧ y.cls ≠ "java/lang/invoke/VarHandle") ∧
  (∀ sig, parseMethodDescriptor y.desc = some sig → n = sig.parameters.length) ∧ (Cond.methodLink own index y).before args s = true ∧ (Cond.static y).before args s = true
theorem vx_cwSW {own : String} {index maxL mc ms : Nat} {y : MethodName} {bytes : ByteArray} {ret : Option FieldType} {hh : List (Nat × Nat × Nat × Nat)} {Ts ws ws' : List Cond} {rm : Room} (n : Nat) (ht : ∀ w ∈ Ts, w.before args s = true) (hT : GoodIn Ts (va_wsS own index y ws)) (hw : ws = Cond.codeWith y bytes maxL ret hh :: ws') (hrc : rm.cells = mc) (hrs : rm.slots = ms)
    (hd : y.cls ≠ "java/lang/invoke/MethodHandle" ∧ y.cls ≠ "java/lang/invoke/VarHandle" ∧ (parseMethodDescriptor y.desc).map (fun d => d.parameters.length) = some n) (hR : rm.frames + 1 ≤ R.frames ∧ 8 + (maxL + 11) + rm.locals ≤ R.locals) :
    vx_CSW R s args own index y bytes maxL ret hh ws rm mc ms n := by
  have ok : ∀ w ∈ va_wsS own index y ws, w.before args s = true := fun w h => ht w (hT w h).1
  have hG : GoodIn Ts ws := fun w h => hT w (by unfold va_wsS; exact List.mem_append_right _ h)
  have hc : Cond.codeWith y bytes maxL ret hh ∈ ws := by rw [hw]; exact List.mem_cons_self
  refine ⟨⟨hrc, hrs, hR.1, hR.2, pay_in ht hG, hc⟩, ht _ (hG _ hc).1, ok _ (by simp [va_wsS]), ⟨hd.1, hd.2.1⟩, fun sig h => ?_, ok _ (by simp [va_wsS]), ok _ (by simp [va_wsS])⟩
  have h2 := hd.2.2
  rw [h] at h2
  exact (Option.some.inj h2).symm
theorem vx_callSW (X : Stand p l e R s m args below meth c T locs cells slots) (hexec : p.tables.exec = Jvm.exec) {own : String} {index : Nat} {y : MethodName} {bytes : ByteArray} {maxL : Nat} {ret : Option FieldType} {hh : List (Nat × Nat × Nat × Nat)}
    (hown : s.vm.findClass own = some m.cls) (hlink : (Cond.methodLink own index y).before args s = true) (hstat : (Cond.static y).before args s = true) (hinit : (Cond.initialized y.cls).before args s = true)
    (hcode : (Cond.codeWith y bytes maxL ret hh).before args s = true) (hy : y.cls ≠ "java/lang/invoke/MethodHandle" ∧ y.cls ≠ "java/lang/invoke/VarHandle")
    {W9 : Nat} {Pre : Pt → Array Value → Prop} {Post : Pt → Array Value → Option Value → Pt → Prop} (hK : Back l R p e below s args y 3 W9 Pre Post)
    {g : JFrame} (hg : g.method = m) (hsize : g.locals.size = c.maxLocals) {argsL rest : List Value} (hlen : ∀ sig, parseMethodDescriptor y.desc = some sig → argsL.length = sig.parameters.length)
    (hstack : g.stack = argsL.reverse ++ rest) (hW : 2 * g.monitorRoom + (rest.map fun v => v.category).sum ≤ W9) (hdg : decode c.code g.pc = .ok (.invokestatic index, 3))
    (hpre : ∀ vm₁, s.WarmedH vm₁ → Pre ⟨T.setVm vm₁, locs, cells, slots⟩ argsL.toArray) :
    ∃ (v : Option Value) (vm₁ : Vm) (B : Pt), s.WarmedH vm₁ ∧ Stand p l e R s m args below meth c B.U B.locs B.cells B.slots ∧ Post ⟨T.setVm vm₁, locs, cells, slots⟩ argsL.toArray v B ∧
      ∀ target, Steps p.tables e below (B.U.setTop { g with pc := g.pc + 3, stack := v.toList ++ rest }) target → Steps p.tables e below (T.setTop g) target := by
  obtain ⟨mk, methM, cM, hnamed, hmethM, -, -, -, -, -, -, hsigM⟩ := Cond.codeWith_spec hcode
  have hstatic : methM.isStatic = true := Cond.static_spec hnamed hmethM hstat
  obtain ⟨kP, hkP, -⟩ := className_of_methodNamed hnamed
  have hinitP : kP.init = .initialized := Cond.initialized_spec (findClass_of_methodNamed hnamed) hkP hinit
  obtain ⟨vm₁, X₁, hstep₁⟩ := X.invokestatic hexec hown hlink hnamed hmethM hstatic hkP hinitP hy (g := g) hg (argsL := argsL) (rest := rest) (hlen _ hsigM) hstack hdg
  obtain ⟨v, B, X', hpost, hsteps⟩ := hK m meth c ⟨T.setVm vm₁, locs, cells, slots⟩ { g with stack := rest } (.invokestatic index) mk argsL.toArray X₁ hg hsize hdg hW (X₁.named hnamed) (hpre vm₁ X₁.warmed)
  exact ⟨v, vm₁, B, X₁.warmed, X', hpost, fun target h => hstep₁ _ fun acts => by rw [doInvoke_state]; exact hsteps.trans h⟩
theorem vx_runSW {y : MethodName} {bytes cc : ByteArray} {maxL nL mc ms n index : Nat} {ret : Option FieldType} {hh : List (Nat × Nat × Nat × Nat)} {ws : List Cond} {rm : Room} {Pc : Array Value → State → Prop} {Qc : Array Value → State → Outcome → State → Prop} {free : Addr → Prop} {Ts : List Cond} {own : String} {As rest : List Value} {g : JFrame}
    (S : CallFix p m c cc nL s args Ts own) (hM : Met l y ws rm Pc Qc mc ms free) (cw : vx_CSW R s args own index y bytes maxL ret hh ws rm mc ms n) (hp : PreS s H Pc As)
    (hg : g.method = m) (hn : As.length = n) (hsize : g.locals.size = nL) (hstack : g.stack = As.reverse ++ rest) (hW : 2 * g.monitorRoom + (rest.map fun v => v.category).sum ≤ 8) (hdg : decode cc g.pc = .ok (.invokestatic index, 3)) (hf : cells + mc ≤ R.cells ∧ slots + ms ≤ R.slots) :
    va_Run p l e R s m args below meth c H locs cells slots mc ms g rest (Qc As.toArray) (free) := by
  obtain ⟨⟨hrc, hrs, hfr, hlo, hws, hcw⟩, hcode, hini, hy, hlen, hl, hstt⟩ := cw
  have hK : Back l R p e below s args y 3 8 (PreOf R mc ms Pc) (PostOf Qc mc ms free) := va_backW (hh := hh) (bytes := bytes) (maxL := maxL) (ret := ret) hM hp.1 hrc hrs hfr hlo hws hcw (fun a' U hW => word_at hW (Or.inl (by first | rfl | simp [Cond.onTables, Cond.keeps, Cond.steady])) hini)
  obtain ⟨hx, hb, hml, ho, -⟩ := S
  intro T hT X
  obtain ⟨v, vm₁, ⟨U', l2, c2, s2⟩, hW₁, X', ⟨g', mk, t, L, e1, e2, hq, h1, hL, h2, h3⟩, st⟩ := vx_callSW X hx (hh := hh) (bytes := bytes) (maxL := maxL) (ret := ret) ho hl hstt hini hcode hy hK hg (hsize.trans hml.symm) (argsL := As) (rest := rest) (fun sig h => hn.trans (hlen sig h)) hstack hW (by rw [hb]; exact hdg)
    (fun vm₁ hW₁ => ⟨hf.1, hf.2, hp.2 (T.setVm vm₁) hT hW₁⟩)
  dsimp only [Pt.U, Pt.locs, Pt.cells, Pt.slots] at X' e1 e2 h1 h2 h3 st
  subst h1; subst h2; subst h3
  exact ⟨v, (T.setVm vm₁).calling g' mk As.toArray, t, U', L, hT, X', hL, e1, e2, hq, st⟩
/-- not caught here, past rows that name other classes: it goes on to the caller -/
theorem vx_outP {p : Program} {l : Launch} {e : Env} {R : Room} {s : State} {m : MethodId} {args : Array Value} {below : List Frame} {meth : Method} {c : Code} {H : Heap} {locs : List Loc} {cells slots : Nat} {free : Addr → Prop} {ls : Array Slot} {rest : List Value} {Qc : Array Value → State → Outcome → State → Prop} {XC : String → State → State → Prop}
    {pc : Nat} {own E : String} {ce : Cell} {q : Addr} {mc ms : Nat} (hown : s.vm.findClass own = some m.cls) (hlocks : meth.locks = false)
    (hpass : ∀ z ∈ c.exceptionTable.toList, covers z pc = false ∨ (z.catchType ≠ 0 ∧ ∃ nm : String, (Cond.classLink own z.catchType nm).before args s = true ∧ va_Nc E nm s)) (hcell : H[q]? = some ce) (hv : ce.vm = .none) (hcl : s.vm.findClass E = some ce.cls)
    (hx : ∀ t : State, t.heap = H → s.vm.Alike t.vm → XC E s t) (hf : ∀ z ∈ locs, free z.base) (hc : cells ≤ mc) (hs : slots ≤ ms) :
    vx_W p l e R s m args below meth c H locs cells slots (vx_MQ below Qc XC args s mc ms free) (F0 m pc ls rest) q := by
  intro T hT X
  have hpl : e.platform.magicAccessors = ({} : Platform).magicAccessors := by rw [X.admits.platform]
  obtain ⟨vm', hW', X', st⟩ := X.outThrough hlocks q (g := F0 m pc ls rest) rfl rfl rfl (cell := ce) (by rw [hT]; exact hcell) (by rw [hv]; rfl)
    (by obtain ⟨k9, h9, -⟩ := Vm.findClass_spec hcl; exact ⟨k9, h9⟩) (fun z hz => by
      rcases hpass z hz with h | ⟨hz0, nm, hl1, hn1⟩
      · exact Or.inl h
      · obtain ⟨c6, hc6, hcl6⟩ := Cond.classLink_spec hown hl1 e.platform hpl
        obtain ⟨a8, b8, h1, h2, h3⟩ := hn1
        cases Option.some.inj (h1.symm.trans hcl)
        cases Option.some.inj (h2.symm.trans hc6)
        exact Or.inr ⟨hz0, _, hcl6, h3⟩)
  obtain ⟨g₀, hfr⟩ := X'.frames_eq
  have hcell9 : ((T.setVm vm').setFrames (.throwing q :: below)).heap[q]? = some ce := by
    show T.heap[q]? = some ce
    rw [hT]; exact hcell
  have hend : Ended ((T.setVm vm').setFrames (.throwing q :: below)) below (.threw q) := State.frames_setFrames _ (State.cur_lt_of_frames hfr)
  refine ⟨(T.setVm vm').setFrames (.throwing q :: below), ?_, .threw q, X'.here.running, hend, Or.inr ⟨q, rfl, E, ce, locs, hx _ hT (X'.ends _).1.alike, hcell9, hv, hcl, (X'.ends _).1, (X'.ends _).2.mono hc hs, hf⟩⟩
  rw [X.pushThrowing_eq]
  exact st
/-- a thing of a world lies in the heap -/
theorem vx_lt {D : va_G} {cl : List vw_C} {ws : va_W} {H1 : Heap} (h : va_P D cl ws H1) {k : Nat} {q : Nat × va_E} (hk : ws[k]? = some q) : q.1 < H1.size := (h k q hk).lt
end VXS
/-! ===== END ===== -/
/-! ===== BEGIN methods with a table of their own: called by a name, returning or throwing ===== -/
section VXH
/-! vx_backW, vx_callVX, vx_callSX, vx_callVW, vx_runVW, vx_runVX, vx_runSX, vx_ofWH follow the same proofs as their sisters above (Free/Laws.lean, Shelf42/LK1.lean); vx_outP calls Shelf42/NT130.lean (outThrough). -/
section
variable {l : Launch} {R : Room} {p : Program} {e : Env} {below : List Frame} {s : State} {sargs : Array Value} {y : MethodName} {len W9 : Nat}
theorem vx_backW {ws : List Cond} {rm : Room} {Pc : Array Value → State → Prop} {Qc : Array Value → State → Outcome → State → Prop} {XC : String → State → State → Prop} {mc ms : Nat} {free : Addr → Prop} {bytes : ByteArray} {maxL : Nat} {ret : Option FieldType} {hh : List (Nat × Nat × Nat × Nat)}
    (hM : vx_Met l y ws rm Pc Qc XC mc ms free) (hblind : FrameBlind Pc) (hrc : rm.cells = mc) (hrs : rm.slots = ms)
    (hframes : rm.frames + 1 ≤ R.frames) (hlocals : W9 + (maxL + 11) + rm.locals ≤ R.locals)
    (hws : ∀ w ∈ ws, ∀ a' U, s.WarmedH U.vm → w.before a' U = true) (hcode : Cond.codeWith y bytes maxL ret hh ∈ ws) (hinit : ∀ a' U, s.WarmedH U.vm → (Cond.initialized y.cls).before a' U = true) :
    vx_Back l R p e below s sargs y len W9 (PreOf R mc ms Pc) (PostOf Qc mc ms free) (vx_Post XC mc ms free) := by
  intro m meth c A g ig mk a X hg hsize hdg hW hn hp
  have h1 : (headSpec ws rm).pre.before a A.U = true := atoms_intro fun w hw => hws w hw _ _ X.warmed
  have h2 : (Cond.codeWith y bytes maxL ret hh).before a A.U = true := hws _ hcode _ _ X.warmed
  have h3 : (Cond.initialized y.cls).before a A.U = true := hinit _ _ X.warmed
  have h4 : A.cells + (headSpec ws rm).room.cells ≤ R.cells := by rw [show (headSpec ws rm).room.cells = mc from hrc]; exact hp.1
  have h5 : A.slots + (headSpec ws rm).room.slots ≤ R.slots := by rw [show (headSpec ws rm).room.slots = ms from hrs]; exact hp.2.1
  have hPc : Pc a (A.U.calling g mk a) := hblind _ _ _ _ hp.2.2
  obtain ⟨U, Ls, c0, s0⟩ := A
  dsimp only [Pt.U, Pt.locs, Pt.cells, Pt.slots] at h1 h2 h3 h4 h5 X hn hPc ⊢
  obtain ⟨m9, methY, cY, hn9, hmY, hcY, -, hlY, -⟩ := Cond.codeWith_spec h2
  cases Option.some.inj (hn9.symm.trans hn)
  obtain ⟨kY, hkY, -⟩ := className_of_methodNamed hn
  have hinitY : kY.init = .initialized := Cond.initialized_spec (findClass_of_methodNamed hn) hkY h3
  have h : At U g.method c below := by rw [hg]; exact X.here
  have hlocals9 : W9 + (maxL + 11) + (headSpec ws rm).room.locals ≤ R.locals := hlocals
  have happ : (headSpec ws rm).appliesLoose y e.platform (U.calling g mk a) = true :=
    Spec.appliesLoose_calling (g := g) h hdg hn hkY hinitY
      (X.room_calling (g := g) (R' := (headSpec ws rm).room) hsize hmY hcY hframes (by rw [hlY]; omega) h4 h5) h1
  obtain ⟨mid, hmid⟩ := h.above
  have hfr : (U.setTop g).frames = (.java g :: mid) ++ below := by rw [State.frames_setTop' g h.top, hmid]; rfl
  obtain ⟨o, s₂, hsteps, -, hend, hq⟩ := Steps.callFree hM p X.admits X.cas X.clock (acts := []) hfr happ hPc trivial
  have hq' : vx_Q Qc XC mc ms free a (U.calling g mk a) o s₂ := hq
  rw [State.frames_setTop' g h.top] at hend
  obtain ⟨g₀, hg0⟩ := Option.isSome_iff_exists.mp h.top
  obtain ⟨r, hr⟩ := State.topJava?_eq_some.mp hg0
  have hr' : (({ U with heap := s₂.heap, slotsUsed := s₂.slotsUsed } : State).setVm s₂.vm).frames = .java g₀ :: r := hr
  rcases hq' with ⟨hqc, L, hfe, hL⟩ | ⟨q, rfl, E, ce, L, hx, hce, hcv, hcl, hW₂, hsm, hL⟩
  · obtain ⟨⟨v, rfl⟩, hW₂, e2, q2, q3, q4, q5, q6⟩ := id hfe
    have e3 : s₂ = ({ (U.calling g mk a).setFrames s₂.frames with heap := s₂.heap, slotsUsed := s₂.slotsUsed } : State).setVm s₂.vm := by
      have : s₂ = ({ s₂ with vm := (U.calling g mk a).vm } : State).setVm s₂.vm := rfl
      rw [e2] at this
      exact this
    obtain ⟨c₂, i₂, len₂, hc₂, hd₂, hf₂⟩ := hend
    have hW' : U.WarmedH s₂.vm := hW₂
    have hcc : c₂ = c := by
      have h1 : s₂.code? g.method = U.code? g.method := by
        rw [State.code?_eq, State.code?_eq, hW'.alike.method?]
      exact Option.some.inj (hc₂.symm.trans (h1.trans h.code))
    subst hcc
    have hlen : len₂ = len := by rw [hdg] at hd₂; cases hd₂; rfl
    subst hlen
    have hs₂ : s₂ = (({ U with heap := s₂.heap, slotsUsed := s₂.slotsUsed } : State).setVm s₂.vm).setTop { g with pc := g.pc + len₂, stack := v.toList ++ g.stack } := by
      refine e3.trans ?_
      rw [hf₂, State.calling_eq h.top, State.setFrames_setFrames, State.setTop_of_frames _ hr', hr]
      rfl
    have hsame : U.sameButNew ({ U with heap := s₂.heap, slotsUsed := s₂.slotsUsed } : State) L mc ms := by
      refine ⟨?_, q2, q3, q4, q5, q6⟩
      obtain ⟨t, ht, -⟩ := State.frames_cons hr
      show ({ U with heap := s₂.heap, slotsUsed := s₂.slotsUsed } : State) = { U.setFrames U.frames with heap := s₂.heap, slotsUsed := s₂.slotsUsed }
      rw [State.setFrames_self ht]
    subst hg
    refine Or.inl ⟨v, ⟨(({ U with heap := s₂.heap, slotsUsed := s₂.slotsUsed } : State).setVm s₂.vm), Ls ++ L, c0 + mc, s0 + ms⟩,
      ⟨X.admits, X.cas, X.clock, X.frames, X.room, X.hears, X.method, X.code, (X.here.setHeapUsed s₂.heap s₂.slotsUsed).setVm hW'.alike, X.tail, State.WarmedH.trans X.warmed hW', X.limits, X.bytes, X.same.trans (hsame.setVm s.vm)⟩,
      ⟨g, mk, s₂, L, rfl, rfl, hqc, rfl, hL, rfl, rfl⟩, ?_⟩
    show Steps p.tables e below _ ((({ U with heap := s₂.heap, slotsUsed := s₂.slotsUsed } : State).setVm s₂.vm).setTop { g with pc := g.pc + len₂, stack := v.toList ++ g.stack })
    rw [← hs₂]
    exact hsteps
  · obtain ⟨e2, q2, q3, q4, q5, q6⟩ := id hsm
    have e3 : s₂ = ({ (U.calling g mk a).setFrames s₂.frames with heap := s₂.heap, slotsUsed := s₂.slotsUsed } : State).setVm s₂.vm := by
      have : s₂ = ({ s₂ with vm := (U.calling g mk a).vm } : State).setVm s₂.vm := rfl
      rw [e2] at this
      exact this
    have hf₂ : s₂.frames = .throwing q :: .java g :: U.frames.tail := hend
    have hW' : U.WarmedH s₂.vm := hW₂
    have hs₂ : s₂ = ((({ U with heap := s₂.heap, slotsUsed := s₂.slotsUsed } : State).setVm s₂.vm).setTop g).pushFrame (.throwing q) := by
      refine e3.trans ?_
      rw [hf₂, State.calling_eq h.top, State.setFrames_setFrames, State.pushFrame, State.frames_setTop _ hr', State.setTop_of_frames _ hr', State.setFrames_setFrames, hr]
      rfl
    have hsame : U.sameButNew ({ U with heap := s₂.heap, slotsUsed := s₂.slotsUsed } : State) L mc ms := by
      refine ⟨?_, q2, q3, q4, q5, q6⟩
      obtain ⟨t, ht, -⟩ := State.frames_cons hr
      show ({ U with heap := s₂.heap, slotsUsed := s₂.slotsUsed } : State) = { U.setFrames U.frames with heap := s₂.heap, slotsUsed := s₂.slotsUsed }
      rw [State.setFrames_self ht]
    subst hg
    refine Or.inr ⟨q, ⟨(({ U with heap := s₂.heap, slotsUsed := s₂.slotsUsed } : State).setVm s₂.vm), Ls ++ L, c0 + mc, s0 + ms⟩,
      ⟨X.admits, X.cas, X.clock, X.frames, X.room, X.hears, X.method, X.code, (X.here.setHeapUsed s₂.heap s₂.slotsUsed).setVm hW'.alike, X.tail, State.WarmedH.trans X.warmed hW', X.limits, X.bytes, X.same.trans (hsame.setVm s.vm)⟩,
      ⟨g, mk, s₂, L, E, ce, rfl, rfl, hx, hce, hcv, hcl, rfl, hL, rfl, rfl⟩, ?_⟩
    show Steps p.tables e below _ (((({ U with heap := s₂.heap, slotsUsed := s₂.slotsUsed } : State).setVm s₂.vm).setTop g).pushFrame (.throwing q))
    rw [← hs₂]
    exact hsteps
end
variable {p : Program} {l : Launch} {e : Env} {R : Room} {s : State} {m : MethodId} {args : Array Value} {below : List Frame} {meth : Method} {c : Code} {T : State} {H : Heap} {locs : List Loc} {cells slots : Nat}
theorem vx_callVX (X : Stand p l e R s m args below meth c T locs cells slots) (hexec : p.tables.exec = Jvm.exec) {own C : String} {index : Nat} {y : MethodName} {bytes : ByteArray} {maxL : Nat} {ret : Option FieldType} {hh : List (Nat × Nat × Nat × Nat)}
    (hown : s.vm.findClass own = some m.cls) (hlink : (Cond.methodLink own index y).before args s = true) (hinst : (Cond.instanceMethod y).before args s = true) (hsel : (Cond.selects C y y).before args s = true)
    (hcode : (Cond.codeWith y bytes maxL ret hh).before args s = true) (hy : y.cls ≠ "java/lang/invoke/MethodHandle" ∧ y.cls ≠ "java/lang/invoke/VarHandle")
    {W9 : Nat} {Pre : Pt → Array Value → Prop} {Post : Pt → Array Value → Option Value → Pt → Prop} {PostX : Pt → Array Value → Addr → Pt → Prop} (hK : vx_Back l R p e below s args y 3 W9 Pre Post PostX)
    {b : Addr} {cellB : Cell} (hcell : T.heap[b]? = some cellB) (hobj : cellB.vm.isStatics = false) (hcls : s.vm.findClass C = some cellB.cls)
    {g : JFrame} (hg : g.method = m) (hsize : g.locals.size = c.maxLocals) {argsL rest : List Value} (hlen : ∀ sig, parseMethodDescriptor y.desc = some sig → argsL.length = sig.parameters.length)
    (hstack : g.stack = argsL.reverse ++ .ref b :: rest) (hW : 2 * g.monitorRoom + (rest.map fun v => v.category).sum ≤ W9) (hdg : decode c.code g.pc = .ok (.invokevirtual index, 3))
    (hpre : ∀ vm₁, s.WarmedH vm₁ → Pre ⟨T.setVm vm₁, locs, cells, slots⟩ (Value.ref b :: argsL).toArray) :
    (∃ (v : Option Value) (vm₁ : Vm) (B : Pt), s.WarmedH vm₁ ∧ Stand p l e R s m args below meth c B.U B.locs B.cells B.slots ∧ Post ⟨T.setVm vm₁, locs, cells, slots⟩ (Value.ref b :: argsL).toArray v B ∧
      ∀ target, Steps p.tables e below (B.U.setTop { g with pc := g.pc + 3, stack := v.toList ++ rest }) target → Steps p.tables e below (T.setTop g) target) ∨
    (∃ (q : Addr) (vm₁ : Vm) (B : Pt), s.WarmedH vm₁ ∧ Stand p l e R s m args below meth c B.U B.locs B.cells B.slots ∧ PostX ⟨T.setVm vm₁, locs, cells, slots⟩ (Value.ref b :: argsL).toArray q B ∧
      Steps p.tables e below (T.setTop g) ((B.U.setTop { g with stack := rest }).pushFrame (.throwing q))) := by
  obtain ⟨mk, methM, hnamed, hmethM, hstM, habM⟩ := Cond.instanceMethod_spec hinst
  obtain ⟨m8, methM', cM, hn8, hmethM', -, -, -, -, -, -, hsigM⟩ := Cond.codeWith_spec hcode
  cases Option.some.inj (hn8.symm.trans hnamed)
  cases hmethM.symm.trans hmethM'
  obtain ⟨c2, r2, m2, q1, q2, q3, q4, kP, hkP, hkPi⟩ := Cond.selects_spec hsel
  cases hcls.symm.trans q1
  cases (State.methodFound?_of_named hnamed hy).symm.trans q2
  cases hnamed.symm.trans q3
  have hselP : selectMethod e.platform s.vm cellB.cls mk = .method mk := by rw [Launch.admits_selectMethod X.admits]; exact q4
  obtain ⟨vm₁, X₁, hstep₁⟩ := X.invokevirtual hexec hown hlink hnamed hmethM hstM hkP hkPi hy (a := b) (cell := cellB) hcell
    (fun z h => by rw [h] at hobj; cases hobj) hselP hmethM habM hkP hkPi (g := g) hg (argsL := argsL) (rest := rest) (hlen _ hsigM) hstack hdg
  rcases hK m meth c ⟨T.setVm vm₁, locs, cells, slots⟩ { g with stack := rest } (.invokevirtual index) mk (Value.ref b :: argsL).toArray X₁ hg hsize hdg hW (X₁.named hnamed) (hpre vm₁ X₁.warmed) with ⟨v, B, X', hpost, hsteps⟩ | ⟨q, B, X', hpost, hsteps⟩
  · exact Or.inl ⟨v, vm₁, B, X₁.warmed, X', hpost, fun target h => hstep₁ _ fun acts => by rw [doInvoke_state]; exact hsteps.trans h⟩
  · exact Or.inr ⟨q, vm₁, B, X₁.warmed, X', hpost, hstep₁ _ fun acts => by rw [doInvoke_state]; exact hsteps⟩
theorem vx_callSX (X : Stand p l e R s m args below meth c T locs cells slots) (hexec : p.tables.exec = Jvm.exec) {own : String} {index : Nat} {y : MethodName} {bytes : ByteArray} {maxL : Nat} {ret : Option FieldType} {hh : List (Nat × Nat × Nat × Nat)}
    (hown : s.vm.findClass own = some m.cls) (hlink : (Cond.methodLink own index y).before args s = true) (hstat : (Cond.static y).before args s = true) (hinit : (Cond.initialized y.cls).before args s = true)
    (hcode : (Cond.codeWith y bytes maxL ret hh).before args s = true) (hy : y.cls ≠ "java/lang/invoke/MethodHandle" ∧ y.cls ≠ "java/lang/invoke/VarHandle")
    {W9 : Nat} {Pre : Pt → Array Value → Prop} {Post : Pt → Array Value → Option Value → Pt → Prop} {PostX : Pt → Array Value → Addr → Pt → Prop} (hK : vx_Back l R p e below s args y 3 W9 Pre Post PostX)
    {g : JFrame} (hg : g.method = m) (hsize : g.locals.size = c.maxLocals) {argsL rest : List Value} (hlen : ∀ sig, parseMethodDescriptor y.desc = some sig → argsL.length = sig.parameters.length)
    (hstack : g.stack = argsL.reverse ++ rest) (hW : 2 * g.monitorRoom + (rest.map fun v => v.category).sum ≤ W9) (hdg : decode c.code g.pc = .ok (.invokestatic index, 3))
    (hpre : ∀ vm₁, s.WarmedH vm₁ → Pre ⟨T.setVm vm₁, locs, cells, slots⟩ argsL.toArray) :
    (∃ (v : Option Value) (vm₁ : Vm) (B : Pt), s.WarmedH vm₁ ∧ Stand p l e R s m args below meth c B.U B.locs B.cells B.slots ∧ Post ⟨T.setVm vm₁, locs, cells, slots⟩ argsL.toArray v B ∧
      ∀ target, Steps p.tables e below (B.U.setTop { g with pc := g.pc + 3, stack := v.toList ++ rest }) target → Steps p.tables e below (T.setTop g) target) ∨
    (∃ (q : Addr) (vm₁ : Vm) (B : Pt), s.WarmedH vm₁ ∧ Stand p l e R s m args below meth c B.U B.locs B.cells B.slots ∧ PostX ⟨T.setVm vm₁, locs, cells, slots⟩ argsL.toArray q B ∧
      Steps p.tables e below (T.setTop g) ((B.U.setTop { g with stack := rest }).pushFrame (.throwing q))) := by
  obtain ⟨mk, methM, cM, hnamed, hmethM, -, -, -, -, -, -, hsigM⟩ := Cond.codeWith_spec hcode
  have hstatic : methM.isStatic = true := Cond.static_spec hnamed hmethM hstat
  obtain ⟨kP, hkP, -⟩ := className_of_methodNamed hnamed
  have hinitP : kP.init = .initialized := Cond.initialized_spec (findClass_of_methodNamed hnamed) hkP hinit
  obtain ⟨vm₁, X₁, hstep₁⟩ := X.invokestatic hexec hown hlink hnamed hmethM hstatic hkP hinitP hy (g := g) hg (argsL := argsL) (rest := rest) (hlen _ hsigM) hstack hdg
  rcases hK m meth c ⟨T.setVm vm₁, locs, cells, slots⟩ { g with stack := rest } (.invokestatic index) mk argsL.toArray X₁ hg hsize hdg hW (X₁.named hnamed) (hpre vm₁ X₁.warmed) with ⟨v, B, X', hpost, hsteps⟩ | ⟨q, B, X', hpost, hsteps⟩
  · exact Or.inl ⟨v, vm₁, B, X₁.warmed, X', hpost, fun target h => hstep₁ _ fun acts => by rw [doInvoke_state]; exact hsteps.trans h⟩
  · exact Or.inr ⟨q, vm₁, B, X₁.warmed, X', hpost, hstep₁ _ fun acts => by rw [doInvoke_state]; exact hsteps⟩
theorem vx_callVW (X : Stand p l e R s m args below meth c T locs cells slots) (hexec : p.tables.exec = Jvm.exec) {own C : String} {index : Nat} {y : MethodName} {bytes : ByteArray} {maxL : Nat} {ret : Option FieldType} {hh : List (Nat × Nat × Nat × Nat)}
    (hown : s.vm.findClass own = some m.cls) (hlink : (Cond.methodLink own index y).before args s = true) (hinst : (Cond.instanceMethod y).before args s = true) (hsel : (Cond.selects C y y).before args s = true)
    (hcode : (Cond.codeWith y bytes maxL ret hh).before args s = true) (hy : y.cls ≠ "java/lang/invoke/MethodHandle" ∧ y.cls ≠ "java/lang/invoke/VarHandle")
    {W9 : Nat} {Pre : Pt → Array Value → Prop} {Post : Pt → Array Value → Option Value → Pt → Prop} (hK : Back l R p e below s args y 3 W9 Pre Post)
    {b : Addr} {cellB : Cell} (hcell : T.heap[b]? = some cellB) (hobj : cellB.vm.isStatics = false) (hcls : s.vm.findClass C = some cellB.cls)
    {g : JFrame} (hg : g.method = m) (hsize : g.locals.size = c.maxLocals) {argsL rest : List Value} (hlen : ∀ sig, parseMethodDescriptor y.desc = some sig → argsL.length = sig.parameters.length)
    (hstack : g.stack = argsL.reverse ++ .ref b :: rest) (hW : 2 * g.monitorRoom + (rest.map fun v => v.category).sum ≤ W9) (hdg : decode c.code g.pc = .ok (.invokevirtual index, 3))
    (hpre : ∀ vm₁, s.WarmedH vm₁ → Pre ⟨T.setVm vm₁, locs, cells, slots⟩ (Value.ref b :: argsL).toArray) :
    ∃ (v : Option Value) (vm₁ : Vm) (B : Pt), s.WarmedH vm₁ ∧ Stand p l e R s m args below meth c B.U B.locs B.cells B.slots ∧ Post ⟨T.setVm vm₁, locs, cells, slots⟩ (Value.ref b :: argsL).toArray v B ∧
      ∀ target, Steps p.tables e below (B.U.setTop { g with pc := g.pc + 3, stack := v.toList ++ rest }) target → Steps p.tables e below (T.setTop g) target := by
  obtain ⟨mk, methM, hnamed, hmethM, hstM, habM⟩ := Cond.instanceMethod_spec hinst
  obtain ⟨m8, methM', cM, hn8, hmethM', -, -, -, -, -, -, hsigM⟩ := Cond.codeWith_spec hcode
  cases Option.some.inj (hn8.symm.trans hnamed)
  cases hmethM.symm.trans hmethM'
  obtain ⟨c2, r2, m2, q1, q2, q3, q4, kP, hkP, hkPi⟩ := Cond.selects_spec hsel
  cases hcls.symm.trans q1
  cases (State.methodFound?_of_named hnamed hy).symm.trans q2
  cases hnamed.symm.trans q3
  have hselP : selectMethod e.platform s.vm cellB.cls mk = .method mk := by rw [Launch.admits_selectMethod X.admits]; exact q4
  obtain ⟨vm₁, X₁, hstep₁⟩ := X.invokevirtual hexec hown hlink hnamed hmethM hstM hkP hkPi hy (a := b) (cell := cellB) hcell
    (fun z h => by rw [h] at hobj; cases hobj) hselP hmethM habM hkP hkPi (g := g) hg (argsL := argsL) (rest := rest) (hlen _ hsigM) hstack hdg
  obtain ⟨v, B, X', hpost, hsteps⟩ := hK m meth c ⟨T.setVm vm₁, locs, cells, slots⟩ { g with stack := rest } (.invokevirtual index) mk (Value.ref b :: argsL).toArray X₁ hg hsize hdg hW (X₁.named hnamed) (hpre vm₁ X₁.warmed)
  exact ⟨v, vm₁, B, X₁.warmed, X', hpost, fun target h => hstep₁ _ fun acts => by rw [doInvoke_state]; exact hsteps.trans h⟩
abbrev vx_CVW (R : Room) (s : State) (args : Array Value) (own C : String) (index : Nat) (y : MethodName) (bytes : ByteArray) (maxL : Nat) (ret : Option FieldType) (hh : List (Nat × Nat × Nat × Nat)) (ws : List Cond) (rm : Room) (mc ms n : Nat) : Prop :=
  (rm.cells = mc ∧ rm.slots = ms ∧ rm.frames + 1 ≤ R.frames ∧ 8 + (maxL + 11) + rm.locals ≤ R.locals ∧ (∀ w ∈ ws, ∀ (a' : Array Value) (U : State), s.WarmedH U.vm → w.before a' U = true) ∧ Cond.codeWith y bytes maxL ret hh ∈ ws) ∧
  (Cond.codeWith y bytes maxL ret hh).before args s = true ∧ (Cond.initialized y.cls).before args s = true ∧ (y.cls ≠ "java/lang/invoke/MethodHandle" ∧ y.cls ≠ "java/lang/invoke/VarHandle") ∧
  (∀ sig, parseMethodDescriptor y.desc = some sig → n = sig.parameters.length) ∧ (Cond.methodLink own index y).before args s = true ∧ (Cond.instanceMethod y).before args s = true ∧ (Cond.selects C y y).before args s = true
theorem vx_cwVW {own C : String} {index maxL mc ms : Nat} {y : MethodName} {bytes : ByteArray} {ret : Option FieldType} {hh : List (Nat × Nat × Nat × Nat)} {Ts ws ws' : List Cond} {rm : Room} (n : Nat) (ht : ∀ w ∈ Ts, w.before args s = true) (hT : GoodIn Ts (wsV own index C y ws)) (hw : ws = Cond.codeWith y bytes maxL ret hh :: ws') (hrc : rm.cells = mc) (hrs : rm.slots = ms)
    (hd : y.cls = C ∧ y.cls ≠ "java/lang/invoke/MethodHandle" ∧ y.cls ≠ "java/lang/invoke/VarHandle" ∧ (parseMethodDescriptor y.desc).map (fun d => d.parameters.length) = some n) (hR : rm.frames + 1 ≤ R.frames ∧ 8 + (maxL + 11) + rm.locals ≤ R.locals) :
    vx_CVW R s args own C index y bytes maxL ret hh ws rm mc ms n := by
  obtain ⟨hC, hd⟩ := hd
  subst hC
  have ok : ∀ w ∈ wsV own index y.cls y ws, w.before args s = true := fun w h => ht w (hT w h).1
  have hG : GoodIn Ts ws := fun w h => hT w (by unfold wsV; exact List.mem_append_right _ h)
  have hc : Cond.codeWith y bytes maxL ret hh ∈ ws := by rw [hw]; exact List.mem_cons_self
  refine ⟨⟨hrc, hrs, hR.1, hR.2, pay_in ht hG, hc⟩, ht _ (hG _ hc).1, ok _ (by simp [wsV]), ⟨hd.1, hd.2.1⟩, fun sig h => ?_, ok _ (by simp [wsV]), ok _ (by simp [wsV]), ok _ (by simp [wsV])⟩
  have h2 := hd.2.2
  rw [h] at h2
  exact (Option.some.inj h2).symm
theorem vx_runVW {y : MethodName} {bytes cc : ByteArray} {maxL nL mc ms n index : Nat} {ret : Option FieldType} {hh : List (Nat × Nat × Nat × Nat)} {ws : List Cond} {rm : Room} {Pc : Array Value → State → Prop} {Qc : Array Value → State → Outcome → State → Prop} {free : Addr → Prop} {Ts : List Cond} {own C : String} {b : Addr} {As rest : List Value} {g : JFrame}
    (S : CallFix p m c cc nL s args Ts own) (hM : Met l y ws rm Pc Qc mc ms free) (cw : vx_CVW R s args own C index y bytes maxL ret hh ws rm mc ms n) (hp : PreV s H C b Pc As)
    (hg : g.method = m) (hn : As.length = n) (hsize : g.locals.size = nL) (hstack : g.stack = As.reverse ++ .ref b :: rest) (hW : 2 * g.monitorRoom + (rest.map fun v => v.category).sum ≤ 8) (hdg : decode cc g.pc = .ok (.invokevirtual index, 3)) (hf : cells + mc ≤ R.cells ∧ slots + ms ≤ R.slots) :
    va_Run p l e R s m args below meth c H locs cells slots mc ms g rest (Qc (Value.ref b :: As).toArray) free := by
  obtain ⟨⟨hrc, hrs, hfr, hlo, hws, hcw⟩, hcode, hini, hy, hlen, hl, hin, hse⟩ := cw
  have hK : Back l R p e below s args y 3 8 (PreOf R mc ms Pc) (PostOf Qc mc ms free) := va_backW (hh := hh) (bytes := bytes) (maxL := maxL) (ret := ret) hM hp.1 hrc hrs hfr hlo hws hcw (fun a' U hW => word_at hW (Or.inl (by first | rfl | simp [Cond.onTables, Cond.keeps, Cond.steady])) hini)
  obtain ⟨hx, hb, hml, ho, -⟩ := S
  obtain ⟨-, ⟨cellB, hcB, hoB, hclB⟩, hPc⟩ := hp
  intro T hT X
  obtain ⟨v, vm₁, ⟨U', l2, c2, s2⟩, hW₁, X', ⟨g', mk, t, L, e1, e2, hq, h1, hL, h2, h3⟩, st⟩ := vx_callVW X hx (C := C) (hh := hh) (bytes := bytes) (maxL := maxL) (ret := ret) ho hl hin hse hcode hy hK (by rw [hT]; exact hcB) hoB hclB hg (hsize.trans hml.symm) (argsL := As) (rest := rest) (fun sig h => hn.trans (hlen sig h)) hstack hW (by rw [hb]; exact hdg)
    (fun vm₁ hW₁ => ⟨hf.1, hf.2, hPc (T.setVm vm₁) hT hW₁⟩)
  dsimp only [Pt.U, Pt.locs, Pt.cells, Pt.slots] at X' e1 e2 h1 h2 h3 st
  subst h1; subst h2; subst h3
  exact ⟨v, (T.setVm vm₁).calling g' mk (Value.ref b :: As).toArray, t, U', L, hT, X', hL, e1, e2, hq, st⟩
section
variable {y : MethodName} {bytes cc : ByteArray} {maxL nL mc ms n index : Nat} {ret : Option FieldType} {ws : List Cond} {rm : Room} {Pc : Array Value → State → Prop} {Qc : Array Value → State → Outcome → State → Prop} {XC : String → State → State → Prop} {free : Addr → Prop} {Ts : List Cond} {own C : String} {b : Addr} {As rest : List Value} {g : JFrame}
theorem vx_runVX {hh : List (Nat × Nat × Nat × Nat)} (S : CallFix p m c cc nL s args Ts own) (hM : vx_Met l y ws rm Pc Qc XC mc ms free) (cw : vx_CVW R s args own C index y bytes maxL ret hh ws rm mc ms n) (hp : PreV s H C b Pc As)
    (hg : g.method = m) (hn : As.length = n) (hsize : g.locals.size = nL) (hstack : g.stack = As.reverse ++ .ref b :: rest) (hW : 2 * g.monitorRoom + (rest.map fun v => v.category).sum ≤ 8) (hdg : decode cc g.pc = .ok (.invokevirtual index, 3)) (hf : cells + mc ≤ R.cells ∧ slots + ms ≤ R.slots) :
    vx_Run p l e R s m args below meth c H locs cells slots mc ms g rest (Qc (Value.ref b :: As).toArray) XC free := by
  obtain ⟨⟨hrc, hrs, hfr, hlo, hws, hcw⟩, hcode, hini, hy, hlen, hl, hin, hse⟩ := cw
  have hK : vx_Back l R p e below s args y 3 8 (PreOf R mc ms Pc) (PostOf Qc mc ms free) (vx_Post XC mc ms free) := vx_backW (hh := hh) (bytes := bytes) (maxL := maxL) (ret := ret) hM hp.1 hrc hrs hfr hlo hws hcw (fun a' U hW => word_at hW (Or.inl (by first | rfl | simp [Cond.onTables, Cond.keeps, Cond.steady])) hini)
  obtain ⟨hx, hb, hml, ho, -⟩ := S
  obtain ⟨-, ⟨cellB, hcB, hoB, hclB⟩, hPc⟩ := hp
  intro T hT X
  rcases vx_callVX X hx (C := C) (hh := hh) (bytes := bytes) (maxL := maxL) (ret := ret) ho hl hin hse hcode hy hK (by rw [hT]; exact hcB) hoB hclB hg (hsize.trans hml.symm) (argsL := As) (rest := rest) (fun sig h => hn.trans (hlen sig h)) hstack hW (by rw [hb]; exact hdg)
    (fun vm₁ hW₁ => ⟨hf.1, hf.2, hPc (T.setVm vm₁) hT hW₁⟩) with ⟨v, vm₁, ⟨U', l2, c2, s2⟩, hW₁, X', ⟨g', mk, t, L, e1, e2, hq, h1, hL, h2, h3⟩, st⟩ | ⟨q, vm₁, ⟨U', l2, c2, s2⟩, hW₁, X', ⟨g', mk, t, L, E, ce, e1, e2, hq, hce, hcv, hcl, h1, hL, h2, h3⟩, st⟩
  · dsimp only [Pt.U, Pt.locs, Pt.cells, Pt.slots] at X' e1 e2 h1 h2 h3 st
    subst h1; subst h2; subst h3
    exact Or.inl ⟨v, (T.setVm vm₁).calling g' mk (Value.ref b :: As).toArray, t, U', L, hT, X', hL, e1, e2, hq, st⟩
  · dsimp only [Pt.U, Pt.locs, Pt.cells, Pt.slots] at X' e1 e2 h1 h2 h3 st hcl
    subst h1; subst h2; subst h3
    exact Or.inr ⟨q, (T.setVm vm₁).calling g' mk (Value.ref b :: As).toArray, t, U', L, E, ce, hT, X', hL, e1, e2, hq, hce, hcv, vx_cls hW₁ hcl, st⟩
theorem vx_runSX {hh : List (Nat × Nat × Nat × Nat)} (S : CallFix p m c cc nL s args Ts own) (hM : vx_Met l y ws rm Pc Qc XC mc ms free) (cw : vx_CSW R s args own index y bytes maxL ret hh ws rm mc ms n) (hp : PreS s H Pc As)
    (hg : g.method = m) (hn : As.length = n) (hsize : g.locals.size = nL) (hstack : g.stack = As.reverse ++ rest) (hW : 2 * g.monitorRoom + (rest.map fun v => v.category).sum ≤ 8) (hdg : decode cc g.pc = .ok (.invokestatic index, 3)) (hf : cells + mc ≤ R.cells ∧ slots + ms ≤ R.slots) :
    vx_Run p l e R s m args below meth c H locs cells slots mc ms g rest (Qc As.toArray) XC free := by
  obtain ⟨⟨hrc, hrs, hfr, hlo, hws, hcw⟩, hcode, hini, hy, hlen, hl, hstt⟩ := cw
  have hK : vx_Back l R p e below s args y 3 8 (PreOf R mc ms Pc) (PostOf Qc mc ms free) (vx_Post XC mc ms free) := vx_backW (hh := hh) (bytes := bytes) (maxL := maxL) (ret := ret) hM hp.1 hrc hrs hfr hlo hws hcw (fun a' U hW => word_at hW (Or.inl (by first | rfl | simp [Cond.onTables, Cond.keeps, Cond.steady])) hini)
  obtain ⟨hx, hb, hml, ho, -⟩ := S
  intro T hT X
  rcases vx_callSX X hx (hh := hh) (bytes := bytes) (maxL := maxL) (ret := ret) ho hl hstt hini hcode hy hK hg (hsize.trans hml.symm) (argsL := As) (rest := rest) (fun sig h => hn.trans (hlen sig h)) hstack hW (by rw [hb]; exact hdg)
    (fun vm₁ hW₁ => ⟨hf.1, hf.2, hp.2 (T.setVm vm₁) hT hW₁⟩) with ⟨v, vm₁, ⟨U', l2, c2, s2⟩, hW₁, X', ⟨g', mk, t, L, e1, e2, hq, h1, hL, h2, h3⟩, st⟩ | ⟨q, vm₁, ⟨U', l2, c2, s2⟩, hW₁, X', ⟨g', mk, t, L, E, ce, e1, e2, hq, hce, hcv, hcl, h1, hL, h2, h3⟩, st⟩
  · dsimp only [Pt.U, Pt.locs, Pt.cells, Pt.slots] at X' e1 e2 h1 h2 h3 st
    subst h1; subst h2; subst h3
    exact Or.inl ⟨v, (T.setVm vm₁).calling g' mk As.toArray, t, U', L, hT, X', hL, e1, e2, hq, st⟩
  · dsimp only [Pt.U, Pt.locs, Pt.cells, Pt.slots] at X' e1 e2 h1 h2 h3 st hcl
    subst h1; subst h2; subst h3
    exact Or.inr ⟨q, (T.setVm vm₁).calling g' mk As.toArray, t, U', L, E, ce, hT, X', hL, e1, e2, hq, hce, hcv, vx_cls hW₁ hcl, st⟩
end
end VXH
theorem vx_ofWH {l : Launch} {y : MethodName} {ws ws' : List Cond} {rm : Room} {Pc : Array Value → State → Prop} {Qc : Array Value → State → Outcome → State → Prop} {XC : String → State → State → Prop} {mc ms : Nat} {free : Addr → Prop} {cc : ByteArray} {maxL : Nat} {ret : Option FieldType} {hh : List (Nat × Nat × Nat × Nat)}
    (hy : plainName y.cls = true) (hw : ws = Cond.codeWith y cc maxL ret hh :: ws')
    (body : ∀ p e s m args below meth c s₁, BodyLoose p l y (headSpec ws rm) cc maxL ret e s m args below meth c s₁ → c.maxLocals = maxL → Pc args s →
      W p l e (headSpec ws rm).room s m args below meth c s.heap [] 0 0 (vx_MQ below Qc XC args s mc ms free) (entryFrame m args maxL)) : vx_Met l y ws rm Pc Qc XC mc ms free := by
  refine MetFree.of_bodyS (code := cc) (maxLocals := maxL) (ret := ret) hy ?_ ?_
  · intro args s m h hn
    obtain ⟨m9, meth, c, hn9, h1, h2, h3, h4, -, h5, h6, -⟩ := Cond.codeWith_spec (atoms_spec (ws := ws) h _ (by rw [hw]; exact List.mem_cons_self))
    cases hn.symm.trans hn9
    exact ⟨meth, c, h1, h2, h3, h4, h5, h6⟩
  · intro p e s m args below meth c s₁ B hml hP _
    have hh0 : s₁.heap = s.heap := by rw [B.state]; rfl
    obtain ⟨t, a1, o, b1, b2, b3⟩ := body p e s m args below meth c s₁ B hml hP s₁ hh0 (Stand.of_body B)
    exact ⟨t, o, a1, b1, b2, b3⟩
/-! ===== END ===== -/
end
section
/-! ===== BEGIN printed: names, fields, word lists, decode rows ===== -/
def RX0 : String := "BlockingShop$CostRule"
def TX0 : u_T := fun k => match k with
  | _ => ("BlockingShop$CostRule", "waiting", "[I", true)
def tyX0 : Nat → FieldType := fun k => match k with
  | _ => .array .int
abbrev wsX00 : List Cond := u_ws RX0 TX0 1
theorem nmX0 : ∀ a, a < 1 → ∀ b, b < 1 → a ≠ b → (TX0 a).2.1 ≠ (TX0 b).2.1 := by decide +kernel
theorem tyX0_ok : ∀ k, k < 1 → parseFieldDescriptor (TX0 k).2.2.1 = some (tyX0 k) := by decide +kernel
abbrev cX0_init : ByteArray := prog_2_method_1_code
def yX0_init : MethodName := ⟨RX0, "<init>", "()V"⟩
abbrev cX0_evaluate : ByteArray := prog_2_method_2_code
def yX0_evaluate : MethodName := ⟨RX0, "evaluate", "(LBlockingShop$Shop;II)I"⟩
abbrev cX0_valueOf : ByteArray := prog_2_method_3_code
def yX0_valueOf : MethodName := ⟨RX0, "valueOf", "(ILBlockingShop$Shop;II)I"⟩
abbrev cX0_apply : ByteArray := prog_2_method_4_code
def yX0_apply : MethodName := ⟨RX0, "apply", "(IJJ)J"⟩
abbrev cX0_limit : ByteArray := prog_2_method_5_code
def yX0_limit : MethodName := ⟨RX0, "limit", "(J)I"⟩
def RX1 : String := "BlockingShop$Plan"
def TX1 : u_T := fun k => match k with
  | 0 => ("BlockingShop$Plan", "shop", "LBlockingShop$Shop;", false)
  | 1 => ("BlockingShop$Plan", "duration", "[I", true)
  | _ => ("BlockingShop$Plan", "order", "[I", true)
def tyX1 : Nat → FieldType := fun k => match k with
  | 0 => .object "BlockingShop$Shop"
  | 1 => .array .int
  | _ => .array .int
abbrev wsX10 : List Cond := u_ws RX1 TX1 3
theorem nmX1 : ∀ a, a < 3 → ∀ b, b < 3 → a ≠ b → (TX1 a).2.1 ≠ (TX1 b).2.1 := by decide +kernel
theorem tyX1_ok : ∀ k, k < 3 → parseFieldDescriptor (TX1 k).2.2.1 = some (tyX1 k) := by decide +kernel
abbrev cX1_init : ByteArray := prog_3_method_1_code
def yX1_init : MethodName := ⟨RX1, "<init>", "(LBlockingShop$Shop;)V"⟩
abbrev cX1_copyFrom : ByteArray := prog_3_method_2_code
def yX1_copyFrom : MethodName := ⟨RX1, "copyFrom", "(LBlockingShop$Plan;)V"⟩
abbrev cX1_begin : ByteArray := prog_3_method_3_code
def yX1_begin : MethodName := ⟨RX1, "begin", "(LBlockingShop$Shop;)V"⟩
abbrev cX1_setFirstOrders : ByteArray := prog_3_method_4_code
def yX1_setFirstOrders : MethodName := ⟨RX1, "setFirstOrders", "()V"⟩
abbrev cX1_setFirstOrder : ByteArray := prog_3_method_5_code
def yX1_setFirstOrder : MethodName := ⟨RX1, "setFirstOrder", "(I)V"⟩
abbrev cX1_positionOf : ByteArray := prog_3_method_6_code
def yX1_positionOf : MethodName := ⟨RX1, "positionOf", "(I)I"⟩
abbrev cX1_exchange : ByteArray := prog_3_method_7_code
def yX1_exchange : MethodName := ⟨RX1, "exchange", "(II)V"⟩
abbrev cX1_move : ByteArray := prog_3_method_8_code
def yX1_move : MethodName := ⟨RX1, "move", "(III)V"⟩
def RX2 : String := "BlockingShop$Schedule"
def TX2 : u_T := fun k => match k with
  | 0 => ("BlockingShop$Schedule", "plan", "LBlockingShop$Plan;", true)
  | 1 => ("BlockingShop$Schedule", "starts", "[I", true)
  | 2 => ("BlockingShop$Schedule", "arcSource", "[I", true)
  | 3 => ("BlockingShop$Schedule", "arcLength", "[I", true)
  | 4 => ("BlockingShop$Schedule", "settled", "[Z", true)
  | 5 => ("BlockingShop$Schedule", "path", "[I", true)
  | 6 => ("BlockingShop$Schedule", "pathLength", "I", false)
  | _ => ("BlockingShop$Schedule", "costRule", "LBlockingShop$CostRule;", true)
def tyX2 : Nat → FieldType := fun k => match k with
  | 0 => .object "BlockingShop$Plan"
  | 1 => .array .int
  | 2 => .array .int
  | 3 => .array .int
  | 4 => .array .boolean
  | 5 => .array .int
  | 6 => .int
  | _ => .object "BlockingShop$CostRule"
abbrev wsX20 : List Cond := u_ws RX2 TX2 8
theorem nmX2 : ∀ a, a < 8 → ∀ b, b < 8 → a ≠ b → (TX2 a).2.1 ≠ (TX2 b).2.1 := by decide +kernel
theorem tyX2_ok : ∀ k, k < 8 → parseFieldDescriptor (TX2 k).2.2.1 = some (tyX2 k) := by decide +kernel
abbrev cX2_init : ByteArray := prog_4_method_1_code
def yX2_init : MethodName := ⟨RX2, "<init>", "(LBlockingShop$Shop;)V"⟩
abbrev cX2_compute : ByteArray := prog_4_method_2_code
def yX2_compute : MethodName := ⟨RX2, "compute", "()Z"⟩
abbrev cX2_setArcs : ByteArray := prog_4_method_3_code
def yX2_setArcs : MethodName := ⟨RX2, "setArcs", "(I)V"⟩
abbrev cX2_unsettleAll : ByteArray := prog_4_method_4_code
def yX2_unsettleAll : MethodName := ⟨RX2, "unsettleAll", "()I"⟩
abbrev cX2_settleSome : ByteArray := prog_4_method_5_code
def yX2_settleSome : MethodName := ⟨RX2, "settleSome", "()I"⟩
abbrev cX2_isReady : ByteArray := prog_4_method_6_code
def yX2_isReady : MethodName := ⟨RX2, "isReady", "(I)Z"⟩
abbrev cX2_earliestStart : ByteArray := prog_4_method_7_code
def yX2_earliestStart : MethodName := ⟨RX2, "earliestStart", "(I)I"⟩
abbrev cX2_settleRing : ByteArray := prog_4_method_8_code
def yX2_settleRing : MethodName := ⟨RX2, "settleRing", "()I"⟩
abbrev cX2_sizeOfRing : ByteArray := prog_4_method_9_code
def yX2_sizeOfRing : MethodName := ⟨RX2, "sizeOfRing", "(I)I"⟩
abbrev cX2_startTogether : ByteArray := prog_4_method_10_code
def yX2_startTogether : MethodName := ⟨RX2, "startTogether", "(II)V"⟩
abbrev cX2_completedAt : ByteArray := prog_4_method_11_code
def yX2_completedAt : MethodName := ⟨RX2, "completedAt", "(I)I"⟩
abbrev cX2_leaveOf : ByteArray := prog_4_method_12_code
def yX2_leaveOf : MethodName := ⟨RX2, "leaveOf", "(II)I"⟩
abbrev cX2_lastOf : ByteArray := prog_4_method_13_code
def yX2_lastOf : MethodName := ⟨RX2, "lastOf", "(I)I"⟩
abbrev cX2_completionOf : ByteArray := prog_4_method_14_code
def yX2_completionOf : MethodName := ⟨RX2, "completionOf", "(I)I"⟩
abbrev cX2_greatestCompletion : ByteArray := prog_4_method_15_code
def yX2_greatestCompletion : MethodName := ⟨RX2, "greatestCompletion", "()I"⟩
abbrev cX2_costOf : ByteArray := prog_4_method_16_code
def yX2_costOf : MethodName := ⟨RX2, "costOf", "(I)I"⟩
abbrev cX2_costOfAll : ByteArray := prog_4_method_17_code
def yX2_costOfAll : MethodName := ⟨RX2, "costOfAll", "()I"⟩
abbrev cX2_isBetterThan : ByteArray := prog_4_method_18_code
def yX2_isBetterThan : MethodName := ⟨RX2, "isBetterThan", "(II)Z"⟩
abbrev cX2_traceCriticalPath : ByteArray := prog_4_method_19_code
def yX2_traceCriticalPath : MethodName := ⟨RX2, "traceCriticalPath", "()V"⟩
abbrev cX2_criticalEnd : ByteArray := prog_4_method_20_code
def yX2_criticalEnd : MethodName := ⟨RX2, "criticalEnd", "()I"⟩
abbrev cX2_isOnPath : ByteArray := prog_4_method_21_code
def yX2_isOnPath : MethodName := ⟨RX2, "isOnPath", "(I)Z"⟩
abbrev cX2_criticalSource : ByteArray := prog_4_method_22_code
def yX2_criticalSource : MethodName := ⟨RX2, "criticalSource", "(I)I"⟩
abbrev cX2_continuesBlock : ByteArray := prog_4_method_23_code
def yX2_continuesBlock : MethodName := ⟨RX2, "continuesBlock", "(I)Z"⟩
def RX3 : String := "BlockingShop$SetupReader"
def TX3 : u_T := fun k => match k with
  | 0 => ("BlockingShop$SetupReader", "text", "[B", true)
  | 1 => ("BlockingShop$SetupReader", "textLength", "I", false)
  | 2 => ("BlockingShop$SetupReader", "tokenStart", "I", false)
  | 3 => ("BlockingShop$SetupReader", "tokenEnd", "I", false)
  | 4 => ("BlockingShop$SetupReader", "kind", "I", false)
  | 5 => ("BlockingShop$SetupReader", "error", "I", false)
  | 6 => ("BlockingShop$SetupReader", "errorAt", "I", false)
  | 7 => ("BlockingShop$SetupReader", "hasCost", "Z", false)
  | 8 => ("BlockingShop$SetupReader", "cost", "[I", true)
  | _ => ("BlockingShop$SetupReader", "costLength", "I", false)
def tyX3 : Nat → FieldType := fun k => match k with
  | 0 => .array .byte
  | 1 => .int
  | 2 => .int
  | 3 => .int
  | 4 => .int
  | 5 => .int
  | 6 => .int
  | 7 => .boolean
  | 8 => .array .int
  | _ => .int
abbrev wsX30 : List Cond := u_ws RX3 TX3 10
theorem nmX3 : ∀ a, a < 10 → ∀ b, b < 10 → a ≠ b → (TX3 a).2.1 ≠ (TX3 b).2.1 := by decide +kernel
theorem tyX3_ok : ∀ k, k < 10 → parseFieldDescriptor (TX3 k).2.2.1 = some (tyX3 k) := by decide +kernel
abbrev cX3_init : ByteArray := prog_5_method_1_code
def yX3_init : MethodName := ⟨RX3, "<init>", "()V"⟩
abbrev cX3_readInto : ByteArray := prog_5_method_2_code
def yX3_readInto : MethodName := ⟨RX3, "readInto", "(LBlockingShop$Shop;I)V"⟩
abbrev cX3_readHead : ByteArray := prog_5_method_3_code
def yX3_readHead : MethodName := ⟨RX3, "readHead", "(LBlockingShop$Shop;)V"⟩
abbrev cX3_readJob : ByteArray := prog_5_method_4_code
def yX3_readJob : MethodName := ⟨RX3, "readJob", "(LBlockingShop$Shop;)V"⟩
abbrev cX3_readOperation : ByteArray := prog_5_method_5_code
def yX3_readOperation : MethodName := ⟨RX3, "readOperation", "(LBlockingShop$Shop;I)V"⟩
abbrev cX3_needsAlready : ByteArray := prog_5_method_6_code
def yX3_needsAlready : MethodName := ⟨RX3, "needsAlready", "(LBlockingShop$Shop;II)Z"⟩
abbrev cX3_readMachine : ByteArray := prog_5_method_7_code
def yX3_readMachine : MethodName := ⟨RX3, "readMachine", "(LBlockingShop$Shop;)V"⟩
abbrev cX3_readSum : ByteArray := prog_5_method_8_code
def yX3_readSum : MethodName := ⟨RX3, "readSum", "(I)V"⟩
abbrev cX3_readTerm : ByteArray := prog_5_method_9_code
def yX3_readTerm : MethodName := ⟨RX3, "readTerm", "(I)V"⟩
abbrev cX3_readFactor : ByteArray := prog_5_method_10_code
def yX3_readFactor : MethodName := ⟨RX3, "readFactor", "(I)V"⟩
abbrev cX3_readName : ByteArray := prog_5_method_11_code
def yX3_readName : MethodName := ⟨RX3, "readName", "()V"⟩
abbrev cX3_addToCost : ByteArray := prog_5_method_12_code
def yX3_addToCost : MethodName := ⟨RX3, "addToCost", "(I)V"⟩
abbrev cX3_valueOfToken : ByteArray := prog_5_method_13_code
def yX3_valueOfToken : MethodName := ⟨RX3, "valueOfToken", "()I"⟩
abbrev cX3_readNumber : ByteArray := prog_5_method_14_code
def yX3_readNumber : MethodName := ⟨RX3, "readNumber", "(II)I"⟩
abbrev cX3_expectWord : ByteArray := prog_5_method_15_code
def yX3_expectWord : MethodName := ⟨RX3, "expectWord", "(Ljava/lang/String;)V"⟩
abbrev cX3_expect : ByteArray := prog_5_method_16_code
def yX3_expect : MethodName := ⟨RX3, "expect", "(C)V"⟩
abbrev cX3_isWord : ByteArray := prog_5_method_17_code
def yX3_isWord : MethodName := ⟨RX3, "isWord", "(Ljava/lang/String;)Z"⟩
abbrev cX3_fail : ByteArray := prog_5_method_18_code
def yX3_fail : MethodName := ⟨RX3, "fail", "(I)V"⟩
abbrev cX3_next : ByteArray := prog_5_method_19_code
def yX3_next : MethodName := ⟨RX3, "next", "()V"⟩
def RX4 : String := "BlockingShop$Shop"
def TX4 : u_T := fun k => match k with
  | 0 => ("BlockingShop$Shop", "machines", "I", false)
  | 1 => ("BlockingShop$Shop", "jobs", "I", false)
  | 2 => ("BlockingShop$Shop", "swapsAllowed", "Z", false)
  | 3 => ("BlockingShop$Shop", "hasBuffer", "[Z", true)
  | 4 => ("BlockingShop$Shop", "setupTime", "[I", true)
  | 5 => ("BlockingShop$Shop", "users", "[I", true)
  | 6 => ("BlockingShop$Shop", "release", "[I", true)
  | 7 => ("BlockingShop$Shop", "due", "[I", true)
  | 8 => ("BlockingShop$Shop", "weight", "[I", true)
  | 9 => ("BlockingShop$Shop", "operations", "[I", true)
  | 10 => ("BlockingShop$Shop", "machineOf", "[I", true)
  | 11 => ("BlockingShop$Shop", "firstDuration", "[I", true)
  | _ => ("BlockingShop$Shop", "cost", "[I", false)
def tyX4 : Nat → FieldType := fun k => match k with
  | 0 => .int
  | 1 => .int
  | 2 => .boolean
  | 3 => .array .boolean
  | 4 => .array .int
  | 5 => .array .int
  | 6 => .array .int
  | 7 => .array .int
  | 8 => .array .int
  | 9 => .array .int
  | 10 => .array .int
  | 11 => .array .int
  | _ => .array .int
abbrev wsX40 : List Cond := u_ws RX4 TX4 13
theorem nmX4 : ∀ a, a < 13 → ∀ b, b < 13 → a ≠ b → (TX4 a).2.1 ≠ (TX4 b).2.1 := by decide +kernel
theorem tyX4_ok : ∀ k, k < 13 → parseFieldDescriptor (TX4 k).2.2.1 = some (tyX4 k) := by decide +kernel
abbrev cX4_init : ByteArray := prog_6_method_1_code
def yX4_init : MethodName := ⟨RX4, "<init>", "()V"⟩
abbrev cX4_isLast : ByteArray := prog_6_method_2_code
def yX4_isLast : MethodName := ⟨RX4, "isLast", "(I)Z"⟩
def RX5 : String := "BlockingShop"
def TX5 : u_T := fun k => match k with
  | 0 => ("BlockingShop", "reader", "LBlockingShop$SetupReader;", true)
  | 1 => ("BlockingShop", "buffered", "I", false)
  | 2 => ("BlockingShop", "errorAt", "I", false)
  | 3 => ("BlockingShop", "schedule", "LBlockingShop$Schedule;", true)
  | 4 => ("BlockingShop", "plan", "LBlockingShop$Plan;", true)
  | 5 => ("BlockingShop", "trialSchedule", "LBlockingShop$Schedule;", true)
  | 6 => ("BlockingShop", "trialPlan", "LBlockingShop$Plan;", true)
  | 7 => ("BlockingShop", "history", "[LBlockingShop$Plan;", true)
  | 8 => ("BlockingShop", "oldestChange", "I", false)
  | _ => ("BlockingShop", "changes", "I", false)
def tyX5 : Nat → FieldType := fun k => match k with
  | 0 => .object "BlockingShop$SetupReader"
  | 1 => .int
  | 2 => .int
  | 3 => .object "BlockingShop$Schedule"
  | 4 => .object "BlockingShop$Plan"
  | 5 => .object "BlockingShop$Schedule"
  | 6 => .object "BlockingShop$Plan"
  | 7 => .array (.object "BlockingShop$Plan")
  | 8 => .int
  | _ => .int
abbrev wsX50 : List Cond := u_ws RX5 TX5 10
theorem nmX5 : ∀ a, a < 10 → ∀ b, b < 10 → a ≠ b → (TX5 a).2.1 ≠ (TX5 b).2.1 := by decide +kernel
theorem tyX5_ok : ∀ k, k < 10 → parseFieldDescriptor (TX5 k).2.2.1 = some (tyX5 k) := by decide +kernel
abbrev cX5_init : ByteArray := prog_1_method_1_code
def yX5_init : MethodName := ⟨RX5, "<init>", "()V"⟩
abbrev cX5_append : ByteArray := prog_1_method_2_code
def yX5_append : MethodName := ⟨RX5, "append", "(IIIII)I"⟩
abbrev cX5_putWord : ByteArray := prog_1_method_3_code
def yX5_putWord : MethodName := ⟨RX5, "putWord", "(II)V"⟩
abbrev cX5_load : ByteArray := prog_1_method_4_code
def yX5_load : MethodName := ⟨RX5, "load", "(I)I"⟩
abbrev cX5_errorOffset : ByteArray := prog_1_method_5_code
def yX5_errorOffset : MethodName := ⟨RX5, "errorOffset", "()I"⟩
abbrev cX5_machineCount : ByteArray := prog_1_method_6_code
def yX5_machineCount : MethodName := ⟨RX5, "machineCount", "()I"⟩
abbrev cX5_jobCount : ByteArray := prog_1_method_7_code
def yX5_jobCount : MethodName := ⟨RX5, "jobCount", "()I"⟩
abbrev cX5_operationCount : ByteArray := prog_1_method_8_code
def yX5_operationCount : MethodName := ⟨RX5, "operationCount", "(I)I"⟩
abbrev cX5_operation : ByteArray := prog_1_method_9_code
def yX5_operation : MethodName := ⟨RX5, "operation", "(III)I"⟩
abbrev cX5_orderLength : ByteArray := prog_1_method_10_code
def yX5_orderLength : MethodName := ⟨RX5, "orderLength", "(I)I"⟩
abbrev cX5_orderAt : ByteArray := prog_1_method_11_code
def yX5_orderAt : MethodName := ⟨RX5, "orderAt", "(II)I"⟩
abbrev cX5_start : ByteArray := prog_1_method_12_code
def yX5_start : MethodName := ⟨RX5, "start", "(II)I"⟩
abbrev cX5_leave : ByteArray := prog_1_method_13_code
def yX5_leave : MethodName := ⟨RX5, "leave", "(II)I"⟩
abbrev cX5_completion : ByteArray := prog_1_method_14_code
def yX5_completion : MethodName := ⟨RX5, "completion", "(I)I"⟩
abbrev cX5_makespan : ByteArray := prog_1_method_15_code
def yX5_makespan : MethodName := ⟨RX5, "makespan", "()I"⟩
abbrev cX5_jobCost : ByteArray := prog_1_method_16_code
def yX5_jobCost : MethodName := ⟨RX5, "jobCost", "(I)I"⟩
abbrev cX5_planCost : ByteArray := prog_1_method_17_code
def yX5_planCost : MethodName := ⟨RX5, "planCost", "()I"⟩
abbrev cX5_blockedTime : ByteArray := prog_1_method_18_code
def yX5_blockedTime : MethodName := ⟨RX5, "blockedTime", "(I)I"⟩
abbrev cX5_criticalLength : ByteArray := prog_1_method_19_code
def yX5_criticalLength : MethodName := ⟨RX5, "criticalLength", "()I"⟩
abbrev cX5_critical : ByteArray := prog_1_method_20_code
def yX5_critical : MethodName := ⟨RX5, "critical", "(I)I"⟩
abbrev cX5_blockCount : ByteArray := prog_1_method_21_code
def yX5_blockCount : MethodName := ⟨RX5, "blockCount", "()I"⟩
abbrev cX5_longestBlock : ByteArray := prog_1_method_22_code
def yX5_longestBlock : MethodName := ⟨RX5, "longestBlock", "()I"⟩
abbrev cX5_deadlocks : ByteArray := prog_1_method_23_code
def yX5_deadlocks : MethodName := ⟨RX5, "deadlocks", "(II)Z"⟩
abbrev cX5_makespanAfter : ByteArray := prog_1_method_24_code
def yX5_makespanAfter : MethodName := ⟨RX5, "makespanAfter", "(II)I"⟩
abbrev cX5_bestSwap : ByteArray := prog_1_method_25_code
def yX5_bestSwap : MethodName := ⟨RX5, "bestSwap", "()I"⟩
abbrev cX5_swap : ByteArray := prog_1_method_26_code
def yX5_swap : MethodName := ⟨RX5, "swap", "(II)I"⟩
abbrev cX5_improve : ByteArray := prog_1_method_27_code
def yX5_improve : MethodName := ⟨RX5, "improve", "(I)I"⟩
abbrev cX5_place : ByteArray := prog_1_method_28_code
def yX5_place : MethodName := ⟨RX5, "place", "(III)I"⟩
abbrev cX5_setDuration : ByteArray := prog_1_method_29_code
def yX5_setDuration : MethodName := ⟨RX5, "setDuration", "(III)I"⟩
abbrev cX5_restart : ByteArray := prog_1_method_30_code
def yX5_restart : MethodName := ⟨RX5, "restart", "()I"⟩
abbrev cX5_undo : ByteArray := prog_1_method_31_code
def yX5_undo : MethodName := ⟨RX5, "undo", "()I"⟩
abbrev cX5_checksum : ByteArray := prog_1_method_32_code
def yX5_checksum : MethodName := ⟨RX5, "checksum", "()J"⟩
abbrev cX5_needMachine : ByteArray := prog_1_method_33_code
def yX5_needMachine : MethodName := ⟨RX5, "needMachine", "(I)V"⟩
abbrev cX5_needJob : ByteArray := prog_1_method_34_code
def yX5_needJob : MethodName := ⟨RX5, "needJob", "(I)V"⟩
abbrev cX5_needOperation : ByteArray := prog_1_method_35_code
def yX5_needOperation : MethodName := ⟨RX5, "needOperation", "(II)V"⟩
abbrev cX5_needSwap : ByteArray := prog_1_method_36_code
def yX5_needSwap : MethodName := ⟨RX5, "needSwap", "(II)V"⟩
abbrev cX5_remember : ByteArray := prog_1_method_37_code
def yX5_remember : MethodName := ⟨RX5, "remember", "()V"⟩
abbrev cX5_trySwap : ByteArray := prog_1_method_38_code
def yX5_trySwap : MethodName := ⟨RX5, "trySwap", "(II)Z"⟩
abbrev cX5_adoptTrial : ByteArray := prog_1_method_39_code
def yX5_adoptTrial : MethodName := ⟨RX5, "adoptTrial", "()V"⟩
abbrev cX5_idOf : ByteArray := prog_1_method_40_code
def yX5_idOf : MethodName := ⟨RX5, "idOf", "(II)I"⟩
abbrev cX5_codeOf : ByteArray := prog_1_method_41_code
def yX5_codeOf : MethodName := ⟨RX5, "codeOf", "(I)I"⟩
def RX6 : String := "BlockingShopModel"
def TX6 : u_T := fun k => match k with
  | 0 => ("BlockingShopModel", "thrown", "I", false)
  | 1 => ("BlockingShopModel", "buffer", "[I", true)
  | 2 => ("BlockingShopModel", "bufferLength", "I", false)
  | 3 => ("BlockingShopModel", "textLength", "I", false)
  | 4 => ("BlockingShopModel", "position", "I", false)
  | 5 => ("BlockingShopModel", "error", "I", false)
  | 6 => ("BlockingShopModel", "errorAt", "I", false)
  | 7 => ("BlockingShopModel", "errorOffset", "I", false)
  | 8 => ("BlockingShopModel", "data", "[I", true)
  | 9 => ("BlockingShopModel", "draft", "[I", true)
  | 10 => ("BlockingShopModel", "kept", "[I", true)
  | 11 => ("BlockingShopModel", "history", "[[I", true)
  | 12 => ("BlockingShopModel", "undoDepth", "I", false)
  | 13 => ("BlockingShopModel", "numberStart", "I", false)
  | 14 => ("BlockingShopModel", "nesting", "I", false)
  | 15 => ("BlockingShopModel", "seen", "I", false)
  | 16 => ("BlockingShopModel", "sources", "[I", true)
  | 17 => ("BlockingShopModel", "lengths", "[I", true)
  | 18 => ("BlockingShopModel", "starts", "[I", true)
  | 19 => ("BlockingShopModel", "isFree", "[Z", true)
  | 20 => ("BlockingShopModel", "stack", "[J", true)
  | 21 => ("BlockingShopModel", "bestSpan", "I", false)
  | 22 => ("BlockingShopModel", "bestCost", "I", false)
  | 23 => ("BlockingShopModel", "path", "[I", true)
  | _ => ("BlockingShopModel", "pathLength", "I", false)
def tyX6 : Nat → FieldType := fun k => match k with
  | 0 => .int
  | 1 => .array .int
  | 2 => .int
  | 3 => .int
  | 4 => .int
  | 5 => .int
  | 6 => .int
  | 7 => .int
  | 8 => .array .int
  | 9 => .array .int
  | 10 => .array .int
  | 11 => .array (.array .int)
  | 12 => .int
  | 13 => .int
  | 14 => .int
  | 15 => .int
  | 16 => .array .int
  | 17 => .array .int
  | 18 => .array .int
  | 19 => .array .boolean
  | 20 => .array .long
  | 21 => .int
  | 22 => .int
  | 23 => .array .int
  | _ => .int
abbrev wsX60 : List Cond := u_ws RX6 TX6 25
theorem nmX6 : ∀ a, a < 25 → ∀ b, b < 25 → a ≠ b → (TX6 a).2.1 ≠ (TX6 b).2.1 := by decide +kernel
theorem tyX6_ok : ∀ k, k < 25 → parseFieldDescriptor (TX6 k).2.2.1 = some (tyX6 k) := by decide +kernel
abbrev cX6_init : ByteArray := prog_8_method_1_code
def yX6_init : MethodName := ⟨RX6, "<init>", "()V"⟩
abbrev cX6_thrown : ByteArray := prog_8_method_2_code
def yX6_thrown : MethodName := ⟨RX6, "thrown", "()I"⟩
abbrev cX6_fails : ByteArray := prog_8_method_3_code
def yX6_fails : MethodName := ⟨RX6, "fails", "(ZI)Z"⟩
abbrev cX6_in : ByteArray := prog_8_method_4_code
def yX6_in : MethodName := ⟨RX6, "in", "(III)Z"⟩
abbrev cX6_min : ByteArray := prog_8_method_5_code
def yX6_min : MethodName := ⟨RX6, "min", "(II)I"⟩
abbrev cX6_max : ByteArray := prog_8_method_6_code
def yX6_max : MethodName := ⟨RX6, "max", "(II)I"⟩
abbrev cX6_copy : ByteArray := prog_8_method_7_code
def yX6_copy : MethodName := ⟨RX6, "copy", "([I[I)V"⟩
abbrev cX6_machine : ByteArray := prog_8_method_8_code
def yX6_machine : MethodName := ⟨RX6, "machine", "(I)I"⟩
abbrev cX6_job : ByteArray := prog_8_method_9_code
def yX6_job : MethodName := ⟨RX6, "job", "(I)I"⟩
abbrev cX6_operationAt : ByteArray := prog_8_method_10_code
def yX6_operationAt : MethodName := ⟨RX6, "operationAt", "(I)I"⟩
abbrev cX6_append : ByteArray := prog_8_method_11_code
def yX6_append : MethodName := ⟨RX6, "append", "(IIIII)I"⟩
abbrev cX6_byteAt : ByteArray := prog_8_method_12_code
def yX6_byteAt : MethodName := ⟨RX6, "byteAt", "(I)I"⟩
abbrev cX6_next : ByteArray := prog_8_method_13_code
def yX6_next : MethodName := ⟨RX6, "next", "()I"⟩
abbrev cX6_isGood : ByteArray := prog_8_method_14_code
def yX6_isGood : MethodName := ⟨RX6, "isGood", "()Z"⟩
abbrev cX6_report : ByteArray := prog_8_method_15_code
def yX6_report : MethodName := ⟨RX6, "report", "(II)V"⟩
abbrev cX6_isDigit : ByteArray := prog_8_method_16_code
def yX6_isDigit : MethodName := ⟨RX6, "isDigit", "(I)Z"⟩
abbrev cX6_takeWord : ByteArray := prog_8_method_17_code
def yX6_takeWord : MethodName := ⟨RX6, "takeWord", "(Ljava/lang/String;)Z"⟩
abbrev cX6_expect : ByteArray := prog_8_method_18_code
def yX6_expect : MethodName := ⟨RX6, "expect", "(I)V"⟩
abbrev cX6_number : ByteArray := prog_8_method_19_code
def yX6_number : MethodName := ⟨RX6, "number", "(II)I"⟩
abbrev cX6_emit : ByteArray := prog_8_method_20_code
def yX6_emit : MethodName := ⟨RX6, "emit", "(I)V"⟩
abbrev cX6_factor : ByteArray := prog_8_method_21_code
def yX6_factor : MethodName := ⟨RX6, "factor", "()V"⟩
abbrev cX6_term : ByteArray := prog_8_method_22_code
def yX6_term : MethodName := ⟨RX6, "term", "()V"⟩
abbrev cX6_sum : ByteArray := prog_8_method_23_code
def yX6_sum : MethodName := ⟨RX6, "sum", "()V"⟩
abbrev cX6_once : ByteArray := prog_8_method_24_code
def yX6_once : MethodName := ⟨RX6, "once", "(II)V"⟩
abbrev cX6_readJob : ByteArray := prog_8_method_25_code
def yX6_readJob : MethodName := ⟨RX6, "readJob", "(I)V"⟩
abbrev cX6_readOperation : ByteArray := prog_8_method_26_code
def yX6_readOperation : MethodName := ⟨RX6, "readOperation", "(II)V"⟩
abbrev cX6_readMachine : ByteArray := prog_8_method_27_code
def yX6_readMachine : MethodName := ⟨RX6, "readMachine", "()V"⟩
abbrev cX6_statement : ByteArray := prog_8_method_28_code
def yX6_statement : MethodName := ⟨RX6, "statement", "()V"⟩
abbrev cX6_load : ByteArray := prog_8_method_29_code
def yX6_load : MethodName := ⟨RX6, "load", "(I)I"⟩
abbrev cX6_errorOffset : ByteArray := prog_8_method_30_code
def yX6_errorOffset : MethodName := ⟨RX6, "errorOffset", "()I"⟩
abbrev cX6_layFirst : ByteArray := prog_8_method_31_code
def yX6_layFirst : MethodName := ⟨RX6, "layFirst", "()V"⟩
abbrev cX6_isThere : ByteArray := prog_8_method_32_code
def yX6_isThere : MethodName := ⟨RX6, "isThere", "(I)Z"⟩
abbrev cX6_isLast : ByteArray := prog_8_method_33_code
def yX6_isLast : MethodName := ⟨RX6, "isLast", "(I)Z"⟩
abbrev cX6_machineOf : ByteArray := prog_8_method_34_code
def yX6_machineOf : MethodName := ⟨RX6, "machineOf", "(I)I"⟩
abbrev cX6_durationOf : ByteArray := prog_8_method_35_code
def yX6_durationOf : MethodName := ⟨RX6, "durationOf", "(I)I"⟩
abbrev cX6_placeOf : ByteArray := prog_8_method_36_code
def yX6_placeOf : MethodName := ⟨RX6, "placeOf", "(I)I"⟩
abbrev cX6_isBlocking : ByteArray := prog_8_method_37_code
def yX6_isBlocking : MethodName := ⟨RX6, "isBlocking", "(I)Z"⟩
abbrev cX6_layArcs : ByteArray := prog_8_method_38_code
def yX6_layArcs : MethodName := ⟨RX6, "layArcs", "()V"⟩
abbrev cX6_raises : ByteArray := prog_8_method_39_code
def yX6_raises : MethodName := ⟨RX6, "raises", "(I)Z"⟩
abbrev cX6_findStarts : ByteArray := prog_8_method_40_code
def yX6_findStarts : MethodName := ⟨RX6, "findStarts", "()Z"⟩
abbrev cX6_hasCycle : ByteArray := prog_8_method_41_code
def yX6_hasCycle : MethodName := ⟨RX6, "hasCycle", "()Z"⟩
abbrev cX6_isDeadlocked : ByteArray := prog_8_method_42_code
def yX6_isDeadlocked : MethodName := ⟨RX6, "isDeadlocked", "()Z"⟩
abbrev cX6_completionOf : ByteArray := prog_8_method_43_code
def yX6_completionOf : MethodName := ⟨RX6, "completionOf", "(I)I"⟩
abbrev cX6_makespanOf : ByteArray := prog_8_method_44_code
def yX6_makespanOf : MethodName := ⟨RX6, "makespanOf", "()I"⟩
abbrev cX6_limited : ByteArray := prog_8_method_45_code
def yX6_limited : MethodName := ⟨RX6, "limited", "(J)J"⟩
abbrev cX6_operate : ByteArray := prog_8_method_46_code
def yX6_operate : MethodName := ⟨RX6, "operate", "(IJJ)J"⟩
abbrev cX6_costOf : ByteArray := prog_8_method_47_code
def yX6_costOf : MethodName := ⟨RX6, "costOf", "(I)I"⟩
abbrev cX6_costOfPlan : ByteArray := prog_8_method_48_code
def yX6_costOfPlan : MethodName := ⟨RX6, "costOfPlan", "()I"⟩
abbrev cX6_leaveOf : ByteArray := prog_8_method_49_code
def yX6_leaveOf : MethodName := ⟨RX6, "leaveOf", "(I)I"⟩
abbrev cX6_exchange : ByteArray := prog_8_method_50_code
def yX6_exchange : MethodName := ⟨RX6, "exchange", "(II)V"⟩
abbrev cX6_findBest : ByteArray := prog_8_method_51_code
def yX6_findBest : MethodName := ⟨RX6, "findBest", "()I"⟩
abbrev cX6_isBetter : ByteArray := prog_8_method_52_code
def yX6_isBetter : MethodName := ⟨RX6, "isBetter", "(IIII)Z"⟩
abbrev cX6_findPath : ByteArray := prog_8_method_53_code
def yX6_findPath : MethodName := ⟨RX6, "findPath", "()V"⟩
abbrev cX6_isOnPath : ByteArray := prog_8_method_54_code
def yX6_isOnPath : MethodName := ⟨RX6, "isOnPath", "(I)Z"⟩
abbrev cX6_told : ByteArray := prog_8_method_55_code
def yX6_told : MethodName := ⟨RX6, "told", "(I)I"⟩
abbrev cX6_noMachine : ByteArray := prog_8_method_56_code
def yX6_noMachine : MethodName := ⟨RX6, "noMachine", "(I)Z"⟩
abbrev cX6_noJob : ByteArray := prog_8_method_57_code
def yX6_noJob : MethodName := ⟨RX6, "noJob", "(I)Z"⟩
abbrev cX6_noOperation : ByteArray := prog_8_method_58_code
def yX6_noOperation : MethodName := ⟨RX6, "noOperation", "(II)Z"⟩
abbrev cX6_noSwap : ByteArray := prog_8_method_59_code
def yX6_noSwap : MethodName := ⟨RX6, "noSwap", "(II)Z"⟩
abbrev cX6_machineCount : ByteArray := prog_8_method_60_code
def yX6_machineCount : MethodName := ⟨RX6, "machineCount", "()I"⟩
abbrev cX6_jobCount : ByteArray := prog_8_method_61_code
def yX6_jobCount : MethodName := ⟨RX6, "jobCount", "()I"⟩
abbrev cX6_operationCount : ByteArray := prog_8_method_62_code
def yX6_operationCount : MethodName := ⟨RX6, "operationCount", "(I)I"⟩
abbrev cX6_operation : ByteArray := prog_8_method_63_code
def yX6_operation : MethodName := ⟨RX6, "operation", "(III)I"⟩
abbrev cX6_orderLength : ByteArray := prog_8_method_64_code
def yX6_orderLength : MethodName := ⟨RX6, "orderLength", "(I)I"⟩
abbrev cX6_orderAt : ByteArray := prog_8_method_65_code
def yX6_orderAt : MethodName := ⟨RX6, "orderAt", "(II)I"⟩
abbrev cX6_start : ByteArray := prog_8_method_66_code
def yX6_start : MethodName := ⟨RX6, "start", "(II)I"⟩
abbrev cX6_leave : ByteArray := prog_8_method_67_code
def yX6_leave : MethodName := ⟨RX6, "leave", "(II)I"⟩
abbrev cX6_completion : ByteArray := prog_8_method_68_code
def yX6_completion : MethodName := ⟨RX6, "completion", "(I)I"⟩
abbrev cX6_spanNow : ByteArray := prog_8_method_69_code
def yX6_spanNow : MethodName := ⟨RX6, "spanNow", "()I"⟩
abbrev cX6_makespan : ByteArray := prog_8_method_70_code
def yX6_makespan : MethodName := ⟨RX6, "makespan", "()I"⟩
abbrev cX6_jobCost : ByteArray := prog_8_method_71_code
def yX6_jobCost : MethodName := ⟨RX6, "jobCost", "(I)I"⟩
abbrev cX6_planCost : ByteArray := prog_8_method_72_code
def yX6_planCost : MethodName := ⟨RX6, "planCost", "()I"⟩
abbrev cX6_blockedTime : ByteArray := prog_8_method_73_code
def yX6_blockedTime : MethodName := ⟨RX6, "blockedTime", "(I)I"⟩
abbrev cX6_criticalLength : ByteArray := prog_8_method_74_code
def yX6_criticalLength : MethodName := ⟨RX6, "criticalLength", "()I"⟩
abbrev cX6_critical : ByteArray := prog_8_method_75_code
def yX6_critical : MethodName := ⟨RX6, "critical", "(I)I"⟩
abbrev cX6_blockCount : ByteArray := prog_8_method_76_code
def yX6_blockCount : MethodName := ⟨RX6, "blockCount", "()I"⟩
abbrev cX6_longestBlock : ByteArray := prog_8_method_77_code
def yX6_longestBlock : MethodName := ⟨RX6, "longestBlock", "()I"⟩
abbrev cX6_spanAfter : ByteArray := prog_8_method_78_code
def yX6_spanAfter : MethodName := ⟨RX6, "spanAfter", "(II)I"⟩
abbrev cX6_deadlocks : ByteArray := prog_8_method_79_code
def yX6_deadlocks : MethodName := ⟨RX6, "deadlocks", "(II)Z"⟩
abbrev cX6_makespanAfter : ByteArray := prog_8_method_80_code
def yX6_makespanAfter : MethodName := ⟨RX6, "makespanAfter", "(II)I"⟩
abbrev cX6_bestSwap : ByteArray := prog_8_method_81_code
def yX6_bestSwap : MethodName := ⟨RX6, "bestSwap", "()I"⟩
abbrev cX6_remember : ByteArray := prog_8_method_82_code
def yX6_remember : MethodName := ⟨RX6, "remember", "()V"⟩
abbrev cX6_swap : ByteArray := prog_8_method_83_code
def yX6_swap : MethodName := ⟨RX6, "swap", "(II)I"⟩
abbrev cX6_improve : ByteArray := prog_8_method_84_code
def yX6_improve : MethodName := ⟨RX6, "improve", "(I)I"⟩
abbrev cX6_bring : ByteArray := prog_8_method_85_code
def yX6_bring : MethodName := ⟨RX6, "bring", "(II)V"⟩
abbrev cX6_place : ByteArray := prog_8_method_86_code
def yX6_place : MethodName := ⟨RX6, "place", "(III)I"⟩
abbrev cX6_setDuration : ByteArray := prog_8_method_87_code
def yX6_setDuration : MethodName := ⟨RX6, "setDuration", "(III)I"⟩
abbrev cX6_restart : ByteArray := prog_8_method_88_code
def yX6_restart : MethodName := ⟨RX6, "restart", "()I"⟩
abbrev cX6_undo : ByteArray := prog_8_method_89_code
def yX6_undo : MethodName := ⟨RX6, "undo", "()I"⟩
abbrev cX6_checksum : ByteArray := prog_8_method_90_code
def yX6_checksum : MethodName := ⟨RX6, "checksum", "()J"⟩
def RJx145de : String := "java/io/Serializable"
def TJx145de : u_T := fun k => match k with
  | _ => ("", "", "", false)
def tyJx145de : Nat → FieldType := fun k => match k with
  | _ => .int
theorem nmJx145de : ∀ a, a < 0 → ∀ b, b < 0 → a ≠ b → (TJx145de a).2.1 ≠ (TJx145de b).2.1 := by decide +kernel
theorem tyJx145de_ok : ∀ k, k < 0 → parseFieldDescriptor (TJx145de k).2.2.1 = some (tyJx145de k) := by decide +kernel
def RJx9f9b0 : String := "java/lang/CharSequence"
def TJx9f9b0 : u_T := fun k => match k with
  | _ => ("", "", "", false)
def tyJx9f9b0 : Nat → FieldType := fun k => match k with
  | _ => .int
theorem nmJx9f9b0 : ∀ a, a < 0 → ∀ b, b < 0 → a ≠ b → (TJx9f9b0 a).2.1 ≠ (TJx9f9b0 b).2.1 := by decide +kernel
theorem tyJx9f9b0_ok : ∀ k, k < 0 → parseFieldDescriptor (TJx9f9b0 k).2.2.1 = some (tyJx9f9b0 k) := by decide +kernel
def RJx8e188 : String := "java/lang/Cloneable"
def TJx8e188 : u_T := fun k => match k with
  | _ => ("", "", "", false)
def tyJx8e188 : Nat → FieldType := fun k => match k with
  | _ => .int
theorem nmJx8e188 : ∀ a, a < 0 → ∀ b, b < 0 → a ≠ b → (TJx8e188 a).2.1 ≠ (TJx8e188 b).2.1 := by decide +kernel
theorem tyJx8e188_ok : ∀ k, k < 0 → parseFieldDescriptor (TJx8e188 k).2.2.1 = some (tyJx8e188 k) := by decide +kernel
def RJxb160c : String := "java/lang/Comparable"
def TJxb160c : u_T := fun k => match k with
  | _ => ("", "", "", false)
def tyJxb160c : Nat → FieldType := fun k => match k with
  | _ => .int
theorem nmJxb160c : ∀ a, a < 0 → ∀ b, b < 0 → a ≠ b → (TJxb160c a).2.1 ≠ (TJxb160c b).2.1 := by decide +kernel
theorem tyJxb160c_ok : ∀ k, k < 0 → parseFieldDescriptor (TJxb160c k).2.2.1 = some (tyJxb160c k) := by decide +kernel
def RJ9 : String := "java/lang/Math"
def TJ9 : u_T := fun k => match k with
  | _ => ("", "", "", false)
def tyJ9 : Nat → FieldType := fun k => match k with
  | _ => .int
abbrev wsJ90 : List Cond := u_ws RJ9 TJ9 0
theorem nmJ9 : ∀ a, a < 0 → ∀ b, b < 0 → a ≠ b → (TJ9 a).2.1 ≠ (TJ9 b).2.1 := by decide +kernel
theorem tyJ9_ok : ∀ k, k < 0 → parseFieldDescriptor (TJ9 k).2.2.1 = some (tyJ9 k) := by decide +kernel
abbrev cJ9_max_7cf53 : ByteArray := prog_17_method_65_code
def yJ9_max_7cf53 : MethodName := ⟨RJ9, "max", "(II)I"⟩
abbrev cJ9_min_7cf53 : ByteArray := prog_17_method_69_code
def yJ9_min_7cf53 : MethodName := ⟨RJ9, "min", "(II)I"⟩
def RJ0 : String := "java/lang/String"
def TJ0 : u_T := fun k => match k with
  | _ => ("", "", "", false)
def tyJ0 : Nat → FieldType := fun k => match k with
  | _ => .int
abbrev wsJ00 : List Cond := u_ws RJ0 TJ0 0
theorem nmJ0 : ∀ a, a < 0 → ∀ b, b < 0 → a ≠ b → (TJ0 a).2.1 ≠ (TJ0 b).2.1 := by decide +kernel
theorem tyJ0_ok : ∀ k, k < 0 → parseFieldDescriptor (TJ0 k).2.2.1 = some (tyJ0 k) := by decide +kernel
abbrev cJ0_length_8abf5 : ByteArray := prog_19_method_54_code
def yJ0_length_8abf5 : MethodName := ⟨RJ0, "length", "()I"⟩
abbrev cJ0_charAt_5068e : ByteArray := prog_19_method_56_code
def yJ0_charAt_5068e : MethodName := ⟨RJ0, "charAt", "(I)C"⟩
abbrev cJ0_coder_7d493 : ByteArray := prog_19_method_152_code
def yJ0_coder_7d493 : MethodName := ⟨RJ0, "coder", "()B"⟩
abbrev cJ0_isLatin1_aae02 : ByteArray := prog_19_method_154_code
def yJ0_isLatin1_aae02 : MethodName := ⟨RJ0, "isLatin1", "()Z"⟩
abbrev cJ0_checkIndex_df160 : ByteArray := prog_19_method_155_code
def yJ0_checkIndex_df160 : MethodName := ⟨RJ0, "checkIndex", "(II)V"⟩
def RJ1 : String := "java/lang/StringLatin1"
def TJ1 : u_T := fun k => match k with
  | _ => ("", "", "", false)
def tyJ1 : Nat → FieldType := fun k => match k with
  | _ => .int
abbrev wsJ10 : List Cond := u_ws RJ1 TJ1 0
theorem nmJ1 : ∀ a, a < 0 → ∀ b, b < 0 → a ≠ b → (TJ1 a).2.1 ≠ (TJ1 b).2.1 := by decide +kernel
theorem tyJ1_ok : ∀ k, k < 0 → parseFieldDescriptor (TJ1 k).2.2.1 = some (tyJ1 k) := by decide +kernel
abbrev cJ1_charAt_3b067 : ByteArray := prog_20_method_2_code
def yJ1_charAt_3b067 : MethodName := ⟨RJ1, "charAt", "([BI)C"⟩
def RJ2 : String := "java/lang/StringUTF16"
def TJ2 : u_T := fun k => match k with
  | _ => ("", "", "", false)
def tyJ2 : Nat → FieldType := fun k => match k with
  | _ => .int
abbrev wsJ20 : List Cond := u_ws RJ2 TJ2 0
theorem nmJ2 : ∀ a, a < 0 → ∀ b, b < 0 → a ≠ b → (TJ2 a).2.1 ≠ (TJ2 b).2.1 := by decide +kernel
theorem tyJ2_ok : ∀ k, k < 0 → parseFieldDescriptor (TJ2 k).2.2.1 = some (tyJ2 k) := by decide +kernel
abbrev cJ2_getChar_3b067 : ByteArray := prog_21_method_5_code
def yJ2_getChar_3b067 : MethodName := ⟨RJ2, "getChar", "([BI)C"⟩
abbrev cJ2_length_9d52b : ByteArray := prog_21_method_6_code
def yJ2_length_9d52b : MethodName := ⟨RJ2, "length", "([B)I"⟩
abbrev cJ2_charAt_3b067 : ByteArray := prog_21_method_83_code
def yJ2_charAt_3b067 : MethodName := ⟨RJ2, "charAt", "([BI)C"⟩
abbrev cJ2_checkIndex_2214a : ByteArray := prog_21_method_91_code
def yJ2_checkIndex_2214a : MethodName := ⟨RJ2, "checkIndex", "(I[B)V"⟩
def RJ10 : String := "java/lang/System"
def TJ10 : u_T := fun k => match k with
  | _ => ("", "", "", false)
def tyJ10 : Nat → FieldType := fun k => match k with
  | _ => .int
abbrev wsJ100 : List Cond := u_ws RJ10 TJ10 0
theorem nmJ10 : ∀ a, a < 0 → ∀ b, b < 0 → a ≠ b → (TJ10 a).2.1 ≠ (TJ10 b).2.1 := by decide +kernel
theorem tyJ10_ok : ∀ k, k < 0 → parseFieldDescriptor (TJ10 k).2.2.1 = some (tyJ10 k) := by decide +kernel
def RJxfd54e : String := "java/lang/constant/Constable"
def TJxfd54e : u_T := fun k => match k with
  | _ => ("", "", "", false)
def tyJxfd54e : Nat → FieldType := fun k => match k with
  | _ => .int
theorem nmJxfd54e : ∀ a, a < 0 → ∀ b, b < 0 → a ≠ b → (TJxfd54e a).2.1 ≠ (TJxfd54e b).2.1 := by decide +kernel
theorem tyJxfd54e_ok : ∀ k, k < 0 → parseFieldDescriptor (TJxfd54e k).2.2.1 = some (tyJxfd54e k) := by decide +kernel
def RJx3cf43 : String := "java/lang/constant/ConstantDesc"
def TJx3cf43 : u_T := fun k => match k with
  | _ => ("", "", "", false)
def tyJx3cf43 : Nat → FieldType := fun k => match k with
  | _ => .int
theorem nmJx3cf43 : ∀ a, a < 0 → ∀ b, b < 0 → a ≠ b → (TJx3cf43 a).2.1 ≠ (TJx3cf43 b).2.1 := by decide +kernel
theorem tyJx3cf43_ok : ∀ k, k < 0 → parseFieldDescriptor (TJx3cf43 k).2.2.1 = some (tyJx3cf43 k) := by decide +kernel
def RJ7 : String := "java/util/Arrays"
def TJ7 : u_T := fun k => match k with
  | _ => ("", "", "", false)
def tyJ7 : Nat → FieldType := fun k => match k with
  | _ => .int
abbrev wsJ70 : List Cond := u_ws RJ7 TJ7 0
theorem nmJ7 : ∀ a, a < 0 → ∀ b, b < 0 → a ≠ b → (TJ7 a).2.1 ≠ (TJ7 b).2.1 := by decide +kernel
theorem tyJ7_ok : ∀ k, k < 0 → parseFieldDescriptor (TJ7 k).2.2.1 = some (tyJ7 k) := by decide +kernel
abbrev cJ7_copyOf_59c91 : ByteArray := prog_26_method_123_code
def yJ7_copyOf_59c91 : MethodName := ⟨RJ7, "copyOf", "([II)[I"⟩
def RJ3 : String := "jdk/internal/util/Preconditions"
def TJ3 : u_T := fun k => match k with
  | _ => ("", "", "", false)
def tyJ3 : Nat → FieldType := fun k => match k with
  | _ => .int
abbrev wsJ30 : List Cond := u_ws RJ3 TJ3 0
theorem nmJ3 : ∀ a, a < 0 → ∀ b, b < 0 → a ≠ b → (TJ3 a).2.1 ≠ (TJ3 b).2.1 := by decide +kernel
theorem tyJ3_ok : ∀ k, k < 0 → parseFieldDescriptor (TJ3 k).2.2.1 = some (tyJ3 k) := by decide +kernel
abbrev cJ3_checkIndex_8e157 : ByteArray := prog_28_method_11_code
def yJ3_checkIndex_8e157 : MethodName := ⟨RJ3, "checkIndex", "(IILjava/util/function/BiFunction;)I"⟩
def RL : String := "BlockingShopLaw"
abbrev cL_load : ByteArray := method_3_code
def yL_load : MethodName := ⟨RL, "load", "(LBlockingShop;I[J)I"⟩
abbrev cL_operationCount : ByteArray := method_4_code
def yL_operationCount : MethodName := ⟨RL, "operationCount", "(LBlockingShop;I[J)I"⟩
abbrev cL_operation : ByteArray := method_5_code
def yL_operation : MethodName := ⟨RL, "operation", "(LBlockingShop;III[J)I"⟩
abbrev cL_orderLength : ByteArray := method_6_code
def yL_orderLength : MethodName := ⟨RL, "orderLength", "(LBlockingShop;I[J)I"⟩
abbrev cL_orderAt : ByteArray := method_7_code
def yL_orderAt : MethodName := ⟨RL, "orderAt", "(LBlockingShop;II[J)I"⟩
abbrev cL_start : ByteArray := method_8_code
def yL_start : MethodName := ⟨RL, "start", "(LBlockingShop;II[J)I"⟩
abbrev cL_leave : ByteArray := method_9_code
def yL_leave : MethodName := ⟨RL, "leave", "(LBlockingShop;II[J)I"⟩
abbrev cL_completion : ByteArray := method_10_code
def yL_completion : MethodName := ⟨RL, "completion", "(LBlockingShop;I[J)I"⟩
abbrev cL_jobCost : ByteArray := method_11_code
def yL_jobCost : MethodName := ⟨RL, "jobCost", "(LBlockingShop;I[J)I"⟩
abbrev cL_blockedTime : ByteArray := method_12_code
def yL_blockedTime : MethodName := ⟨RL, "blockedTime", "(LBlockingShop;I[J)I"⟩
abbrev cL_critical : ByteArray := method_13_code
def yL_critical : MethodName := ⟨RL, "critical", "(LBlockingShop;I[J)I"⟩
abbrev cL_deadlocks : ByteArray := method_14_code
def yL_deadlocks : MethodName := ⟨RL, "deadlocks", "(LBlockingShop;II[J)I"⟩
abbrev cL_makespanAfter : ByteArray := method_15_code
def yL_makespanAfter : MethodName := ⟨RL, "makespanAfter", "(LBlockingShop;II[J)I"⟩
abbrev cL_swap : ByteArray := method_16_code
def yL_swap : MethodName := ⟨RL, "swap", "(LBlockingShop;II[J)I"⟩
abbrev cL_improve : ByteArray := method_17_code
def yL_improve : MethodName := ⟨RL, "improve", "(LBlockingShop;I[J)I"⟩
abbrev cL_place : ByteArray := method_18_code
def yL_place : MethodName := ⟨RL, "place", "(LBlockingShop;III[J)I"⟩
abbrev cL_setDuration : ByteArray := method_19_code
def yL_setDuration : MethodName := ⟨RL, "setDuration", "(LBlockingShop;III[J)I"⟩
abbrev cL_law : ByteArray := code
def yL_law : MethodName := ⟨RL, "law", "([I)Z"⟩
theorem inX0 : ∀ w ∈ wsX00, w ∈ lw_tbl := by decide +kernel
theorem inX1 : ∀ w ∈ wsX10, w ∈ lw_tbl := by decide +kernel
theorem inX2 : ∀ w ∈ wsX20, w ∈ lw_tbl := by decide +kernel
theorem inX3 : ∀ w ∈ wsX30, w ∈ lw_tbl := by decide +kernel
theorem inX4 : ∀ w ∈ wsX40, w ∈ lw_tbl := by decide +kernel
theorem inX5 : ∀ w ∈ wsX50, w ∈ lw_tbl := by decide +kernel
theorem inX6 : ∀ w ∈ wsX60, w ∈ lw_tbl := by decide +kernel
abbrev vwCl : List vw_C := [(RX0, TX0, 1), (RX1, TX1, 3), (RX2, TX2, 8), (RX3, TX3, 10), (RX4, TX4, 13), (RX5, TX5, 10), (RX6, TX6, 25)]
end
section
theorem dX0_init_0 : decode cX0_init 0 = .ok (.aload_n 0, 1) := by decide +kernel
theorem dX0_init_1 : decode cX0_init 1 = .ok (.invokespecial 1, 3) := by decide +kernel
theorem dX0_init_4 : decode cX0_init 4 = .ok (.aload_n 0, 1) := by decide +kernel
theorem dX0_init_5 : decode cX0_init 5 = .ok (.bipush 11, 2) := by decide +kernel
theorem dX0_init_7 : decode cX0_init 7 = .ok (.newarray .int, 2) := by decide +kernel
theorem dX0_init_9 : decode cX0_init 9 = .ok (.putfield 9, 3) := by decide +kernel
theorem dX0_init_12 : decode cX0_init 12 = .ok (.return_, 1) := by decide +kernel
theorem dX0_evaluate_0 : decode cX0_evaluate 0 = .ok (.iconst 0, 1) := by decide +kernel
theorem dX0_evaluate_1 : decode cX0_evaluate 1 = .ok (.istore 4, 2) := by decide +kernel
theorem dX0_evaluate_3 : decode cX0_evaluate 3 = .ok (.iconst 0, 1) := by decide +kernel
theorem dX0_evaluate_4 : decode cX0_evaluate 4 = .ok (.istore 5, 2) := by decide +kernel
theorem dX0_evaluate_6 : decode cX0_evaluate 6 = .ok (.iload 5, 2) := by decide +kernel
theorem dX0_evaluate_8 : decode cX0_evaluate 8 = .ok (.aload_n 1, 1) := by decide +kernel
theorem dX0_evaluate_9 : decode cX0_evaluate 9 = .ok (.getfield 13, 3) := by decide +kernel
theorem dX0_evaluate_12 : decode cX0_evaluate 12 = .ok (.arraylength, 1) := by decide +kernel
theorem dX0_evaluate_13 : decode cX0_evaluate 13 = .ok (.if_icmp .ge 106, 3) := by decide +kernel
theorem dX0_evaluate_16 : decode cX0_evaluate 16 = .ok (.aload_n 1, 1) := by decide +kernel
theorem dX0_evaluate_17 : decode cX0_evaluate 17 = .ok (.getfield 13, 3) := by decide +kernel
theorem dX0_evaluate_20 : decode cX0_evaluate 20 = .ok (.iload 5, 2) := by decide +kernel
theorem dX0_evaluate_22 : decode cX0_evaluate 22 = .ok (.iaload, 1) := by decide +kernel
theorem dX0_evaluate_23 : decode cX0_evaluate 23 = .ok (.istore 6, 2) := by decide +kernel
theorem dX0_evaluate_25 : decode cX0_evaluate 25 = .ok (.iload 6, 2) := by decide +kernel
theorem dX0_evaluate_27 : decode cX0_evaluate 27 = .ok (.bipush (-5), 2) := by decide +kernel
theorem dX0_evaluate_29 : decode cX0_evaluate 29 = .ok (.if_icmp .gt 52, 3) := by decide +kernel
theorem dX0_evaluate_32 : decode cX0_evaluate 32 = .ok (.iload 4, 2) := by decide +kernel
theorem dX0_evaluate_34 : decode cX0_evaluate 34 = .ok (.iconst 2, 1) := by decide +kernel
theorem dX0_evaluate_35 : decode cX0_evaluate 35 = .ok (.if_icmp .lt 46, 3) := by decide +kernel
theorem dX0_evaluate_38 : decode cX0_evaluate 38 = .ok (.aload_n 0, 1) := by decide +kernel
theorem dX0_evaluate_39 : decode cX0_evaluate 39 = .ok (.getfield 9, 3) := by decide +kernel
theorem dX0_evaluate_42 : decode cX0_evaluate 42 = .ok (.iload 4, 2) := by decide +kernel
theorem dX0_evaluate_44 : decode cX0_evaluate 44 = .ok (.iconst 2, 1) := by decide +kernel
theorem dX0_evaluate_45 : decode cX0_evaluate 45 = .ok (.isub, 1) := by decide +kernel
theorem dX0_evaluate_46 : decode cX0_evaluate 46 = .ok (.iload 6, 2) := by decide +kernel
theorem dX0_evaluate_48 : decode cX0_evaluate 48 = .ok (.aload_n 0, 1) := by decide +kernel
theorem dX0_evaluate_49 : decode cX0_evaluate 49 = .ok (.getfield 9, 3) := by decide +kernel
theorem dX0_evaluate_52 : decode cX0_evaluate 52 = .ok (.iload 4, 2) := by decide +kernel
theorem dX0_evaluate_54 : decode cX0_evaluate 54 = .ok (.iconst 2, 1) := by decide +kernel
theorem dX0_evaluate_55 : decode cX0_evaluate 55 = .ok (.isub, 1) := by decide +kernel
theorem dX0_evaluate_56 : decode cX0_evaluate 56 = .ok (.iaload, 1) := by decide +kernel
theorem dX0_evaluate_57 : decode cX0_evaluate 57 = .ok (.i2l, 1) := by decide +kernel
theorem dX0_evaluate_58 : decode cX0_evaluate 58 = .ok (.aload_n 0, 1) := by decide +kernel
theorem dX0_evaluate_59 : decode cX0_evaluate 59 = .ok (.getfield 9, 3) := by decide +kernel
theorem dX0_evaluate_62 : decode cX0_evaluate 62 = .ok (.iload 4, 2) := by decide +kernel
theorem dX0_evaluate_64 : decode cX0_evaluate 64 = .ok (.iconst 1, 1) := by decide +kernel
theorem dX0_evaluate_65 : decode cX0_evaluate 65 = .ok (.isub, 1) := by decide +kernel
theorem dX0_evaluate_66 : decode cX0_evaluate 66 = .ok (.iaload, 1) := by decide +kernel
theorem dX0_evaluate_67 : decode cX0_evaluate 67 = .ok (.i2l, 1) := by decide +kernel
theorem dX0_evaluate_68 : decode cX0_evaluate 68 = .ok (.invokestatic 18, 3) := by decide +kernel
theorem dX0_evaluate_71 : decode cX0_evaluate 71 = .ok (.invokestatic 22, 3) := by decide +kernel
theorem dX0_evaluate_74 : decode cX0_evaluate 74 = .ok (.iastore, 1) := by decide +kernel
theorem dX0_evaluate_75 : decode cX0_evaluate 75 = .ok (.iinc 4 (-1), 3) := by decide +kernel
theorem dX0_evaluate_78 : decode cX0_evaluate 78 = .ok (.goto 35, 3) := by decide +kernel
theorem dX0_evaluate_81 : decode cX0_evaluate 81 = .ok (.iload 6, 2) := by decide +kernel
theorem dX0_evaluate_83 : decode cX0_evaluate 83 = .ok (.bipush (-5), 2) := by decide +kernel
theorem dX0_evaluate_85 : decode cX0_evaluate 85 = .ok (.if_icmp .le 28, 3) := by decide +kernel
theorem dX0_evaluate_88 : decode cX0_evaluate 88 = .ok (.iload 4, 2) := by decide +kernel
theorem dX0_evaluate_90 : decode cX0_evaluate 90 = .ok (.bipush 11, 2) := by decide +kernel
theorem dX0_evaluate_92 : decode cX0_evaluate 92 = .ok (.if_icmp .ge 21, 3) := by decide +kernel
theorem dX0_evaluate_95 : decode cX0_evaluate 95 = .ok (.aload_n 0, 1) := by decide +kernel
theorem dX0_evaluate_96 : decode cX0_evaluate 96 = .ok (.getfield 9, 3) := by decide +kernel
theorem dX0_evaluate_99 : decode cX0_evaluate 99 = .ok (.iload 4, 2) := by decide +kernel
theorem dX0_evaluate_101 : decode cX0_evaluate 101 = .ok (.iload 6, 2) := by decide +kernel
theorem dX0_evaluate_103 : decode cX0_evaluate 103 = .ok (.aload_n 1, 1) := by decide +kernel
theorem dX0_evaluate_104 : decode cX0_evaluate 104 = .ok (.iload_n 2, 1) := by decide +kernel
theorem dX0_evaluate_105 : decode cX0_evaluate 105 = .ok (.iload_n 3, 1) := by decide +kernel
theorem dX0_evaluate_106 : decode cX0_evaluate 106 = .ok (.invokestatic 26, 3) := by decide +kernel
theorem dX0_evaluate_109 : decode cX0_evaluate 109 = .ok (.iastore, 1) := by decide +kernel
theorem dX0_evaluate_110 : decode cX0_evaluate 110 = .ok (.iinc 4 1, 3) := by decide +kernel
theorem dX0_evaluate_113 : decode cX0_evaluate 113 = .ok (.iinc 5 1, 3) := by decide +kernel
theorem dX0_evaluate_116 : decode cX0_evaluate 116 = .ok (.goto (-110), 3) := by decide +kernel
theorem dX0_evaluate_119 : decode cX0_evaluate 119 = .ok (.aload_n 0, 1) := by decide +kernel
theorem dX0_evaluate_120 : decode cX0_evaluate 120 = .ok (.getfield 9, 3) := by decide +kernel
theorem dX0_evaluate_123 : decode cX0_evaluate 123 = .ok (.iconst 0, 1) := by decide +kernel
theorem dX0_evaluate_124 : decode cX0_evaluate 124 = .ok (.iaload, 1) := by decide +kernel
theorem dX0_evaluate_125 : decode cX0_evaluate 125 = .ok (.ireturn, 1) := by decide +kernel
theorem dX0_valueOf_0 : decode cX0_valueOf 0 = .ok (.iload_n 0, 1) := by decide +kernel
theorem dX0_valueOf_1 : decode cX0_valueOf 1 = .ok (.tableswitch 54 (-4) (-1) #[47, 40, 33, 31], 31) := by decide +kernel
theorem dX0_valueOf_32 : decode cX0_valueOf 32 = .ok (.iload_n 3, 1) := by decide +kernel
theorem dX0_valueOf_33 : decode cX0_valueOf 33 = .ok (.ireturn, 1) := by decide +kernel
theorem dX0_valueOf_34 : decode cX0_valueOf 34 = .ok (.aload_n 1, 1) := by decide +kernel
theorem dX0_valueOf_35 : decode cX0_valueOf 35 = .ok (.getfield 30, 3) := by decide +kernel
theorem dX0_valueOf_38 : decode cX0_valueOf 38 = .ok (.iload_n 2, 1) := by decide +kernel
theorem dX0_valueOf_39 : decode cX0_valueOf 39 = .ok (.iaload, 1) := by decide +kernel
theorem dX0_valueOf_40 : decode cX0_valueOf 40 = .ok (.ireturn, 1) := by decide +kernel
theorem dX0_valueOf_41 : decode cX0_valueOf 41 = .ok (.aload_n 1, 1) := by decide +kernel
theorem dX0_valueOf_42 : decode cX0_valueOf 42 = .ok (.getfield 33, 3) := by decide +kernel
theorem dX0_valueOf_45 : decode cX0_valueOf 45 = .ok (.iload_n 2, 1) := by decide +kernel
theorem dX0_valueOf_46 : decode cX0_valueOf 46 = .ok (.iaload, 1) := by decide +kernel
theorem dX0_valueOf_47 : decode cX0_valueOf 47 = .ok (.ireturn, 1) := by decide +kernel
theorem dX0_valueOf_48 : decode cX0_valueOf 48 = .ok (.aload_n 1, 1) := by decide +kernel
theorem dX0_valueOf_49 : decode cX0_valueOf 49 = .ok (.getfield 36, 3) := by decide +kernel
theorem dX0_valueOf_52 : decode cX0_valueOf 52 = .ok (.iload_n 2, 1) := by decide +kernel
theorem dX0_valueOf_53 : decode cX0_valueOf 53 = .ok (.iaload, 1) := by decide +kernel
theorem dX0_valueOf_54 : decode cX0_valueOf 54 = .ok (.ireturn, 1) := by decide +kernel
theorem dX0_valueOf_55 : decode cX0_valueOf 55 = .ok (.iload_n 0, 1) := by decide +kernel
theorem dX0_valueOf_56 : decode cX0_valueOf 56 = .ok (.ireturn, 1) := by decide +kernel
theorem dX0_apply_0 : decode cX0_apply 0 = .ok (.iload_n 0, 1) := by decide +kernel
theorem dX0_apply_1 : decode cX0_apply 1 = .ok (.tableswitch 39 (-7) (-5) #[35, 31, 27], 27) := by decide +kernel
theorem dX0_apply_28 : decode cX0_apply 28 = .ok (.lload_n 1, 1) := by decide +kernel
theorem dX0_apply_29 : decode cX0_apply 29 = .ok (.lload_n 3, 1) := by decide +kernel
theorem dX0_apply_30 : decode cX0_apply 30 = .ok (.ladd, 1) := by decide +kernel
theorem dX0_apply_31 : decode cX0_apply 31 = .ok (.lreturn, 1) := by decide +kernel
theorem dX0_apply_32 : decode cX0_apply 32 = .ok (.lload_n 1, 1) := by decide +kernel
theorem dX0_apply_33 : decode cX0_apply 33 = .ok (.lload_n 3, 1) := by decide +kernel
theorem dX0_apply_34 : decode cX0_apply 34 = .ok (.lsub, 1) := by decide +kernel
theorem dX0_apply_35 : decode cX0_apply 35 = .ok (.lreturn, 1) := by decide +kernel
theorem dX0_apply_36 : decode cX0_apply 36 = .ok (.lload_n 1, 1) := by decide +kernel
theorem dX0_apply_37 : decode cX0_apply 37 = .ok (.lload_n 3, 1) := by decide +kernel
theorem dX0_apply_38 : decode cX0_apply 38 = .ok (.lmul, 1) := by decide +kernel
theorem dX0_apply_39 : decode cX0_apply 39 = .ok (.lreturn, 1) := by decide +kernel
theorem dX0_apply_40 : decode cX0_apply 40 = .ok (.lload_n 3, 1) := by decide +kernel
theorem dX0_apply_41 : decode cX0_apply 41 = .ok (.lconst 0, 1) := by decide +kernel
theorem dX0_apply_42 : decode cX0_apply 42 = .ok (.lcmp, 1) := by decide +kernel
theorem dX0_apply_43 : decode cX0_apply 43 = .ok (.ifCond .ne 7, 3) := by decide +kernel
theorem dX0_apply_46 : decode cX0_apply 46 = .ok (.lconst 0, 1) := by decide +kernel
theorem dX0_apply_47 : decode cX0_apply 47 = .ok (.goto 6, 3) := by decide +kernel
theorem dX0_apply_50 : decode cX0_apply 50 = .ok (.lload_n 1, 1) := by decide +kernel
theorem dX0_apply_51 : decode cX0_apply 51 = .ok (.lload_n 3, 1) := by decide +kernel
theorem dX0_apply_52 : decode cX0_apply 52 = .ok (.ldiv, 1) := by decide +kernel
theorem dX0_apply_53 : decode cX0_apply 53 = .ok (.lreturn, 1) := by decide +kernel
theorem dX0_limit_0 : decode cX0_limit 0 = .ok (.lload_n 0, 1) := by decide +kernel
theorem dX0_limit_1 : decode cX0_limit 1 = .ok (.ldc2_w 39, 3) := by decide +kernel
theorem dX0_limit_4 : decode cX0_limit 4 = .ok (.lcmp, 1) := by decide +kernel
theorem dX0_limit_5 : decode cX0_limit 5 = .ok (.ifCond .le 6, 3) := by decide +kernel
theorem dX0_limit_8 : decode cX0_limit 8 = .ok (.ldc 41, 2) := by decide +kernel
theorem dX0_limit_10 : decode cX0_limit 10 = .ok (.ireturn, 1) := by decide +kernel
theorem dX0_limit_11 : decode cX0_limit 11 = .ok (.lload_n 0, 1) := by decide +kernel
theorem dX0_limit_12 : decode cX0_limit 12 = .ok (.ldc2_w 42, 3) := by decide +kernel
theorem dX0_limit_15 : decode cX0_limit 15 = .ok (.lcmp, 1) := by decide +kernel
theorem dX0_limit_16 : decode cX0_limit 16 = .ok (.ifCond .ge 8, 3) := by decide +kernel
theorem dX0_limit_19 : decode cX0_limit 19 = .ok (.ldc 44, 2) := by decide +kernel
theorem dX0_limit_21 : decode cX0_limit 21 = .ok (.goto 5, 3) := by decide +kernel
theorem dX0_limit_24 : decode cX0_limit 24 = .ok (.lload_n 0, 1) := by decide +kernel
theorem dX0_limit_25 : decode cX0_limit 25 = .ok (.l2i, 1) := by decide +kernel
theorem dX0_limit_26 : decode cX0_limit 26 = .ok (.ireturn, 1) := by decide +kernel
theorem dX1_init_0 : decode cX1_init 0 = .ok (.aload_n 0, 1) := by decide +kernel
theorem dX1_init_1 : decode cX1_init 1 = .ok (.invokespecial 3, 3) := by decide +kernel
theorem dX1_init_4 : decode cX1_init 4 = .ok (.aload_n 0, 1) := by decide +kernel
theorem dX1_init_5 : decode cX1_init 5 = .ok (.bipush 36, 2) := by decide +kernel
theorem dX1_init_7 : decode cX1_init 7 = .ok (.newarray .int, 2) := by decide +kernel
theorem dX1_init_9 : decode cX1_init 9 = .ok (.putfield 9, 3) := by decide +kernel
theorem dX1_init_12 : decode cX1_init 12 = .ok (.aload_n 0, 1) := by decide +kernel
theorem dX1_init_13 : decode cX1_init 13 = .ok (.bipush 36, 2) := by decide +kernel
theorem dX1_init_15 : decode cX1_init 15 = .ok (.newarray .int, 2) := by decide +kernel
theorem dX1_init_17 : decode cX1_init 17 = .ok (.putfield 15, 3) := by decide +kernel
theorem dX1_init_20 : decode cX1_init 20 = .ok (.aload_n 0, 1) := by decide +kernel
theorem dX1_init_21 : decode cX1_init 21 = .ok (.aload_n 1, 1) := by decide +kernel
theorem dX1_init_22 : decode cX1_init 22 = .ok (.putfield 18, 3) := by decide +kernel
theorem dX1_init_25 : decode cX1_init 25 = .ok (.return_, 1) := by decide +kernel
theorem dX1_copyFrom_0 : decode cX1_copyFrom 0 = .ok (.aload_n 0, 1) := by decide +kernel
theorem dX1_copyFrom_1 : decode cX1_copyFrom 1 = .ok (.aload_n 1, 1) := by decide +kernel
theorem dX1_copyFrom_2 : decode cX1_copyFrom 2 = .ok (.getfield 18, 3) := by decide +kernel
theorem dX1_copyFrom_5 : decode cX1_copyFrom 5 = .ok (.putfield 18, 3) := by decide +kernel
theorem dX1_copyFrom_8 : decode cX1_copyFrom 8 = .ok (.aload_n 1, 1) := by decide +kernel
theorem dX1_copyFrom_9 : decode cX1_copyFrom 9 = .ok (.getfield 9, 3) := by decide +kernel
theorem dX1_copyFrom_12 : decode cX1_copyFrom 12 = .ok (.iconst 0, 1) := by decide +kernel
theorem dX1_copyFrom_13 : decode cX1_copyFrom 13 = .ok (.aload_n 0, 1) := by decide +kernel
theorem dX1_copyFrom_14 : decode cX1_copyFrom 14 = .ok (.getfield 9, 3) := by decide +kernel
theorem dX1_copyFrom_17 : decode cX1_copyFrom 17 = .ok (.iconst 0, 1) := by decide +kernel
theorem dX1_copyFrom_18 : decode cX1_copyFrom 18 = .ok (.bipush 36, 2) := by decide +kernel
theorem dX1_copyFrom_20 : decode cX1_copyFrom 20 = .ok (.invokestatic 22, 3) := by decide +kernel
theorem dX1_copyFrom_23 : decode cX1_copyFrom 23 = .ok (.aload_n 1, 1) := by decide +kernel
theorem dX1_copyFrom_24 : decode cX1_copyFrom 24 = .ok (.getfield 15, 3) := by decide +kernel
theorem dX1_copyFrom_27 : decode cX1_copyFrom 27 = .ok (.iconst 0, 1) := by decide +kernel
theorem dX1_copyFrom_28 : decode cX1_copyFrom 28 = .ok (.aload_n 0, 1) := by decide +kernel
theorem dX1_copyFrom_29 : decode cX1_copyFrom 29 = .ok (.getfield 15, 3) := by decide +kernel
theorem dX1_copyFrom_32 : decode cX1_copyFrom 32 = .ok (.iconst 0, 1) := by decide +kernel
theorem dX1_copyFrom_33 : decode cX1_copyFrom 33 = .ok (.bipush 36, 2) := by decide +kernel
theorem dX1_copyFrom_35 : decode cX1_copyFrom 35 = .ok (.invokestatic 22, 3) := by decide +kernel
theorem dX1_copyFrom_38 : decode cX1_copyFrom 38 = .ok (.return_, 1) := by decide +kernel
theorem dX1_begin_0 : decode cX1_begin 0 = .ok (.aload_n 0, 1) := by decide +kernel
theorem dX1_begin_1 : decode cX1_begin 1 = .ok (.aload_n 1, 1) := by decide +kernel
theorem dX1_begin_2 : decode cX1_begin 2 = .ok (.putfield 18, 3) := by decide +kernel
theorem dX1_begin_5 : decode cX1_begin 5 = .ok (.aload_n 1, 1) := by decide +kernel
theorem dX1_begin_6 : decode cX1_begin 6 = .ok (.getfield 28, 3) := by decide +kernel
theorem dX1_begin_9 : decode cX1_begin 9 = .ok (.iconst 0, 1) := by decide +kernel
theorem dX1_begin_10 : decode cX1_begin 10 = .ok (.aload_n 0, 1) := by decide +kernel
theorem dX1_begin_11 : decode cX1_begin 11 = .ok (.getfield 9, 3) := by decide +kernel
theorem dX1_begin_14 : decode cX1_begin 14 = .ok (.iconst 0, 1) := by decide +kernel
theorem dX1_begin_15 : decode cX1_begin 15 = .ok (.bipush 36, 2) := by decide +kernel
theorem dX1_begin_17 : decode cX1_begin 17 = .ok (.invokestatic 22, 3) := by decide +kernel
theorem dX1_begin_20 : decode cX1_begin 20 = .ok (.aload_n 0, 1) := by decide +kernel
theorem dX1_begin_21 : decode cX1_begin 21 = .ok (.invokevirtual 33, 3) := by decide +kernel
theorem dX1_begin_24 : decode cX1_begin 24 = .ok (.return_, 1) := by decide +kernel
theorem dX1_setFirstOrders_0 : decode cX1_setFirstOrders 0 = .ok (.iconst 0, 1) := by decide +kernel
theorem dX1_setFirstOrders_1 : decode cX1_setFirstOrders 1 = .ok (.istore_n 1, 1) := by decide +kernel
theorem dX1_setFirstOrders_2 : decode cX1_setFirstOrders 2 = .ok (.iload_n 1, 1) := by decide +kernel
theorem dX1_setFirstOrders_3 : decode cX1_setFirstOrders 3 = .ok (.aload_n 0, 1) := by decide +kernel
theorem dX1_setFirstOrders_4 : decode cX1_setFirstOrders 4 = .ok (.getfield 18, 3) := by decide +kernel
theorem dX1_setFirstOrders_7 : decode cX1_setFirstOrders 7 = .ok (.getfield 36, 3) := by decide +kernel
theorem dX1_setFirstOrders_10 : decode cX1_setFirstOrders 10 = .ok (.if_icmp .ge 14, 3) := by decide +kernel
theorem dX1_setFirstOrders_13 : decode cX1_setFirstOrders 13 = .ok (.aload_n 0, 1) := by decide +kernel
theorem dX1_setFirstOrders_14 : decode cX1_setFirstOrders 14 = .ok (.iload_n 1, 1) := by decide +kernel
theorem dX1_setFirstOrders_15 : decode cX1_setFirstOrders 15 = .ok (.invokevirtual 40, 3) := by decide +kernel
theorem dX1_setFirstOrders_18 : decode cX1_setFirstOrders 18 = .ok (.iinc 1 1, 3) := by decide +kernel
theorem dX1_setFirstOrders_21 : decode cX1_setFirstOrders 21 = .ok (.goto (-19), 3) := by decide +kernel
theorem dX1_setFirstOrders_24 : decode cX1_setFirstOrders 24 = .ok (.return_, 1) := by decide +kernel
theorem dX1_setFirstOrder_0 : decode cX1_setFirstOrder 0 = .ok (.iconst 0, 1) := by decide +kernel
theorem dX1_setFirstOrder_1 : decode cX1_setFirstOrder 1 = .ok (.istore_n 2, 1) := by decide +kernel
theorem dX1_setFirstOrder_2 : decode cX1_setFirstOrder 2 = .ok (.iconst 0, 1) := by decide +kernel
theorem dX1_setFirstOrder_3 : decode cX1_setFirstOrder 3 = .ok (.istore_n 3, 1) := by decide +kernel
theorem dX1_setFirstOrder_4 : decode cX1_setFirstOrder 4 = .ok (.iload_n 3, 1) := by decide +kernel
theorem dX1_setFirstOrder_5 : decode cX1_setFirstOrder 5 = .ok (.aload_n 0, 1) := by decide +kernel
theorem dX1_setFirstOrder_6 : decode cX1_setFirstOrder 6 = .ok (.getfield 18, 3) := by decide +kernel
theorem dX1_setFirstOrder_9 : decode cX1_setFirstOrder 9 = .ok (.getfield 44, 3) := by decide +kernel
theorem dX1_setFirstOrder_12 : decode cX1_setFirstOrder 12 = .ok (.if_icmp .ge 76, 3) := by decide +kernel
theorem dX1_setFirstOrder_15 : decode cX1_setFirstOrder 15 = .ok (.iconst 0, 1) := by decide +kernel
theorem dX1_setFirstOrder_16 : decode cX1_setFirstOrder 16 = .ok (.istore 4, 2) := by decide +kernel
theorem dX1_setFirstOrder_18 : decode cX1_setFirstOrder 18 = .ok (.iload 4, 2) := by decide +kernel
theorem dX1_setFirstOrder_20 : decode cX1_setFirstOrder 20 = .ok (.aload_n 0, 1) := by decide +kernel
theorem dX1_setFirstOrder_21 : decode cX1_setFirstOrder 21 = .ok (.getfield 18, 3) := by decide +kernel
theorem dX1_setFirstOrder_24 : decode cX1_setFirstOrder 24 = .ok (.getfield 47, 3) := by decide +kernel
theorem dX1_setFirstOrder_27 : decode cX1_setFirstOrder 27 = .ok (.iload_n 3, 1) := by decide +kernel
theorem dX1_setFirstOrder_28 : decode cX1_setFirstOrder 28 = .ok (.iaload, 1) := by decide +kernel
theorem dX1_setFirstOrder_29 : decode cX1_setFirstOrder 29 = .ok (.if_icmp .ge 53, 3) := by decide +kernel
theorem dX1_setFirstOrder_32 : decode cX1_setFirstOrder 32 = .ok (.iload_n 3, 1) := by decide +kernel
theorem dX1_setFirstOrder_33 : decode cX1_setFirstOrder 33 = .ok (.iload 4, 2) := by decide +kernel
theorem dX1_setFirstOrder_35 : decode cX1_setFirstOrder 35 = .ok (.invokestatic 50, 3) := by decide +kernel
theorem dX1_setFirstOrder_38 : decode cX1_setFirstOrder 38 = .ok (.istore 5, 2) := by decide +kernel
theorem dX1_setFirstOrder_40 : decode cX1_setFirstOrder 40 = .ok (.aload_n 0, 1) := by decide +kernel
theorem dX1_setFirstOrder_41 : decode cX1_setFirstOrder 41 = .ok (.getfield 18, 3) := by decide +kernel
theorem dX1_setFirstOrder_44 : decode cX1_setFirstOrder 44 = .ok (.getfield 54, 3) := by decide +kernel
theorem dX1_setFirstOrder_47 : decode cX1_setFirstOrder 47 = .ok (.iload 5, 2) := by decide +kernel
theorem dX1_setFirstOrder_49 : decode cX1_setFirstOrder 49 = .ok (.iaload, 1) := by decide +kernel
theorem dX1_setFirstOrder_50 : decode cX1_setFirstOrder 50 = .ok (.iload_n 1, 1) := by decide +kernel
theorem dX1_setFirstOrder_51 : decode cX1_setFirstOrder 51 = .ok (.if_icmp .ne 25, 3) := by decide +kernel
theorem dX1_setFirstOrder_54 : decode cX1_setFirstOrder 54 = .ok (.iload_n 2, 1) := by decide +kernel
theorem dX1_setFirstOrder_55 : decode cX1_setFirstOrder 55 = .ok (.bipush 6, 2) := by decide +kernel
theorem dX1_setFirstOrder_57 : decode cX1_setFirstOrder 57 = .ok (.if_icmp .ge 19, 3) := by decide +kernel
theorem dX1_setFirstOrder_60 : decode cX1_setFirstOrder 60 = .ok (.aload_n 0, 1) := by decide +kernel
theorem dX1_setFirstOrder_61 : decode cX1_setFirstOrder 61 = .ok (.getfield 15, 3) := by decide +kernel
theorem dX1_setFirstOrder_64 : decode cX1_setFirstOrder 64 = .ok (.iload_n 1, 1) := by decide +kernel
theorem dX1_setFirstOrder_65 : decode cX1_setFirstOrder 65 = .ok (.bipush 6, 2) := by decide +kernel
theorem dX1_setFirstOrder_67 : decode cX1_setFirstOrder 67 = .ok (.imul, 1) := by decide +kernel
theorem dX1_setFirstOrder_68 : decode cX1_setFirstOrder 68 = .ok (.iload_n 2, 1) := by decide +kernel
theorem dX1_setFirstOrder_69 : decode cX1_setFirstOrder 69 = .ok (.iadd, 1) := by decide +kernel
theorem dX1_setFirstOrder_70 : decode cX1_setFirstOrder 70 = .ok (.iload 5, 2) := by decide +kernel
theorem dX1_setFirstOrder_72 : decode cX1_setFirstOrder 72 = .ok (.iastore, 1) := by decide +kernel
theorem dX1_setFirstOrder_73 : decode cX1_setFirstOrder 73 = .ok (.iinc 2 1, 3) := by decide +kernel
theorem dX1_setFirstOrder_76 : decode cX1_setFirstOrder 76 = .ok (.iinc 4 1, 3) := by decide +kernel
theorem dX1_setFirstOrder_79 : decode cX1_setFirstOrder 79 = .ok (.goto (-61), 3) := by decide +kernel
theorem dX1_setFirstOrder_82 : decode cX1_setFirstOrder 82 = .ok (.iinc 3 1, 3) := by decide +kernel
theorem dX1_setFirstOrder_85 : decode cX1_setFirstOrder 85 = .ok (.goto (-81), 3) := by decide +kernel
theorem dX1_setFirstOrder_88 : decode cX1_setFirstOrder 88 = .ok (.return_, 1) := by decide +kernel
theorem dX1_positionOf_0 : decode cX1_positionOf 0 = .ok (.aload_n 0, 1) := by decide +kernel
theorem dX1_positionOf_1 : decode cX1_positionOf 1 = .ok (.getfield 18, 3) := by decide +kernel
theorem dX1_positionOf_4 : decode cX1_positionOf 4 = .ok (.getfield 54, 3) := by decide +kernel
theorem dX1_positionOf_7 : decode cX1_positionOf 7 = .ok (.iload_n 1, 1) := by decide +kernel
theorem dX1_positionOf_8 : decode cX1_positionOf 8 = .ok (.iaload, 1) := by decide +kernel
theorem dX1_positionOf_9 : decode cX1_positionOf 9 = .ok (.istore_n 2, 1) := by decide +kernel
theorem dX1_positionOf_10 : decode cX1_positionOf 10 = .ok (.iconst 0, 1) := by decide +kernel
theorem dX1_positionOf_11 : decode cX1_positionOf 11 = .ok (.istore_n 3, 1) := by decide +kernel
theorem dX1_positionOf_12 : decode cX1_positionOf 12 = .ok (.iload_n 3, 1) := by decide +kernel
theorem dX1_positionOf_13 : decode cX1_positionOf 13 = .ok (.aload_n 0, 1) := by decide +kernel
theorem dX1_positionOf_14 : decode cX1_positionOf 14 = .ok (.getfield 18, 3) := by decide +kernel
theorem dX1_positionOf_17 : decode cX1_positionOf 17 = .ok (.getfield 57, 3) := by decide +kernel
theorem dX1_positionOf_20 : decode cX1_positionOf 20 = .ok (.iload_n 2, 1) := by decide +kernel
theorem dX1_positionOf_21 : decode cX1_positionOf 21 = .ok (.iaload, 1) := by decide +kernel
theorem dX1_positionOf_22 : decode cX1_positionOf 22 = .ok (.iconst 1, 1) := by decide +kernel
theorem dX1_positionOf_23 : decode cX1_positionOf 23 = .ok (.isub, 1) := by decide +kernel
theorem dX1_positionOf_24 : decode cX1_positionOf 24 = .ok (.if_icmp .ge 24, 3) := by decide +kernel
theorem dX1_positionOf_27 : decode cX1_positionOf 27 = .ok (.aload_n 0, 1) := by decide +kernel
theorem dX1_positionOf_28 : decode cX1_positionOf 28 = .ok (.getfield 15, 3) := by decide +kernel
theorem dX1_positionOf_31 : decode cX1_positionOf 31 = .ok (.iload_n 2, 1) := by decide +kernel
theorem dX1_positionOf_32 : decode cX1_positionOf 32 = .ok (.bipush 6, 2) := by decide +kernel
theorem dX1_positionOf_34 : decode cX1_positionOf 34 = .ok (.imul, 1) := by decide +kernel
theorem dX1_positionOf_35 : decode cX1_positionOf 35 = .ok (.iload_n 3, 1) := by decide +kernel
theorem dX1_positionOf_36 : decode cX1_positionOf 36 = .ok (.iadd, 1) := by decide +kernel
theorem dX1_positionOf_37 : decode cX1_positionOf 37 = .ok (.iaload, 1) := by decide +kernel
theorem dX1_positionOf_38 : decode cX1_positionOf 38 = .ok (.iload_n 1, 1) := by decide +kernel
theorem dX1_positionOf_39 : decode cX1_positionOf 39 = .ok (.if_icmp .eq 9, 3) := by decide +kernel
theorem dX1_positionOf_42 : decode cX1_positionOf 42 = .ok (.iinc 3 1, 3) := by decide +kernel
theorem dX1_positionOf_45 : decode cX1_positionOf 45 = .ok (.goto (-33), 3) := by decide +kernel
theorem dX1_positionOf_48 : decode cX1_positionOf 48 = .ok (.iload_n 3, 1) := by decide +kernel
theorem dX1_positionOf_49 : decode cX1_positionOf 49 = .ok (.ireturn, 1) := by decide +kernel
theorem dX1_exchange_0 : decode cX1_exchange 0 = .ok (.iload_n 1, 1) := by decide +kernel
theorem dX1_exchange_1 : decode cX1_exchange 1 = .ok (.bipush 6, 2) := by decide +kernel
theorem dX1_exchange_3 : decode cX1_exchange 3 = .ok (.imul, 1) := by decide +kernel
theorem dX1_exchange_4 : decode cX1_exchange 4 = .ok (.iload_n 2, 1) := by decide +kernel
theorem dX1_exchange_5 : decode cX1_exchange 5 = .ok (.iadd, 1) := by decide +kernel
theorem dX1_exchange_6 : decode cX1_exchange 6 = .ok (.istore_n 3, 1) := by decide +kernel
theorem dX1_exchange_7 : decode cX1_exchange 7 = .ok (.aload_n 0, 1) := by decide +kernel
theorem dX1_exchange_8 : decode cX1_exchange 8 = .ok (.getfield 15, 3) := by decide +kernel
theorem dX1_exchange_11 : decode cX1_exchange 11 = .ok (.iload_n 3, 1) := by decide +kernel
theorem dX1_exchange_12 : decode cX1_exchange 12 = .ok (.iaload, 1) := by decide +kernel
theorem dX1_exchange_13 : decode cX1_exchange 13 = .ok (.istore 4, 2) := by decide +kernel
theorem dX1_exchange_15 : decode cX1_exchange 15 = .ok (.aload_n 0, 1) := by decide +kernel
theorem dX1_exchange_16 : decode cX1_exchange 16 = .ok (.getfield 15, 3) := by decide +kernel
theorem dX1_exchange_19 : decode cX1_exchange 19 = .ok (.iload_n 3, 1) := by decide +kernel
theorem dX1_exchange_20 : decode cX1_exchange 20 = .ok (.aload_n 0, 1) := by decide +kernel
theorem dX1_exchange_21 : decode cX1_exchange 21 = .ok (.getfield 15, 3) := by decide +kernel
theorem dX1_exchange_24 : decode cX1_exchange 24 = .ok (.iload_n 3, 1) := by decide +kernel
theorem dX1_exchange_25 : decode cX1_exchange 25 = .ok (.iconst 1, 1) := by decide +kernel
theorem dX1_exchange_26 : decode cX1_exchange 26 = .ok (.iadd, 1) := by decide +kernel
theorem dX1_exchange_27 : decode cX1_exchange 27 = .ok (.iaload, 1) := by decide +kernel
theorem dX1_exchange_28 : decode cX1_exchange 28 = .ok (.iastore, 1) := by decide +kernel
theorem dX1_exchange_29 : decode cX1_exchange 29 = .ok (.aload_n 0, 1) := by decide +kernel
theorem dX1_exchange_30 : decode cX1_exchange 30 = .ok (.getfield 15, 3) := by decide +kernel
theorem dX1_exchange_33 : decode cX1_exchange 33 = .ok (.iload_n 3, 1) := by decide +kernel
theorem dX1_exchange_34 : decode cX1_exchange 34 = .ok (.iconst 1, 1) := by decide +kernel
theorem dX1_exchange_35 : decode cX1_exchange 35 = .ok (.iadd, 1) := by decide +kernel
theorem dX1_exchange_36 : decode cX1_exchange 36 = .ok (.iload 4, 2) := by decide +kernel
theorem dX1_exchange_38 : decode cX1_exchange 38 = .ok (.iastore, 1) := by decide +kernel
theorem dX1_exchange_39 : decode cX1_exchange 39 = .ok (.return_, 1) := by decide +kernel
theorem dX1_move_0 : decode cX1_move 0 = .ok (.iload_n 2, 1) := by decide +kernel
theorem dX1_move_1 : decode cX1_move 1 = .ok (.istore 4, 2) := by decide +kernel
theorem dX1_move_3 : decode cX1_move 3 = .ok (.iload 4, 2) := by decide +kernel
theorem dX1_move_5 : decode cX1_move 5 = .ok (.iload_n 3, 1) := by decide +kernel
theorem dX1_move_6 : decode cX1_move 6 = .ok (.if_icmp .ge 16, 3) := by decide +kernel
theorem dX1_move_9 : decode cX1_move 9 = .ok (.aload_n 0, 1) := by decide +kernel
theorem dX1_move_10 : decode cX1_move 10 = .ok (.iload_n 1, 1) := by decide +kernel
theorem dX1_move_11 : decode cX1_move 11 = .ok (.iload 4, 2) := by decide +kernel
theorem dX1_move_13 : decode cX1_move 13 = .ok (.invokevirtual 60, 3) := by decide +kernel
theorem dX1_move_16 : decode cX1_move 16 = .ok (.iinc 4 1, 3) := by decide +kernel
theorem dX1_move_19 : decode cX1_move 19 = .ok (.goto (-16), 3) := by decide +kernel
theorem dX1_move_22 : decode cX1_move 22 = .ok (.iload_n 2, 1) := by decide +kernel
theorem dX1_move_23 : decode cX1_move 23 = .ok (.istore 4, 2) := by decide +kernel
theorem dX1_move_25 : decode cX1_move 25 = .ok (.iload 4, 2) := by decide +kernel
theorem dX1_move_27 : decode cX1_move 27 = .ok (.iload_n 3, 1) := by decide +kernel
theorem dX1_move_28 : decode cX1_move 28 = .ok (.if_icmp .le 18, 3) := by decide +kernel
theorem dX1_move_31 : decode cX1_move 31 = .ok (.aload_n 0, 1) := by decide +kernel
theorem dX1_move_32 : decode cX1_move 32 = .ok (.iload_n 1, 1) := by decide +kernel
theorem dX1_move_33 : decode cX1_move 33 = .ok (.iload 4, 2) := by decide +kernel
theorem dX1_move_35 : decode cX1_move 35 = .ok (.iconst 1, 1) := by decide +kernel
theorem dX1_move_36 : decode cX1_move 36 = .ok (.isub, 1) := by decide +kernel
theorem dX1_move_37 : decode cX1_move 37 = .ok (.invokevirtual 60, 3) := by decide +kernel
theorem dX1_move_40 : decode cX1_move 40 = .ok (.iinc 4 (-1), 3) := by decide +kernel
theorem dX1_move_43 : decode cX1_move 43 = .ok (.goto (-18), 3) := by decide +kernel
theorem dX1_move_46 : decode cX1_move 46 = .ok (.return_, 1) := by decide +kernel
theorem dX2_init_0 : decode cX2_init 0 = .ok (.aload_n 0, 1) := by decide +kernel
theorem dX2_init_1 : decode cX2_init 1 = .ok (.invokespecial 3, 3) := by decide +kernel
theorem dX2_init_4 : decode cX2_init 4 = .ok (.aload_n 0, 1) := by decide +kernel
theorem dX2_init_5 : decode cX2_init 5 = .ok (.bipush 36, 2) := by decide +kernel
theorem dX2_init_7 : decode cX2_init 7 = .ok (.newarray .int, 2) := by decide +kernel
theorem dX2_init_9 : decode cX2_init 9 = .ok (.putfield 9, 3) := by decide +kernel
theorem dX2_init_12 : decode cX2_init 12 = .ok (.aload_n 0, 1) := by decide +kernel
theorem dX2_init_13 : decode cX2_init 13 = .ok (.bipush 36, 2) := by decide +kernel
theorem dX2_init_15 : decode cX2_init 15 = .ok (.newarray .int, 2) := by decide +kernel
theorem dX2_init_17 : decode cX2_init 17 = .ok (.putfield 15, 3) := by decide +kernel
theorem dX2_init_20 : decode cX2_init 20 = .ok (.aload_n 0, 1) := by decide +kernel
theorem dX2_init_21 : decode cX2_init 21 = .ok (.bipush 36, 2) := by decide +kernel
theorem dX2_init_23 : decode cX2_init 23 = .ok (.newarray .int, 2) := by decide +kernel
theorem dX2_init_25 : decode cX2_init 25 = .ok (.putfield 18, 3) := by decide +kernel
theorem dX2_init_28 : decode cX2_init 28 = .ok (.aload_n 0, 1) := by decide +kernel
theorem dX2_init_29 : decode cX2_init 29 = .ok (.bipush 36, 2) := by decide +kernel
theorem dX2_init_31 : decode cX2_init 31 = .ok (.newarray .boolean, 2) := by decide +kernel
theorem dX2_init_33 : decode cX2_init 33 = .ok (.putfield 21, 3) := by decide +kernel
theorem dX2_init_36 : decode cX2_init 36 = .ok (.aload_n 0, 1) := by decide +kernel
theorem dX2_init_37 : decode cX2_init 37 = .ok (.bipush 36, 2) := by decide +kernel
theorem dX2_init_39 : decode cX2_init 39 = .ok (.newarray .int, 2) := by decide +kernel
theorem dX2_init_41 : decode cX2_init 41 = .ok (.putfield 25, 3) := by decide +kernel
theorem dX2_init_44 : decode cX2_init 44 = .ok (.aload_n 0, 1) := by decide +kernel
theorem dX2_init_45 : decode cX2_init 45 = .ok (.iconst 0, 1) := by decide +kernel
theorem dX2_init_46 : decode cX2_init 46 = .ok (.putfield 28, 3) := by decide +kernel
theorem dX2_init_49 : decode cX2_init 49 = .ok (.aload_n 0, 1) := by decide +kernel
theorem dX2_init_50 : decode cX2_init 50 = .ok (.new 32, 3) := by decide +kernel
theorem dX2_init_53 : decode cX2_init 53 = .ok (.dup, 1) := by decide +kernel
theorem dX2_init_54 : decode cX2_init 54 = .ok (.invokespecial 34, 3) := by decide +kernel
theorem dX2_init_57 : decode cX2_init 57 = .ok (.putfield 35, 3) := by decide +kernel
theorem dX2_init_60 : decode cX2_init 60 = .ok (.aload_n 0, 1) := by decide +kernel
theorem dX2_init_61 : decode cX2_init 61 = .ok (.new 39, 3) := by decide +kernel
theorem dX2_init_64 : decode cX2_init 64 = .ok (.dup, 1) := by decide +kernel
theorem dX2_init_65 : decode cX2_init 65 = .ok (.aload_n 1, 1) := by decide +kernel
theorem dX2_init_66 : decode cX2_init 66 = .ok (.invokespecial 41, 3) := by decide +kernel
theorem dX2_init_69 : decode cX2_init 69 = .ok (.putfield 44, 3) := by decide +kernel
theorem dX2_init_72 : decode cX2_init 72 = .ok (.return_, 1) := by decide +kernel
theorem dX2_compute_0 : decode cX2_compute 0 = .ok (.iconst 0, 1) := by decide +kernel
theorem dX2_compute_1 : decode cX2_compute 1 = .ok (.istore_n 1, 1) := by decide +kernel
theorem dX2_compute_2 : decode cX2_compute 2 = .ok (.iload_n 1, 1) := by decide +kernel
theorem dX2_compute_3 : decode cX2_compute 3 = .ok (.aload_n 0, 1) := by decide +kernel
theorem dX2_compute_4 : decode cX2_compute 4 = .ok (.getfield 44, 3) := by decide +kernel
theorem dX2_compute_7 : decode cX2_compute 7 = .ok (.getfield 48, 3) := by decide +kernel
theorem dX2_compute_10 : decode cX2_compute 10 = .ok (.getfield 52, 3) := by decide +kernel
theorem dX2_compute_13 : decode cX2_compute 13 = .ok (.if_icmp .ge 14, 3) := by decide +kernel
theorem dX2_compute_16 : decode cX2_compute 16 = .ok (.aload_n 0, 1) := by decide +kernel
theorem dX2_compute_17 : decode cX2_compute 17 = .ok (.iload_n 1, 1) := by decide +kernel
theorem dX2_compute_18 : decode cX2_compute 18 = .ok (.invokevirtual 57, 3) := by decide +kernel
theorem dX2_compute_21 : decode cX2_compute 21 = .ok (.iinc 1 1, 3) := by decide +kernel
theorem dX2_compute_24 : decode cX2_compute 24 = .ok (.goto (-22), 3) := by decide +kernel
theorem dX2_compute_27 : decode cX2_compute 27 = .ok (.aload_n 0, 1) := by decide +kernel
theorem dX2_compute_28 : decode cX2_compute 28 = .ok (.invokevirtual 61, 3) := by decide +kernel
theorem dX2_compute_31 : decode cX2_compute 31 = .ok (.istore_n 1, 1) := by decide +kernel
theorem dX2_compute_32 : decode cX2_compute 32 = .ok (.iload_n 1, 1) := by decide +kernel
theorem dX2_compute_33 : decode cX2_compute 33 = .ok (.istore_n 2, 1) := by decide +kernel
theorem dX2_compute_34 : decode cX2_compute 34 = .ok (.iconst 0, 1) := by decide +kernel
theorem dX2_compute_35 : decode cX2_compute 35 = .ok (.istore_n 3, 1) := by decide +kernel
theorem dX2_compute_36 : decode cX2_compute 36 = .ok (.iload_n 3, 1) := by decide +kernel
theorem dX2_compute_37 : decode cX2_compute 37 = .ok (.bipush 36, 2) := by decide +kernel
theorem dX2_compute_39 : decode cX2_compute 39 = .ok (.if_icmp .ge 48, 3) := by decide +kernel
theorem dX2_compute_42 : decode cX2_compute 42 = .ok (.iload_n 1, 1) := by decide +kernel
theorem dX2_compute_43 : decode cX2_compute 43 = .ok (.ifCond .le 44, 3) := by decide +kernel
theorem dX2_compute_46 : decode cX2_compute 46 = .ok (.iload_n 2, 1) := by decide +kernel
theorem dX2_compute_47 : decode cX2_compute 47 = .ok (.ifCond .le 40, 3) := by decide +kernel
theorem dX2_compute_50 : decode cX2_compute 50 = .ok (.aload_n 0, 1) := by decide +kernel
theorem dX2_compute_51 : decode cX2_compute 51 = .ok (.invokevirtual 65, 3) := by decide +kernel
theorem dX2_compute_54 : decode cX2_compute 54 = .ok (.istore_n 2, 1) := by decide +kernel
theorem dX2_compute_55 : decode cX2_compute 55 = .ok (.iload_n 2, 1) := by decide +kernel
theorem dX2_compute_56 : decode cX2_compute 56 = .ok (.ifCond .ne 21, 3) := by decide +kernel
theorem dX2_compute_59 : decode cX2_compute 59 = .ok (.aload_n 0, 1) := by decide +kernel
theorem dX2_compute_60 : decode cX2_compute 60 = .ok (.getfield 44, 3) := by decide +kernel
theorem dX2_compute_63 : decode cX2_compute 63 = .ok (.getfield 48, 3) := by decide +kernel
theorem dX2_compute_66 : decode cX2_compute 66 = .ok (.getfield 68, 3) := by decide +kernel
theorem dX2_compute_69 : decode cX2_compute 69 = .ok (.ifCond .eq 8, 3) := by decide +kernel
theorem dX2_compute_72 : decode cX2_compute 72 = .ok (.aload_n 0, 1) := by decide +kernel
theorem dX2_compute_73 : decode cX2_compute 73 = .ok (.invokevirtual 72, 3) := by decide +kernel
theorem dX2_compute_76 : decode cX2_compute 76 = .ok (.istore_n 2, 1) := by decide +kernel
theorem dX2_compute_77 : decode cX2_compute 77 = .ok (.iload_n 1, 1) := by decide +kernel
theorem dX2_compute_78 : decode cX2_compute 78 = .ok (.iload_n 2, 1) := by decide +kernel
theorem dX2_compute_79 : decode cX2_compute 79 = .ok (.isub, 1) := by decide +kernel
theorem dX2_compute_80 : decode cX2_compute 80 = .ok (.istore_n 1, 1) := by decide +kernel
theorem dX2_compute_81 : decode cX2_compute 81 = .ok (.iinc 3 1, 3) := by decide +kernel
theorem dX2_compute_84 : decode cX2_compute 84 = .ok (.goto (-48), 3) := by decide +kernel
theorem dX2_compute_87 : decode cX2_compute 87 = .ok (.iload_n 1, 1) := by decide +kernel
theorem dX2_compute_88 : decode cX2_compute 88 = .ok (.ifCond .ne 7, 3) := by decide +kernel
theorem dX2_compute_91 : decode cX2_compute 91 = .ok (.iconst 1, 1) := by decide +kernel
theorem dX2_compute_92 : decode cX2_compute 92 = .ok (.goto 4, 3) := by decide +kernel
theorem dX2_compute_95 : decode cX2_compute 95 = .ok (.iconst 0, 1) := by decide +kernel
theorem dX2_compute_96 : decode cX2_compute 96 = .ok (.ireturn, 1) := by decide +kernel
theorem dX2_setArcs_0 : decode cX2_setArcs 0 = .ok (.aload_n 0, 1) := by decide +kernel
theorem dX2_setArcs_1 : decode cX2_setArcs 1 = .ok (.getfield 44, 3) := by decide +kernel
theorem dX2_setArcs_4 : decode cX2_setArcs 4 = .ok (.getfield 48, 3) := by decide +kernel
theorem dX2_setArcs_7 : decode cX2_setArcs 7 = .ok (.astore_n 2, 1) := by decide +kernel
theorem dX2_setArcs_8 : decode cX2_setArcs 8 = .ok (.aload_n 2, 1) := by decide +kernel
theorem dX2_setArcs_9 : decode cX2_setArcs 9 = .ok (.getfield 75, 3) := by decide +kernel
theorem dX2_setArcs_12 : decode cX2_setArcs 12 = .ok (.iload_n 1, 1) := by decide +kernel
theorem dX2_setArcs_13 : decode cX2_setArcs 13 = .ok (.iaload, 1) := by decide +kernel
theorem dX2_setArcs_14 : decode cX2_setArcs 14 = .ok (.istore_n 3, 1) := by decide +kernel
theorem dX2_setArcs_15 : decode cX2_setArcs 15 = .ok (.iconst (-1), 1) := by decide +kernel
theorem dX2_setArcs_16 : decode cX2_setArcs 16 = .ok (.istore 4, 2) := by decide +kernel
theorem dX2_setArcs_18 : decode cX2_setArcs 18 = .ok (.iconst 0, 1) := by decide +kernel
theorem dX2_setArcs_19 : decode cX2_setArcs 19 = .ok (.istore 5, 2) := by decide +kernel
theorem dX2_setArcs_21 : decode cX2_setArcs 21 = .ok (.iload 5, 2) := by decide +kernel
theorem dX2_setArcs_23 : decode cX2_setArcs 23 = .ok (.aload_n 2, 1) := by decide +kernel
theorem dX2_setArcs_24 : decode cX2_setArcs 24 = .ok (.getfield 78, 3) := by decide +kernel
theorem dX2_setArcs_27 : decode cX2_setArcs 27 = .ok (.iload_n 1, 1) := by decide +kernel
theorem dX2_setArcs_28 : decode cX2_setArcs 28 = .ok (.iaload, 1) := by decide +kernel
theorem dX2_setArcs_29 : decode cX2_setArcs 29 = .ok (.if_icmp .ge 114, 3) := by decide +kernel
theorem dX2_setArcs_32 : decode cX2_setArcs 32 = .ok (.aload_n 0, 1) := by decide +kernel
theorem dX2_setArcs_33 : decode cX2_setArcs 33 = .ok (.getfield 44, 3) := by decide +kernel
theorem dX2_setArcs_36 : decode cX2_setArcs 36 = .ok (.getfield 81, 3) := by decide +kernel
theorem dX2_setArcs_39 : decode cX2_setArcs 39 = .ok (.iload_n 1, 1) := by decide +kernel
theorem dX2_setArcs_40 : decode cX2_setArcs 40 = .ok (.bipush 6, 2) := by decide +kernel
theorem dX2_setArcs_42 : decode cX2_setArcs 42 = .ok (.imul, 1) := by decide +kernel
theorem dX2_setArcs_43 : decode cX2_setArcs 43 = .ok (.iload 5, 2) := by decide +kernel
theorem dX2_setArcs_45 : decode cX2_setArcs 45 = .ok (.iadd, 1) := by decide +kernel
theorem dX2_setArcs_46 : decode cX2_setArcs 46 = .ok (.iaload, 1) := by decide +kernel
theorem dX2_setArcs_47 : decode cX2_setArcs 47 = .ok (.istore 6, 2) := by decide +kernel
theorem dX2_setArcs_49 : decode cX2_setArcs 49 = .ok (.iload 4, 2) := by decide +kernel
theorem dX2_setArcs_51 : decode cX2_setArcs 51 = .ok (.ifCond .ge 14, 3) := by decide +kernel
theorem dX2_setArcs_54 : decode cX2_setArcs 54 = .ok (.aload_n 0, 1) := by decide +kernel
theorem dX2_setArcs_55 : decode cX2_setArcs 55 = .ok (.getfield 15, 3) := by decide +kernel
theorem dX2_setArcs_58 : decode cX2_setArcs 58 = .ok (.iload 6, 2) := by decide +kernel
theorem dX2_setArcs_60 : decode cX2_setArcs 60 = .ok (.iconst (-1), 1) := by decide +kernel
theorem dX2_setArcs_61 : decode cX2_setArcs 61 = .ok (.iastore, 1) := by decide +kernel
theorem dX2_setArcs_62 : decode cX2_setArcs 62 = .ok (.goto 71, 3) := by decide +kernel
theorem dX2_setArcs_65 : decode cX2_setArcs 65 = .ok (.aload_n 2, 1) := by decide +kernel
theorem dX2_setArcs_66 : decode cX2_setArcs 66 = .ok (.getfield 84, 3) := by decide +kernel
theorem dX2_setArcs_69 : decode cX2_setArcs 69 = .ok (.iload_n 1, 1) := by decide +kernel
theorem dX2_setArcs_70 : decode cX2_setArcs 70 = .ok (.baload, 1) := by decide +kernel
theorem dX2_setArcs_71 : decode cX2_setArcs 71 = .ok (.ifCond .ne 12, 3) := by decide +kernel
theorem dX2_setArcs_74 : decode cX2_setArcs 74 = .ok (.aload_n 2, 1) := by decide +kernel
theorem dX2_setArcs_75 : decode cX2_setArcs 75 = .ok (.iload 4, 2) := by decide +kernel
theorem dX2_setArcs_77 : decode cX2_setArcs 77 = .ok (.invokevirtual 87, 3) := by decide +kernel
theorem dX2_setArcs_80 : decode cX2_setArcs 80 = .ok (.ifCond .eq 34, 3) := by decide +kernel
theorem dX2_setArcs_83 : decode cX2_setArcs 83 = .ok (.aload_n 0, 1) := by decide +kernel
theorem dX2_setArcs_84 : decode cX2_setArcs 84 = .ok (.getfield 15, 3) := by decide +kernel
theorem dX2_setArcs_87 : decode cX2_setArcs 87 = .ok (.iload 6, 2) := by decide +kernel
theorem dX2_setArcs_89 : decode cX2_setArcs 89 = .ok (.iload 4, 2) := by decide +kernel
theorem dX2_setArcs_91 : decode cX2_setArcs 91 = .ok (.iastore, 1) := by decide +kernel
theorem dX2_setArcs_92 : decode cX2_setArcs 92 = .ok (.aload_n 0, 1) := by decide +kernel
theorem dX2_setArcs_93 : decode cX2_setArcs 93 = .ok (.getfield 18, 3) := by decide +kernel
theorem dX2_setArcs_96 : decode cX2_setArcs 96 = .ok (.iload 6, 2) := by decide +kernel
theorem dX2_setArcs_98 : decode cX2_setArcs 98 = .ok (.aload_n 0, 1) := by decide +kernel
theorem dX2_setArcs_99 : decode cX2_setArcs 99 = .ok (.getfield 44, 3) := by decide +kernel
theorem dX2_setArcs_102 : decode cX2_setArcs 102 = .ok (.getfield 91, 3) := by decide +kernel
theorem dX2_setArcs_105 : decode cX2_setArcs 105 = .ok (.iload 4, 2) := by decide +kernel
theorem dX2_setArcs_107 : decode cX2_setArcs 107 = .ok (.iaload, 1) := by decide +kernel
theorem dX2_setArcs_108 : decode cX2_setArcs 108 = .ok (.iload_n 3, 1) := by decide +kernel
theorem dX2_setArcs_109 : decode cX2_setArcs 109 = .ok (.iadd, 1) := by decide +kernel
theorem dX2_setArcs_110 : decode cX2_setArcs 110 = .ok (.iastore, 1) := by decide +kernel
theorem dX2_setArcs_111 : decode cX2_setArcs 111 = .ok (.goto 22, 3) := by decide +kernel
theorem dX2_setArcs_114 : decode cX2_setArcs 114 = .ok (.aload_n 0, 1) := by decide +kernel
theorem dX2_setArcs_115 : decode cX2_setArcs 115 = .ok (.getfield 15, 3) := by decide +kernel
theorem dX2_setArcs_118 : decode cX2_setArcs 118 = .ok (.iload 6, 2) := by decide +kernel
theorem dX2_setArcs_120 : decode cX2_setArcs 120 = .ok (.iload 4, 2) := by decide +kernel
theorem dX2_setArcs_122 : decode cX2_setArcs 122 = .ok (.iconst 1, 1) := by decide +kernel
theorem dX2_setArcs_123 : decode cX2_setArcs 123 = .ok (.iadd, 1) := by decide +kernel
theorem dX2_setArcs_124 : decode cX2_setArcs 124 = .ok (.iastore, 1) := by decide +kernel
theorem dX2_setArcs_125 : decode cX2_setArcs 125 = .ok (.aload_n 0, 1) := by decide +kernel
theorem dX2_setArcs_126 : decode cX2_setArcs 126 = .ok (.getfield 18, 3) := by decide +kernel
theorem dX2_setArcs_129 : decode cX2_setArcs 129 = .ok (.iload 6, 2) := by decide +kernel
theorem dX2_setArcs_131 : decode cX2_setArcs 131 = .ok (.iload_n 3, 1) := by decide +kernel
theorem dX2_setArcs_132 : decode cX2_setArcs 132 = .ok (.iastore, 1) := by decide +kernel
theorem dX2_setArcs_133 : decode cX2_setArcs 133 = .ok (.iload 6, 2) := by decide +kernel
theorem dX2_setArcs_135 : decode cX2_setArcs 135 = .ok (.istore 4, 2) := by decide +kernel
theorem dX2_setArcs_137 : decode cX2_setArcs 137 = .ok (.iinc 5 1, 3) := by decide +kernel
theorem dX2_setArcs_140 : decode cX2_setArcs 140 = .ok (.goto (-119), 3) := by decide +kernel
theorem dX2_setArcs_143 : decode cX2_setArcs 143 = .ok (.return_, 1) := by decide +kernel
theorem dX2_unsettleAll_0 : decode cX2_unsettleAll 0 = .ok (.iconst 0, 1) := by decide +kernel
theorem dX2_unsettleAll_1 : decode cX2_unsettleAll 1 = .ok (.istore_n 1, 1) := by decide +kernel
theorem dX2_unsettleAll_2 : decode cX2_unsettleAll 2 = .ok (.iconst 0, 1) := by decide +kernel
theorem dX2_unsettleAll_3 : decode cX2_unsettleAll 3 = .ok (.istore_n 2, 1) := by decide +kernel
theorem dX2_unsettleAll_4 : decode cX2_unsettleAll 4 = .ok (.iload_n 2, 1) := by decide +kernel
theorem dX2_unsettleAll_5 : decode cX2_unsettleAll 5 = .ok (.aload_n 0, 1) := by decide +kernel
theorem dX2_unsettleAll_6 : decode cX2_unsettleAll 6 = .ok (.getfield 44, 3) := by decide +kernel
theorem dX2_unsettleAll_9 : decode cX2_unsettleAll 9 = .ok (.getfield 48, 3) := by decide +kernel
theorem dX2_unsettleAll_12 : decode cX2_unsettleAll 12 = .ok (.getfield 94, 3) := by decide +kernel
theorem dX2_unsettleAll_15 : decode cX2_unsettleAll 15 = .ok (.if_icmp .ge 70, 3) := by decide +kernel
theorem dX2_unsettleAll_18 : decode cX2_unsettleAll 18 = .ok (.iconst 0, 1) := by decide +kernel
theorem dX2_unsettleAll_19 : decode cX2_unsettleAll 19 = .ok (.istore_n 3, 1) := by decide +kernel
theorem dX2_unsettleAll_20 : decode cX2_unsettleAll 20 = .ok (.iload_n 3, 1) := by decide +kernel
theorem dX2_unsettleAll_21 : decode cX2_unsettleAll 21 = .ok (.aload_n 0, 1) := by decide +kernel
theorem dX2_unsettleAll_22 : decode cX2_unsettleAll 22 = .ok (.getfield 44, 3) := by decide +kernel
theorem dX2_unsettleAll_25 : decode cX2_unsettleAll 25 = .ok (.getfield 48, 3) := by decide +kernel
theorem dX2_unsettleAll_28 : decode cX2_unsettleAll 28 = .ok (.getfield 97, 3) := by decide +kernel
theorem dX2_unsettleAll_31 : decode cX2_unsettleAll 31 = .ok (.iload_n 2, 1) := by decide +kernel
theorem dX2_unsettleAll_32 : decode cX2_unsettleAll 32 = .ok (.iaload, 1) := by decide +kernel
theorem dX2_unsettleAll_33 : decode cX2_unsettleAll 33 = .ok (.if_icmp .ge 46, 3) := by decide +kernel
theorem dX2_unsettleAll_36 : decode cX2_unsettleAll 36 = .ok (.iload_n 2, 1) := by decide +kernel
theorem dX2_unsettleAll_37 : decode cX2_unsettleAll 37 = .ok (.iload_n 3, 1) := by decide +kernel
theorem dX2_unsettleAll_38 : decode cX2_unsettleAll 38 = .ok (.invokestatic 100, 3) := by decide +kernel
theorem dX2_unsettleAll_41 : decode cX2_unsettleAll 41 = .ok (.istore 4, 2) := by decide +kernel
theorem dX2_unsettleAll_43 : decode cX2_unsettleAll 43 = .ok (.aload_n 0, 1) := by decide +kernel
theorem dX2_unsettleAll_44 : decode cX2_unsettleAll 44 = .ok (.getfield 21, 3) := by decide +kernel
theorem dX2_unsettleAll_47 : decode cX2_unsettleAll 47 = .ok (.iload 4, 2) := by decide +kernel
theorem dX2_unsettleAll_49 : decode cX2_unsettleAll 49 = .ok (.iconst 0, 1) := by decide +kernel
theorem dX2_unsettleAll_50 : decode cX2_unsettleAll 50 = .ok (.bastore, 1) := by decide +kernel
theorem dX2_unsettleAll_51 : decode cX2_unsettleAll 51 = .ok (.aload_n 0, 1) := by decide +kernel
theorem dX2_unsettleAll_52 : decode cX2_unsettleAll 52 = .ok (.getfield 9, 3) := by decide +kernel
theorem dX2_unsettleAll_55 : decode cX2_unsettleAll 55 = .ok (.iload 4, 2) := by decide +kernel
theorem dX2_unsettleAll_57 : decode cX2_unsettleAll 57 = .ok (.aload_n 0, 1) := by decide +kernel
theorem dX2_unsettleAll_58 : decode cX2_unsettleAll 58 = .ok (.getfield 44, 3) := by decide +kernel
theorem dX2_unsettleAll_61 : decode cX2_unsettleAll 61 = .ok (.getfield 48, 3) := by decide +kernel
theorem dX2_unsettleAll_64 : decode cX2_unsettleAll 64 = .ok (.getfield 104, 3) := by decide +kernel
theorem dX2_unsettleAll_67 : decode cX2_unsettleAll 67 = .ok (.iload_n 2, 1) := by decide +kernel
theorem dX2_unsettleAll_68 : decode cX2_unsettleAll 68 = .ok (.iaload, 1) := by decide +kernel
theorem dX2_unsettleAll_69 : decode cX2_unsettleAll 69 = .ok (.iastore, 1) := by decide +kernel
theorem dX2_unsettleAll_70 : decode cX2_unsettleAll 70 = .ok (.iinc 1 1, 3) := by decide +kernel
theorem dX2_unsettleAll_73 : decode cX2_unsettleAll 73 = .ok (.iinc 3 1, 3) := by decide +kernel
theorem dX2_unsettleAll_76 : decode cX2_unsettleAll 76 = .ok (.goto (-56), 3) := by decide +kernel
theorem dX2_unsettleAll_79 : decode cX2_unsettleAll 79 = .ok (.iinc 2 1, 3) := by decide +kernel
theorem dX2_unsettleAll_82 : decode cX2_unsettleAll 82 = .ok (.goto (-78), 3) := by decide +kernel
theorem dX2_unsettleAll_85 : decode cX2_unsettleAll 85 = .ok (.iload_n 1, 1) := by decide +kernel
theorem dX2_unsettleAll_86 : decode cX2_unsettleAll 86 = .ok (.ireturn, 1) := by decide +kernel
theorem dX2_settleSome_0 : decode cX2_settleSome 0 = .ok (.iconst 0, 1) := by decide +kernel
theorem dX2_settleSome_1 : decode cX2_settleSome 1 = .ok (.istore_n 1, 1) := by decide +kernel
theorem dX2_settleSome_2 : decode cX2_settleSome 2 = .ok (.iconst 0, 1) := by decide +kernel
theorem dX2_settleSome_3 : decode cX2_settleSome 3 = .ok (.istore_n 2, 1) := by decide +kernel
theorem dX2_settleSome_4 : decode cX2_settleSome 4 = .ok (.iload_n 2, 1) := by decide +kernel
theorem dX2_settleSome_5 : decode cX2_settleSome 5 = .ok (.aload_n 0, 1) := by decide +kernel
theorem dX2_settleSome_6 : decode cX2_settleSome 6 = .ok (.getfield 44, 3) := by decide +kernel
theorem dX2_settleSome_9 : decode cX2_settleSome 9 = .ok (.getfield 48, 3) := by decide +kernel
theorem dX2_settleSome_12 : decode cX2_settleSome 12 = .ok (.getfield 94, 3) := by decide +kernel
theorem dX2_settleSome_15 : decode cX2_settleSome 15 = .ok (.if_icmp .ge 83, 3) := by decide +kernel
theorem dX2_settleSome_18 : decode cX2_settleSome 18 = .ok (.iconst 0, 1) := by decide +kernel
theorem dX2_settleSome_19 : decode cX2_settleSome 19 = .ok (.istore_n 3, 1) := by decide +kernel
theorem dX2_settleSome_20 : decode cX2_settleSome 20 = .ok (.iload_n 3, 1) := by decide +kernel
theorem dX2_settleSome_21 : decode cX2_settleSome 21 = .ok (.aload_n 0, 1) := by decide +kernel
theorem dX2_settleSome_22 : decode cX2_settleSome 22 = .ok (.getfield 44, 3) := by decide +kernel
theorem dX2_settleSome_25 : decode cX2_settleSome 25 = .ok (.getfield 48, 3) := by decide +kernel
theorem dX2_settleSome_28 : decode cX2_settleSome 28 = .ok (.getfield 97, 3) := by decide +kernel
theorem dX2_settleSome_31 : decode cX2_settleSome 31 = .ok (.iload_n 2, 1) := by decide +kernel
theorem dX2_settleSome_32 : decode cX2_settleSome 32 = .ok (.iaload, 1) := by decide +kernel
theorem dX2_settleSome_33 : decode cX2_settleSome 33 = .ok (.if_icmp .ge 59, 3) := by decide +kernel
theorem dX2_settleSome_36 : decode cX2_settleSome 36 = .ok (.iload_n 2, 1) := by decide +kernel
theorem dX2_settleSome_37 : decode cX2_settleSome 37 = .ok (.iload_n 3, 1) := by decide +kernel
theorem dX2_settleSome_38 : decode cX2_settleSome 38 = .ok (.invokestatic 100, 3) := by decide +kernel
theorem dX2_settleSome_41 : decode cX2_settleSome 41 = .ok (.istore 4, 2) := by decide +kernel
theorem dX2_settleSome_43 : decode cX2_settleSome 43 = .ok (.aload_n 0, 1) := by decide +kernel
theorem dX2_settleSome_44 : decode cX2_settleSome 44 = .ok (.getfield 21, 3) := by decide +kernel
theorem dX2_settleSome_47 : decode cX2_settleSome 47 = .ok (.iload 4, 2) := by decide +kernel
theorem dX2_settleSome_49 : decode cX2_settleSome 49 = .ok (.baload, 1) := by decide +kernel
theorem dX2_settleSome_50 : decode cX2_settleSome 50 = .ok (.ifCond .ne 36, 3) := by decide +kernel
theorem dX2_settleSome_53 : decode cX2_settleSome 53 = .ok (.aload_n 0, 1) := by decide +kernel
theorem dX2_settleSome_54 : decode cX2_settleSome 54 = .ok (.iload 4, 2) := by decide +kernel
theorem dX2_settleSome_56 : decode cX2_settleSome 56 = .ok (.invokevirtual 107, 3) := by decide +kernel
theorem dX2_settleSome_59 : decode cX2_settleSome 59 = .ok (.ifCond .eq 27, 3) := by decide +kernel
theorem dX2_settleSome_62 : decode cX2_settleSome 62 = .ok (.aload_n 0, 1) := by decide +kernel
theorem dX2_settleSome_63 : decode cX2_settleSome 63 = .ok (.getfield 9, 3) := by decide +kernel
theorem dX2_settleSome_66 : decode cX2_settleSome 66 = .ok (.iload 4, 2) := by decide +kernel
theorem dX2_settleSome_68 : decode cX2_settleSome 68 = .ok (.aload_n 0, 1) := by decide +kernel
theorem dX2_settleSome_69 : decode cX2_settleSome 69 = .ok (.iload 4, 2) := by decide +kernel
theorem dX2_settleSome_71 : decode cX2_settleSome 71 = .ok (.invokevirtual 110, 3) := by decide +kernel
theorem dX2_settleSome_74 : decode cX2_settleSome 74 = .ok (.iastore, 1) := by decide +kernel
theorem dX2_settleSome_75 : decode cX2_settleSome 75 = .ok (.aload_n 0, 1) := by decide +kernel
theorem dX2_settleSome_76 : decode cX2_settleSome 76 = .ok (.getfield 21, 3) := by decide +kernel
theorem dX2_settleSome_79 : decode cX2_settleSome 79 = .ok (.iload 4, 2) := by decide +kernel
theorem dX2_settleSome_81 : decode cX2_settleSome 81 = .ok (.iconst 1, 1) := by decide +kernel
theorem dX2_settleSome_82 : decode cX2_settleSome 82 = .ok (.bastore, 1) := by decide +kernel
theorem dX2_settleSome_83 : decode cX2_settleSome 83 = .ok (.iinc 1 1, 3) := by decide +kernel
theorem dX2_settleSome_86 : decode cX2_settleSome 86 = .ok (.iinc 3 1, 3) := by decide +kernel
theorem dX2_settleSome_89 : decode cX2_settleSome 89 = .ok (.goto (-69), 3) := by decide +kernel
theorem dX2_settleSome_92 : decode cX2_settleSome 92 = .ok (.iinc 2 1, 3) := by decide +kernel
theorem dX2_settleSome_95 : decode cX2_settleSome 95 = .ok (.goto (-91), 3) := by decide +kernel
theorem dX2_settleSome_98 : decode cX2_settleSome 98 = .ok (.iload_n 1, 1) := by decide +kernel
theorem dX2_settleSome_99 : decode cX2_settleSome 99 = .ok (.ireturn, 1) := by decide +kernel
theorem dX2_isReady_0 : decode cX2_isReady 0 = .ok (.iload_n 1, 1) := by decide +kernel
theorem dX2_isReady_1 : decode cX2_isReady 1 = .ok (.bipush 6, 2) := by decide +kernel
theorem dX2_isReady_3 : decode cX2_isReady 3 = .ok (.irem, 1) := by decide +kernel
theorem dX2_isReady_4 : decode cX2_isReady 4 = .ok (.ifCond .eq 14, 3) := by decide +kernel
theorem dX2_isReady_7 : decode cX2_isReady 7 = .ok (.aload_n 0, 1) := by decide +kernel
theorem dX2_isReady_8 : decode cX2_isReady 8 = .ok (.getfield 21, 3) := by decide +kernel
theorem dX2_isReady_11 : decode cX2_isReady 11 = .ok (.iload_n 1, 1) := by decide +kernel
theorem dX2_isReady_12 : decode cX2_isReady 12 = .ok (.iconst 1, 1) := by decide +kernel
theorem dX2_isReady_13 : decode cX2_isReady 13 = .ok (.isub, 1) := by decide +kernel
theorem dX2_isReady_14 : decode cX2_isReady 14 = .ok (.baload, 1) := by decide +kernel
theorem dX2_isReady_15 : decode cX2_isReady 15 = .ok (.ifCond .eq 30, 3) := by decide +kernel
theorem dX2_isReady_18 : decode cX2_isReady 18 = .ok (.aload_n 0, 1) := by decide +kernel
theorem dX2_isReady_19 : decode cX2_isReady 19 = .ok (.getfield 15, 3) := by decide +kernel
theorem dX2_isReady_22 : decode cX2_isReady 22 = .ok (.iload_n 1, 1) := by decide +kernel
theorem dX2_isReady_23 : decode cX2_isReady 23 = .ok (.iaload, 1) := by decide +kernel
theorem dX2_isReady_24 : decode cX2_isReady 24 = .ok (.ifCond .lt 17, 3) := by decide +kernel
theorem dX2_isReady_27 : decode cX2_isReady 27 = .ok (.aload_n 0, 1) := by decide +kernel
theorem dX2_isReady_28 : decode cX2_isReady 28 = .ok (.getfield 21, 3) := by decide +kernel
theorem dX2_isReady_31 : decode cX2_isReady 31 = .ok (.aload_n 0, 1) := by decide +kernel
theorem dX2_isReady_32 : decode cX2_isReady 32 = .ok (.getfield 15, 3) := by decide +kernel
theorem dX2_isReady_35 : decode cX2_isReady 35 = .ok (.iload_n 1, 1) := by decide +kernel
theorem dX2_isReady_36 : decode cX2_isReady 36 = .ok (.iaload, 1) := by decide +kernel
theorem dX2_isReady_37 : decode cX2_isReady 37 = .ok (.baload, 1) := by decide +kernel
theorem dX2_isReady_38 : decode cX2_isReady 38 = .ok (.ifCond .eq 7, 3) := by decide +kernel
theorem dX2_isReady_41 : decode cX2_isReady 41 = .ok (.iconst 1, 1) := by decide +kernel
theorem dX2_isReady_42 : decode cX2_isReady 42 = .ok (.goto 4, 3) := by decide +kernel
theorem dX2_isReady_45 : decode cX2_isReady 45 = .ok (.iconst 0, 1) := by decide +kernel
theorem dX2_isReady_46 : decode cX2_isReady 46 = .ok (.ireturn, 1) := by decide +kernel
theorem dX2_earliestStart_0 : decode cX2_earliestStart 0 = .ok (.aload_n 0, 1) := by decide +kernel
theorem dX2_earliestStart_1 : decode cX2_earliestStart 1 = .ok (.getfield 44, 3) := by decide +kernel
theorem dX2_earliestStart_4 : decode cX2_earliestStart 4 = .ok (.getfield 48, 3) := by decide +kernel
theorem dX2_earliestStart_7 : decode cX2_earliestStart 7 = .ok (.getfield 104, 3) := by decide +kernel
theorem dX2_earliestStart_10 : decode cX2_earliestStart 10 = .ok (.iload_n 1, 1) := by decide +kernel
theorem dX2_earliestStart_11 : decode cX2_earliestStart 11 = .ok (.bipush 6, 2) := by decide +kernel
theorem dX2_earliestStart_13 : decode cX2_earliestStart 13 = .ok (.idiv, 1) := by decide +kernel
theorem dX2_earliestStart_14 : decode cX2_earliestStart 14 = .ok (.iaload, 1) := by decide +kernel
theorem dX2_earliestStart_15 : decode cX2_earliestStart 15 = .ok (.istore_n 2, 1) := by decide +kernel
theorem dX2_earliestStart_16 : decode cX2_earliestStart 16 = .ok (.iload_n 1, 1) := by decide +kernel
theorem dX2_earliestStart_17 : decode cX2_earliestStart 17 = .ok (.bipush 6, 2) := by decide +kernel
theorem dX2_earliestStart_19 : decode cX2_earliestStart 19 = .ok (.irem, 1) := by decide +kernel
theorem dX2_earliestStart_20 : decode cX2_earliestStart 20 = .ok (.ifCond .ne 7, 3) := by decide +kernel
theorem dX2_earliestStart_23 : decode cX2_earliestStart 23 = .ok (.iload_n 2, 1) := by decide +kernel
theorem dX2_earliestStart_24 : decode cX2_earliestStart 24 = .ok (.goto 23, 3) := by decide +kernel
theorem dX2_earliestStart_27 : decode cX2_earliestStart 27 = .ok (.aload_n 0, 1) := by decide +kernel
theorem dX2_earliestStart_28 : decode cX2_earliestStart 28 = .ok (.getfield 9, 3) := by decide +kernel
theorem dX2_earliestStart_31 : decode cX2_earliestStart 31 = .ok (.iload_n 1, 1) := by decide +kernel
theorem dX2_earliestStart_32 : decode cX2_earliestStart 32 = .ok (.iconst 1, 1) := by decide +kernel
theorem dX2_earliestStart_33 : decode cX2_earliestStart 33 = .ok (.isub, 1) := by decide +kernel
theorem dX2_earliestStart_34 : decode cX2_earliestStart 34 = .ok (.iaload, 1) := by decide +kernel
theorem dX2_earliestStart_35 : decode cX2_earliestStart 35 = .ok (.aload_n 0, 1) := by decide +kernel
theorem dX2_earliestStart_36 : decode cX2_earliestStart 36 = .ok (.getfield 44, 3) := by decide +kernel
theorem dX2_earliestStart_39 : decode cX2_earliestStart 39 = .ok (.getfield 91, 3) := by decide +kernel
theorem dX2_earliestStart_42 : decode cX2_earliestStart 42 = .ok (.iload_n 1, 1) := by decide +kernel
theorem dX2_earliestStart_43 : decode cX2_earliestStart 43 = .ok (.iconst 1, 1) := by decide +kernel
theorem dX2_earliestStart_44 : decode cX2_earliestStart 44 = .ok (.isub, 1) := by decide +kernel
theorem dX2_earliestStart_45 : decode cX2_earliestStart 45 = .ok (.iaload, 1) := by decide +kernel
theorem dX2_earliestStart_46 : decode cX2_earliestStart 46 = .ok (.iadd, 1) := by decide +kernel
theorem dX2_earliestStart_47 : decode cX2_earliestStart 47 = .ok (.istore_n 3, 1) := by decide +kernel
theorem dX2_earliestStart_48 : decode cX2_earliestStart 48 = .ok (.aload_n 0, 1) := by decide +kernel
theorem dX2_earliestStart_49 : decode cX2_earliestStart 49 = .ok (.getfield 15, 3) := by decide +kernel
theorem dX2_earliestStart_52 : decode cX2_earliestStart 52 = .ok (.iload_n 1, 1) := by decide +kernel
theorem dX2_earliestStart_53 : decode cX2_earliestStart 53 = .ok (.iaload, 1) := by decide +kernel
theorem dX2_earliestStart_54 : decode cX2_earliestStart 54 = .ok (.ifCond .ge 7, 3) := by decide +kernel
theorem dX2_earliestStart_57 : decode cX2_earliestStart 57 = .ok (.iload_n 2, 1) := by decide +kernel
theorem dX2_earliestStart_58 : decode cX2_earliestStart 58 = .ok (.goto 21, 3) := by decide +kernel
theorem dX2_earliestStart_61 : decode cX2_earliestStart 61 = .ok (.aload_n 0, 1) := by decide +kernel
theorem dX2_earliestStart_62 : decode cX2_earliestStart 62 = .ok (.getfield 9, 3) := by decide +kernel
theorem dX2_earliestStart_65 : decode cX2_earliestStart 65 = .ok (.aload_n 0, 1) := by decide +kernel
theorem dX2_earliestStart_66 : decode cX2_earliestStart 66 = .ok (.getfield 15, 3) := by decide +kernel
theorem dX2_earliestStart_69 : decode cX2_earliestStart 69 = .ok (.iload_n 1, 1) := by decide +kernel
theorem dX2_earliestStart_70 : decode cX2_earliestStart 70 = .ok (.iaload, 1) := by decide +kernel
theorem dX2_earliestStart_71 : decode cX2_earliestStart 71 = .ok (.iaload, 1) := by decide +kernel
theorem dX2_earliestStart_72 : decode cX2_earliestStart 72 = .ok (.aload_n 0, 1) := by decide +kernel
theorem dX2_earliestStart_73 : decode cX2_earliestStart 73 = .ok (.getfield 18, 3) := by decide +kernel
theorem dX2_earliestStart_76 : decode cX2_earliestStart 76 = .ok (.iload_n 1, 1) := by decide +kernel
theorem dX2_earliestStart_77 : decode cX2_earliestStart 77 = .ok (.iaload, 1) := by decide +kernel
theorem dX2_earliestStart_78 : decode cX2_earliestStart 78 = .ok (.iadd, 1) := by decide +kernel
theorem dX2_earliestStart_79 : decode cX2_earliestStart 79 = .ok (.istore 4, 2) := by decide +kernel
theorem dX2_earliestStart_81 : decode cX2_earliestStart 81 = .ok (.iload_n 2, 1) := by decide +kernel
theorem dX2_earliestStart_82 : decode cX2_earliestStart 82 = .ok (.iload_n 3, 1) := by decide +kernel
theorem dX2_earliestStart_83 : decode cX2_earliestStart 83 = .ok (.iload 4, 2) := by decide +kernel
theorem dX2_earliestStart_85 : decode cX2_earliestStart 85 = .ok (.invokestatic 114, 3) := by decide +kernel
theorem dX2_earliestStart_88 : decode cX2_earliestStart 88 = .ok (.invokestatic 114, 3) := by decide +kernel
theorem dX2_earliestStart_91 : decode cX2_earliestStart 91 = .ok (.ireturn, 1) := by decide +kernel
theorem dX2_settleRing_0 : decode cX2_settleRing 0 = .ok (.iconst 0, 1) := by decide +kernel
theorem dX2_settleRing_1 : decode cX2_settleRing 1 = .ok (.istore_n 1, 1) := by decide +kernel
theorem dX2_settleRing_2 : decode cX2_settleRing 2 = .ok (.iload_n 1, 1) := by decide +kernel
theorem dX2_settleRing_3 : decode cX2_settleRing 3 = .ok (.aload_n 0, 1) := by decide +kernel
theorem dX2_settleRing_4 : decode cX2_settleRing 4 = .ok (.getfield 44, 3) := by decide +kernel
theorem dX2_settleRing_7 : decode cX2_settleRing 7 = .ok (.getfield 48, 3) := by decide +kernel
theorem dX2_settleRing_10 : decode cX2_settleRing 10 = .ok (.getfield 94, 3) := by decide +kernel
theorem dX2_settleRing_13 : decode cX2_settleRing 13 = .ok (.if_icmp .ge 74, 3) := by decide +kernel
theorem dX2_settleRing_16 : decode cX2_settleRing 16 = .ok (.iconst 0, 1) := by decide +kernel
theorem dX2_settleRing_17 : decode cX2_settleRing 17 = .ok (.istore_n 2, 1) := by decide +kernel
theorem dX2_settleRing_18 : decode cX2_settleRing 18 = .ok (.iload_n 2, 1) := by decide +kernel
theorem dX2_settleRing_19 : decode cX2_settleRing 19 = .ok (.aload_n 0, 1) := by decide +kernel
theorem dX2_settleRing_20 : decode cX2_settleRing 20 = .ok (.getfield 44, 3) := by decide +kernel
theorem dX2_settleRing_23 : decode cX2_settleRing 23 = .ok (.getfield 48, 3) := by decide +kernel
theorem dX2_settleRing_26 : decode cX2_settleRing 26 = .ok (.getfield 97, 3) := by decide +kernel
theorem dX2_settleRing_29 : decode cX2_settleRing 29 = .ok (.iload_n 1, 1) := by decide +kernel
theorem dX2_settleRing_30 : decode cX2_settleRing 30 = .ok (.iaload, 1) := by decide +kernel
theorem dX2_settleRing_31 : decode cX2_settleRing 31 = .ok (.if_icmp .ge 50, 3) := by decide +kernel
theorem dX2_settleRing_34 : decode cX2_settleRing 34 = .ok (.iload_n 1, 1) := by decide +kernel
theorem dX2_settleRing_35 : decode cX2_settleRing 35 = .ok (.iload_n 2, 1) := by decide +kernel
theorem dX2_settleRing_36 : decode cX2_settleRing 36 = .ok (.invokestatic 100, 3) := by decide +kernel
theorem dX2_settleRing_39 : decode cX2_settleRing 39 = .ok (.istore_n 3, 1) := by decide +kernel
theorem dX2_settleRing_40 : decode cX2_settleRing 40 = .ok (.aload_n 0, 1) := by decide +kernel
theorem dX2_settleRing_41 : decode cX2_settleRing 41 = .ok (.getfield 21, 3) := by decide +kernel
theorem dX2_settleRing_44 : decode cX2_settleRing 44 = .ok (.iload_n 3, 1) := by decide +kernel
theorem dX2_settleRing_45 : decode cX2_settleRing 45 = .ok (.baload, 1) := by decide +kernel
theorem dX2_settleRing_46 : decode cX2_settleRing 46 = .ok (.ifCond .eq 7, 3) := by decide +kernel
theorem dX2_settleRing_49 : decode cX2_settleRing 49 = .ok (.iconst 0, 1) := by decide +kernel
theorem dX2_settleRing_50 : decode cX2_settleRing 50 = .ok (.goto 8, 3) := by decide +kernel
theorem dX2_settleRing_53 : decode cX2_settleRing 53 = .ok (.aload_n 0, 1) := by decide +kernel
theorem dX2_settleRing_54 : decode cX2_settleRing 54 = .ok (.iload_n 3, 1) := by decide +kernel
theorem dX2_settleRing_55 : decode cX2_settleRing 55 = .ok (.invokevirtual 119, 3) := by decide +kernel
theorem dX2_settleRing_58 : decode cX2_settleRing 58 = .ok (.istore 4, 2) := by decide +kernel
theorem dX2_settleRing_60 : decode cX2_settleRing 60 = .ok (.iload 4, 2) := by decide +kernel
theorem dX2_settleRing_62 : decode cX2_settleRing 62 = .ok (.ifCond .le 13, 3) := by decide +kernel
theorem dX2_settleRing_65 : decode cX2_settleRing 65 = .ok (.aload_n 0, 1) := by decide +kernel
theorem dX2_settleRing_66 : decode cX2_settleRing 66 = .ok (.iload_n 3, 1) := by decide +kernel
theorem dX2_settleRing_67 : decode cX2_settleRing 67 = .ok (.iload 4, 2) := by decide +kernel
theorem dX2_settleRing_69 : decode cX2_settleRing 69 = .ok (.invokevirtual 122, 3) := by decide +kernel
theorem dX2_settleRing_72 : decode cX2_settleRing 72 = .ok (.iload 4, 2) := by decide +kernel
theorem dX2_settleRing_74 : decode cX2_settleRing 74 = .ok (.ireturn, 1) := by decide +kernel
theorem dX2_settleRing_75 : decode cX2_settleRing 75 = .ok (.iinc 2 1, 3) := by decide +kernel
theorem dX2_settleRing_78 : decode cX2_settleRing 78 = .ok (.goto (-60), 3) := by decide +kernel
theorem dX2_settleRing_81 : decode cX2_settleRing 81 = .ok (.iinc 1 1, 3) := by decide +kernel
theorem dX2_settleRing_84 : decode cX2_settleRing 84 = .ok (.goto (-82), 3) := by decide +kernel
theorem dX2_settleRing_87 : decode cX2_settleRing 87 = .ok (.iconst 0, 1) := by decide +kernel
theorem dX2_settleRing_88 : decode cX2_settleRing 88 = .ok (.ireturn, 1) := by decide +kernel
theorem dX2_sizeOfRing_0 : decode cX2_sizeOfRing 0 = .ok (.iload_n 1, 1) := by decide +kernel
theorem dX2_sizeOfRing_1 : decode cX2_sizeOfRing 1 = .ok (.istore_n 2, 1) := by decide +kernel
theorem dX2_sizeOfRing_2 : decode cX2_sizeOfRing 2 = .ok (.iconst 1, 1) := by decide +kernel
theorem dX2_sizeOfRing_3 : decode cX2_sizeOfRing 3 = .ok (.istore_n 3, 1) := by decide +kernel
theorem dX2_sizeOfRing_4 : decode cX2_sizeOfRing 4 = .ok (.iload_n 3, 1) := by decide +kernel
theorem dX2_sizeOfRing_5 : decode cX2_sizeOfRing 5 = .ok (.bipush 36, 2) := by decide +kernel
theorem dX2_sizeOfRing_7 : decode cX2_sizeOfRing 7 = .ok (.if_icmp .gt 61, 3) := by decide +kernel
theorem dX2_sizeOfRing_10 : decode cX2_sizeOfRing 10 = .ok (.iload_n 2, 1) := by decide +kernel
theorem dX2_sizeOfRing_11 : decode cX2_sizeOfRing 11 = .ok (.bipush 6, 2) := by decide +kernel
theorem dX2_sizeOfRing_13 : decode cX2_sizeOfRing 13 = .ok (.irem, 1) := by decide +kernel
theorem dX2_sizeOfRing_14 : decode cX2_sizeOfRing 14 = .ok (.ifCond .eq 32, 3) := by decide +kernel
theorem dX2_sizeOfRing_17 : decode cX2_sizeOfRing 17 = .ok (.aload_n 0, 1) := by decide +kernel
theorem dX2_sizeOfRing_18 : decode cX2_sizeOfRing 18 = .ok (.getfield 21, 3) := by decide +kernel
theorem dX2_sizeOfRing_21 : decode cX2_sizeOfRing 21 = .ok (.iload_n 2, 1) := by decide +kernel
theorem dX2_sizeOfRing_22 : decode cX2_sizeOfRing 22 = .ok (.iconst 1, 1) := by decide +kernel
theorem dX2_sizeOfRing_23 : decode cX2_sizeOfRing 23 = .ok (.isub, 1) := by decide +kernel
theorem dX2_sizeOfRing_24 : decode cX2_sizeOfRing 24 = .ok (.baload, 1) := by decide +kernel
theorem dX2_sizeOfRing_25 : decode cX2_sizeOfRing 25 = .ok (.ifCond .eq 21, 3) := by decide +kernel
theorem dX2_sizeOfRing_28 : decode cX2_sizeOfRing 28 = .ok (.aload_n 0, 1) := by decide +kernel
theorem dX2_sizeOfRing_29 : decode cX2_sizeOfRing 29 = .ok (.getfield 15, 3) := by decide +kernel
theorem dX2_sizeOfRing_32 : decode cX2_sizeOfRing 32 = .ok (.iload_n 2, 1) := by decide +kernel
theorem dX2_sizeOfRing_33 : decode cX2_sizeOfRing 33 = .ok (.iaload, 1) := by decide +kernel
theorem dX2_sizeOfRing_34 : decode cX2_sizeOfRing 34 = .ok (.ifCond .lt 12, 3) := by decide +kernel
theorem dX2_sizeOfRing_37 : decode cX2_sizeOfRing 37 = .ok (.aload_n 0, 1) := by decide +kernel
theorem dX2_sizeOfRing_38 : decode cX2_sizeOfRing 38 = .ok (.getfield 18, 3) := by decide +kernel
theorem dX2_sizeOfRing_41 : decode cX2_sizeOfRing 41 = .ok (.iload_n 2, 1) := by decide +kernel
theorem dX2_sizeOfRing_42 : decode cX2_sizeOfRing 42 = .ok (.iaload, 1) := by decide +kernel
theorem dX2_sizeOfRing_43 : decode cX2_sizeOfRing 43 = .ok (.ifCond .le 5, 3) := by decide +kernel
theorem dX2_sizeOfRing_46 : decode cX2_sizeOfRing 46 = .ok (.iconst 0, 1) := by decide +kernel
theorem dX2_sizeOfRing_47 : decode cX2_sizeOfRing 47 = .ok (.ireturn, 1) := by decide +kernel
theorem dX2_sizeOfRing_48 : decode cX2_sizeOfRing 48 = .ok (.aload_n 0, 1) := by decide +kernel
theorem dX2_sizeOfRing_49 : decode cX2_sizeOfRing 49 = .ok (.getfield 15, 3) := by decide +kernel
theorem dX2_sizeOfRing_52 : decode cX2_sizeOfRing 52 = .ok (.iload_n 2, 1) := by decide +kernel
theorem dX2_sizeOfRing_53 : decode cX2_sizeOfRing 53 = .ok (.iaload, 1) := by decide +kernel
theorem dX2_sizeOfRing_54 : decode cX2_sizeOfRing 54 = .ok (.istore_n 2, 1) := by decide +kernel
theorem dX2_sizeOfRing_55 : decode cX2_sizeOfRing 55 = .ok (.iload_n 2, 1) := by decide +kernel
theorem dX2_sizeOfRing_56 : decode cX2_sizeOfRing 56 = .ok (.iload_n 1, 1) := by decide +kernel
theorem dX2_sizeOfRing_57 : decode cX2_sizeOfRing 57 = .ok (.if_icmp .ne 5, 3) := by decide +kernel
theorem dX2_sizeOfRing_60 : decode cX2_sizeOfRing 60 = .ok (.iload_n 3, 1) := by decide +kernel
theorem dX2_sizeOfRing_61 : decode cX2_sizeOfRing 61 = .ok (.ireturn, 1) := by decide +kernel
theorem dX2_sizeOfRing_62 : decode cX2_sizeOfRing 62 = .ok (.iinc 3 1, 3) := by decide +kernel
theorem dX2_sizeOfRing_65 : decode cX2_sizeOfRing 65 = .ok (.goto (-61), 3) := by decide +kernel
theorem dX2_sizeOfRing_68 : decode cX2_sizeOfRing 68 = .ok (.iconst 0, 1) := by decide +kernel
theorem dX2_sizeOfRing_69 : decode cX2_sizeOfRing 69 = .ok (.ireturn, 1) := by decide +kernel
theorem dX2_startTogether_0 : decode cX2_startTogether 0 = .ok (.iconst 0, 1) := by decide +kernel
theorem dX2_startTogether_1 : decode cX2_startTogether 1 = .ok (.istore_n 3, 1) := by decide +kernel
theorem dX2_startTogether_2 : decode cX2_startTogether 2 = .ok (.iload_n 1, 1) := by decide +kernel
theorem dX2_startTogether_3 : decode cX2_startTogether 3 = .ok (.istore 4, 2) := by decide +kernel
theorem dX2_startTogether_5 : decode cX2_startTogether 5 = .ok (.iconst 0, 1) := by decide +kernel
theorem dX2_startTogether_6 : decode cX2_startTogether 6 = .ok (.istore 5, 2) := by decide +kernel
theorem dX2_startTogether_8 : decode cX2_startTogether 8 = .ok (.iload 5, 2) := by decide +kernel
theorem dX2_startTogether_10 : decode cX2_startTogether 10 = .ok (.iload_n 2, 1) := by decide +kernel
theorem dX2_startTogether_11 : decode cX2_startTogether 11 = .ok (.if_icmp .ge 34, 3) := by decide +kernel
theorem dX2_startTogether_14 : decode cX2_startTogether 14 = .ok (.iload 4, 2) := by decide +kernel
theorem dX2_startTogether_16 : decode cX2_startTogether 16 = .ok (.ifCond .lt 29, 3) := by decide +kernel
theorem dX2_startTogether_19 : decode cX2_startTogether 19 = .ok (.iload_n 3, 1) := by decide +kernel
theorem dX2_startTogether_20 : decode cX2_startTogether 20 = .ok (.aload_n 0, 1) := by decide +kernel
theorem dX2_startTogether_21 : decode cX2_startTogether 21 = .ok (.iload 4, 2) := by decide +kernel
theorem dX2_startTogether_23 : decode cX2_startTogether 23 = .ok (.invokevirtual 110, 3) := by decide +kernel
theorem dX2_startTogether_26 : decode cX2_startTogether 26 = .ok (.invokestatic 114, 3) := by decide +kernel
theorem dX2_startTogether_29 : decode cX2_startTogether 29 = .ok (.istore_n 3, 1) := by decide +kernel
theorem dX2_startTogether_30 : decode cX2_startTogether 30 = .ok (.aload_n 0, 1) := by decide +kernel
theorem dX2_startTogether_31 : decode cX2_startTogether 31 = .ok (.getfield 15, 3) := by decide +kernel
theorem dX2_startTogether_34 : decode cX2_startTogether 34 = .ok (.iload 4, 2) := by decide +kernel
theorem dX2_startTogether_36 : decode cX2_startTogether 36 = .ok (.iaload, 1) := by decide +kernel
theorem dX2_startTogether_37 : decode cX2_startTogether 37 = .ok (.istore 4, 2) := by decide +kernel
theorem dX2_startTogether_39 : decode cX2_startTogether 39 = .ok (.iinc 5 1, 3) := by decide +kernel
theorem dX2_startTogether_42 : decode cX2_startTogether 42 = .ok (.goto (-34), 3) := by decide +kernel
theorem dX2_startTogether_45 : decode cX2_startTogether 45 = .ok (.iconst 0, 1) := by decide +kernel
theorem dX2_startTogether_46 : decode cX2_startTogether 46 = .ok (.istore 5, 2) := by decide +kernel
theorem dX2_startTogether_48 : decode cX2_startTogether 48 = .ok (.iload 5, 2) := by decide +kernel
theorem dX2_startTogether_50 : decode cX2_startTogether 50 = .ok (.iload_n 2, 1) := by decide +kernel
theorem dX2_startTogether_51 : decode cX2_startTogether 51 = .ok (.if_icmp .ge 39, 3) := by decide +kernel
theorem dX2_startTogether_54 : decode cX2_startTogether 54 = .ok (.iload 4, 2) := by decide +kernel
theorem dX2_startTogether_56 : decode cX2_startTogether 56 = .ok (.ifCond .lt 34, 3) := by decide +kernel
theorem dX2_startTogether_59 : decode cX2_startTogether 59 = .ok (.aload_n 0, 1) := by decide +kernel
theorem dX2_startTogether_60 : decode cX2_startTogether 60 = .ok (.getfield 9, 3) := by decide +kernel
theorem dX2_startTogether_63 : decode cX2_startTogether 63 = .ok (.iload 4, 2) := by decide +kernel
theorem dX2_startTogether_65 : decode cX2_startTogether 65 = .ok (.iload_n 3, 1) := by decide +kernel
theorem dX2_startTogether_66 : decode cX2_startTogether 66 = .ok (.iastore, 1) := by decide +kernel
theorem dX2_startTogether_67 : decode cX2_startTogether 67 = .ok (.aload_n 0, 1) := by decide +kernel
theorem dX2_startTogether_68 : decode cX2_startTogether 68 = .ok (.getfield 21, 3) := by decide +kernel
theorem dX2_startTogether_71 : decode cX2_startTogether 71 = .ok (.iload 4, 2) := by decide +kernel
theorem dX2_startTogether_73 : decode cX2_startTogether 73 = .ok (.iconst 1, 1) := by decide +kernel
theorem dX2_startTogether_74 : decode cX2_startTogether 74 = .ok (.bastore, 1) := by decide +kernel
theorem dX2_startTogether_75 : decode cX2_startTogether 75 = .ok (.aload_n 0, 1) := by decide +kernel
theorem dX2_startTogether_76 : decode cX2_startTogether 76 = .ok (.getfield 15, 3) := by decide +kernel
theorem dX2_startTogether_79 : decode cX2_startTogether 79 = .ok (.iload 4, 2) := by decide +kernel
theorem dX2_startTogether_81 : decode cX2_startTogether 81 = .ok (.iaload, 1) := by decide +kernel
theorem dX2_startTogether_82 : decode cX2_startTogether 82 = .ok (.istore 4, 2) := by decide +kernel
theorem dX2_startTogether_84 : decode cX2_startTogether 84 = .ok (.iinc 5 1, 3) := by decide +kernel
theorem dX2_startTogether_87 : decode cX2_startTogether 87 = .ok (.goto (-39), 3) := by decide +kernel
theorem dX2_startTogether_90 : decode cX2_startTogether 90 = .ok (.return_, 1) := by decide +kernel
theorem dX2_completedAt_0 : decode cX2_completedAt 0 = .ok (.aload_n 0, 1) := by decide +kernel
theorem dX2_completedAt_1 : decode cX2_completedAt 1 = .ok (.getfield 9, 3) := by decide +kernel
theorem dX2_completedAt_4 : decode cX2_completedAt 4 = .ok (.iload_n 1, 1) := by decide +kernel
theorem dX2_completedAt_5 : decode cX2_completedAt 5 = .ok (.iaload, 1) := by decide +kernel
theorem dX2_completedAt_6 : decode cX2_completedAt 6 = .ok (.aload_n 0, 1) := by decide +kernel
theorem dX2_completedAt_7 : decode cX2_completedAt 7 = .ok (.getfield 44, 3) := by decide +kernel
theorem dX2_completedAt_10 : decode cX2_completedAt 10 = .ok (.getfield 91, 3) := by decide +kernel
theorem dX2_completedAt_13 : decode cX2_completedAt 13 = .ok (.iload_n 1, 1) := by decide +kernel
theorem dX2_completedAt_14 : decode cX2_completedAt 14 = .ok (.iaload, 1) := by decide +kernel
theorem dX2_completedAt_15 : decode cX2_completedAt 15 = .ok (.iadd, 1) := by decide +kernel
theorem dX2_completedAt_16 : decode cX2_completedAt 16 = .ok (.ireturn, 1) := by decide +kernel
theorem dX2_leaveOf_0 : decode cX2_leaveOf 0 = .ok (.iload_n 1, 1) := by decide +kernel
theorem dX2_leaveOf_1 : decode cX2_leaveOf 1 = .ok (.iload_n 2, 1) := by decide +kernel
theorem dX2_leaveOf_2 : decode cX2_leaveOf 2 = .ok (.invokestatic 100, 3) := by decide +kernel
theorem dX2_leaveOf_5 : decode cX2_leaveOf 5 = .ok (.istore_n 3, 1) := by decide +kernel
theorem dX2_leaveOf_6 : decode cX2_leaveOf 6 = .ok (.aload_n 0, 1) := by decide +kernel
theorem dX2_leaveOf_7 : decode cX2_leaveOf 7 = .ok (.getfield 44, 3) := by decide +kernel
theorem dX2_leaveOf_10 : decode cX2_leaveOf 10 = .ok (.getfield 48, 3) := by decide +kernel
theorem dX2_leaveOf_13 : decode cX2_leaveOf 13 = .ok (.getfield 84, 3) := by decide +kernel
theorem dX2_leaveOf_16 : decode cX2_leaveOf 16 = .ok (.aload_n 0, 1) := by decide +kernel
theorem dX2_leaveOf_17 : decode cX2_leaveOf 17 = .ok (.getfield 44, 3) := by decide +kernel
theorem dX2_leaveOf_20 : decode cX2_leaveOf 20 = .ok (.getfield 48, 3) := by decide +kernel
theorem dX2_leaveOf_23 : decode cX2_leaveOf 23 = .ok (.getfield 126, 3) := by decide +kernel
theorem dX2_leaveOf_26 : decode cX2_leaveOf 26 = .ok (.iload_n 3, 1) := by decide +kernel
theorem dX2_leaveOf_27 : decode cX2_leaveOf 27 = .ok (.iaload, 1) := by decide +kernel
theorem dX2_leaveOf_28 : decode cX2_leaveOf 28 = .ok (.baload, 1) := by decide +kernel
theorem dX2_leaveOf_29 : decode cX2_leaveOf 29 = .ok (.ifCond .ne 17, 3) := by decide +kernel
theorem dX2_leaveOf_32 : decode cX2_leaveOf 32 = .ok (.aload_n 0, 1) := by decide +kernel
theorem dX2_leaveOf_33 : decode cX2_leaveOf 33 = .ok (.getfield 44, 3) := by decide +kernel
theorem dX2_leaveOf_36 : decode cX2_leaveOf 36 = .ok (.getfield 48, 3) := by decide +kernel
theorem dX2_leaveOf_39 : decode cX2_leaveOf 39 = .ok (.iload_n 3, 1) := by decide +kernel
theorem dX2_leaveOf_40 : decode cX2_leaveOf 40 = .ok (.invokevirtual 87, 3) := by decide +kernel
theorem dX2_leaveOf_43 : decode cX2_leaveOf 43 = .ok (.ifCond .eq 9, 3) := by decide +kernel
theorem dX2_leaveOf_46 : decode cX2_leaveOf 46 = .ok (.aload_n 0, 1) := by decide +kernel
theorem dX2_leaveOf_47 : decode cX2_leaveOf 47 = .ok (.iload_n 3, 1) := by decide +kernel
theorem dX2_leaveOf_48 : decode cX2_leaveOf 48 = .ok (.invokevirtual 129, 3) := by decide +kernel
theorem dX2_leaveOf_51 : decode cX2_leaveOf 51 = .ok (.ireturn, 1) := by decide +kernel
theorem dX2_leaveOf_52 : decode cX2_leaveOf 52 = .ok (.aload_n 0, 1) := by decide +kernel
theorem dX2_leaveOf_53 : decode cX2_leaveOf 53 = .ok (.getfield 9, 3) := by decide +kernel
theorem dX2_leaveOf_56 : decode cX2_leaveOf 56 = .ok (.iload_n 3, 1) := by decide +kernel
theorem dX2_leaveOf_57 : decode cX2_leaveOf 57 = .ok (.iconst 1, 1) := by decide +kernel
theorem dX2_leaveOf_58 : decode cX2_leaveOf 58 = .ok (.iadd, 1) := by decide +kernel
theorem dX2_leaveOf_59 : decode cX2_leaveOf 59 = .ok (.iaload, 1) := by decide +kernel
theorem dX2_leaveOf_60 : decode cX2_leaveOf 60 = .ok (.ireturn, 1) := by decide +kernel
theorem dX2_lastOf_0 : decode cX2_lastOf 0 = .ok (.iload_n 1, 1) := by decide +kernel
theorem dX2_lastOf_1 : decode cX2_lastOf 1 = .ok (.bipush 6, 2) := by decide +kernel
theorem dX2_lastOf_3 : decode cX2_lastOf 3 = .ok (.imul, 1) := by decide +kernel
theorem dX2_lastOf_4 : decode cX2_lastOf 4 = .ok (.aload_n 0, 1) := by decide +kernel
theorem dX2_lastOf_5 : decode cX2_lastOf 5 = .ok (.getfield 44, 3) := by decide +kernel
theorem dX2_lastOf_8 : decode cX2_lastOf 8 = .ok (.getfield 48, 3) := by decide +kernel
theorem dX2_lastOf_11 : decode cX2_lastOf 11 = .ok (.getfield 97, 3) := by decide +kernel
theorem dX2_lastOf_14 : decode cX2_lastOf 14 = .ok (.iload_n 1, 1) := by decide +kernel
theorem dX2_lastOf_15 : decode cX2_lastOf 15 = .ok (.iaload, 1) := by decide +kernel
theorem dX2_lastOf_16 : decode cX2_lastOf 16 = .ok (.iadd, 1) := by decide +kernel
theorem dX2_lastOf_17 : decode cX2_lastOf 17 = .ok (.iconst 1, 1) := by decide +kernel
theorem dX2_lastOf_18 : decode cX2_lastOf 18 = .ok (.isub, 1) := by decide +kernel
theorem dX2_lastOf_19 : decode cX2_lastOf 19 = .ok (.ireturn, 1) := by decide +kernel
theorem dX2_completionOf_0 : decode cX2_completionOf 0 = .ok (.aload_n 0, 1) := by decide +kernel
theorem dX2_completionOf_1 : decode cX2_completionOf 1 = .ok (.aload_n 0, 1) := by decide +kernel
theorem dX2_completionOf_2 : decode cX2_completionOf 2 = .ok (.iload_n 1, 1) := by decide +kernel
theorem dX2_completionOf_3 : decode cX2_completionOf 3 = .ok (.invokevirtual 132, 3) := by decide +kernel
theorem dX2_completionOf_6 : decode cX2_completionOf 6 = .ok (.invokevirtual 129, 3) := by decide +kernel
theorem dX2_completionOf_9 : decode cX2_completionOf 9 = .ok (.ireturn, 1) := by decide +kernel
theorem dX2_greatestCompletion_0 : decode cX2_greatestCompletion 0 = .ok (.iconst 0, 1) := by decide +kernel
theorem dX2_greatestCompletion_1 : decode cX2_greatestCompletion 1 = .ok (.istore_n 1, 1) := by decide +kernel
theorem dX2_greatestCompletion_2 : decode cX2_greatestCompletion 2 = .ok (.iconst 0, 1) := by decide +kernel
theorem dX2_greatestCompletion_3 : decode cX2_greatestCompletion 3 = .ok (.istore_n 2, 1) := by decide +kernel
theorem dX2_greatestCompletion_4 : decode cX2_greatestCompletion 4 = .ok (.iload_n 2, 1) := by decide +kernel
theorem dX2_greatestCompletion_5 : decode cX2_greatestCompletion 5 = .ok (.aload_n 0, 1) := by decide +kernel
theorem dX2_greatestCompletion_6 : decode cX2_greatestCompletion 6 = .ok (.getfield 44, 3) := by decide +kernel
theorem dX2_greatestCompletion_9 : decode cX2_greatestCompletion 9 = .ok (.getfield 48, 3) := by decide +kernel
theorem dX2_greatestCompletion_12 : decode cX2_greatestCompletion 12 = .ok (.getfield 94, 3) := by decide +kernel
theorem dX2_greatestCompletion_15 : decode cX2_greatestCompletion 15 = .ok (.if_icmp .ge 19, 3) := by decide +kernel
theorem dX2_greatestCompletion_18 : decode cX2_greatestCompletion 18 = .ok (.iload_n 1, 1) := by decide +kernel
theorem dX2_greatestCompletion_19 : decode cX2_greatestCompletion 19 = .ok (.aload_n 0, 1) := by decide +kernel
theorem dX2_greatestCompletion_20 : decode cX2_greatestCompletion 20 = .ok (.iload_n 2, 1) := by decide +kernel
theorem dX2_greatestCompletion_21 : decode cX2_greatestCompletion 21 = .ok (.invokevirtual 135, 3) := by decide +kernel
theorem dX2_greatestCompletion_24 : decode cX2_greatestCompletion 24 = .ok (.invokestatic 114, 3) := by decide +kernel
theorem dX2_greatestCompletion_27 : decode cX2_greatestCompletion 27 = .ok (.istore_n 1, 1) := by decide +kernel
theorem dX2_greatestCompletion_28 : decode cX2_greatestCompletion 28 = .ok (.iinc 2 1, 3) := by decide +kernel
theorem dX2_greatestCompletion_31 : decode cX2_greatestCompletion 31 = .ok (.goto (-27), 3) := by decide +kernel
theorem dX2_greatestCompletion_34 : decode cX2_greatestCompletion 34 = .ok (.iload_n 1, 1) := by decide +kernel
theorem dX2_greatestCompletion_35 : decode cX2_greatestCompletion 35 = .ok (.ireturn, 1) := by decide +kernel
theorem dX2_costOf_0 : decode cX2_costOf 0 = .ok (.aload_n 0, 1) := by decide +kernel
theorem dX2_costOf_1 : decode cX2_costOf 1 = .ok (.getfield 35, 3) := by decide +kernel
theorem dX2_costOf_4 : decode cX2_costOf 4 = .ok (.aload_n 0, 1) := by decide +kernel
theorem dX2_costOf_5 : decode cX2_costOf 5 = .ok (.getfield 44, 3) := by decide +kernel
theorem dX2_costOf_8 : decode cX2_costOf 8 = .ok (.getfield 48, 3) := by decide +kernel
theorem dX2_costOf_11 : decode cX2_costOf 11 = .ok (.iload_n 1, 1) := by decide +kernel
theorem dX2_costOf_12 : decode cX2_costOf 12 = .ok (.aload_n 0, 1) := by decide +kernel
theorem dX2_costOf_13 : decode cX2_costOf 13 = .ok (.iload_n 1, 1) := by decide +kernel
theorem dX2_costOf_14 : decode cX2_costOf 14 = .ok (.invokevirtual 135, 3) := by decide +kernel
theorem dX2_costOf_17 : decode cX2_costOf 17 = .ok (.invokevirtual 138, 3) := by decide +kernel
theorem dX2_costOf_20 : decode cX2_costOf 20 = .ok (.ireturn, 1) := by decide +kernel
theorem dX2_costOfAll_0 : decode cX2_costOfAll 0 = .ok (.iconst 0, 1) := by decide +kernel
theorem dX2_costOfAll_1 : decode cX2_costOfAll 1 = .ok (.istore_n 1, 1) := by decide +kernel
theorem dX2_costOfAll_2 : decode cX2_costOfAll 2 = .ok (.iconst 0, 1) := by decide +kernel
theorem dX2_costOfAll_3 : decode cX2_costOfAll 3 = .ok (.istore_n 2, 1) := by decide +kernel
theorem dX2_costOfAll_4 : decode cX2_costOfAll 4 = .ok (.iload_n 2, 1) := by decide +kernel
theorem dX2_costOfAll_5 : decode cX2_costOfAll 5 = .ok (.aload_n 0, 1) := by decide +kernel
theorem dX2_costOfAll_6 : decode cX2_costOfAll 6 = .ok (.getfield 44, 3) := by decide +kernel
theorem dX2_costOfAll_9 : decode cX2_costOfAll 9 = .ok (.getfield 48, 3) := by decide +kernel
theorem dX2_costOfAll_12 : decode cX2_costOfAll 12 = .ok (.getfield 94, 3) := by decide +kernel
theorem dX2_costOfAll_15 : decode cX2_costOfAll 15 = .ok (.if_icmp .ge 17, 3) := by decide +kernel
theorem dX2_costOfAll_18 : decode cX2_costOfAll 18 = .ok (.iload_n 1, 1) := by decide +kernel
theorem dX2_costOfAll_19 : decode cX2_costOfAll 19 = .ok (.aload_n 0, 1) := by decide +kernel
theorem dX2_costOfAll_20 : decode cX2_costOfAll 20 = .ok (.iload_n 2, 1) := by decide +kernel
theorem dX2_costOfAll_21 : decode cX2_costOfAll 21 = .ok (.invokevirtual 142, 3) := by decide +kernel
theorem dX2_costOfAll_24 : decode cX2_costOfAll 24 = .ok (.iadd, 1) := by decide +kernel
theorem dX2_costOfAll_25 : decode cX2_costOfAll 25 = .ok (.istore_n 1, 1) := by decide +kernel
theorem dX2_costOfAll_26 : decode cX2_costOfAll 26 = .ok (.iinc 2 1, 3) := by decide +kernel
theorem dX2_costOfAll_29 : decode cX2_costOfAll 29 = .ok (.goto (-25), 3) := by decide +kernel
theorem dX2_costOfAll_32 : decode cX2_costOfAll 32 = .ok (.iload_n 1, 1) := by decide +kernel
theorem dX2_costOfAll_33 : decode cX2_costOfAll 33 = .ok (.ireturn, 1) := by decide +kernel
theorem dX2_isBetterThan_0 : decode cX2_isBetterThan 0 = .ok (.aload_n 0, 1) := by decide +kernel
theorem dX2_isBetterThan_1 : decode cX2_isBetterThan 1 = .ok (.invokevirtual 145, 3) := by decide +kernel
theorem dX2_isBetterThan_4 : decode cX2_isBetterThan 4 = .ok (.istore_n 3, 1) := by decide +kernel
theorem dX2_isBetterThan_5 : decode cX2_isBetterThan 5 = .ok (.iload_n 3, 1) := by decide +kernel
theorem dX2_isBetterThan_6 : decode cX2_isBetterThan 6 = .ok (.iload_n 1, 1) := by decide +kernel
theorem dX2_isBetterThan_7 : decode cX2_isBetterThan 7 = .ok (.if_icmp .lt 16, 3) := by decide +kernel
theorem dX2_isBetterThan_10 : decode cX2_isBetterThan 10 = .ok (.iload_n 3, 1) := by decide +kernel
theorem dX2_isBetterThan_11 : decode cX2_isBetterThan 11 = .ok (.iload_n 1, 1) := by decide +kernel
theorem dX2_isBetterThan_12 : decode cX2_isBetterThan 12 = .ok (.if_icmp .ne 15, 3) := by decide +kernel
theorem dX2_isBetterThan_15 : decode cX2_isBetterThan 15 = .ok (.aload_n 0, 1) := by decide +kernel
theorem dX2_isBetterThan_16 : decode cX2_isBetterThan 16 = .ok (.invokevirtual 148, 3) := by decide +kernel
theorem dX2_isBetterThan_19 : decode cX2_isBetterThan 19 = .ok (.iload_n 2, 1) := by decide +kernel
theorem dX2_isBetterThan_20 : decode cX2_isBetterThan 20 = .ok (.if_icmp .ge 7, 3) := by decide +kernel
theorem dX2_isBetterThan_23 : decode cX2_isBetterThan 23 = .ok (.iconst 1, 1) := by decide +kernel
theorem dX2_isBetterThan_24 : decode cX2_isBetterThan 24 = .ok (.goto 4, 3) := by decide +kernel
theorem dX2_isBetterThan_27 : decode cX2_isBetterThan 27 = .ok (.iconst 0, 1) := by decide +kernel
theorem dX2_isBetterThan_28 : decode cX2_isBetterThan 28 = .ok (.ireturn, 1) := by decide +kernel
theorem dX2_traceCriticalPath_0 : decode cX2_traceCriticalPath 0 = .ok (.aload_n 0, 1) := by decide +kernel
theorem dX2_traceCriticalPath_1 : decode cX2_traceCriticalPath 1 = .ok (.iconst 0, 1) := by decide +kernel
theorem dX2_traceCriticalPath_2 : decode cX2_traceCriticalPath 2 = .ok (.putfield 28, 3) := by decide +kernel
theorem dX2_traceCriticalPath_5 : decode cX2_traceCriticalPath 5 = .ok (.aload_n 0, 1) := by decide +kernel
theorem dX2_traceCriticalPath_6 : decode cX2_traceCriticalPath 6 = .ok (.invokevirtual 151, 3) := by decide +kernel
theorem dX2_traceCriticalPath_9 : decode cX2_traceCriticalPath 9 = .ok (.istore_n 1, 1) := by decide +kernel
theorem dX2_traceCriticalPath_10 : decode cX2_traceCriticalPath 10 = .ok (.iconst 0, 1) := by decide +kernel
theorem dX2_traceCriticalPath_11 : decode cX2_traceCriticalPath 11 = .ok (.istore_n 2, 1) := by decide +kernel
theorem dX2_traceCriticalPath_12 : decode cX2_traceCriticalPath 12 = .ok (.iload_n 2, 1) := by decide +kernel
theorem dX2_traceCriticalPath_13 : decode cX2_traceCriticalPath 13 = .ok (.bipush 36, 2) := by decide +kernel
theorem dX2_traceCriticalPath_15 : decode cX2_traceCriticalPath 15 = .ok (.if_icmp .ge 41, 3) := by decide +kernel
theorem dX2_traceCriticalPath_18 : decode cX2_traceCriticalPath 18 = .ok (.iload_n 1, 1) := by decide +kernel
theorem dX2_traceCriticalPath_19 : decode cX2_traceCriticalPath 19 = .ok (.ifCond .lt 37, 3) := by decide +kernel
theorem dX2_traceCriticalPath_22 : decode cX2_traceCriticalPath 22 = .ok (.aload_n 0, 1) := by decide +kernel
theorem dX2_traceCriticalPath_23 : decode cX2_traceCriticalPath 23 = .ok (.iload_n 1, 1) := by decide +kernel
theorem dX2_traceCriticalPath_24 : decode cX2_traceCriticalPath 24 = .ok (.invokevirtual 154, 3) := by decide +kernel
theorem dX2_traceCriticalPath_27 : decode cX2_traceCriticalPath 27 = .ok (.ifCond .ne 29, 3) := by decide +kernel
theorem dX2_traceCriticalPath_30 : decode cX2_traceCriticalPath 30 = .ok (.aload_n 0, 1) := by decide +kernel
theorem dX2_traceCriticalPath_31 : decode cX2_traceCriticalPath 31 = .ok (.getfield 25, 3) := by decide +kernel
theorem dX2_traceCriticalPath_34 : decode cX2_traceCriticalPath 34 = .ok (.iload_n 2, 1) := by decide +kernel
theorem dX2_traceCriticalPath_35 : decode cX2_traceCriticalPath 35 = .ok (.iload_n 1, 1) := by decide +kernel
theorem dX2_traceCriticalPath_36 : decode cX2_traceCriticalPath 36 = .ok (.iastore, 1) := by decide +kernel
theorem dX2_traceCriticalPath_37 : decode cX2_traceCriticalPath 37 = .ok (.aload_n 0, 1) := by decide +kernel
theorem dX2_traceCriticalPath_38 : decode cX2_traceCriticalPath 38 = .ok (.iload_n 2, 1) := by decide +kernel
theorem dX2_traceCriticalPath_39 : decode cX2_traceCriticalPath 39 = .ok (.iconst 1, 1) := by decide +kernel
theorem dX2_traceCriticalPath_40 : decode cX2_traceCriticalPath 40 = .ok (.iadd, 1) := by decide +kernel
theorem dX2_traceCriticalPath_41 : decode cX2_traceCriticalPath 41 = .ok (.putfield 28, 3) := by decide +kernel
theorem dX2_traceCriticalPath_44 : decode cX2_traceCriticalPath 44 = .ok (.aload_n 0, 1) := by decide +kernel
theorem dX2_traceCriticalPath_45 : decode cX2_traceCriticalPath 45 = .ok (.iload_n 1, 1) := by decide +kernel
theorem dX2_traceCriticalPath_46 : decode cX2_traceCriticalPath 46 = .ok (.invokevirtual 157, 3) := by decide +kernel
theorem dX2_traceCriticalPath_49 : decode cX2_traceCriticalPath 49 = .ok (.istore_n 1, 1) := by decide +kernel
theorem dX2_traceCriticalPath_50 : decode cX2_traceCriticalPath 50 = .ok (.iinc 2 1, 3) := by decide +kernel
theorem dX2_traceCriticalPath_53 : decode cX2_traceCriticalPath 53 = .ok (.goto (-41), 3) := by decide +kernel
theorem dX2_traceCriticalPath_56 : decode cX2_traceCriticalPath 56 = .ok (.return_, 1) := by decide +kernel
theorem dX2_criticalEnd_0 : decode cX2_criticalEnd 0 = .ok (.aload_n 0, 1) := by decide +kernel
theorem dX2_criticalEnd_1 : decode cX2_criticalEnd 1 = .ok (.invokevirtual 145, 3) := by decide +kernel
theorem dX2_criticalEnd_4 : decode cX2_criticalEnd 4 = .ok (.istore_n 1, 1) := by decide +kernel
theorem dX2_criticalEnd_5 : decode cX2_criticalEnd 5 = .ok (.iconst 0, 1) := by decide +kernel
theorem dX2_criticalEnd_6 : decode cX2_criticalEnd 6 = .ok (.istore_n 2, 1) := by decide +kernel
theorem dX2_criticalEnd_7 : decode cX2_criticalEnd 7 = .ok (.iload_n 2, 1) := by decide +kernel
theorem dX2_criticalEnd_8 : decode cX2_criticalEnd 8 = .ok (.aload_n 0, 1) := by decide +kernel
theorem dX2_criticalEnd_9 : decode cX2_criticalEnd 9 = .ok (.getfield 44, 3) := by decide +kernel
theorem dX2_criticalEnd_12 : decode cX2_criticalEnd 12 = .ok (.getfield 48, 3) := by decide +kernel
theorem dX2_criticalEnd_15 : decode cX2_criticalEnd 15 = .ok (.getfield 94, 3) := by decide +kernel
theorem dX2_criticalEnd_18 : decode cX2_criticalEnd 18 = .ok (.if_icmp .ge 24, 3) := by decide +kernel
theorem dX2_criticalEnd_21 : decode cX2_criticalEnd 21 = .ok (.aload_n 0, 1) := by decide +kernel
theorem dX2_criticalEnd_22 : decode cX2_criticalEnd 22 = .ok (.iload_n 2, 1) := by decide +kernel
theorem dX2_criticalEnd_23 : decode cX2_criticalEnd 23 = .ok (.invokevirtual 135, 3) := by decide +kernel
theorem dX2_criticalEnd_26 : decode cX2_criticalEnd 26 = .ok (.iload_n 1, 1) := by decide +kernel
theorem dX2_criticalEnd_27 : decode cX2_criticalEnd 27 = .ok (.if_icmp .ne 9, 3) := by decide +kernel
theorem dX2_criticalEnd_30 : decode cX2_criticalEnd 30 = .ok (.aload_n 0, 1) := by decide +kernel
theorem dX2_criticalEnd_31 : decode cX2_criticalEnd 31 = .ok (.iload_n 2, 1) := by decide +kernel
theorem dX2_criticalEnd_32 : decode cX2_criticalEnd 32 = .ok (.invokevirtual 132, 3) := by decide +kernel
theorem dX2_criticalEnd_35 : decode cX2_criticalEnd 35 = .ok (.ireturn, 1) := by decide +kernel
theorem dX2_criticalEnd_36 : decode cX2_criticalEnd 36 = .ok (.iinc 2 1, 3) := by decide +kernel
theorem dX2_criticalEnd_39 : decode cX2_criticalEnd 39 = .ok (.goto (-32), 3) := by decide +kernel
theorem dX2_criticalEnd_42 : decode cX2_criticalEnd 42 = .ok (.iconst (-1), 1) := by decide +kernel
theorem dX2_criticalEnd_43 : decode cX2_criticalEnd 43 = .ok (.ireturn, 1) := by decide +kernel
theorem dX2_isOnPath_0 : decode cX2_isOnPath 0 = .ok (.iconst 0, 1) := by decide +kernel
theorem dX2_isOnPath_1 : decode cX2_isOnPath 1 = .ok (.istore_n 2, 1) := by decide +kernel
theorem dX2_isOnPath_2 : decode cX2_isOnPath 2 = .ok (.iload_n 2, 1) := by decide +kernel
theorem dX2_isOnPath_3 : decode cX2_isOnPath 3 = .ok (.aload_n 0, 1) := by decide +kernel
theorem dX2_isOnPath_4 : decode cX2_isOnPath 4 = .ok (.getfield 28, 3) := by decide +kernel
theorem dX2_isOnPath_7 : decode cX2_isOnPath 7 = .ok (.if_icmp .ge 21, 3) := by decide +kernel
theorem dX2_isOnPath_10 : decode cX2_isOnPath 10 = .ok (.aload_n 0, 1) := by decide +kernel
theorem dX2_isOnPath_11 : decode cX2_isOnPath 11 = .ok (.getfield 25, 3) := by decide +kernel
theorem dX2_isOnPath_14 : decode cX2_isOnPath 14 = .ok (.iload_n 2, 1) := by decide +kernel
theorem dX2_isOnPath_15 : decode cX2_isOnPath 15 = .ok (.iaload, 1) := by decide +kernel
theorem dX2_isOnPath_16 : decode cX2_isOnPath 16 = .ok (.iload_n 1, 1) := by decide +kernel
theorem dX2_isOnPath_17 : decode cX2_isOnPath 17 = .ok (.if_icmp .ne 5, 3) := by decide +kernel
theorem dX2_isOnPath_20 : decode cX2_isOnPath 20 = .ok (.iconst 1, 1) := by decide +kernel
theorem dX2_isOnPath_21 : decode cX2_isOnPath 21 = .ok (.ireturn, 1) := by decide +kernel
theorem dX2_isOnPath_22 : decode cX2_isOnPath 22 = .ok (.iinc 2 1, 3) := by decide +kernel
theorem dX2_isOnPath_25 : decode cX2_isOnPath 25 = .ok (.goto (-23), 3) := by decide +kernel
theorem dX2_isOnPath_28 : decode cX2_isOnPath 28 = .ok (.iconst 0, 1) := by decide +kernel
theorem dX2_isOnPath_29 : decode cX2_isOnPath 29 = .ok (.ireturn, 1) := by decide +kernel
theorem dX2_criticalSource_0 : decode cX2_criticalSource 0 = .ok (.iload_n 1, 1) := by decide +kernel
theorem dX2_criticalSource_1 : decode cX2_criticalSource 1 = .ok (.bipush 6, 2) := by decide +kernel
theorem dX2_criticalSource_3 : decode cX2_criticalSource 3 = .ok (.irem, 1) := by decide +kernel
theorem dX2_criticalSource_4 : decode cX2_criticalSource 4 = .ok (.ifCond .ne 7, 3) := by decide +kernel
theorem dX2_criticalSource_7 : decode cX2_criticalSource 7 = .ok (.iconst 1, 1) := by decide +kernel
theorem dX2_criticalSource_8 : decode cX2_criticalSource 8 = .ok (.goto 4, 3) := by decide +kernel
theorem dX2_criticalSource_11 : decode cX2_criticalSource 11 = .ok (.iconst 0, 1) := by decide +kernel
theorem dX2_criticalSource_12 : decode cX2_criticalSource 12 = .ok (.istore_n 2, 1) := by decide +kernel
theorem dX2_criticalSource_13 : decode cX2_criticalSource 13 = .ok (.iload_n 2, 1) := by decide +kernel
theorem dX2_criticalSource_14 : decode cX2_criticalSource 14 = .ok (.ifCond .eq 29, 3) := by decide +kernel
theorem dX2_criticalSource_17 : decode cX2_criticalSource 17 = .ok (.aload_n 0, 1) := by decide +kernel
theorem dX2_criticalSource_18 : decode cX2_criticalSource 18 = .ok (.getfield 9, 3) := by decide +kernel
theorem dX2_criticalSource_21 : decode cX2_criticalSource 21 = .ok (.iload_n 1, 1) := by decide +kernel
theorem dX2_criticalSource_22 : decode cX2_criticalSource 22 = .ok (.iaload, 1) := by decide +kernel
theorem dX2_criticalSource_23 : decode cX2_criticalSource 23 = .ok (.aload_n 0, 1) := by decide +kernel
theorem dX2_criticalSource_24 : decode cX2_criticalSource 24 = .ok (.getfield 44, 3) := by decide +kernel
theorem dX2_criticalSource_27 : decode cX2_criticalSource 27 = .ok (.getfield 48, 3) := by decide +kernel
theorem dX2_criticalSource_30 : decode cX2_criticalSource 30 = .ok (.getfield 104, 3) := by decide +kernel
theorem dX2_criticalSource_33 : decode cX2_criticalSource 33 = .ok (.iload_n 1, 1) := by decide +kernel
theorem dX2_criticalSource_34 : decode cX2_criticalSource 34 = .ok (.bipush 6, 2) := by decide +kernel
theorem dX2_criticalSource_36 : decode cX2_criticalSource 36 = .ok (.idiv, 1) := by decide +kernel
theorem dX2_criticalSource_37 : decode cX2_criticalSource 37 = .ok (.iaload, 1) := by decide +kernel
theorem dX2_criticalSource_38 : decode cX2_criticalSource 38 = .ok (.if_icmp .ne 5, 3) := by decide +kernel
theorem dX2_criticalSource_41 : decode cX2_criticalSource 41 = .ok (.iconst (-1), 1) := by decide +kernel
theorem dX2_criticalSource_42 : decode cX2_criticalSource 42 = .ok (.ireturn, 1) := by decide +kernel
theorem dX2_criticalSource_43 : decode cX2_criticalSource 43 = .ok (.iload_n 2, 1) := by decide +kernel
theorem dX2_criticalSource_44 : decode cX2_criticalSource 44 = .ok (.ifCond .ne 23, 3) := by decide +kernel
theorem dX2_criticalSource_47 : decode cX2_criticalSource 47 = .ok (.aload_n 0, 1) := by decide +kernel
theorem dX2_criticalSource_48 : decode cX2_criticalSource 48 = .ok (.iload_n 1, 1) := by decide +kernel
theorem dX2_criticalSource_49 : decode cX2_criticalSource 49 = .ok (.iconst 1, 1) := by decide +kernel
theorem dX2_criticalSource_50 : decode cX2_criticalSource 50 = .ok (.isub, 1) := by decide +kernel
theorem dX2_criticalSource_51 : decode cX2_criticalSource 51 = .ok (.invokevirtual 129, 3) := by decide +kernel
theorem dX2_criticalSource_54 : decode cX2_criticalSource 54 = .ok (.aload_n 0, 1) := by decide +kernel
theorem dX2_criticalSource_55 : decode cX2_criticalSource 55 = .ok (.getfield 9, 3) := by decide +kernel
theorem dX2_criticalSource_58 : decode cX2_criticalSource 58 = .ok (.iload_n 1, 1) := by decide +kernel
theorem dX2_criticalSource_59 : decode cX2_criticalSource 59 = .ok (.iaload, 1) := by decide +kernel
theorem dX2_criticalSource_60 : decode cX2_criticalSource 60 = .ok (.if_icmp .ne 7, 3) := by decide +kernel
theorem dX2_criticalSource_63 : decode cX2_criticalSource 63 = .ok (.iload_n 1, 1) := by decide +kernel
theorem dX2_criticalSource_64 : decode cX2_criticalSource 64 = .ok (.iconst 1, 1) := by decide +kernel
theorem dX2_criticalSource_65 : decode cX2_criticalSource 65 = .ok (.isub, 1) := by decide +kernel
theorem dX2_criticalSource_66 : decode cX2_criticalSource 66 = .ok (.ireturn, 1) := by decide +kernel
theorem dX2_criticalSource_67 : decode cX2_criticalSource 67 = .ok (.aload_n 0, 1) := by decide +kernel
theorem dX2_criticalSource_68 : decode cX2_criticalSource 68 = .ok (.getfield 15, 3) := by decide +kernel
theorem dX2_criticalSource_71 : decode cX2_criticalSource 71 = .ok (.iload_n 1, 1) := by decide +kernel
theorem dX2_criticalSource_72 : decode cX2_criticalSource 72 = .ok (.iaload, 1) := by decide +kernel
theorem dX2_criticalSource_73 : decode cX2_criticalSource 73 = .ok (.ireturn, 1) := by decide +kernel
theorem dX2_continuesBlock_0 : decode cX2_continuesBlock 0 = .ok (.iload_n 1, 1) := by decide +kernel
theorem dX2_continuesBlock_1 : decode cX2_continuesBlock 1 = .ok (.ifCond .le 46, 3) := by decide +kernel
theorem dX2_continuesBlock_4 : decode cX2_continuesBlock 4 = .ok (.aload_n 0, 1) := by decide +kernel
theorem dX2_continuesBlock_5 : decode cX2_continuesBlock 5 = .ok (.getfield 44, 3) := by decide +kernel
theorem dX2_continuesBlock_8 : decode cX2_continuesBlock 8 = .ok (.getfield 48, 3) := by decide +kernel
theorem dX2_continuesBlock_11 : decode cX2_continuesBlock 11 = .ok (.getfield 126, 3) := by decide +kernel
theorem dX2_continuesBlock_14 : decode cX2_continuesBlock 14 = .ok (.aload_n 0, 1) := by decide +kernel
theorem dX2_continuesBlock_15 : decode cX2_continuesBlock 15 = .ok (.getfield 25, 3) := by decide +kernel
theorem dX2_continuesBlock_18 : decode cX2_continuesBlock 18 = .ok (.iload_n 1, 1) := by decide +kernel
theorem dX2_continuesBlock_19 : decode cX2_continuesBlock 19 = .ok (.iaload, 1) := by decide +kernel
theorem dX2_continuesBlock_20 : decode cX2_continuesBlock 20 = .ok (.iaload, 1) := by decide +kernel
theorem dX2_continuesBlock_21 : decode cX2_continuesBlock 21 = .ok (.aload_n 0, 1) := by decide +kernel
theorem dX2_continuesBlock_22 : decode cX2_continuesBlock 22 = .ok (.getfield 44, 3) := by decide +kernel
theorem dX2_continuesBlock_25 : decode cX2_continuesBlock 25 = .ok (.getfield 48, 3) := by decide +kernel
theorem dX2_continuesBlock_28 : decode cX2_continuesBlock 28 = .ok (.getfield 126, 3) := by decide +kernel
theorem dX2_continuesBlock_31 : decode cX2_continuesBlock 31 = .ok (.aload_n 0, 1) := by decide +kernel
theorem dX2_continuesBlock_32 : decode cX2_continuesBlock 32 = .ok (.getfield 25, 3) := by decide +kernel
theorem dX2_continuesBlock_35 : decode cX2_continuesBlock 35 = .ok (.iload_n 1, 1) := by decide +kernel
theorem dX2_continuesBlock_36 : decode cX2_continuesBlock 36 = .ok (.iconst 1, 1) := by decide +kernel
theorem dX2_continuesBlock_37 : decode cX2_continuesBlock 37 = .ok (.isub, 1) := by decide +kernel
theorem dX2_continuesBlock_38 : decode cX2_continuesBlock 38 = .ok (.iaload, 1) := by decide +kernel
theorem dX2_continuesBlock_39 : decode cX2_continuesBlock 39 = .ok (.iaload, 1) := by decide +kernel
theorem dX2_continuesBlock_40 : decode cX2_continuesBlock 40 = .ok (.if_icmp .ne 7, 3) := by decide +kernel
theorem dX2_continuesBlock_43 : decode cX2_continuesBlock 43 = .ok (.iconst 1, 1) := by decide +kernel
theorem dX2_continuesBlock_44 : decode cX2_continuesBlock 44 = .ok (.goto 4, 3) := by decide +kernel
theorem dX2_continuesBlock_47 : decode cX2_continuesBlock 47 = .ok (.iconst 0, 1) := by decide +kernel
theorem dX2_continuesBlock_48 : decode cX2_continuesBlock 48 = .ok (.ireturn, 1) := by decide +kernel
theorem dX3_init_0 : decode cX3_init 0 = .ok (.aload_n 0, 1) := by decide +kernel
theorem dX3_init_1 : decode cX3_init 1 = .ok (.invokespecial 3, 3) := by decide +kernel
theorem dX3_init_4 : decode cX3_init 4 = .ok (.aload_n 0, 1) := by decide +kernel
theorem dX3_init_5 : decode cX3_init 5 = .ok (.sipush 900, 3) := by decide +kernel
theorem dX3_init_8 : decode cX3_init 8 = .ok (.newarray .byte, 2) := by decide +kernel
theorem dX3_init_10 : decode cX3_init 10 = .ok (.putfield 9, 3) := by decide +kernel
theorem dX3_init_13 : decode cX3_init 13 = .ok (.aload_n 0, 1) := by decide +kernel
theorem dX3_init_14 : decode cX3_init 14 = .ok (.iconst 0, 1) := by decide +kernel
theorem dX3_init_15 : decode cX3_init 15 = .ok (.putfield 15, 3) := by decide +kernel
theorem dX3_init_18 : decode cX3_init 18 = .ok (.aload_n 0, 1) := by decide +kernel
theorem dX3_init_19 : decode cX3_init 19 = .ok (.iconst 0, 1) := by decide +kernel
theorem dX3_init_20 : decode cX3_init 20 = .ok (.putfield 19, 3) := by decide +kernel
theorem dX3_init_23 : decode cX3_init 23 = .ok (.aload_n 0, 1) := by decide +kernel
theorem dX3_init_24 : decode cX3_init 24 = .ok (.iconst 0, 1) := by decide +kernel
theorem dX3_init_25 : decode cX3_init 25 = .ok (.putfield 22, 3) := by decide +kernel
theorem dX3_init_28 : decode cX3_init 28 = .ok (.aload_n 0, 1) := by decide +kernel
theorem dX3_init_29 : decode cX3_init 29 = .ok (.sipush (-1004), 3) := by decide +kernel
theorem dX3_init_32 : decode cX3_init 32 = .ok (.putfield 25, 3) := by decide +kernel
theorem dX3_init_35 : decode cX3_init 35 = .ok (.aload_n 0, 1) := by decide +kernel
theorem dX3_init_36 : decode cX3_init 36 = .ok (.iconst 0, 1) := by decide +kernel
theorem dX3_init_37 : decode cX3_init 37 = .ok (.putfield 28, 3) := by decide +kernel
theorem dX3_init_40 : decode cX3_init 40 = .ok (.aload_n 0, 1) := by decide +kernel
theorem dX3_init_41 : decode cX3_init 41 = .ok (.iconst (-1), 1) := by decide +kernel
theorem dX3_init_42 : decode cX3_init 42 = .ok (.putfield 31, 3) := by decide +kernel
theorem dX3_init_45 : decode cX3_init 45 = .ok (.aload_n 0, 1) := by decide +kernel
theorem dX3_init_46 : decode cX3_init 46 = .ok (.iconst 0, 1) := by decide +kernel
theorem dX3_init_47 : decode cX3_init 47 = .ok (.putfield 34, 3) := by decide +kernel
theorem dX3_init_50 : decode cX3_init 50 = .ok (.aload_n 0, 1) := by decide +kernel
theorem dX3_init_51 : decode cX3_init 51 = .ok (.sipush 900, 3) := by decide +kernel
theorem dX3_init_54 : decode cX3_init 54 = .ok (.newarray .int, 2) := by decide +kernel
theorem dX3_init_56 : decode cX3_init 56 = .ok (.putfield 38, 3) := by decide +kernel
theorem dX3_init_59 : decode cX3_init 59 = .ok (.aload_n 0, 1) := by decide +kernel
theorem dX3_init_60 : decode cX3_init 60 = .ok (.iconst 0, 1) := by decide +kernel
theorem dX3_init_61 : decode cX3_init 61 = .ok (.putfield 42, 3) := by decide +kernel
theorem dX3_init_64 : decode cX3_init 64 = .ok (.return_, 1) := by decide +kernel
theorem dX3_readInto_0 : decode cX3_readInto 0 = .ok (.aload_n 0, 1) := by decide +kernel
theorem dX3_readInto_1 : decode cX3_readInto 1 = .ok (.iconst 0, 1) := by decide +kernel
theorem dX3_readInto_2 : decode cX3_readInto 2 = .ok (.iload_n 2, 1) := by decide +kernel
theorem dX3_readInto_3 : decode cX3_readInto 3 = .ok (.sipush 900, 3) := by decide +kernel
theorem dX3_readInto_6 : decode cX3_readInto 6 = .ok (.invokestatic 45, 3) := by decide +kernel
theorem dX3_readInto_9 : decode cX3_readInto 9 = .ok (.invokestatic 51, 3) := by decide +kernel
theorem dX3_readInto_12 : decode cX3_readInto 12 = .ok (.putfield 15, 3) := by decide +kernel
theorem dX3_readInto_15 : decode cX3_readInto 15 = .ok (.aload_n 0, 1) := by decide +kernel
theorem dX3_readInto_16 : decode cX3_readInto 16 = .ok (.iconst 0, 1) := by decide +kernel
theorem dX3_readInto_17 : decode cX3_readInto 17 = .ok (.putfield 22, 3) := by decide +kernel
theorem dX3_readInto_20 : decode cX3_readInto 20 = .ok (.aload_n 0, 1) := by decide +kernel
theorem dX3_readInto_21 : decode cX3_readInto 21 = .ok (.iconst 0, 1) := by decide +kernel
theorem dX3_readInto_22 : decode cX3_readInto 22 = .ok (.putfield 28, 3) := by decide +kernel
theorem dX3_readInto_25 : decode cX3_readInto 25 = .ok (.aload_n 0, 1) := by decide +kernel
theorem dX3_readInto_26 : decode cX3_readInto 26 = .ok (.iconst (-1), 1) := by decide +kernel
theorem dX3_readInto_27 : decode cX3_readInto 27 = .ok (.putfield 31, 3) := by decide +kernel
theorem dX3_readInto_30 : decode cX3_readInto 30 = .ok (.aload_n 0, 1) := by decide +kernel
theorem dX3_readInto_31 : decode cX3_readInto 31 = .ok (.iconst 0, 1) := by decide +kernel
theorem dX3_readInto_32 : decode cX3_readInto 32 = .ok (.putfield 34, 3) := by decide +kernel
theorem dX3_readInto_35 : decode cX3_readInto 35 = .ok (.aload_n 0, 1) := by decide +kernel
theorem dX3_readInto_36 : decode cX3_readInto 36 = .ok (.iconst 0, 1) := by decide +kernel
theorem dX3_readInto_37 : decode cX3_readInto 37 = .ok (.putfield 42, 3) := by decide +kernel
theorem dX3_readInto_40 : decode cX3_readInto 40 = .ok (.aload_n 0, 1) := by decide +kernel
theorem dX3_readInto_41 : decode cX3_readInto 41 = .ok (.invokevirtual 54, 3) := by decide +kernel
theorem dX3_readInto_44 : decode cX3_readInto 44 = .ok (.aload_n 0, 1) := by decide +kernel
theorem dX3_readInto_45 : decode cX3_readInto 45 = .ok (.aload_n 1, 1) := by decide +kernel
theorem dX3_readInto_46 : decode cX3_readInto 46 = .ok (.invokevirtual 57, 3) := by decide +kernel
theorem dX3_readInto_49 : decode cX3_readInto 49 = .ok (.iconst 0, 1) := by decide +kernel
theorem dX3_readInto_50 : decode cX3_readInto 50 = .ok (.istore_n 3, 1) := by decide +kernel
theorem dX3_readInto_51 : decode cX3_readInto 51 = .ok (.iload_n 3, 1) := by decide +kernel
theorem dX3_readInto_52 : decode cX3_readInto 52 = .ok (.aload_n 0, 1) := by decide +kernel
theorem dX3_readInto_53 : decode cX3_readInto 53 = .ok (.getfield 15, 3) := by decide +kernel
theorem dX3_readInto_56 : decode cX3_readInto 56 = .ok (.if_icmp .ge 89, 3) := by decide +kernel
theorem dX3_readInto_59 : decode cX3_readInto 59 = .ok (.aload_n 0, 1) := by decide +kernel
theorem dX3_readInto_60 : decode cX3_readInto 60 = .ok (.getfield 25, 3) := by decide +kernel
theorem dX3_readInto_63 : decode cX3_readInto 63 = .ok (.sipush (-1002), 3) := by decide +kernel
theorem dX3_readInto_66 : decode cX3_readInto 66 = .ok (.if_icmp .ne 79, 3) := by decide +kernel
theorem dX3_readInto_69 : decode cX3_readInto 69 = .ok (.aload_n 0, 1) := by decide +kernel
theorem dX3_readInto_70 : decode cX3_readInto 70 = .ok (.ldc 61, 2) := by decide +kernel
theorem dX3_readInto_72 : decode cX3_readInto 72 = .ok (.invokevirtual 63, 3) := by decide +kernel
theorem dX3_readInto_75 : decode cX3_readInto 75 = .ok (.ifCond .eq 11, 3) := by decide +kernel
theorem dX3_readInto_78 : decode cX3_readInto 78 = .ok (.aload_n 0, 1) := by decide +kernel
theorem dX3_readInto_79 : decode cX3_readInto 79 = .ok (.aload_n 1, 1) := by decide +kernel
theorem dX3_readInto_80 : decode cX3_readInto 80 = .ok (.invokevirtual 67, 3) := by decide +kernel
theorem dX3_readInto_83 : decode cX3_readInto 83 = .ok (.goto 50, 3) := by decide +kernel
theorem dX3_readInto_86 : decode cX3_readInto 86 = .ok (.aload_n 0, 1) := by decide +kernel
theorem dX3_readInto_87 : decode cX3_readInto 87 = .ok (.ldc 70, 2) := by decide +kernel
theorem dX3_readInto_89 : decode cX3_readInto 89 = .ok (.invokevirtual 63, 3) := by decide +kernel
theorem dX3_readInto_92 : decode cX3_readInto 92 = .ok (.ifCond .eq 11, 3) := by decide +kernel
theorem dX3_readInto_95 : decode cX3_readInto 95 = .ok (.aload_n 0, 1) := by decide +kernel
theorem dX3_readInto_96 : decode cX3_readInto 96 = .ok (.aload_n 1, 1) := by decide +kernel
theorem dX3_readInto_97 : decode cX3_readInto 97 = .ok (.invokevirtual 72, 3) := by decide +kernel
theorem dX3_readInto_100 : decode cX3_readInto 100 = .ok (.goto 33, 3) := by decide +kernel
theorem dX3_readInto_103 : decode cX3_readInto 103 = .ok (.aload_n 0, 1) := by decide +kernel
theorem dX3_readInto_104 : decode cX3_readInto 104 = .ok (.ldc 75, 2) := by decide +kernel
theorem dX3_readInto_106 : decode cX3_readInto 106 = .ok (.invokevirtual 63, 3) := by decide +kernel
theorem dX3_readInto_109 : decode cX3_readInto 109 = .ok (.ifCond .eq 24, 3) := by decide +kernel
theorem dX3_readInto_112 : decode cX3_readInto 112 = .ok (.aload_n 0, 1) := by decide +kernel
theorem dX3_readInto_113 : decode cX3_readInto 113 = .ok (.getfield 34, 3) := by decide +kernel
theorem dX3_readInto_116 : decode cX3_readInto 116 = .ok (.ifCond .ne 17, 3) := by decide +kernel
theorem dX3_readInto_119 : decode cX3_readInto 119 = .ok (.aload_n 0, 1) := by decide +kernel
theorem dX3_readInto_120 : decode cX3_readInto 120 = .ok (.iconst 1, 1) := by decide +kernel
theorem dX3_readInto_121 : decode cX3_readInto 121 = .ok (.putfield 34, 3) := by decide +kernel
theorem dX3_readInto_124 : decode cX3_readInto 124 = .ok (.aload_n 0, 1) := by decide +kernel
theorem dX3_readInto_125 : decode cX3_readInto 125 = .ok (.invokevirtual 54, 3) := by decide +kernel
theorem dX3_readInto_128 : decode cX3_readInto 128 = .ok (.aload_n 0, 1) := by decide +kernel
theorem dX3_readInto_129 : decode cX3_readInto 129 = .ok (.iconst 0, 1) := by decide +kernel
theorem dX3_readInto_130 : decode cX3_readInto 130 = .ok (.invokevirtual 76, 3) := by decide +kernel
theorem dX3_readInto_133 : decode cX3_readInto 133 = .ok (.aload_n 0, 1) := by decide +kernel
theorem dX3_readInto_134 : decode cX3_readInto 134 = .ok (.bipush 59, 2) := by decide +kernel
theorem dX3_readInto_136 : decode cX3_readInto 136 = .ok (.invokevirtual 80, 3) := by decide +kernel
theorem dX3_readInto_139 : decode cX3_readInto 139 = .ok (.iinc 3 1, 3) := by decide +kernel
theorem dX3_readInto_142 : decode cX3_readInto 142 = .ok (.goto (-91), 3) := by decide +kernel
theorem dX3_readInto_145 : decode cX3_readInto 145 = .ok (.aload_n 0, 1) := by decide +kernel
theorem dX3_readInto_146 : decode cX3_readInto 146 = .ok (.getfield 25, 3) := by decide +kernel
theorem dX3_readInto_149 : decode cX3_readInto 149 = .ok (.sipush (-1003), 3) := by decide +kernel
theorem dX3_readInto_152 : decode cX3_readInto 152 = .ok (.if_icmp .ne 10, 3) := by decide +kernel
theorem dX3_readInto_155 : decode cX3_readInto 155 = .ok (.aload_n 1, 1) := by decide +kernel
theorem dX3_readInto_156 : decode cX3_readInto 156 = .ok (.getfield 84, 3) := by decide +kernel
theorem dX3_readInto_159 : decode cX3_readInto 159 = .ok (.ifCond .ne 9, 3) := by decide +kernel
theorem dX3_readInto_162 : decode cX3_readInto 162 = .ok (.aload_n 0, 1) := by decide +kernel
theorem dX3_readInto_163 : decode cX3_readInto 163 = .ok (.bipush (-2), 2) := by decide +kernel
theorem dX3_readInto_165 : decode cX3_readInto 165 = .ok (.invokevirtual 89, 3) := by decide +kernel
theorem dX3_readInto_168 : decode cX3_readInto 168 = .ok (.aload_n 0, 1) := by decide +kernel
theorem dX3_readInto_169 : decode cX3_readInto 169 = .ok (.getfield 34, 3) := by decide +kernel
theorem dX3_readInto_172 : decode cX3_readInto 172 = .ok (.ifCond .eq 25, 3) := by decide +kernel
theorem dX3_readInto_175 : decode cX3_readInto 175 = .ok (.aload_n 0, 1) := by decide +kernel
theorem dX3_readInto_176 : decode cX3_readInto 176 = .ok (.getfield 28, 3) := by decide +kernel
theorem dX3_readInto_179 : decode cX3_readInto 179 = .ok (.ifCond .ne 18, 3) := by decide +kernel
theorem dX3_readInto_182 : decode cX3_readInto 182 = .ok (.aload_n 1, 1) := by decide +kernel
theorem dX3_readInto_183 : decode cX3_readInto 183 = .ok (.aload_n 0, 1) := by decide +kernel
theorem dX3_readInto_184 : decode cX3_readInto 184 = .ok (.getfield 38, 3) := by decide +kernel
theorem dX3_readInto_187 : decode cX3_readInto 187 = .ok (.aload_n 0, 1) := by decide +kernel
theorem dX3_readInto_188 : decode cX3_readInto 188 = .ok (.getfield 42, 3) := by decide +kernel
theorem dX3_readInto_191 : decode cX3_readInto 191 = .ok (.invokestatic 92, 3) := by decide +kernel
theorem dX3_readInto_194 : decode cX3_readInto 194 = .ok (.putfield 98, 3) := by decide +kernel
theorem dX3_readInto_197 : decode cX3_readInto 197 = .ok (.return_, 1) := by decide +kernel
theorem dX3_readHead_0 : decode cX3_readHead 0 = .ok (.aload_n 0, 1) := by decide +kernel
theorem dX3_readHead_1 : decode cX3_readHead 1 = .ok (.ldc 99, 2) := by decide +kernel
theorem dX3_readHead_3 : decode cX3_readHead 3 = .ok (.invokevirtual 101, 3) := by decide +kernel
theorem dX3_readHead_6 : decode cX3_readHead 6 = .ok (.aload_n 1, 1) := by decide +kernel
theorem dX3_readHead_7 : decode cX3_readHead 7 = .ok (.aload_n 0, 1) := by decide +kernel
theorem dX3_readHead_8 : decode cX3_readHead 8 = .ok (.iconst 1, 1) := by decide +kernel
theorem dX3_readHead_9 : decode cX3_readHead 9 = .ok (.bipush 6, 2) := by decide +kernel
theorem dX3_readHead_11 : decode cX3_readHead 11 = .ok (.invokevirtual 105, 3) := by decide +kernel
theorem dX3_readHead_14 : decode cX3_readHead 14 = .ok (.putfield 108, 3) := by decide +kernel
theorem dX3_readHead_17 : decode cX3_readHead 17 = .ok (.aload_n 1, 1) := by decide +kernel
theorem dX3_readHead_18 : decode cX3_readHead 18 = .ok (.aload_n 0, 1) := by decide +kernel
theorem dX3_readHead_19 : decode cX3_readHead 19 = .ok (.iconst 0, 1) := by decide +kernel
theorem dX3_readHead_20 : decode cX3_readHead 20 = .ok (.iconst 1, 1) := by decide +kernel
theorem dX3_readHead_21 : decode cX3_readHead 21 = .ok (.invokevirtual 105, 3) := by decide +kernel
theorem dX3_readHead_24 : decode cX3_readHead 24 = .ok (.iconst 1, 1) := by decide +kernel
theorem dX3_readHead_25 : decode cX3_readHead 25 = .ok (.if_icmp .ne 7, 3) := by decide +kernel
theorem dX3_readHead_28 : decode cX3_readHead 28 = .ok (.iconst 1, 1) := by decide +kernel
theorem dX3_readHead_29 : decode cX3_readHead 29 = .ok (.goto 4, 3) := by decide +kernel
theorem dX3_readHead_32 : decode cX3_readHead 32 = .ok (.iconst 0, 1) := by decide +kernel
theorem dX3_readHead_33 : decode cX3_readHead 33 = .ok (.putfield 111, 3) := by decide +kernel
theorem dX3_readHead_36 : decode cX3_readHead 36 = .ok (.aload_n 0, 1) := by decide +kernel
theorem dX3_readHead_37 : decode cX3_readHead 37 = .ok (.bipush 59, 2) := by decide +kernel
theorem dX3_readHead_39 : decode cX3_readHead 39 = .ok (.invokevirtual 80, 3) := by decide +kernel
theorem dX3_readHead_42 : decode cX3_readHead 42 = .ok (.return_, 1) := by decide +kernel
theorem dX3_readJob_0 : decode cX3_readJob 0 = .ok (.aload_n 1, 1) := by decide +kernel
theorem dX3_readJob_1 : decode cX3_readJob 1 = .ok (.getfield 84, 3) := by decide +kernel
theorem dX3_readJob_4 : decode cX3_readJob 4 = .ok (.istore_n 2, 1) := by decide +kernel
theorem dX3_readJob_5 : decode cX3_readJob 5 = .ok (.iload_n 2, 1) := by decide +kernel
theorem dX3_readJob_6 : decode cX3_readJob 6 = .ok (.bipush 6, 2) := by decide +kernel
theorem dX3_readJob_8 : decode cX3_readJob 8 = .ok (.if_icmp .lt 10, 3) := by decide +kernel
theorem dX3_readJob_11 : decode cX3_readJob 11 = .ok (.aload_n 0, 1) := by decide +kernel
theorem dX3_readJob_12 : decode cX3_readJob 12 = .ok (.bipush (-4), 2) := by decide +kernel
theorem dX3_readJob_14 : decode cX3_readJob 14 = .ok (.invokevirtual 89, 3) := by decide +kernel
theorem dX3_readJob_17 : decode cX3_readJob 17 = .ok (.return_, 1) := by decide +kernel
theorem dX3_readJob_18 : decode cX3_readJob 18 = .ok (.aload_n 0, 1) := by decide +kernel
theorem dX3_readJob_19 : decode cX3_readJob 19 = .ok (.invokevirtual 54, 3) := by decide +kernel
theorem dX3_readJob_22 : decode cX3_readJob 22 = .ok (.aload_n 1, 1) := by decide +kernel
theorem dX3_readJob_23 : decode cX3_readJob 23 = .ok (.getfield 114, 3) := by decide +kernel
theorem dX3_readJob_26 : decode cX3_readJob 26 = .ok (.iload_n 2, 1) := by decide +kernel
theorem dX3_readJob_27 : decode cX3_readJob 27 = .ok (.aload_n 0, 1) := by decide +kernel
theorem dX3_readJob_28 : decode cX3_readJob 28 = .ok (.iconst 0, 1) := by decide +kernel
theorem dX3_readJob_29 : decode cX3_readJob 29 = .ok (.sipush 999, 3) := by decide +kernel
theorem dX3_readJob_32 : decode cX3_readJob 32 = .ok (.invokevirtual 105, 3) := by decide +kernel
theorem dX3_readJob_35 : decode cX3_readJob 35 = .ok (.iastore, 1) := by decide +kernel
theorem dX3_readJob_36 : decode cX3_readJob 36 = .ok (.aload_n 1, 1) := by decide +kernel
theorem dX3_readJob_37 : decode cX3_readJob 37 = .ok (.getfield 117, 3) := by decide +kernel
theorem dX3_readJob_40 : decode cX3_readJob 40 = .ok (.iload_n 2, 1) := by decide +kernel
theorem dX3_readJob_41 : decode cX3_readJob 41 = .ok (.aload_n 0, 1) := by decide +kernel
theorem dX3_readJob_42 : decode cX3_readJob 42 = .ok (.iconst 0, 1) := by decide +kernel
theorem dX3_readJob_43 : decode cX3_readJob 43 = .ok (.sipush 9999, 3) := by decide +kernel
theorem dX3_readJob_46 : decode cX3_readJob 46 = .ok (.invokevirtual 105, 3) := by decide +kernel
theorem dX3_readJob_49 : decode cX3_readJob 49 = .ok (.iastore, 1) := by decide +kernel
theorem dX3_readJob_50 : decode cX3_readJob 50 = .ok (.aload_n 1, 1) := by decide +kernel
theorem dX3_readJob_51 : decode cX3_readJob 51 = .ok (.getfield 120, 3) := by decide +kernel
theorem dX3_readJob_54 : decode cX3_readJob 54 = .ok (.iload_n 2, 1) := by decide +kernel
theorem dX3_readJob_55 : decode cX3_readJob 55 = .ok (.aload_n 0, 1) := by decide +kernel
theorem dX3_readJob_56 : decode cX3_readJob 56 = .ok (.iconst 0, 1) := by decide +kernel
theorem dX3_readJob_57 : decode cX3_readJob 57 = .ok (.bipush 99, 2) := by decide +kernel
theorem dX3_readJob_59 : decode cX3_readJob 59 = .ok (.invokevirtual 105, 3) := by decide +kernel
theorem dX3_readJob_62 : decode cX3_readJob 62 = .ok (.iastore, 1) := by decide +kernel
theorem dX3_readJob_63 : decode cX3_readJob 63 = .ok (.aload_n 0, 1) := by decide +kernel
theorem dX3_readJob_64 : decode cX3_readJob 64 = .ok (.aload_n 1, 1) := by decide +kernel
theorem dX3_readJob_65 : decode cX3_readJob 65 = .ok (.iload_n 2, 1) := by decide +kernel
theorem dX3_readJob_66 : decode cX3_readJob 66 = .ok (.invokevirtual 123, 3) := by decide +kernel
theorem dX3_readJob_69 : decode cX3_readJob 69 = .ok (.iconst 0, 1) := by decide +kernel
theorem dX3_readJob_70 : decode cX3_readJob 70 = .ok (.istore_n 3, 1) := by decide +kernel
theorem dX3_readJob_71 : decode cX3_readJob 71 = .ok (.iload_n 3, 1) := by decide +kernel
theorem dX3_readJob_72 : decode cX3_readJob 72 = .ok (.bipush 6, 2) := by decide +kernel
theorem dX3_readJob_74 : decode cX3_readJob 74 = .ok (.if_icmp .ge 24, 3) := by decide +kernel
theorem dX3_readJob_77 : decode cX3_readJob 77 = .ok (.aload_n 0, 1) := by decide +kernel
theorem dX3_readJob_78 : decode cX3_readJob 78 = .ok (.ldc 127, 2) := by decide +kernel
theorem dX3_readJob_80 : decode cX3_readJob 80 = .ok (.invokevirtual 63, 3) := by decide +kernel
theorem dX3_readJob_83 : decode cX3_readJob 83 = .ok (.ifCond .eq 15, 3) := by decide +kernel
theorem dX3_readJob_86 : decode cX3_readJob 86 = .ok (.aload_n 0, 1) := by decide +kernel
theorem dX3_readJob_87 : decode cX3_readJob 87 = .ok (.aload_n 1, 1) := by decide +kernel
theorem dX3_readJob_88 : decode cX3_readJob 88 = .ok (.iload_n 2, 1) := by decide +kernel
theorem dX3_readJob_89 : decode cX3_readJob 89 = .ok (.invokevirtual 123, 3) := by decide +kernel
theorem dX3_readJob_92 : decode cX3_readJob 92 = .ok (.iinc 3 1, 3) := by decide +kernel
theorem dX3_readJob_95 : decode cX3_readJob 95 = .ok (.goto (-24), 3) := by decide +kernel
theorem dX3_readJob_98 : decode cX3_readJob 98 = .ok (.aload_n 1, 1) := by decide +kernel
theorem dX3_readJob_99 : decode cX3_readJob 99 = .ok (.iload_n 2, 1) := by decide +kernel
theorem dX3_readJob_100 : decode cX3_readJob 100 = .ok (.iconst 1, 1) := by decide +kernel
theorem dX3_readJob_101 : decode cX3_readJob 101 = .ok (.iadd, 1) := by decide +kernel
theorem dX3_readJob_102 : decode cX3_readJob 102 = .ok (.putfield 84, 3) := by decide +kernel
theorem dX3_readJob_105 : decode cX3_readJob 105 = .ok (.return_, 1) := by decide +kernel
theorem dX3_readOperation_0 : decode cX3_readOperation 0 = .ok (.aload_n 1, 1) := by decide +kernel
theorem dX3_readOperation_1 : decode cX3_readOperation 1 = .ok (.getfield 129, 3) := by decide +kernel
theorem dX3_readOperation_4 : decode cX3_readOperation 4 = .ok (.iload_n 2, 1) := by decide +kernel
theorem dX3_readOperation_5 : decode cX3_readOperation 5 = .ok (.iaload, 1) := by decide +kernel
theorem dX3_readOperation_6 : decode cX3_readOperation 6 = .ok (.istore_n 3, 1) := by decide +kernel
theorem dX3_readOperation_7 : decode cX3_readOperation 7 = .ok (.iload_n 3, 1) := by decide +kernel
theorem dX3_readOperation_8 : decode cX3_readOperation 8 = .ok (.bipush 6, 2) := by decide +kernel
theorem dX3_readOperation_10 : decode cX3_readOperation 10 = .ok (.if_icmp .lt 10, 3) := by decide +kernel
theorem dX3_readOperation_13 : decode cX3_readOperation 13 = .ok (.aload_n 0, 1) := by decide +kernel
theorem dX3_readOperation_14 : decode cX3_readOperation 14 = .ok (.bipush (-4), 2) := by decide +kernel
theorem dX3_readOperation_16 : decode cX3_readOperation 16 = .ok (.invokevirtual 89, 3) := by decide +kernel
theorem dX3_readOperation_19 : decode cX3_readOperation 19 = .ok (.return_, 1) := by decide +kernel
theorem dX3_readOperation_20 : decode cX3_readOperation 20 = .ok (.aload_n 0, 1) := by decide +kernel
theorem dX3_readOperation_21 : decode cX3_readOperation 21 = .ok (.ldc 127, 2) := by decide +kernel
theorem dX3_readOperation_23 : decode cX3_readOperation 23 = .ok (.invokevirtual 101, 3) := by decide +kernel
theorem dX3_readOperation_26 : decode cX3_readOperation 26 = .ok (.aload_n 0, 1) := by decide +kernel
theorem dX3_readOperation_27 : decode cX3_readOperation 27 = .ok (.getfield 25, 3) := by decide +kernel
theorem dX3_readOperation_30 : decode cX3_readOperation 30 = .ok (.sipush (-1001), 3) := by decide +kernel
theorem dX3_readOperation_33 : decode cX3_readOperation 33 = .ok (.if_icmp .ne 22, 3) := by decide +kernel
theorem dX3_readOperation_36 : decode cX3_readOperation 36 = .ok (.aload_n 0, 1) := by decide +kernel
theorem dX3_readOperation_37 : decode cX3_readOperation 37 = .ok (.aload_n 1, 1) := by decide +kernel
theorem dX3_readOperation_38 : decode cX3_readOperation 38 = .ok (.iload_n 2, 1) := by decide +kernel
theorem dX3_readOperation_39 : decode cX3_readOperation 39 = .ok (.aload_n 0, 1) := by decide +kernel
theorem dX3_readOperation_40 : decode cX3_readOperation 40 = .ok (.invokevirtual 132, 3) := by decide +kernel
theorem dX3_readOperation_43 : decode cX3_readOperation 43 = .ok (.invokevirtual 136, 3) := by decide +kernel
theorem dX3_readOperation_46 : decode cX3_readOperation 46 = .ok (.ifCond .eq 9, 3) := by decide +kernel
theorem dX3_readOperation_49 : decode cX3_readOperation 49 = .ok (.aload_n 0, 1) := by decide +kernel
theorem dX3_readOperation_50 : decode cX3_readOperation 50 = .ok (.bipush (-3), 2) := by decide +kernel
theorem dX3_readOperation_52 : decode cX3_readOperation 52 = .ok (.invokevirtual 89, 3) := by decide +kernel
theorem dX3_readOperation_55 : decode cX3_readOperation 55 = .ok (.aload_n 0, 1) := by decide +kernel
theorem dX3_readOperation_56 : decode cX3_readOperation 56 = .ok (.iconst 0, 1) := by decide +kernel
theorem dX3_readOperation_57 : decode cX3_readOperation 57 = .ok (.aload_n 1, 1) := by decide +kernel
theorem dX3_readOperation_58 : decode cX3_readOperation 58 = .ok (.getfield 108, 3) := by decide +kernel
theorem dX3_readOperation_61 : decode cX3_readOperation 61 = .ok (.iconst 1, 1) := by decide +kernel
theorem dX3_readOperation_62 : decode cX3_readOperation 62 = .ok (.isub, 1) := by decide +kernel
theorem dX3_readOperation_63 : decode cX3_readOperation 63 = .ok (.invokevirtual 105, 3) := by decide +kernel
theorem dX3_readOperation_66 : decode cX3_readOperation 66 = .ok (.istore 4, 2) := by decide +kernel
theorem dX3_readOperation_68 : decode cX3_readOperation 68 = .ok (.aload_n 1, 1) := by decide +kernel
theorem dX3_readOperation_69 : decode cX3_readOperation 69 = .ok (.getfield 140, 3) := by decide +kernel
theorem dX3_readOperation_72 : decode cX3_readOperation 72 = .ok (.iload_n 2, 1) := by decide +kernel
theorem dX3_readOperation_73 : decode cX3_readOperation 73 = .ok (.iload_n 3, 1) := by decide +kernel
theorem dX3_readOperation_74 : decode cX3_readOperation 74 = .ok (.invokestatic 143, 3) := by decide +kernel
theorem dX3_readOperation_77 : decode cX3_readOperation 77 = .ok (.iload 4, 2) := by decide +kernel
theorem dX3_readOperation_79 : decode cX3_readOperation 79 = .ok (.iastore, 1) := by decide +kernel
theorem dX3_readOperation_80 : decode cX3_readOperation 80 = .ok (.aload_n 1, 1) := by decide +kernel
theorem dX3_readOperation_81 : decode cX3_readOperation 81 = .ok (.getfield 146, 3) := by decide +kernel
theorem dX3_readOperation_84 : decode cX3_readOperation 84 = .ok (.iload_n 2, 1) := by decide +kernel
theorem dX3_readOperation_85 : decode cX3_readOperation 85 = .ok (.iload_n 3, 1) := by decide +kernel
theorem dX3_readOperation_86 : decode cX3_readOperation 86 = .ok (.invokestatic 143, 3) := by decide +kernel
theorem dX3_readOperation_89 : decode cX3_readOperation 89 = .ok (.aload_n 0, 1) := by decide +kernel
theorem dX3_readOperation_90 : decode cX3_readOperation 90 = .ok (.iconst 1, 1) := by decide +kernel
theorem dX3_readOperation_91 : decode cX3_readOperation 91 = .ok (.bipush 99, 2) := by decide +kernel
theorem dX3_readOperation_93 : decode cX3_readOperation 93 = .ok (.invokevirtual 105, 3) := by decide +kernel
theorem dX3_readOperation_96 : decode cX3_readOperation 96 = .ok (.iastore, 1) := by decide +kernel
theorem dX3_readOperation_97 : decode cX3_readOperation 97 = .ok (.aload_n 1, 1) := by decide +kernel
theorem dX3_readOperation_98 : decode cX3_readOperation 98 = .ok (.getfield 129, 3) := by decide +kernel
theorem dX3_readOperation_101 : decode cX3_readOperation 101 = .ok (.iload_n 2, 1) := by decide +kernel
theorem dX3_readOperation_102 : decode cX3_readOperation 102 = .ok (.iload_n 3, 1) := by decide +kernel
theorem dX3_readOperation_103 : decode cX3_readOperation 103 = .ok (.iconst 1, 1) := by decide +kernel
theorem dX3_readOperation_104 : decode cX3_readOperation 104 = .ok (.iadd, 1) := by decide +kernel
theorem dX3_readOperation_105 : decode cX3_readOperation 105 = .ok (.iastore, 1) := by decide +kernel
theorem dX3_readOperation_106 : decode cX3_readOperation 106 = .ok (.aload_n 1, 1) := by decide +kernel
theorem dX3_readOperation_107 : decode cX3_readOperation 107 = .ok (.getfield 149, 3) := by decide +kernel
theorem dX3_readOperation_110 : decode cX3_readOperation 110 = .ok (.iload 4, 2) := by decide +kernel
theorem dX3_readOperation_112 : decode cX3_readOperation 112 = .ok (.dup2, 1) := by decide +kernel
theorem dX3_readOperation_113 : decode cX3_readOperation 113 = .ok (.iaload, 1) := by decide +kernel
theorem dX3_readOperation_114 : decode cX3_readOperation 114 = .ok (.iconst 1, 1) := by decide +kernel
theorem dX3_readOperation_115 : decode cX3_readOperation 115 = .ok (.iadd, 1) := by decide +kernel
theorem dX3_readOperation_116 : decode cX3_readOperation 116 = .ok (.iastore, 1) := by decide +kernel
theorem dX3_readOperation_117 : decode cX3_readOperation 117 = .ok (.return_, 1) := by decide +kernel
theorem dX3_needsAlready_0 : decode cX3_needsAlready 0 = .ok (.iconst 0, 1) := by decide +kernel
theorem dX3_needsAlready_1 : decode cX3_needsAlready 1 = .ok (.istore 4, 2) := by decide +kernel
theorem dX3_needsAlready_3 : decode cX3_needsAlready 3 = .ok (.iload 4, 2) := by decide +kernel
theorem dX3_needsAlready_5 : decode cX3_needsAlready 5 = .ok (.aload_n 1, 1) := by decide +kernel
theorem dX3_needsAlready_6 : decode cX3_needsAlready 6 = .ok (.getfield 129, 3) := by decide +kernel
theorem dX3_needsAlready_9 : decode cX3_needsAlready 9 = .ok (.iload_n 2, 1) := by decide +kernel
theorem dX3_needsAlready_10 : decode cX3_needsAlready 10 = .ok (.iaload, 1) := by decide +kernel
theorem dX3_needsAlready_11 : decode cX3_needsAlready 11 = .ok (.if_icmp .ge 26, 3) := by decide +kernel
theorem dX3_needsAlready_14 : decode cX3_needsAlready 14 = .ok (.aload_n 1, 1) := by decide +kernel
theorem dX3_needsAlready_15 : decode cX3_needsAlready 15 = .ok (.getfield 140, 3) := by decide +kernel
theorem dX3_needsAlready_18 : decode cX3_needsAlready 18 = .ok (.iload_n 2, 1) := by decide +kernel
theorem dX3_needsAlready_19 : decode cX3_needsAlready 19 = .ok (.iload 4, 2) := by decide +kernel
theorem dX3_needsAlready_21 : decode cX3_needsAlready 21 = .ok (.invokestatic 143, 3) := by decide +kernel
theorem dX3_needsAlready_24 : decode cX3_needsAlready 24 = .ok (.iaload, 1) := by decide +kernel
theorem dX3_needsAlready_25 : decode cX3_needsAlready 25 = .ok (.iload_n 3, 1) := by decide +kernel
theorem dX3_needsAlready_26 : decode cX3_needsAlready 26 = .ok (.if_icmp .ne 5, 3) := by decide +kernel
theorem dX3_needsAlready_29 : decode cX3_needsAlready 29 = .ok (.iconst 1, 1) := by decide +kernel
theorem dX3_needsAlready_30 : decode cX3_needsAlready 30 = .ok (.ireturn, 1) := by decide +kernel
theorem dX3_needsAlready_31 : decode cX3_needsAlready 31 = .ok (.iinc 4 1, 3) := by decide +kernel
theorem dX3_needsAlready_34 : decode cX3_needsAlready 34 = .ok (.goto (-31), 3) := by decide +kernel
theorem dX3_needsAlready_37 : decode cX3_needsAlready 37 = .ok (.iconst 0, 1) := by decide +kernel
theorem dX3_needsAlready_38 : decode cX3_needsAlready 38 = .ok (.ireturn, 1) := by decide +kernel
theorem dX3_readMachine_0 : decode cX3_readMachine 0 = .ok (.aload_n 0, 1) := by decide +kernel
theorem dX3_readMachine_1 : decode cX3_readMachine 1 = .ok (.invokevirtual 54, 3) := by decide +kernel
theorem dX3_readMachine_4 : decode cX3_readMachine 4 = .ok (.aload_n 0, 1) := by decide +kernel
theorem dX3_readMachine_5 : decode cX3_readMachine 5 = .ok (.iconst 0, 1) := by decide +kernel
theorem dX3_readMachine_6 : decode cX3_readMachine 6 = .ok (.aload_n 1, 1) := by decide +kernel
theorem dX3_readMachine_7 : decode cX3_readMachine 7 = .ok (.getfield 108, 3) := by decide +kernel
theorem dX3_readMachine_10 : decode cX3_readMachine 10 = .ok (.iconst 1, 1) := by decide +kernel
theorem dX3_readMachine_11 : decode cX3_readMachine 11 = .ok (.isub, 1) := by decide +kernel
theorem dX3_readMachine_12 : decode cX3_readMachine 12 = .ok (.invokevirtual 105, 3) := by decide +kernel
theorem dX3_readMachine_15 : decode cX3_readMachine 15 = .ok (.istore_n 2, 1) := by decide +kernel
theorem dX3_readMachine_16 : decode cX3_readMachine 16 = .ok (.aload_n 1, 1) := by decide +kernel
theorem dX3_readMachine_17 : decode cX3_readMachine 17 = .ok (.getfield 152, 3) := by decide +kernel
theorem dX3_readMachine_20 : decode cX3_readMachine 20 = .ok (.iload_n 2, 1) := by decide +kernel
theorem dX3_readMachine_21 : decode cX3_readMachine 21 = .ok (.aload_n 0, 1) := by decide +kernel
theorem dX3_readMachine_22 : decode cX3_readMachine 22 = .ok (.iconst 0, 1) := by decide +kernel
theorem dX3_readMachine_23 : decode cX3_readMachine 23 = .ok (.iconst 1, 1) := by decide +kernel
theorem dX3_readMachine_24 : decode cX3_readMachine 24 = .ok (.invokevirtual 105, 3) := by decide +kernel
theorem dX3_readMachine_27 : decode cX3_readMachine 27 = .ok (.ifCond .ne 7, 3) := by decide +kernel
theorem dX3_readMachine_30 : decode cX3_readMachine 30 = .ok (.iconst 1, 1) := by decide +kernel
theorem dX3_readMachine_31 : decode cX3_readMachine 31 = .ok (.goto 4, 3) := by decide +kernel
theorem dX3_readMachine_34 : decode cX3_readMachine 34 = .ok (.iconst 0, 1) := by decide +kernel
theorem dX3_readMachine_35 : decode cX3_readMachine 35 = .ok (.bastore, 1) := by decide +kernel
theorem dX3_readMachine_36 : decode cX3_readMachine 36 = .ok (.aload_n 1, 1) := by decide +kernel
theorem dX3_readMachine_37 : decode cX3_readMachine 37 = .ok (.getfield 156, 3) := by decide +kernel
theorem dX3_readMachine_40 : decode cX3_readMachine 40 = .ok (.iload_n 2, 1) := by decide +kernel
theorem dX3_readMachine_41 : decode cX3_readMachine 41 = .ok (.aload_n 0, 1) := by decide +kernel
theorem dX3_readMachine_42 : decode cX3_readMachine 42 = .ok (.iconst 0, 1) := by decide +kernel
theorem dX3_readMachine_43 : decode cX3_readMachine 43 = .ok (.bipush 99, 2) := by decide +kernel
theorem dX3_readMachine_45 : decode cX3_readMachine 45 = .ok (.invokevirtual 105, 3) := by decide +kernel
theorem dX3_readMachine_48 : decode cX3_readMachine 48 = .ok (.iastore, 1) := by decide +kernel
theorem dX3_readMachine_49 : decode cX3_readMachine 49 = .ok (.return_, 1) := by decide +kernel
theorem dX3_readSum_0 : decode cX3_readSum 0 = .ok (.aload_n 0, 1) := by decide +kernel
theorem dX3_readSum_1 : decode cX3_readSum 1 = .ok (.iload_n 1, 1) := by decide +kernel
theorem dX3_readSum_2 : decode cX3_readSum 2 = .ok (.invokevirtual 159, 3) := by decide +kernel
theorem dX3_readSum_5 : decode cX3_readSum 5 = .ok (.iconst 0, 1) := by decide +kernel
theorem dX3_readSum_6 : decode cX3_readSum 6 = .ok (.istore_n 2, 1) := by decide +kernel
theorem dX3_readSum_7 : decode cX3_readSum 7 = .ok (.iload_n 2, 1) := by decide +kernel
theorem dX3_readSum_8 : decode cX3_readSum 8 = .ok (.aload_n 0, 1) := by decide +kernel
theorem dX3_readSum_9 : decode cX3_readSum 9 = .ok (.getfield 15, 3) := by decide +kernel
theorem dX3_readSum_12 : decode cX3_readSum 12 = .ok (.if_icmp .ge 58, 3) := by decide +kernel
theorem dX3_readSum_15 : decode cX3_readSum 15 = .ok (.aload_n 0, 1) := by decide +kernel
theorem dX3_readSum_16 : decode cX3_readSum 16 = .ok (.getfield 25, 3) := by decide +kernel
theorem dX3_readSum_19 : decode cX3_readSum 19 = .ok (.bipush 43, 2) := by decide +kernel
theorem dX3_readSum_21 : decode cX3_readSum 21 = .ok (.if_icmp .eq 12, 3) := by decide +kernel
theorem dX3_readSum_24 : decode cX3_readSum 24 = .ok (.aload_n 0, 1) := by decide +kernel
theorem dX3_readSum_25 : decode cX3_readSum 25 = .ok (.getfield 25, 3) := by decide +kernel
theorem dX3_readSum_28 : decode cX3_readSum 28 = .ok (.bipush 45, 2) := by decide +kernel
theorem dX3_readSum_30 : decode cX3_readSum 30 = .ok (.if_icmp .ne 40, 3) := by decide +kernel
theorem dX3_readSum_33 : decode cX3_readSum 33 = .ok (.aload_n 0, 1) := by decide +kernel
theorem dX3_readSum_34 : decode cX3_readSum 34 = .ok (.getfield 25, 3) := by decide +kernel
theorem dX3_readSum_37 : decode cX3_readSum 37 = .ok (.bipush 43, 2) := by decide +kernel
theorem dX3_readSum_39 : decode cX3_readSum 39 = .ok (.if_icmp .ne 8, 3) := by decide +kernel
theorem dX3_readSum_42 : decode cX3_readSum 42 = .ok (.bipush (-5), 2) := by decide +kernel
theorem dX3_readSum_44 : decode cX3_readSum 44 = .ok (.goto 5, 3) := by decide +kernel
theorem dX3_readSum_47 : decode cX3_readSum 47 = .ok (.bipush (-6), 2) := by decide +kernel
theorem dX3_readSum_49 : decode cX3_readSum 49 = .ok (.istore_n 3, 1) := by decide +kernel
theorem dX3_readSum_50 : decode cX3_readSum 50 = .ok (.aload_n 0, 1) := by decide +kernel
theorem dX3_readSum_51 : decode cX3_readSum 51 = .ok (.invokevirtual 54, 3) := by decide +kernel
theorem dX3_readSum_54 : decode cX3_readSum 54 = .ok (.aload_n 0, 1) := by decide +kernel
theorem dX3_readSum_55 : decode cX3_readSum 55 = .ok (.iload_n 1, 1) := by decide +kernel
theorem dX3_readSum_56 : decode cX3_readSum 56 = .ok (.invokevirtual 159, 3) := by decide +kernel
theorem dX3_readSum_59 : decode cX3_readSum 59 = .ok (.aload_n 0, 1) := by decide +kernel
theorem dX3_readSum_60 : decode cX3_readSum 60 = .ok (.iload_n 3, 1) := by decide +kernel
theorem dX3_readSum_61 : decode cX3_readSum 61 = .ok (.invokevirtual 164, 3) := by decide +kernel
theorem dX3_readSum_64 : decode cX3_readSum 64 = .ok (.iinc 2 1, 3) := by decide +kernel
theorem dX3_readSum_67 : decode cX3_readSum 67 = .ok (.goto (-60), 3) := by decide +kernel
theorem dX3_readSum_70 : decode cX3_readSum 70 = .ok (.return_, 1) := by decide +kernel
theorem dX3_readTerm_0 : decode cX3_readTerm 0 = .ok (.aload_n 0, 1) := by decide +kernel
theorem dX3_readTerm_1 : decode cX3_readTerm 1 = .ok (.iload_n 1, 1) := by decide +kernel
theorem dX3_readTerm_2 : decode cX3_readTerm 2 = .ok (.invokevirtual 167, 3) := by decide +kernel
theorem dX3_readTerm_5 : decode cX3_readTerm 5 = .ok (.iconst 0, 1) := by decide +kernel
theorem dX3_readTerm_6 : decode cX3_readTerm 6 = .ok (.istore_n 2, 1) := by decide +kernel
theorem dX3_readTerm_7 : decode cX3_readTerm 7 = .ok (.iload_n 2, 1) := by decide +kernel
theorem dX3_readTerm_8 : decode cX3_readTerm 8 = .ok (.aload_n 0, 1) := by decide +kernel
theorem dX3_readTerm_9 : decode cX3_readTerm 9 = .ok (.getfield 15, 3) := by decide +kernel
theorem dX3_readTerm_12 : decode cX3_readTerm 12 = .ok (.if_icmp .ge 58, 3) := by decide +kernel
theorem dX3_readTerm_15 : decode cX3_readTerm 15 = .ok (.aload_n 0, 1) := by decide +kernel
theorem dX3_readTerm_16 : decode cX3_readTerm 16 = .ok (.getfield 25, 3) := by decide +kernel
theorem dX3_readTerm_19 : decode cX3_readTerm 19 = .ok (.bipush 42, 2) := by decide +kernel
theorem dX3_readTerm_21 : decode cX3_readTerm 21 = .ok (.if_icmp .eq 12, 3) := by decide +kernel
theorem dX3_readTerm_24 : decode cX3_readTerm 24 = .ok (.aload_n 0, 1) := by decide +kernel
theorem dX3_readTerm_25 : decode cX3_readTerm 25 = .ok (.getfield 25, 3) := by decide +kernel
theorem dX3_readTerm_28 : decode cX3_readTerm 28 = .ok (.bipush 47, 2) := by decide +kernel
theorem dX3_readTerm_30 : decode cX3_readTerm 30 = .ok (.if_icmp .ne 40, 3) := by decide +kernel
theorem dX3_readTerm_33 : decode cX3_readTerm 33 = .ok (.aload_n 0, 1) := by decide +kernel
theorem dX3_readTerm_34 : decode cX3_readTerm 34 = .ok (.getfield 25, 3) := by decide +kernel
theorem dX3_readTerm_37 : decode cX3_readTerm 37 = .ok (.bipush 42, 2) := by decide +kernel
theorem dX3_readTerm_39 : decode cX3_readTerm 39 = .ok (.if_icmp .ne 8, 3) := by decide +kernel
theorem dX3_readTerm_42 : decode cX3_readTerm 42 = .ok (.bipush (-7), 2) := by decide +kernel
theorem dX3_readTerm_44 : decode cX3_readTerm 44 = .ok (.goto 5, 3) := by decide +kernel
theorem dX3_readTerm_47 : decode cX3_readTerm 47 = .ok (.bipush (-8), 2) := by decide +kernel
theorem dX3_readTerm_49 : decode cX3_readTerm 49 = .ok (.istore_n 3, 1) := by decide +kernel
theorem dX3_readTerm_50 : decode cX3_readTerm 50 = .ok (.aload_n 0, 1) := by decide +kernel
theorem dX3_readTerm_51 : decode cX3_readTerm 51 = .ok (.invokevirtual 54, 3) := by decide +kernel
theorem dX3_readTerm_54 : decode cX3_readTerm 54 = .ok (.aload_n 0, 1) := by decide +kernel
theorem dX3_readTerm_55 : decode cX3_readTerm 55 = .ok (.iload_n 1, 1) := by decide +kernel
theorem dX3_readTerm_56 : decode cX3_readTerm 56 = .ok (.invokevirtual 167, 3) := by decide +kernel
theorem dX3_readTerm_59 : decode cX3_readTerm 59 = .ok (.aload_n 0, 1) := by decide +kernel
theorem dX3_readTerm_60 : decode cX3_readTerm 60 = .ok (.iload_n 3, 1) := by decide +kernel
theorem dX3_readTerm_61 : decode cX3_readTerm 61 = .ok (.invokevirtual 164, 3) := by decide +kernel
theorem dX3_readTerm_64 : decode cX3_readTerm 64 = .ok (.iinc 2 1, 3) := by decide +kernel
theorem dX3_readTerm_67 : decode cX3_readTerm 67 = .ok (.goto (-60), 3) := by decide +kernel
theorem dX3_readTerm_70 : decode cX3_readTerm 70 = .ok (.return_, 1) := by decide +kernel
theorem dX3_readFactor_0 : decode cX3_readFactor 0 = .ok (.aload_n 0, 1) := by decide +kernel
theorem dX3_readFactor_1 : decode cX3_readFactor 1 = .ok (.getfield 25, 3) := by decide +kernel
theorem dX3_readFactor_4 : decode cX3_readFactor 4 = .ok (.bipush 40, 2) := by decide +kernel
theorem dX3_readFactor_6 : decode cX3_readFactor 6 = .ok (.if_icmp .ne 17, 3) := by decide +kernel
theorem dX3_readFactor_9 : decode cX3_readFactor 9 = .ok (.iload_n 1, 1) := by decide +kernel
theorem dX3_readFactor_10 : decode cX3_readFactor 10 = .ok (.iconst 4, 1) := by decide +kernel
theorem dX3_readFactor_11 : decode cX3_readFactor 11 = .ok (.if_icmp .lt 12, 3) := by decide +kernel
theorem dX3_readFactor_14 : decode cX3_readFactor 14 = .ok (.aload_n 0, 1) := by decide +kernel
theorem dX3_readFactor_15 : decode cX3_readFactor 15 = .ok (.bipush (-5), 2) := by decide +kernel
theorem dX3_readFactor_17 : decode cX3_readFactor 17 = .ok (.invokevirtual 89, 3) := by decide +kernel
theorem dX3_readFactor_20 : decode cX3_readFactor 20 = .ok (.goto 61, 3) := by decide +kernel
theorem dX3_readFactor_23 : decode cX3_readFactor 23 = .ok (.aload_n 0, 1) := by decide +kernel
theorem dX3_readFactor_24 : decode cX3_readFactor 24 = .ok (.getfield 25, 3) := by decide +kernel
theorem dX3_readFactor_27 : decode cX3_readFactor 27 = .ok (.bipush 40, 2) := by decide +kernel
theorem dX3_readFactor_29 : decode cX3_readFactor 29 = .ok (.if_icmp .ne 23, 3) := by decide +kernel
theorem dX3_readFactor_32 : decode cX3_readFactor 32 = .ok (.aload_n 0, 1) := by decide +kernel
theorem dX3_readFactor_33 : decode cX3_readFactor 33 = .ok (.invokevirtual 54, 3) := by decide +kernel
theorem dX3_readFactor_36 : decode cX3_readFactor 36 = .ok (.aload_n 0, 1) := by decide +kernel
theorem dX3_readFactor_37 : decode cX3_readFactor 37 = .ok (.iload_n 1, 1) := by decide +kernel
theorem dX3_readFactor_38 : decode cX3_readFactor 38 = .ok (.iconst 1, 1) := by decide +kernel
theorem dX3_readFactor_39 : decode cX3_readFactor 39 = .ok (.iadd, 1) := by decide +kernel
theorem dX3_readFactor_40 : decode cX3_readFactor 40 = .ok (.invokevirtual 76, 3) := by decide +kernel
theorem dX3_readFactor_43 : decode cX3_readFactor 43 = .ok (.aload_n 0, 1) := by decide +kernel
theorem dX3_readFactor_44 : decode cX3_readFactor 44 = .ok (.bipush 41, 2) := by decide +kernel
theorem dX3_readFactor_46 : decode cX3_readFactor 46 = .ok (.invokevirtual 80, 3) := by decide +kernel
theorem dX3_readFactor_49 : decode cX3_readFactor 49 = .ok (.goto 32, 3) := by decide +kernel
theorem dX3_readFactor_52 : decode cX3_readFactor 52 = .ok (.aload_n 0, 1) := by decide +kernel
theorem dX3_readFactor_53 : decode cX3_readFactor 53 = .ok (.getfield 25, 3) := by decide +kernel
theorem dX3_readFactor_56 : decode cX3_readFactor 56 = .ok (.sipush (-1001), 3) := by decide +kernel
theorem dX3_readFactor_59 : decode cX3_readFactor 59 = .ok (.if_icmp .ne 18, 3) := by decide +kernel
theorem dX3_readFactor_62 : decode cX3_readFactor 62 = .ok (.aload_n 0, 1) := by decide +kernel
theorem dX3_readFactor_63 : decode cX3_readFactor 63 = .ok (.aload_n 0, 1) := by decide +kernel
theorem dX3_readFactor_64 : decode cX3_readFactor 64 = .ok (.iconst 0, 1) := by decide +kernel
theorem dX3_readFactor_65 : decode cX3_readFactor 65 = .ok (.sipush 9999, 3) := by decide +kernel
theorem dX3_readFactor_68 : decode cX3_readFactor 68 = .ok (.invokevirtual 105, 3) := by decide +kernel
theorem dX3_readFactor_71 : decode cX3_readFactor 71 = .ok (.invokevirtual 164, 3) := by decide +kernel
theorem dX3_readFactor_74 : decode cX3_readFactor 74 = .ok (.goto 7, 3) := by decide +kernel
theorem dX3_readFactor_77 : decode cX3_readFactor 77 = .ok (.aload_n 0, 1) := by decide +kernel
theorem dX3_readFactor_78 : decode cX3_readFactor 78 = .ok (.invokevirtual 170, 3) := by decide +kernel
theorem dX3_readFactor_81 : decode cX3_readFactor 81 = .ok (.return_, 1) := by decide +kernel
theorem dX3_readName_0 : decode cX3_readName 0 = .ok (.aload_n 0, 1) := by decide +kernel
theorem dX3_readName_1 : decode cX3_readName 1 = .ok (.ldc 173, 2) := by decide +kernel
theorem dX3_readName_3 : decode cX3_readName 3 = .ok (.invokevirtual 63, 3) := by decide +kernel
theorem dX3_readName_6 : decode cX3_readName 6 = .ok (.ifCond .eq 11, 3) := by decide +kernel
theorem dX3_readName_9 : decode cX3_readName 9 = .ok (.aload_n 0, 1) := by decide +kernel
theorem dX3_readName_10 : decode cX3_readName 10 = .ok (.iconst (-1), 1) := by decide +kernel
theorem dX3_readName_11 : decode cX3_readName 11 = .ok (.invokevirtual 164, 3) := by decide +kernel
theorem dX3_readName_14 : decode cX3_readName 14 = .ok (.goto 63, 3) := by decide +kernel
theorem dX3_readName_17 : decode cX3_readName 17 = .ok (.aload_n 0, 1) := by decide +kernel
theorem dX3_readName_18 : decode cX3_readName 18 = .ok (.ldc 175, 2) := by decide +kernel
theorem dX3_readName_20 : decode cX3_readName 20 = .ok (.invokevirtual 63, 3) := by decide +kernel
theorem dX3_readName_23 : decode cX3_readName 23 = .ok (.ifCond .eq 12, 3) := by decide +kernel
theorem dX3_readName_26 : decode cX3_readName 26 = .ok (.aload_n 0, 1) := by decide +kernel
theorem dX3_readName_27 : decode cX3_readName 27 = .ok (.bipush (-2), 2) := by decide +kernel
theorem dX3_readName_29 : decode cX3_readName 29 = .ok (.invokevirtual 164, 3) := by decide +kernel
theorem dX3_readName_32 : decode cX3_readName 32 = .ok (.goto 45, 3) := by decide +kernel
theorem dX3_readName_35 : decode cX3_readName 35 = .ok (.aload_n 0, 1) := by decide +kernel
theorem dX3_readName_36 : decode cX3_readName 36 = .ok (.ldc 176, 2) := by decide +kernel
theorem dX3_readName_38 : decode cX3_readName 38 = .ok (.invokevirtual 63, 3) := by decide +kernel
theorem dX3_readName_41 : decode cX3_readName 41 = .ok (.ifCond .eq 12, 3) := by decide +kernel
theorem dX3_readName_44 : decode cX3_readName 44 = .ok (.aload_n 0, 1) := by decide +kernel
theorem dX3_readName_45 : decode cX3_readName 45 = .ok (.bipush (-3), 2) := by decide +kernel
theorem dX3_readName_47 : decode cX3_readName 47 = .ok (.invokevirtual 164, 3) := by decide +kernel
theorem dX3_readName_50 : decode cX3_readName 50 = .ok (.goto 27, 3) := by decide +kernel
theorem dX3_readName_53 : decode cX3_readName 53 = .ok (.aload_n 0, 1) := by decide +kernel
theorem dX3_readName_54 : decode cX3_readName 54 = .ok (.ldc 177, 2) := by decide +kernel
theorem dX3_readName_56 : decode cX3_readName 56 = .ok (.invokevirtual 63, 3) := by decide +kernel
theorem dX3_readName_59 : decode cX3_readName 59 = .ok (.ifCond .eq 12, 3) := by decide +kernel
theorem dX3_readName_62 : decode cX3_readName 62 = .ok (.aload_n 0, 1) := by decide +kernel
theorem dX3_readName_63 : decode cX3_readName 63 = .ok (.bipush (-4), 2) := by decide +kernel
theorem dX3_readName_65 : decode cX3_readName 65 = .ok (.invokevirtual 164, 3) := by decide +kernel
theorem dX3_readName_68 : decode cX3_readName 68 = .ok (.goto 9, 3) := by decide +kernel
theorem dX3_readName_71 : decode cX3_readName 71 = .ok (.aload_n 0, 1) := by decide +kernel
theorem dX3_readName_72 : decode cX3_readName 72 = .ok (.bipush (-2), 2) := by decide +kernel
theorem dX3_readName_74 : decode cX3_readName 74 = .ok (.invokevirtual 89, 3) := by decide +kernel
theorem dX3_readName_77 : decode cX3_readName 77 = .ok (.aload_n 0, 1) := by decide +kernel
theorem dX3_readName_78 : decode cX3_readName 78 = .ok (.invokevirtual 54, 3) := by decide +kernel
theorem dX3_readName_81 : decode cX3_readName 81 = .ok (.return_, 1) := by decide +kernel
theorem dX3_addToCost_0 : decode cX3_addToCost 0 = .ok (.aload_n 0, 1) := by decide +kernel
theorem dX3_addToCost_1 : decode cX3_addToCost 1 = .ok (.getfield 42, 3) := by decide +kernel
theorem dX3_addToCost_4 : decode cX3_addToCost 4 = .ok (.sipush 900, 3) := by decide +kernel
theorem dX3_addToCost_7 : decode cX3_addToCost 7 = .ok (.if_icmp .ge 23, 3) := by decide +kernel
theorem dX3_addToCost_10 : decode cX3_addToCost 10 = .ok (.aload_n 0, 1) := by decide +kernel
theorem dX3_addToCost_11 : decode cX3_addToCost 11 = .ok (.getfield 38, 3) := by decide +kernel
theorem dX3_addToCost_14 : decode cX3_addToCost 14 = .ok (.aload_n 0, 1) := by decide +kernel
theorem dX3_addToCost_15 : decode cX3_addToCost 15 = .ok (.getfield 42, 3) := by decide +kernel
theorem dX3_addToCost_18 : decode cX3_addToCost 18 = .ok (.iload_n 1, 1) := by decide +kernel
theorem dX3_addToCost_19 : decode cX3_addToCost 19 = .ok (.iastore, 1) := by decide +kernel
theorem dX3_addToCost_20 : decode cX3_addToCost 20 = .ok (.aload_n 0, 1) := by decide +kernel
theorem dX3_addToCost_21 : decode cX3_addToCost 21 = .ok (.dup, 1) := by decide +kernel
theorem dX3_addToCost_22 : decode cX3_addToCost 22 = .ok (.getfield 42, 3) := by decide +kernel
theorem dX3_addToCost_25 : decode cX3_addToCost 25 = .ok (.iconst 1, 1) := by decide +kernel
theorem dX3_addToCost_26 : decode cX3_addToCost 26 = .ok (.iadd, 1) := by decide +kernel
theorem dX3_addToCost_27 : decode cX3_addToCost 27 = .ok (.putfield 42, 3) := by decide +kernel
theorem dX3_addToCost_30 : decode cX3_addToCost 30 = .ok (.return_, 1) := by decide +kernel
theorem dX3_valueOfToken_0 : decode cX3_valueOfToken 0 = .ok (.iconst 0, 1) := by decide +kernel
theorem dX3_valueOfToken_1 : decode cX3_valueOfToken 1 = .ok (.istore_n 1, 1) := by decide +kernel
theorem dX3_valueOfToken_2 : decode cX3_valueOfToken 2 = .ok (.aload_n 0, 1) := by decide +kernel
theorem dX3_valueOfToken_3 : decode cX3_valueOfToken 3 = .ok (.getfield 19, 3) := by decide +kernel
theorem dX3_valueOfToken_6 : decode cX3_valueOfToken 6 = .ok (.istore_n 2, 1) := by decide +kernel
theorem dX3_valueOfToken_7 : decode cX3_valueOfToken 7 = .ok (.iload_n 2, 1) := by decide +kernel
theorem dX3_valueOfToken_8 : decode cX3_valueOfToken 8 = .ok (.aload_n 0, 1) := by decide +kernel
theorem dX3_valueOfToken_9 : decode cX3_valueOfToken 9 = .ok (.getfield 22, 3) := by decide +kernel
theorem dX3_valueOfToken_12 : decode cX3_valueOfToken 12 = .ok (.if_icmp .ge 30, 3) := by decide +kernel
theorem dX3_valueOfToken_15 : decode cX3_valueOfToken 15 = .ok (.iload_n 1, 1) := by decide +kernel
theorem dX3_valueOfToken_16 : decode cX3_valueOfToken 16 = .ok (.ldc 178, 2) := by decide +kernel
theorem dX3_valueOfToken_18 : decode cX3_valueOfToken 18 = .ok (.if_icmp .ge 24, 3) := by decide +kernel
theorem dX3_valueOfToken_21 : decode cX3_valueOfToken 21 = .ok (.bipush 10, 2) := by decide +kernel
theorem dX3_valueOfToken_23 : decode cX3_valueOfToken 23 = .ok (.iload_n 1, 1) := by decide +kernel
theorem dX3_valueOfToken_24 : decode cX3_valueOfToken 24 = .ok (.imul, 1) := by decide +kernel
theorem dX3_valueOfToken_25 : decode cX3_valueOfToken 25 = .ok (.aload_n 0, 1) := by decide +kernel
theorem dX3_valueOfToken_26 : decode cX3_valueOfToken 26 = .ok (.getfield 9, 3) := by decide +kernel
theorem dX3_valueOfToken_29 : decode cX3_valueOfToken 29 = .ok (.iload_n 2, 1) := by decide +kernel
theorem dX3_valueOfToken_30 : decode cX3_valueOfToken 30 = .ok (.baload, 1) := by decide +kernel
theorem dX3_valueOfToken_31 : decode cX3_valueOfToken 31 = .ok (.iadd, 1) := by decide +kernel
theorem dX3_valueOfToken_32 : decode cX3_valueOfToken 32 = .ok (.bipush 48, 2) := by decide +kernel
theorem dX3_valueOfToken_34 : decode cX3_valueOfToken 34 = .ok (.isub, 1) := by decide +kernel
theorem dX3_valueOfToken_35 : decode cX3_valueOfToken 35 = .ok (.istore_n 1, 1) := by decide +kernel
theorem dX3_valueOfToken_36 : decode cX3_valueOfToken 36 = .ok (.iinc 2 1, 3) := by decide +kernel
theorem dX3_valueOfToken_39 : decode cX3_valueOfToken 39 = .ok (.goto (-32), 3) := by decide +kernel
theorem dX3_valueOfToken_42 : decode cX3_valueOfToken 42 = .ok (.iload_n 1, 1) := by decide +kernel
theorem dX3_valueOfToken_43 : decode cX3_valueOfToken 43 = .ok (.ireturn, 1) := by decide +kernel
theorem dX3_readNumber_0 : decode cX3_readNumber 0 = .ok (.aload_n 0, 1) := by decide +kernel
theorem dX3_readNumber_1 : decode cX3_readNumber 1 = .ok (.getfield 25, 3) := by decide +kernel
theorem dX3_readNumber_4 : decode cX3_readNumber 4 = .ok (.sipush (-1001), 3) := by decide +kernel
theorem dX3_readNumber_7 : decode cX3_readNumber 7 = .ok (.if_icmp .eq 11, 3) := by decide +kernel
theorem dX3_readNumber_10 : decode cX3_readNumber 10 = .ok (.aload_n 0, 1) := by decide +kernel
theorem dX3_readNumber_11 : decode cX3_readNumber 11 = .ok (.bipush (-2), 2) := by decide +kernel
theorem dX3_readNumber_13 : decode cX3_readNumber 13 = .ok (.invokevirtual 89, 3) := by decide +kernel
theorem dX3_readNumber_16 : decode cX3_readNumber 16 = .ok (.iload_n 1, 1) := by decide +kernel
theorem dX3_readNumber_17 : decode cX3_readNumber 17 = .ok (.ireturn, 1) := by decide +kernel
theorem dX3_readNumber_18 : decode cX3_readNumber 18 = .ok (.aload_n 0, 1) := by decide +kernel
theorem dX3_readNumber_19 : decode cX3_readNumber 19 = .ok (.invokevirtual 132, 3) := by decide +kernel
theorem dX3_readNumber_22 : decode cX3_readNumber 22 = .ok (.istore_n 3, 1) := by decide +kernel
theorem dX3_readNumber_23 : decode cX3_readNumber 23 = .ok (.iload_n 3, 1) := by decide +kernel
theorem dX3_readNumber_24 : decode cX3_readNumber 24 = .ok (.iload_n 1, 1) := by decide +kernel
theorem dX3_readNumber_25 : decode cX3_readNumber 25 = .ok (.if_icmp .lt 8, 3) := by decide +kernel
theorem dX3_readNumber_28 : decode cX3_readNumber 28 = .ok (.iload_n 3, 1) := by decide +kernel
theorem dX3_readNumber_29 : decode cX3_readNumber 29 = .ok (.iload_n 2, 1) := by decide +kernel
theorem dX3_readNumber_30 : decode cX3_readNumber 30 = .ok (.if_icmp .le 11, 3) := by decide +kernel
theorem dX3_readNumber_33 : decode cX3_readNumber 33 = .ok (.aload_n 0, 1) := by decide +kernel
theorem dX3_readNumber_34 : decode cX3_readNumber 34 = .ok (.bipush (-3), 2) := by decide +kernel
theorem dX3_readNumber_36 : decode cX3_readNumber 36 = .ok (.invokevirtual 89, 3) := by decide +kernel
theorem dX3_readNumber_39 : decode cX3_readNumber 39 = .ok (.iload_n 1, 1) := by decide +kernel
theorem dX3_readNumber_40 : decode cX3_readNumber 40 = .ok (.ireturn, 1) := by decide +kernel
theorem dX3_readNumber_41 : decode cX3_readNumber 41 = .ok (.aload_n 0, 1) := by decide +kernel
theorem dX3_readNumber_42 : decode cX3_readNumber 42 = .ok (.invokevirtual 54, 3) := by decide +kernel
theorem dX3_readNumber_45 : decode cX3_readNumber 45 = .ok (.iload_n 3, 1) := by decide +kernel
theorem dX3_readNumber_46 : decode cX3_readNumber 46 = .ok (.ireturn, 1) := by decide +kernel
theorem dX3_expectWord_0 : decode cX3_expectWord 0 = .ok (.aload_n 0, 1) := by decide +kernel
theorem dX3_expectWord_1 : decode cX3_expectWord 1 = .ok (.aload_n 1, 1) := by decide +kernel
theorem dX3_expectWord_2 : decode cX3_expectWord 2 = .ok (.invokevirtual 63, 3) := by decide +kernel
theorem dX3_expectWord_5 : decode cX3_expectWord 5 = .ok (.ifCond .eq 10, 3) := by decide +kernel
theorem dX3_expectWord_8 : decode cX3_expectWord 8 = .ok (.aload_n 0, 1) := by decide +kernel
theorem dX3_expectWord_9 : decode cX3_expectWord 9 = .ok (.invokevirtual 54, 3) := by decide +kernel
theorem dX3_expectWord_12 : decode cX3_expectWord 12 = .ok (.goto 9, 3) := by decide +kernel
theorem dX3_expectWord_15 : decode cX3_expectWord 15 = .ok (.aload_n 0, 1) := by decide +kernel
theorem dX3_expectWord_16 : decode cX3_expectWord 16 = .ok (.bipush (-2), 2) := by decide +kernel
theorem dX3_expectWord_18 : decode cX3_expectWord 18 = .ok (.invokevirtual 89, 3) := by decide +kernel
theorem dX3_expectWord_21 : decode cX3_expectWord 21 = .ok (.return_, 1) := by decide +kernel
theorem dX3_expect_0 : decode cX3_expect 0 = .ok (.aload_n 0, 1) := by decide +kernel
theorem dX3_expect_1 : decode cX3_expect 1 = .ok (.getfield 25, 3) := by decide +kernel
theorem dX3_expect_4 : decode cX3_expect 4 = .ok (.iload_n 1, 1) := by decide +kernel
theorem dX3_expect_5 : decode cX3_expect 5 = .ok (.if_icmp .ne 10, 3) := by decide +kernel
theorem dX3_expect_8 : decode cX3_expect 8 = .ok (.aload_n 0, 1) := by decide +kernel
theorem dX3_expect_9 : decode cX3_expect 9 = .ok (.invokevirtual 54, 3) := by decide +kernel
theorem dX3_expect_12 : decode cX3_expect 12 = .ok (.goto 9, 3) := by decide +kernel
theorem dX3_expect_15 : decode cX3_expect 15 = .ok (.aload_n 0, 1) := by decide +kernel
theorem dX3_expect_16 : decode cX3_expect 16 = .ok (.bipush (-2), 2) := by decide +kernel
theorem dX3_expect_18 : decode cX3_expect 18 = .ok (.invokevirtual 89, 3) := by decide +kernel
theorem dX3_expect_21 : decode cX3_expect 21 = .ok (.return_, 1) := by decide +kernel
theorem dX3_isWord_0 : decode cX3_isWord 0 = .ok (.aload_n 0, 1) := by decide +kernel
theorem dX3_isWord_1 : decode cX3_isWord 1 = .ok (.getfield 25, 3) := by decide +kernel
theorem dX3_isWord_4 : decode cX3_isWord 4 = .ok (.sipush (-1002), 3) := by decide +kernel
theorem dX3_isWord_7 : decode cX3_isWord 7 = .ok (.if_icmp .ne 19, 3) := by decide +kernel
theorem dX3_isWord_10 : decode cX3_isWord 10 = .ok (.aload_n 0, 1) := by decide +kernel
theorem dX3_isWord_11 : decode cX3_isWord 11 = .ok (.getfield 22, 3) := by decide +kernel
theorem dX3_isWord_14 : decode cX3_isWord 14 = .ok (.aload_n 0, 1) := by decide +kernel
theorem dX3_isWord_15 : decode cX3_isWord 15 = .ok (.getfield 19, 3) := by decide +kernel
theorem dX3_isWord_18 : decode cX3_isWord 18 = .ok (.isub, 1) := by decide +kernel
theorem dX3_isWord_19 : decode cX3_isWord 19 = .ok (.aload_n 1, 1) := by decide +kernel
theorem dX3_isWord_20 : decode cX3_isWord 20 = .ok (.invokevirtual 179, 3) := by decide +kernel
theorem dX3_isWord_23 : decode cX3_isWord 23 = .ok (.if_icmp .eq 5, 3) := by decide +kernel
theorem dX3_isWord_26 : decode cX3_isWord 26 = .ok (.iconst 0, 1) := by decide +kernel
theorem dX3_isWord_27 : decode cX3_isWord 27 = .ok (.ireturn, 1) := by decide +kernel
theorem dX3_isWord_28 : decode cX3_isWord 28 = .ok (.iconst 0, 1) := by decide +kernel
theorem dX3_isWord_29 : decode cX3_isWord 29 = .ok (.istore_n 2, 1) := by decide +kernel
theorem dX3_isWord_30 : decode cX3_isWord 30 = .ok (.iload_n 2, 1) := by decide +kernel
theorem dX3_isWord_31 : decode cX3_isWord 31 = .ok (.aload_n 1, 1) := by decide +kernel
theorem dX3_isWord_32 : decode cX3_isWord 32 = .ok (.invokevirtual 179, 3) := by decide +kernel
theorem dX3_isWord_35 : decode cX3_isWord 35 = .ok (.if_icmp .ge 30, 3) := by decide +kernel
theorem dX3_isWord_38 : decode cX3_isWord 38 = .ok (.aload_n 0, 1) := by decide +kernel
theorem dX3_isWord_39 : decode cX3_isWord 39 = .ok (.getfield 9, 3) := by decide +kernel
theorem dX3_isWord_42 : decode cX3_isWord 42 = .ok (.aload_n 0, 1) := by decide +kernel
theorem dX3_isWord_43 : decode cX3_isWord 43 = .ok (.getfield 19, 3) := by decide +kernel
theorem dX3_isWord_46 : decode cX3_isWord 46 = .ok (.iload_n 2, 1) := by decide +kernel
theorem dX3_isWord_47 : decode cX3_isWord 47 = .ok (.iadd, 1) := by decide +kernel
theorem dX3_isWord_48 : decode cX3_isWord 48 = .ok (.baload, 1) := by decide +kernel
theorem dX3_isWord_49 : decode cX3_isWord 49 = .ok (.aload_n 1, 1) := by decide +kernel
theorem dX3_isWord_50 : decode cX3_isWord 50 = .ok (.iload_n 2, 1) := by decide +kernel
theorem dX3_isWord_51 : decode cX3_isWord 51 = .ok (.invokevirtual 184, 3) := by decide +kernel
theorem dX3_isWord_54 : decode cX3_isWord 54 = .ok (.if_icmp .eq 5, 3) := by decide +kernel
theorem dX3_isWord_57 : decode cX3_isWord 57 = .ok (.iconst 0, 1) := by decide +kernel
theorem dX3_isWord_58 : decode cX3_isWord 58 = .ok (.ireturn, 1) := by decide +kernel
theorem dX3_isWord_59 : decode cX3_isWord 59 = .ok (.iinc 2 1, 3) := by decide +kernel
theorem dX3_isWord_62 : decode cX3_isWord 62 = .ok (.goto (-32), 3) := by decide +kernel
theorem dX3_isWord_65 : decode cX3_isWord 65 = .ok (.iconst 1, 1) := by decide +kernel
theorem dX3_isWord_66 : decode cX3_isWord 66 = .ok (.ireturn, 1) := by decide +kernel
theorem dX3_fail_0 : decode cX3_fail 0 = .ok (.aload_n 0, 1) := by decide +kernel
theorem dX3_fail_1 : decode cX3_fail 1 = .ok (.getfield 28, 3) := by decide +kernel
theorem dX3_fail_4 : decode cX3_fail 4 = .ok (.ifCond .ne 16, 3) := by decide +kernel
theorem dX3_fail_7 : decode cX3_fail 7 = .ok (.aload_n 0, 1) := by decide +kernel
theorem dX3_fail_8 : decode cX3_fail 8 = .ok (.iload_n 1, 1) := by decide +kernel
theorem dX3_fail_9 : decode cX3_fail 9 = .ok (.putfield 28, 3) := by decide +kernel
theorem dX3_fail_12 : decode cX3_fail 12 = .ok (.aload_n 0, 1) := by decide +kernel
theorem dX3_fail_13 : decode cX3_fail 13 = .ok (.aload_n 0, 1) := by decide +kernel
theorem dX3_fail_14 : decode cX3_fail 14 = .ok (.getfield 19, 3) := by decide +kernel
theorem dX3_fail_17 : decode cX3_fail 17 = .ok (.putfield 31, 3) := by decide +kernel
theorem dX3_fail_20 : decode cX3_fail 20 = .ok (.aload_n 0, 1) := by decide +kernel
theorem dX3_fail_21 : decode cX3_fail 21 = .ok (.sipush (-1004), 3) := by decide +kernel
theorem dX3_fail_24 : decode cX3_fail 24 = .ok (.putfield 25, 3) := by decide +kernel
theorem dX3_fail_27 : decode cX3_fail 27 = .ok (.return_, 1) := by decide +kernel
theorem dX3_next_0 : decode cX3_next 0 = .ok (.aload_n 0, 1) := by decide +kernel
theorem dX3_next_1 : decode cX3_next 1 = .ok (.getfield 28, 3) := by decide +kernel
theorem dX3_next_4 : decode cX3_next 4 = .ok (.ifCond .eq 4, 3) := by decide +kernel
theorem dX3_next_7 : decode cX3_next 7 = .ok (.return_, 1) := by decide +kernel
theorem dX3_next_8 : decode cX3_next 8 = .ok (.aload_n 0, 1) := by decide +kernel
theorem dX3_next_9 : decode cX3_next 9 = .ok (.getfield 22, 3) := by decide +kernel
theorem dX3_next_12 : decode cX3_next 12 = .ok (.aload_n 0, 1) := by decide +kernel
theorem dX3_next_13 : decode cX3_next 13 = .ok (.getfield 15, 3) := by decide +kernel
theorem dX3_next_16 : decode cX3_next 16 = .ok (.if_icmp .ge 30, 3) := by decide +kernel
theorem dX3_next_19 : decode cX3_next 19 = .ok (.aload_n 0, 1) := by decide +kernel
theorem dX3_next_20 : decode cX3_next 20 = .ok (.getfield 9, 3) := by decide +kernel
theorem dX3_next_23 : decode cX3_next 23 = .ok (.aload_n 0, 1) := by decide +kernel
theorem dX3_next_24 : decode cX3_next 24 = .ok (.getfield 22, 3) := by decide +kernel
theorem dX3_next_27 : decode cX3_next 27 = .ok (.baload, 1) := by decide +kernel
theorem dX3_next_28 : decode cX3_next 28 = .ok (.bipush 32, 2) := by decide +kernel
theorem dX3_next_30 : decode cX3_next 30 = .ok (.if_icmp .ne 16, 3) := by decide +kernel
theorem dX3_next_33 : decode cX3_next 33 = .ok (.aload_n 0, 1) := by decide +kernel
theorem dX3_next_34 : decode cX3_next 34 = .ok (.dup, 1) := by decide +kernel
theorem dX3_next_35 : decode cX3_next 35 = .ok (.getfield 22, 3) := by decide +kernel
theorem dX3_next_38 : decode cX3_next 38 = .ok (.iconst 1, 1) := by decide +kernel
theorem dX3_next_39 : decode cX3_next 39 = .ok (.iadd, 1) := by decide +kernel
theorem dX3_next_40 : decode cX3_next 40 = .ok (.putfield 22, 3) := by decide +kernel
theorem dX3_next_43 : decode cX3_next 43 = .ok (.goto (-35), 3) := by decide +kernel
theorem dX3_next_46 : decode cX3_next 46 = .ok (.aload_n 0, 1) := by decide +kernel
theorem dX3_next_47 : decode cX3_next 47 = .ok (.aload_n 0, 1) := by decide +kernel
theorem dX3_next_48 : decode cX3_next 48 = .ok (.getfield 22, 3) := by decide +kernel
theorem dX3_next_51 : decode cX3_next 51 = .ok (.putfield 19, 3) := by decide +kernel
theorem dX3_next_54 : decode cX3_next 54 = .ok (.aload_n 0, 1) := by decide +kernel
theorem dX3_next_55 : decode cX3_next 55 = .ok (.getfield 22, 3) := by decide +kernel
theorem dX3_next_58 : decode cX3_next 58 = .ok (.aload_n 0, 1) := by decide +kernel
theorem dX3_next_59 : decode cX3_next 59 = .ok (.getfield 15, 3) := by decide +kernel
theorem dX3_next_62 : decode cX3_next 62 = .ok (.if_icmp .lt 11, 3) := by decide +kernel
theorem dX3_next_65 : decode cX3_next 65 = .ok (.aload_n 0, 1) := by decide +kernel
theorem dX3_next_66 : decode cX3_next 66 = .ok (.sipush (-1003), 3) := by decide +kernel
theorem dX3_next_69 : decode cX3_next 69 = .ok (.putfield 25, 3) := by decide +kernel
theorem dX3_next_72 : decode cX3_next 72 = .ok (.return_, 1) := by decide +kernel
theorem dX3_next_73 : decode cX3_next 73 = .ok (.aload_n 0, 1) := by decide +kernel
theorem dX3_next_74 : decode cX3_next 74 = .ok (.getfield 9, 3) := by decide +kernel
theorem dX3_next_77 : decode cX3_next 77 = .ok (.aload_n 0, 1) := by decide +kernel
theorem dX3_next_78 : decode cX3_next 78 = .ok (.getfield 22, 3) := by decide +kernel
theorem dX3_next_81 : decode cX3_next 81 = .ok (.baload, 1) := by decide +kernel
theorem dX3_next_82 : decode cX3_next 82 = .ok (.istore_n 1, 1) := by decide +kernel
theorem dX3_next_83 : decode cX3_next 83 = .ok (.aload_n 0, 1) := by decide +kernel
theorem dX3_next_84 : decode cX3_next 84 = .ok (.dup, 1) := by decide +kernel
theorem dX3_next_85 : decode cX3_next 85 = .ok (.getfield 22, 3) := by decide +kernel
theorem dX3_next_88 : decode cX3_next 88 = .ok (.iconst 1, 1) := by decide +kernel
theorem dX3_next_89 : decode cX3_next 89 = .ok (.iadd, 1) := by decide +kernel
theorem dX3_next_90 : decode cX3_next 90 = .ok (.putfield 22, 3) := by decide +kernel
theorem dX3_next_93 : decode cX3_next 93 = .ok (.iload_n 1, 1) := by decide +kernel
theorem dX3_next_94 : decode cX3_next 94 = .ok (.bipush 48, 2) := by decide +kernel
theorem dX3_next_96 : decode cX3_next 96 = .ok (.if_icmp .lt 68, 3) := by decide +kernel
theorem dX3_next_99 : decode cX3_next 99 = .ok (.iload_n 1, 1) := by decide +kernel
theorem dX3_next_100 : decode cX3_next 100 = .ok (.bipush 57, 2) := by decide +kernel
theorem dX3_next_102 : decode cX3_next 102 = .ok (.if_icmp .gt 62, 3) := by decide +kernel
theorem dX3_next_105 : decode cX3_next 105 = .ok (.aload_n 0, 1) := by decide +kernel
theorem dX3_next_106 : decode cX3_next 106 = .ok (.sipush (-1001), 3) := by decide +kernel
theorem dX3_next_109 : decode cX3_next 109 = .ok (.putfield 25, 3) := by decide +kernel
theorem dX3_next_112 : decode cX3_next 112 = .ok (.aload_n 0, 1) := by decide +kernel
theorem dX3_next_113 : decode cX3_next 113 = .ok (.getfield 22, 3) := by decide +kernel
theorem dX3_next_116 : decode cX3_next 116 = .ok (.aload_n 0, 1) := by decide +kernel
theorem dX3_next_117 : decode cX3_next 117 = .ok (.getfield 15, 3) := by decide +kernel
theorem dX3_next_120 : decode cX3_next 120 = .ok (.if_icmp .ge 120, 3) := by decide +kernel
theorem dX3_next_123 : decode cX3_next 123 = .ok (.aload_n 0, 1) := by decide +kernel
theorem dX3_next_124 : decode cX3_next 124 = .ok (.getfield 9, 3) := by decide +kernel
theorem dX3_next_127 : decode cX3_next 127 = .ok (.aload_n 0, 1) := by decide +kernel
theorem dX3_next_128 : decode cX3_next 128 = .ok (.getfield 22, 3) := by decide +kernel
theorem dX3_next_131 : decode cX3_next 131 = .ok (.baload, 1) := by decide +kernel
theorem dX3_next_132 : decode cX3_next 132 = .ok (.bipush 48, 2) := by decide +kernel
theorem dX3_next_134 : decode cX3_next 134 = .ok (.if_icmp .lt 106, 3) := by decide +kernel
theorem dX3_next_137 : decode cX3_next 137 = .ok (.aload_n 0, 1) := by decide +kernel
theorem dX3_next_138 : decode cX3_next 138 = .ok (.getfield 9, 3) := by decide +kernel
theorem dX3_next_141 : decode cX3_next 141 = .ok (.aload_n 0, 1) := by decide +kernel
theorem dX3_next_142 : decode cX3_next 142 = .ok (.getfield 22, 3) := by decide +kernel
theorem dX3_next_145 : decode cX3_next 145 = .ok (.baload, 1) := by decide +kernel
theorem dX3_next_146 : decode cX3_next 146 = .ok (.bipush 57, 2) := by decide +kernel
theorem dX3_next_148 : decode cX3_next 148 = .ok (.if_icmp .gt 92, 3) := by decide +kernel
theorem dX3_next_151 : decode cX3_next 151 = .ok (.aload_n 0, 1) := by decide +kernel
theorem dX3_next_152 : decode cX3_next 152 = .ok (.dup, 1) := by decide +kernel
theorem dX3_next_153 : decode cX3_next 153 = .ok (.getfield 22, 3) := by decide +kernel
theorem dX3_next_156 : decode cX3_next 156 = .ok (.iconst 1, 1) := by decide +kernel
theorem dX3_next_157 : decode cX3_next 157 = .ok (.iadd, 1) := by decide +kernel
theorem dX3_next_158 : decode cX3_next 158 = .ok (.putfield 22, 3) := by decide +kernel
theorem dX3_next_161 : decode cX3_next 161 = .ok (.goto (-49), 3) := by decide +kernel
theorem dX3_next_164 : decode cX3_next 164 = .ok (.iload_n 1, 1) := by decide +kernel
theorem dX3_next_165 : decode cX3_next 165 = .ok (.bipush 97, 2) := by decide +kernel
theorem dX3_next_167 : decode cX3_next 167 = .ok (.if_icmp .lt 68, 3) := by decide +kernel
theorem dX3_next_170 : decode cX3_next 170 = .ok (.iload_n 1, 1) := by decide +kernel
theorem dX3_next_171 : decode cX3_next 171 = .ok (.bipush 122, 2) := by decide +kernel
theorem dX3_next_173 : decode cX3_next 173 = .ok (.if_icmp .gt 62, 3) := by decide +kernel
theorem dX3_next_176 : decode cX3_next 176 = .ok (.aload_n 0, 1) := by decide +kernel
theorem dX3_next_177 : decode cX3_next 177 = .ok (.sipush (-1002), 3) := by decide +kernel
theorem dX3_next_180 : decode cX3_next 180 = .ok (.putfield 25, 3) := by decide +kernel
theorem dX3_next_183 : decode cX3_next 183 = .ok (.aload_n 0, 1) := by decide +kernel
theorem dX3_next_184 : decode cX3_next 184 = .ok (.getfield 22, 3) := by decide +kernel
theorem dX3_next_187 : decode cX3_next 187 = .ok (.aload_n 0, 1) := by decide +kernel
theorem dX3_next_188 : decode cX3_next 188 = .ok (.getfield 15, 3) := by decide +kernel
theorem dX3_next_191 : decode cX3_next 191 = .ok (.if_icmp .ge 49, 3) := by decide +kernel
theorem dX3_next_194 : decode cX3_next 194 = .ok (.aload_n 0, 1) := by decide +kernel
theorem dX3_next_195 : decode cX3_next 195 = .ok (.getfield 9, 3) := by decide +kernel
theorem dX3_next_198 : decode cX3_next 198 = .ok (.aload_n 0, 1) := by decide +kernel
theorem dX3_next_199 : decode cX3_next 199 = .ok (.getfield 22, 3) := by decide +kernel
theorem dX3_next_202 : decode cX3_next 202 = .ok (.baload, 1) := by decide +kernel
theorem dX3_next_203 : decode cX3_next 203 = .ok (.bipush 97, 2) := by decide +kernel
theorem dX3_next_205 : decode cX3_next 205 = .ok (.if_icmp .lt 35, 3) := by decide +kernel
theorem dX3_next_208 : decode cX3_next 208 = .ok (.aload_n 0, 1) := by decide +kernel
theorem dX3_next_209 : decode cX3_next 209 = .ok (.getfield 9, 3) := by decide +kernel
theorem dX3_next_212 : decode cX3_next 212 = .ok (.aload_n 0, 1) := by decide +kernel
theorem dX3_next_213 : decode cX3_next 213 = .ok (.getfield 22, 3) := by decide +kernel
theorem dX3_next_216 : decode cX3_next 216 = .ok (.baload, 1) := by decide +kernel
theorem dX3_next_217 : decode cX3_next 217 = .ok (.bipush 122, 2) := by decide +kernel
theorem dX3_next_219 : decode cX3_next 219 = .ok (.if_icmp .gt 21, 3) := by decide +kernel
theorem dX3_next_222 : decode cX3_next 222 = .ok (.aload_n 0, 1) := by decide +kernel
theorem dX3_next_223 : decode cX3_next 223 = .ok (.dup, 1) := by decide +kernel
theorem dX3_next_224 : decode cX3_next 224 = .ok (.getfield 22, 3) := by decide +kernel
theorem dX3_next_227 : decode cX3_next 227 = .ok (.iconst 1, 1) := by decide +kernel
theorem dX3_next_228 : decode cX3_next 228 = .ok (.iadd, 1) := by decide +kernel
theorem dX3_next_229 : decode cX3_next 229 = .ok (.putfield 22, 3) := by decide +kernel
theorem dX3_next_232 : decode cX3_next 232 = .ok (.goto (-49), 3) := by decide +kernel
theorem dX3_next_235 : decode cX3_next 235 = .ok (.aload_n 0, 1) := by decide +kernel
theorem dX3_next_236 : decode cX3_next 236 = .ok (.iload_n 1, 1) := by decide +kernel
theorem dX3_next_237 : decode cX3_next 237 = .ok (.putfield 25, 3) := by decide +kernel
theorem dX3_next_240 : decode cX3_next 240 = .ok (.return_, 1) := by decide +kernel
theorem dX4_init_0 : decode cX4_init 0 = .ok (.aload_n 0, 1) := by decide +kernel
theorem dX4_init_1 : decode cX4_init 1 = .ok (.invokespecial 3, 3) := by decide +kernel
theorem dX4_init_4 : decode cX4_init 4 = .ok (.aload_n 0, 1) := by decide +kernel
theorem dX4_init_5 : decode cX4_init 5 = .ok (.iconst 0, 1) := by decide +kernel
theorem dX4_init_6 : decode cX4_init 6 = .ok (.putfield 9, 3) := by decide +kernel
theorem dX4_init_9 : decode cX4_init 9 = .ok (.aload_n 0, 1) := by decide +kernel
theorem dX4_init_10 : decode cX4_init 10 = .ok (.iconst 0, 1) := by decide +kernel
theorem dX4_init_11 : decode cX4_init 11 = .ok (.putfield 15, 3) := by decide +kernel
theorem dX4_init_14 : decode cX4_init 14 = .ok (.aload_n 0, 1) := by decide +kernel
theorem dX4_init_15 : decode cX4_init 15 = .ok (.iconst 0, 1) := by decide +kernel
theorem dX4_init_16 : decode cX4_init 16 = .ok (.putfield 18, 3) := by decide +kernel
theorem dX4_init_19 : decode cX4_init 19 = .ok (.aload_n 0, 1) := by decide +kernel
theorem dX4_init_20 : decode cX4_init 20 = .ok (.bipush 6, 2) := by decide +kernel
theorem dX4_init_22 : decode cX4_init 22 = .ok (.newarray .boolean, 2) := by decide +kernel
theorem dX4_init_24 : decode cX4_init 24 = .ok (.putfield 22, 3) := by decide +kernel
theorem dX4_init_27 : decode cX4_init 27 = .ok (.aload_n 0, 1) := by decide +kernel
theorem dX4_init_28 : decode cX4_init 28 = .ok (.bipush 6, 2) := by decide +kernel
theorem dX4_init_30 : decode cX4_init 30 = .ok (.newarray .int, 2) := by decide +kernel
theorem dX4_init_32 : decode cX4_init 32 = .ok (.putfield 26, 3) := by decide +kernel
theorem dX4_init_35 : decode cX4_init 35 = .ok (.aload_n 0, 1) := by decide +kernel
theorem dX4_init_36 : decode cX4_init 36 = .ok (.bipush 6, 2) := by decide +kernel
theorem dX4_init_38 : decode cX4_init 38 = .ok (.newarray .int, 2) := by decide +kernel
theorem dX4_init_40 : decode cX4_init 40 = .ok (.putfield 30, 3) := by decide +kernel
theorem dX4_init_43 : decode cX4_init 43 = .ok (.aload_n 0, 1) := by decide +kernel
theorem dX4_init_44 : decode cX4_init 44 = .ok (.bipush 6, 2) := by decide +kernel
theorem dX4_init_46 : decode cX4_init 46 = .ok (.newarray .int, 2) := by decide +kernel
theorem dX4_init_48 : decode cX4_init 48 = .ok (.putfield 33, 3) := by decide +kernel
theorem dX4_init_51 : decode cX4_init 51 = .ok (.aload_n 0, 1) := by decide +kernel
theorem dX4_init_52 : decode cX4_init 52 = .ok (.bipush 6, 2) := by decide +kernel
theorem dX4_init_54 : decode cX4_init 54 = .ok (.newarray .int, 2) := by decide +kernel
theorem dX4_init_56 : decode cX4_init 56 = .ok (.putfield 36, 3) := by decide +kernel
theorem dX4_init_59 : decode cX4_init 59 = .ok (.aload_n 0, 1) := by decide +kernel
theorem dX4_init_60 : decode cX4_init 60 = .ok (.bipush 6, 2) := by decide +kernel
theorem dX4_init_62 : decode cX4_init 62 = .ok (.newarray .int, 2) := by decide +kernel
theorem dX4_init_64 : decode cX4_init 64 = .ok (.putfield 39, 3) := by decide +kernel
theorem dX4_init_67 : decode cX4_init 67 = .ok (.aload_n 0, 1) := by decide +kernel
theorem dX4_init_68 : decode cX4_init 68 = .ok (.bipush 6, 2) := by decide +kernel
theorem dX4_init_70 : decode cX4_init 70 = .ok (.newarray .int, 2) := by decide +kernel
theorem dX4_init_72 : decode cX4_init 72 = .ok (.putfield 42, 3) := by decide +kernel
theorem dX4_init_75 : decode cX4_init 75 = .ok (.aload_n 0, 1) := by decide +kernel
theorem dX4_init_76 : decode cX4_init 76 = .ok (.bipush 36, 2) := by decide +kernel
theorem dX4_init_78 : decode cX4_init 78 = .ok (.newarray .int, 2) := by decide +kernel
theorem dX4_init_80 : decode cX4_init 80 = .ok (.putfield 45, 3) := by decide +kernel
theorem dX4_init_83 : decode cX4_init 83 = .ok (.aload_n 0, 1) := by decide +kernel
theorem dX4_init_84 : decode cX4_init 84 = .ok (.bipush 36, 2) := by decide +kernel
theorem dX4_init_86 : decode cX4_init 86 = .ok (.newarray .int, 2) := by decide +kernel
theorem dX4_init_88 : decode cX4_init 88 = .ok (.putfield 48, 3) := by decide +kernel
theorem dX4_init_91 : decode cX4_init 91 = .ok (.aload_n 0, 1) := by decide +kernel
theorem dX4_init_92 : decode cX4_init 92 = .ok (.iconst 1, 1) := by decide +kernel
theorem dX4_init_93 : decode cX4_init 93 = .ok (.newarray .int, 2) := by decide +kernel
theorem dX4_init_95 : decode cX4_init 95 = .ok (.dup, 1) := by decide +kernel
theorem dX4_init_96 : decode cX4_init 96 = .ok (.iconst 0, 1) := by decide +kernel
theorem dX4_init_97 : decode cX4_init 97 = .ok (.iconst (-1), 1) := by decide +kernel
theorem dX4_init_98 : decode cX4_init 98 = .ok (.iastore, 1) := by decide +kernel
theorem dX4_init_99 : decode cX4_init 99 = .ok (.putfield 53, 3) := by decide +kernel
theorem dX4_init_102 : decode cX4_init 102 = .ok (.return_, 1) := by decide +kernel
theorem dX4_isLast_0 : decode cX4_isLast 0 = .ok (.iload_n 1, 1) := by decide +kernel
theorem dX4_isLast_1 : decode cX4_isLast 1 = .ok (.bipush 6, 2) := by decide +kernel
theorem dX4_isLast_3 : decode cX4_isLast 3 = .ok (.irem, 1) := by decide +kernel
theorem dX4_isLast_4 : decode cX4_isLast 4 = .ok (.aload_n 0, 1) := by decide +kernel
theorem dX4_isLast_5 : decode cX4_isLast 5 = .ok (.getfield 42, 3) := by decide +kernel
theorem dX4_isLast_8 : decode cX4_isLast 8 = .ok (.iload_n 1, 1) := by decide +kernel
theorem dX4_isLast_9 : decode cX4_isLast 9 = .ok (.bipush 6, 2) := by decide +kernel
theorem dX4_isLast_11 : decode cX4_isLast 11 = .ok (.idiv, 1) := by decide +kernel
theorem dX4_isLast_12 : decode cX4_isLast 12 = .ok (.iaload, 1) := by decide +kernel
theorem dX4_isLast_13 : decode cX4_isLast 13 = .ok (.iconst 1, 1) := by decide +kernel
theorem dX4_isLast_14 : decode cX4_isLast 14 = .ok (.isub, 1) := by decide +kernel
theorem dX4_isLast_15 : decode cX4_isLast 15 = .ok (.if_icmp .ne 7, 3) := by decide +kernel
theorem dX4_isLast_18 : decode cX4_isLast 18 = .ok (.iconst 1, 1) := by decide +kernel
theorem dX4_isLast_19 : decode cX4_isLast 19 = .ok (.goto 4, 3) := by decide +kernel
theorem dX4_isLast_22 : decode cX4_isLast 22 = .ok (.iconst 0, 1) := by decide +kernel
theorem dX4_isLast_23 : decode cX4_isLast 23 = .ok (.ireturn, 1) := by decide +kernel
theorem dX5_init_0 : decode cX5_init 0 = .ok (.aload_n 0, 1) := by decide +kernel
theorem dX5_init_1 : decode cX5_init 1 = .ok (.invokespecial 3, 3) := by decide +kernel
theorem dX5_init_4 : decode cX5_init 4 = .ok (.aload_n 0, 1) := by decide +kernel
theorem dX5_init_5 : decode cX5_init 5 = .ok (.new 9, 3) := by decide +kernel
theorem dX5_init_8 : decode cX5_init 8 = .ok (.dup, 1) := by decide +kernel
theorem dX5_init_9 : decode cX5_init 9 = .ok (.invokespecial 11, 3) := by decide +kernel
theorem dX5_init_12 : decode cX5_init 12 = .ok (.putfield 12, 3) := by decide +kernel
theorem dX5_init_15 : decode cX5_init 15 = .ok (.aload_n 0, 1) := by decide +kernel
theorem dX5_init_16 : decode cX5_init 16 = .ok (.iconst 0, 1) := by decide +kernel
theorem dX5_init_17 : decode cX5_init 17 = .ok (.putfield 16, 3) := by decide +kernel
theorem dX5_init_20 : decode cX5_init 20 = .ok (.aload_n 0, 1) := by decide +kernel
theorem dX5_init_21 : decode cX5_init 21 = .ok (.iconst (-1), 1) := by decide +kernel
theorem dX5_init_22 : decode cX5_init 22 = .ok (.putfield 20, 3) := by decide +kernel
theorem dX5_init_25 : decode cX5_init 25 = .ok (.aload_n 0, 1) := by decide +kernel
theorem dX5_init_26 : decode cX5_init 26 = .ok (.bipush 8, 2) := by decide +kernel
theorem dX5_init_28 : decode cX5_init 28 = .ok (.anewarray 23, 3) := by decide +kernel
theorem dX5_init_31 : decode cX5_init 31 = .ok (.putfield 25, 3) := by decide +kernel
theorem dX5_init_34 : decode cX5_init 34 = .ok (.aload_n 0, 1) := by decide +kernel
theorem dX5_init_35 : decode cX5_init 35 = .ok (.iconst 0, 1) := by decide +kernel
theorem dX5_init_36 : decode cX5_init 36 = .ok (.putfield 29, 3) := by decide +kernel
theorem dX5_init_39 : decode cX5_init 39 = .ok (.aload_n 0, 1) := by decide +kernel
theorem dX5_init_40 : decode cX5_init 40 = .ok (.iconst 0, 1) := by decide +kernel
theorem dX5_init_41 : decode cX5_init 41 = .ok (.putfield 32, 3) := by decide +kernel
theorem dX5_init_44 : decode cX5_init 44 = .ok (.new 35, 3) := by decide +kernel
theorem dX5_init_47 : decode cX5_init 47 = .ok (.dup, 1) := by decide +kernel
theorem dX5_init_48 : decode cX5_init 48 = .ok (.invokespecial 37, 3) := by decide +kernel
theorem dX5_init_51 : decode cX5_init 51 = .ok (.astore_n 1, 1) := by decide +kernel
theorem dX5_init_52 : decode cX5_init 52 = .ok (.aload_n 0, 1) := by decide +kernel
theorem dX5_init_53 : decode cX5_init 53 = .ok (.new 38, 3) := by decide +kernel
theorem dX5_init_56 : decode cX5_init 56 = .ok (.dup, 1) := by decide +kernel
theorem dX5_init_57 : decode cX5_init 57 = .ok (.aload_n 1, 1) := by decide +kernel
theorem dX5_init_58 : decode cX5_init 58 = .ok (.invokespecial 40, 3) := by decide +kernel
theorem dX5_init_61 : decode cX5_init 61 = .ok (.putfield 43, 3) := by decide +kernel
theorem dX5_init_64 : decode cX5_init 64 = .ok (.aload_n 0, 1) := by decide +kernel
theorem dX5_init_65 : decode cX5_init 65 = .ok (.aload_n 0, 1) := by decide +kernel
theorem dX5_init_66 : decode cX5_init 66 = .ok (.getfield 43, 3) := by decide +kernel
theorem dX5_init_69 : decode cX5_init 69 = .ok (.getfield 47, 3) := by decide +kernel
theorem dX5_init_72 : decode cX5_init 72 = .ok (.putfield 51, 3) := by decide +kernel
theorem dX5_init_75 : decode cX5_init 75 = .ok (.aload_n 0, 1) := by decide +kernel
theorem dX5_init_76 : decode cX5_init 76 = .ok (.new 38, 3) := by decide +kernel
theorem dX5_init_79 : decode cX5_init 79 = .ok (.dup, 1) := by decide +kernel
theorem dX5_init_80 : decode cX5_init 80 = .ok (.aload_n 1, 1) := by decide +kernel
theorem dX5_init_81 : decode cX5_init 81 = .ok (.invokespecial 40, 3) := by decide +kernel
theorem dX5_init_84 : decode cX5_init 84 = .ok (.putfield 52, 3) := by decide +kernel
theorem dX5_init_87 : decode cX5_init 87 = .ok (.aload_n 0, 1) := by decide +kernel
theorem dX5_init_88 : decode cX5_init 88 = .ok (.aload_n 0, 1) := by decide +kernel
theorem dX5_init_89 : decode cX5_init 89 = .ok (.getfield 52, 3) := by decide +kernel
theorem dX5_init_92 : decode cX5_init 92 = .ok (.getfield 47, 3) := by decide +kernel
theorem dX5_init_95 : decode cX5_init 95 = .ok (.putfield 55, 3) := by decide +kernel
theorem dX5_init_98 : decode cX5_init 98 = .ok (.iconst 0, 1) := by decide +kernel
theorem dX5_init_99 : decode cX5_init 99 = .ok (.istore_n 2, 1) := by decide +kernel
theorem dX5_init_100 : decode cX5_init 100 = .ok (.iload_n 2, 1) := by decide +kernel
theorem dX5_init_101 : decode cX5_init 101 = .ok (.bipush 8, 2) := by decide +kernel
theorem dX5_init_103 : decode cX5_init 103 = .ok (.if_icmp .ge 23, 3) := by decide +kernel
theorem dX5_init_106 : decode cX5_init 106 = .ok (.aload_n 0, 1) := by decide +kernel
theorem dX5_init_107 : decode cX5_init 107 = .ok (.getfield 25, 3) := by decide +kernel
theorem dX5_init_110 : decode cX5_init 110 = .ok (.iload_n 2, 1) := by decide +kernel
theorem dX5_init_111 : decode cX5_init 111 = .ok (.new 23, 3) := by decide +kernel
theorem dX5_init_114 : decode cX5_init 114 = .ok (.dup, 1) := by decide +kernel
theorem dX5_init_115 : decode cX5_init 115 = .ok (.aload_n 1, 1) := by decide +kernel
theorem dX5_init_116 : decode cX5_init 116 = .ok (.invokespecial 58, 3) := by decide +kernel
theorem dX5_init_119 : decode cX5_init 119 = .ok (.aastore, 1) := by decide +kernel
theorem dX5_init_120 : decode cX5_init 120 = .ok (.iinc 2 1, 3) := by decide +kernel
theorem dX5_init_123 : decode cX5_init 123 = .ok (.goto (-23), 3) := by decide +kernel
theorem dX5_init_126 : decode cX5_init 126 = .ok (.return_, 1) := by decide +kernel
theorem dX5_append_0 : decode cX5_append 0 = .ok (.aload_n 0, 1) := by decide +kernel
theorem dX5_append_1 : decode cX5_append 1 = .ok (.getfield 16, 3) := by decide +kernel
theorem dX5_append_4 : decode cX5_append 4 = .ok (.sipush 880, 3) := by decide +kernel
theorem dX5_append_7 : decode cX5_append 7 = .ok (.if_icmp .le 5, 3) := by decide +kernel
theorem dX5_append_10 : decode cX5_append 10 = .ok (.iconst (-1), 1) := by decide +kernel
theorem dX5_append_11 : decode cX5_append 11 = .ok (.ireturn, 1) := by decide +kernel
theorem dX5_append_12 : decode cX5_append 12 = .ok (.aload_n 0, 1) := by decide +kernel
theorem dX5_append_13 : decode cX5_append 13 = .ok (.aload_n 0, 1) := by decide +kernel
theorem dX5_append_14 : decode cX5_append 14 = .ok (.getfield 16, 3) := by decide +kernel
theorem dX5_append_17 : decode cX5_append 17 = .ok (.iload_n 1, 1) := by decide +kernel
theorem dX5_append_18 : decode cX5_append 18 = .ok (.invokevirtual 59, 3) := by decide +kernel
theorem dX5_append_21 : decode cX5_append 21 = .ok (.aload_n 0, 1) := by decide +kernel
theorem dX5_append_22 : decode cX5_append 22 = .ok (.aload_n 0, 1) := by decide +kernel
theorem dX5_append_23 : decode cX5_append 23 = .ok (.getfield 16, 3) := by decide +kernel
theorem dX5_append_26 : decode cX5_append 26 = .ok (.iconst 4, 1) := by decide +kernel
theorem dX5_append_27 : decode cX5_append 27 = .ok (.iadd, 1) := by decide +kernel
theorem dX5_append_28 : decode cX5_append 28 = .ok (.iload_n 2, 1) := by decide +kernel
theorem dX5_append_29 : decode cX5_append 29 = .ok (.invokevirtual 59, 3) := by decide +kernel
theorem dX5_append_32 : decode cX5_append 32 = .ok (.aload_n 0, 1) := by decide +kernel
theorem dX5_append_33 : decode cX5_append 33 = .ok (.aload_n 0, 1) := by decide +kernel
theorem dX5_append_34 : decode cX5_append 34 = .ok (.getfield 16, 3) := by decide +kernel
theorem dX5_append_37 : decode cX5_append 37 = .ok (.bipush 8, 2) := by decide +kernel
theorem dX5_append_39 : decode cX5_append 39 = .ok (.iadd, 1) := by decide +kernel
theorem dX5_append_40 : decode cX5_append 40 = .ok (.iload_n 3, 1) := by decide +kernel
theorem dX5_append_41 : decode cX5_append 41 = .ok (.invokevirtual 59, 3) := by decide +kernel
theorem dX5_append_44 : decode cX5_append 44 = .ok (.aload_n 0, 1) := by decide +kernel
theorem dX5_append_45 : decode cX5_append 45 = .ok (.aload_n 0, 1) := by decide +kernel
theorem dX5_append_46 : decode cX5_append 46 = .ok (.getfield 16, 3) := by decide +kernel
theorem dX5_append_49 : decode cX5_append 49 = .ok (.bipush 12, 2) := by decide +kernel
theorem dX5_append_51 : decode cX5_append 51 = .ok (.iadd, 1) := by decide +kernel
theorem dX5_append_52 : decode cX5_append 52 = .ok (.iload 4, 2) := by decide +kernel
theorem dX5_append_54 : decode cX5_append 54 = .ok (.invokevirtual 59, 3) := by decide +kernel
theorem dX5_append_57 : decode cX5_append 57 = .ok (.aload_n 0, 1) := by decide +kernel
theorem dX5_append_58 : decode cX5_append 58 = .ok (.aload_n 0, 1) := by decide +kernel
theorem dX5_append_59 : decode cX5_append 59 = .ok (.getfield 16, 3) := by decide +kernel
theorem dX5_append_62 : decode cX5_append 62 = .ok (.bipush 16, 2) := by decide +kernel
theorem dX5_append_64 : decode cX5_append 64 = .ok (.iadd, 1) := by decide +kernel
theorem dX5_append_65 : decode cX5_append 65 = .ok (.iload 5, 2) := by decide +kernel
theorem dX5_append_67 : decode cX5_append 67 = .ok (.invokevirtual 59, 3) := by decide +kernel
theorem dX5_append_70 : decode cX5_append 70 = .ok (.aload_n 0, 1) := by decide +kernel
theorem dX5_append_71 : decode cX5_append 71 = .ok (.dup, 1) := by decide +kernel
theorem dX5_append_72 : decode cX5_append 72 = .ok (.getfield 16, 3) := by decide +kernel
theorem dX5_append_75 : decode cX5_append 75 = .ok (.bipush 20, 2) := by decide +kernel
theorem dX5_append_77 : decode cX5_append 77 = .ok (.iadd, 1) := by decide +kernel
theorem dX5_append_78 : decode cX5_append 78 = .ok (.putfield 16, 3) := by decide +kernel
theorem dX5_append_81 : decode cX5_append 81 = .ok (.aload_n 0, 1) := by decide +kernel
theorem dX5_append_82 : decode cX5_append 82 = .ok (.getfield 16, 3) := by decide +kernel
theorem dX5_append_85 : decode cX5_append 85 = .ok (.ireturn, 1) := by decide +kernel
theorem dX5_putWord_0 : decode cX5_putWord 0 = .ok (.iload_n 1, 1) := by decide +kernel
theorem dX5_putWord_1 : decode cX5_putWord 1 = .ok (.ifCond .lt 10, 3) := by decide +kernel
theorem dX5_putWord_4 : decode cX5_putWord 4 = .ok (.iload_n 1, 1) := by decide +kernel
theorem dX5_putWord_5 : decode cX5_putWord 5 = .ok (.sipush 896, 3) := by decide +kernel
theorem dX5_putWord_8 : decode cX5_putWord 8 = .ok (.if_icmp .le 4, 3) := by decide +kernel
theorem dX5_putWord_11 : decode cX5_putWord 11 = .ok (.return_, 1) := by decide +kernel
theorem dX5_putWord_12 : decode cX5_putWord 12 = .ok (.aload_n 0, 1) := by decide +kernel
theorem dX5_putWord_13 : decode cX5_putWord 13 = .ok (.getfield 12, 3) := by decide +kernel
theorem dX5_putWord_16 : decode cX5_putWord 16 = .ok (.getfield 63, 3) := by decide +kernel
theorem dX5_putWord_19 : decode cX5_putWord 19 = .ok (.iload_n 1, 1) := by decide +kernel
theorem dX5_putWord_20 : decode cX5_putWord 20 = .ok (.iload_n 2, 1) := by decide +kernel
theorem dX5_putWord_21 : decode cX5_putWord 21 = .ok (.bipush 24, 2) := by decide +kernel
theorem dX5_putWord_23 : decode cX5_putWord 23 = .ok (.iushr, 1) := by decide +kernel
theorem dX5_putWord_24 : decode cX5_putWord 24 = .ok (.i2b, 1) := by decide +kernel
theorem dX5_putWord_25 : decode cX5_putWord 25 = .ok (.bastore, 1) := by decide +kernel
theorem dX5_putWord_26 : decode cX5_putWord 26 = .ok (.aload_n 0, 1) := by decide +kernel
theorem dX5_putWord_27 : decode cX5_putWord 27 = .ok (.getfield 12, 3) := by decide +kernel
theorem dX5_putWord_30 : decode cX5_putWord 30 = .ok (.getfield 63, 3) := by decide +kernel
theorem dX5_putWord_33 : decode cX5_putWord 33 = .ok (.iload_n 1, 1) := by decide +kernel
theorem dX5_putWord_34 : decode cX5_putWord 34 = .ok (.iconst 1, 1) := by decide +kernel
theorem dX5_putWord_35 : decode cX5_putWord 35 = .ok (.iadd, 1) := by decide +kernel
theorem dX5_putWord_36 : decode cX5_putWord 36 = .ok (.iload_n 2, 1) := by decide +kernel
theorem dX5_putWord_37 : decode cX5_putWord 37 = .ok (.bipush 16, 2) := by decide +kernel
theorem dX5_putWord_39 : decode cX5_putWord 39 = .ok (.iushr, 1) := by decide +kernel
theorem dX5_putWord_40 : decode cX5_putWord 40 = .ok (.i2b, 1) := by decide +kernel
theorem dX5_putWord_41 : decode cX5_putWord 41 = .ok (.bastore, 1) := by decide +kernel
theorem dX5_putWord_42 : decode cX5_putWord 42 = .ok (.aload_n 0, 1) := by decide +kernel
theorem dX5_putWord_43 : decode cX5_putWord 43 = .ok (.getfield 12, 3) := by decide +kernel
theorem dX5_putWord_46 : decode cX5_putWord 46 = .ok (.getfield 63, 3) := by decide +kernel
theorem dX5_putWord_49 : decode cX5_putWord 49 = .ok (.iload_n 1, 1) := by decide +kernel
theorem dX5_putWord_50 : decode cX5_putWord 50 = .ok (.iconst 2, 1) := by decide +kernel
theorem dX5_putWord_51 : decode cX5_putWord 51 = .ok (.iadd, 1) := by decide +kernel
theorem dX5_putWord_52 : decode cX5_putWord 52 = .ok (.iload_n 2, 1) := by decide +kernel
theorem dX5_putWord_53 : decode cX5_putWord 53 = .ok (.bipush 8, 2) := by decide +kernel
theorem dX5_putWord_55 : decode cX5_putWord 55 = .ok (.iushr, 1) := by decide +kernel
theorem dX5_putWord_56 : decode cX5_putWord 56 = .ok (.i2b, 1) := by decide +kernel
theorem dX5_putWord_57 : decode cX5_putWord 57 = .ok (.bastore, 1) := by decide +kernel
theorem dX5_putWord_58 : decode cX5_putWord 58 = .ok (.aload_n 0, 1) := by decide +kernel
theorem dX5_putWord_59 : decode cX5_putWord 59 = .ok (.getfield 12, 3) := by decide +kernel
theorem dX5_putWord_62 : decode cX5_putWord 62 = .ok (.getfield 63, 3) := by decide +kernel
theorem dX5_putWord_65 : decode cX5_putWord 65 = .ok (.iload_n 1, 1) := by decide +kernel
theorem dX5_putWord_66 : decode cX5_putWord 66 = .ok (.iconst 3, 1) := by decide +kernel
theorem dX5_putWord_67 : decode cX5_putWord 67 = .ok (.iadd, 1) := by decide +kernel
theorem dX5_putWord_68 : decode cX5_putWord 68 = .ok (.iload_n 2, 1) := by decide +kernel
theorem dX5_putWord_69 : decode cX5_putWord 69 = .ok (.i2b, 1) := by decide +kernel
theorem dX5_putWord_70 : decode cX5_putWord 70 = .ok (.bastore, 1) := by decide +kernel
theorem dX5_putWord_71 : decode cX5_putWord 71 = .ok (.return_, 1) := by decide +kernel
theorem dX5_load_0 : decode cX5_load 0 = .ok (.iload_n 1, 1) := by decide +kernel
theorem dX5_load_1 : decode cX5_load 1 = .ok (.ifCond .lt 11, 3) := by decide +kernel
theorem dX5_load_4 : decode cX5_load 4 = .ok (.iload_n 1, 1) := by decide +kernel
theorem dX5_load_5 : decode cX5_load 5 = .ok (.aload_n 0, 1) := by decide +kernel
theorem dX5_load_6 : decode cX5_load 6 = .ok (.getfield 16, 3) := by decide +kernel
theorem dX5_load_9 : decode cX5_load 9 = .ok (.if_icmp .le 13, 3) := by decide +kernel
theorem dX5_load_12 : decode cX5_load 12 = .ok (.new 67, 3) := by decide +kernel
theorem dX5_load_15 : decode cX5_load 15 = .ok (.dup, 1) := by decide +kernel
theorem dX5_load_16 : decode cX5_load 16 = .ok (.ldc 69, 2) := by decide +kernel
theorem dX5_load_18 : decode cX5_load 18 = .ok (.invokespecial 71, 3) := by decide +kernel
theorem dX5_load_21 : decode cX5_load 21 = .ok (.athrow, 1) := by decide +kernel
theorem dX5_load_22 : decode cX5_load 22 = .ok (.aload_n 0, 1) := by decide +kernel
theorem dX5_load_23 : decode cX5_load 23 = .ok (.iconst 0, 1) := by decide +kernel
theorem dX5_load_24 : decode cX5_load 24 = .ok (.putfield 16, 3) := by decide +kernel
theorem dX5_load_27 : decode cX5_load 27 = .ok (.new 35, 3) := by decide +kernel
theorem dX5_load_30 : decode cX5_load 30 = .ok (.dup, 1) := by decide +kernel
theorem dX5_load_31 : decode cX5_load 31 = .ok (.invokespecial 37, 3) := by decide +kernel
theorem dX5_load_34 : decode cX5_load 34 = .ok (.astore_n 2, 1) := by decide +kernel
theorem dX5_load_35 : decode cX5_load 35 = .ok (.aload_n 0, 1) := by decide +kernel
theorem dX5_load_36 : decode cX5_load 36 = .ok (.getfield 12, 3) := by decide +kernel
theorem dX5_load_39 : decode cX5_load 39 = .ok (.aload_n 2, 1) := by decide +kernel
theorem dX5_load_40 : decode cX5_load 40 = .ok (.iload_n 1, 1) := by decide +kernel
theorem dX5_load_41 : decode cX5_load 41 = .ok (.invokevirtual 74, 3) := by decide +kernel
theorem dX5_load_44 : decode cX5_load 44 = .ok (.aload_n 0, 1) := by decide +kernel
theorem dX5_load_45 : decode cX5_load 45 = .ok (.aload_n 0, 1) := by decide +kernel
theorem dX5_load_46 : decode cX5_load 46 = .ok (.getfield 12, 3) := by decide +kernel
theorem dX5_load_49 : decode cX5_load 49 = .ok (.getfield 78, 3) := by decide +kernel
theorem dX5_load_52 : decode cX5_load 52 = .ok (.putfield 20, 3) := by decide +kernel
theorem dX5_load_55 : decode cX5_load 55 = .ok (.aload_n 0, 1) := by decide +kernel
theorem dX5_load_56 : decode cX5_load 56 = .ok (.getfield 12, 3) := by decide +kernel
theorem dX5_load_59 : decode cX5_load 59 = .ok (.getfield 79, 3) := by decide +kernel
theorem dX5_load_62 : decode cX5_load 62 = .ok (.ifCond .eq 11, 3) := by decide +kernel
theorem dX5_load_65 : decode cX5_load 65 = .ok (.aload_n 0, 1) := by decide +kernel
theorem dX5_load_66 : decode cX5_load 66 = .ok (.getfield 12, 3) := by decide +kernel
theorem dX5_load_69 : decode cX5_load 69 = .ok (.getfield 79, 3) := by decide +kernel
theorem dX5_load_72 : decode cX5_load 72 = .ok (.ireturn, 1) := by decide +kernel
theorem dX5_load_73 : decode cX5_load 73 = .ok (.aload_n 0, 1) := by decide +kernel
theorem dX5_load_74 : decode cX5_load 74 = .ok (.invokevirtual 82, 3) := by decide +kernel
theorem dX5_load_77 : decode cX5_load 77 = .ok (.aload_n 0, 1) := by decide +kernel
theorem dX5_load_78 : decode cX5_load 78 = .ok (.getfield 51, 3) := by decide +kernel
theorem dX5_load_81 : decode cX5_load 81 = .ok (.aload_n 2, 1) := by decide +kernel
theorem dX5_load_82 : decode cX5_load 82 = .ok (.invokevirtual 85, 3) := by decide +kernel
theorem dX5_load_85 : decode cX5_load 85 = .ok (.aload_n 0, 1) := by decide +kernel
theorem dX5_load_86 : decode cX5_load 86 = .ok (.getfield 43, 3) := by decide +kernel
theorem dX5_load_89 : decode cX5_load 89 = .ok (.invokevirtual 88, 3) := by decide +kernel
theorem dX5_load_92 : decode cX5_load 92 = .ok (.pop, 1) := by decide +kernel
theorem dX5_load_93 : decode cX5_load 93 = .ok (.aload_n 2, 1) := by decide +kernel
theorem dX5_load_94 : decode cX5_load 94 = .ok (.getfield 92, 3) := by decide +kernel
theorem dX5_load_97 : decode cX5_load 97 = .ok (.ireturn, 1) := by decide +kernel
theorem dX5_errorOffset_0 : decode cX5_errorOffset 0 = .ok (.aload_n 0, 1) := by decide +kernel
theorem dX5_errorOffset_1 : decode cX5_errorOffset 1 = .ok (.getfield 20, 3) := by decide +kernel
theorem dX5_errorOffset_4 : decode cX5_errorOffset 4 = .ok (.ireturn, 1) := by decide +kernel
theorem dX5_machineCount_0 : decode cX5_machineCount 0 = .ok (.aload_n 0, 1) := by decide +kernel
theorem dX5_machineCount_1 : decode cX5_machineCount 1 = .ok (.getfield 51, 3) := by decide +kernel
theorem dX5_machineCount_4 : decode cX5_machineCount 4 = .ok (.getfield 95, 3) := by decide +kernel
theorem dX5_machineCount_7 : decode cX5_machineCount 7 = .ok (.getfield 99, 3) := by decide +kernel
theorem dX5_machineCount_10 : decode cX5_machineCount 10 = .ok (.ireturn, 1) := by decide +kernel
theorem dX5_jobCount_0 : decode cX5_jobCount 0 = .ok (.aload_n 0, 1) := by decide +kernel
theorem dX5_jobCount_1 : decode cX5_jobCount 1 = .ok (.getfield 51, 3) := by decide +kernel
theorem dX5_jobCount_4 : decode cX5_jobCount 4 = .ok (.getfield 95, 3) := by decide +kernel
theorem dX5_jobCount_7 : decode cX5_jobCount 7 = .ok (.getfield 92, 3) := by decide +kernel
theorem dX5_jobCount_10 : decode cX5_jobCount 10 = .ok (.ireturn, 1) := by decide +kernel
theorem dX5_operationCount_0 : decode cX5_operationCount 0 = .ok (.aload_n 0, 1) := by decide +kernel
theorem dX5_operationCount_1 : decode cX5_operationCount 1 = .ok (.iload_n 1, 1) := by decide +kernel
theorem dX5_operationCount_2 : decode cX5_operationCount 2 = .ok (.invokevirtual 102, 3) := by decide +kernel
theorem dX5_operationCount_5 : decode cX5_operationCount 5 = .ok (.aload_n 0, 1) := by decide +kernel
theorem dX5_operationCount_6 : decode cX5_operationCount 6 = .ok (.getfield 51, 3) := by decide +kernel
theorem dX5_operationCount_9 : decode cX5_operationCount 9 = .ok (.getfield 95, 3) := by decide +kernel
theorem dX5_operationCount_12 : decode cX5_operationCount 12 = .ok (.getfield 106, 3) := by decide +kernel
theorem dX5_operationCount_15 : decode cX5_operationCount 15 = .ok (.iload_n 1, 1) := by decide +kernel
theorem dX5_operationCount_16 : decode cX5_operationCount 16 = .ok (.iaload, 1) := by decide +kernel
theorem dX5_operationCount_17 : decode cX5_operationCount 17 = .ok (.ireturn, 1) := by decide +kernel
theorem dX5_operation_0 : decode cX5_operation 0 = .ok (.aload_n 0, 1) := by decide +kernel
theorem dX5_operation_1 : decode cX5_operation 1 = .ok (.iload_n 1, 1) := by decide +kernel
theorem dX5_operation_2 : decode cX5_operation 2 = .ok (.iload_n 2, 1) := by decide +kernel
theorem dX5_operation_3 : decode cX5_operation 3 = .ok (.invokevirtual 110, 3) := by decide +kernel
theorem dX5_operation_6 : decode cX5_operation 6 = .ok (.iload_n 1, 1) := by decide +kernel
theorem dX5_operation_7 : decode cX5_operation 7 = .ok (.iload_n 2, 1) := by decide +kernel
theorem dX5_operation_8 : decode cX5_operation 8 = .ok (.invokestatic 113, 3) := by decide +kernel
theorem dX5_operation_11 : decode cX5_operation 11 = .ok (.istore 4, 2) := by decide +kernel
theorem dX5_operation_13 : decode cX5_operation 13 = .ok (.iload_n 3, 1) := by decide +kernel
theorem dX5_operation_14 : decode cX5_operation 14 = .ok (.tableswitch 61 0 2 #[26, 40, 51], 26) := by decide +kernel
theorem dX5_operation_40 : decode cX5_operation 40 = .ok (.aload_n 0, 1) := by decide +kernel
theorem dX5_operation_41 : decode cX5_operation 41 = .ok (.getfield 51, 3) := by decide +kernel
theorem dX5_operation_44 : decode cX5_operation 44 = .ok (.getfield 95, 3) := by decide +kernel
theorem dX5_operation_47 : decode cX5_operation 47 = .ok (.getfield 117, 3) := by decide +kernel
theorem dX5_operation_50 : decode cX5_operation 50 = .ok (.iload 4, 2) := by decide +kernel
theorem dX5_operation_52 : decode cX5_operation 52 = .ok (.iaload, 1) := by decide +kernel
theorem dX5_operation_53 : decode cX5_operation 53 = .ok (.ireturn, 1) := by decide +kernel
theorem dX5_operation_54 : decode cX5_operation 54 = .ok (.aload_n 0, 1) := by decide +kernel
theorem dX5_operation_55 : decode cX5_operation 55 = .ok (.getfield 51, 3) := by decide +kernel
theorem dX5_operation_58 : decode cX5_operation 58 = .ok (.getfield 120, 3) := by decide +kernel
theorem dX5_operation_61 : decode cX5_operation 61 = .ok (.iload 4, 2) := by decide +kernel
theorem dX5_operation_63 : decode cX5_operation 63 = .ok (.iaload, 1) := by decide +kernel
theorem dX5_operation_64 : decode cX5_operation 64 = .ok (.ireturn, 1) := by decide +kernel
theorem dX5_operation_65 : decode cX5_operation 65 = .ok (.aload_n 0, 1) := by decide +kernel
theorem dX5_operation_66 : decode cX5_operation 66 = .ok (.getfield 51, 3) := by decide +kernel
theorem dX5_operation_69 : decode cX5_operation 69 = .ok (.iload 4, 2) := by decide +kernel
theorem dX5_operation_71 : decode cX5_operation 71 = .ok (.invokevirtual 123, 3) := by decide +kernel
theorem dX5_operation_74 : decode cX5_operation 74 = .ok (.ireturn, 1) := by decide +kernel
theorem dX5_operation_75 : decode cX5_operation 75 = .ok (.new 67, 3) := by decide +kernel
theorem dX5_operation_78 : decode cX5_operation 78 = .ok (.dup, 1) := by decide +kernel
theorem dX5_operation_79 : decode cX5_operation 79 = .ok (.ldc 127, 2) := by decide +kernel
theorem dX5_operation_81 : decode cX5_operation 81 = .ok (.invokespecial 71, 3) := by decide +kernel
theorem dX5_operation_84 : decode cX5_operation 84 = .ok (.athrow, 1) := by decide +kernel
theorem dX5_orderLength_0 : decode cX5_orderLength 0 = .ok (.aload_n 0, 1) := by decide +kernel
theorem dX5_orderLength_1 : decode cX5_orderLength 1 = .ok (.iload_n 1, 1) := by decide +kernel
theorem dX5_orderLength_2 : decode cX5_orderLength 2 = .ok (.invokevirtual 129, 3) := by decide +kernel
theorem dX5_orderLength_5 : decode cX5_orderLength 5 = .ok (.aload_n 0, 1) := by decide +kernel
theorem dX5_orderLength_6 : decode cX5_orderLength 6 = .ok (.getfield 51, 3) := by decide +kernel
theorem dX5_orderLength_9 : decode cX5_orderLength 9 = .ok (.getfield 95, 3) := by decide +kernel
theorem dX5_orderLength_12 : decode cX5_orderLength 12 = .ok (.getfield 132, 3) := by decide +kernel
theorem dX5_orderLength_15 : decode cX5_orderLength 15 = .ok (.iload_n 1, 1) := by decide +kernel
theorem dX5_orderLength_16 : decode cX5_orderLength 16 = .ok (.iaload, 1) := by decide +kernel
theorem dX5_orderLength_17 : decode cX5_orderLength 17 = .ok (.ireturn, 1) := by decide +kernel
theorem dX5_orderAt_0 : decode cX5_orderAt 0 = .ok (.aload_n 0, 1) := by decide +kernel
theorem dX5_orderAt_1 : decode cX5_orderAt 1 = .ok (.iload_n 1, 1) := by decide +kernel
theorem dX5_orderAt_2 : decode cX5_orderAt 2 = .ok (.invokevirtual 129, 3) := by decide +kernel
theorem dX5_orderAt_5 : decode cX5_orderAt 5 = .ok (.iload_n 2, 1) := by decide +kernel
theorem dX5_orderAt_6 : decode cX5_orderAt 6 = .ok (.ifCond .lt 19, 3) := by decide +kernel
theorem dX5_orderAt_9 : decode cX5_orderAt 9 = .ok (.iload_n 2, 1) := by decide +kernel
theorem dX5_orderAt_10 : decode cX5_orderAt 10 = .ok (.aload_n 0, 1) := by decide +kernel
theorem dX5_orderAt_11 : decode cX5_orderAt 11 = .ok (.getfield 51, 3) := by decide +kernel
theorem dX5_orderAt_14 : decode cX5_orderAt 14 = .ok (.getfield 95, 3) := by decide +kernel
theorem dX5_orderAt_17 : decode cX5_orderAt 17 = .ok (.getfield 132, 3) := by decide +kernel
theorem dX5_orderAt_20 : decode cX5_orderAt 20 = .ok (.iload_n 1, 1) := by decide +kernel
theorem dX5_orderAt_21 : decode cX5_orderAt 21 = .ok (.iaload, 1) := by decide +kernel
theorem dX5_orderAt_22 : decode cX5_orderAt 22 = .ok (.if_icmp .lt 13, 3) := by decide +kernel
theorem dX5_orderAt_25 : decode cX5_orderAt 25 = .ok (.new 135, 3) := by decide +kernel
theorem dX5_orderAt_28 : decode cX5_orderAt 28 = .ok (.dup, 1) := by decide +kernel
theorem dX5_orderAt_29 : decode cX5_orderAt 29 = .ok (.ldc 137, 2) := by decide +kernel
theorem dX5_orderAt_31 : decode cX5_orderAt 31 = .ok (.invokespecial 139, 3) := by decide +kernel
theorem dX5_orderAt_34 : decode cX5_orderAt 34 = .ok (.athrow, 1) := by decide +kernel
theorem dX5_orderAt_35 : decode cX5_orderAt 35 = .ok (.aload_n 0, 1) := by decide +kernel
theorem dX5_orderAt_36 : decode cX5_orderAt 36 = .ok (.getfield 51, 3) := by decide +kernel
theorem dX5_orderAt_39 : decode cX5_orderAt 39 = .ok (.getfield 140, 3) := by decide +kernel
theorem dX5_orderAt_42 : decode cX5_orderAt 42 = .ok (.iload_n 1, 1) := by decide +kernel
theorem dX5_orderAt_43 : decode cX5_orderAt 43 = .ok (.bipush 6, 2) := by decide +kernel
theorem dX5_orderAt_45 : decode cX5_orderAt 45 = .ok (.imul, 1) := by decide +kernel
theorem dX5_orderAt_46 : decode cX5_orderAt 46 = .ok (.iload_n 2, 1) := by decide +kernel
theorem dX5_orderAt_47 : decode cX5_orderAt 47 = .ok (.iadd, 1) := by decide +kernel
theorem dX5_orderAt_48 : decode cX5_orderAt 48 = .ok (.iaload, 1) := by decide +kernel
theorem dX5_orderAt_49 : decode cX5_orderAt 49 = .ok (.invokestatic 143, 3) := by decide +kernel
theorem dX5_orderAt_52 : decode cX5_orderAt 52 = .ok (.ireturn, 1) := by decide +kernel
theorem dX5_start_0 : decode cX5_start 0 = .ok (.aload_n 0, 1) := by decide +kernel
theorem dX5_start_1 : decode cX5_start 1 = .ok (.iload_n 1, 1) := by decide +kernel
theorem dX5_start_2 : decode cX5_start 2 = .ok (.iload_n 2, 1) := by decide +kernel
theorem dX5_start_3 : decode cX5_start 3 = .ok (.invokevirtual 110, 3) := by decide +kernel
theorem dX5_start_6 : decode cX5_start 6 = .ok (.aload_n 0, 1) := by decide +kernel
theorem dX5_start_7 : decode cX5_start 7 = .ok (.getfield 43, 3) := by decide +kernel
theorem dX5_start_10 : decode cX5_start 10 = .ok (.getfield 146, 3) := by decide +kernel
theorem dX5_start_13 : decode cX5_start 13 = .ok (.iload_n 1, 1) := by decide +kernel
theorem dX5_start_14 : decode cX5_start 14 = .ok (.iload_n 2, 1) := by decide +kernel
theorem dX5_start_15 : decode cX5_start 15 = .ok (.invokestatic 113, 3) := by decide +kernel
theorem dX5_start_18 : decode cX5_start 18 = .ok (.iaload, 1) := by decide +kernel
theorem dX5_start_19 : decode cX5_start 19 = .ok (.ireturn, 1) := by decide +kernel
theorem dX5_leave_0 : decode cX5_leave 0 = .ok (.aload_n 0, 1) := by decide +kernel
theorem dX5_leave_1 : decode cX5_leave 1 = .ok (.iload_n 1, 1) := by decide +kernel
theorem dX5_leave_2 : decode cX5_leave 2 = .ok (.iload_n 2, 1) := by decide +kernel
theorem dX5_leave_3 : decode cX5_leave 3 = .ok (.invokevirtual 110, 3) := by decide +kernel
theorem dX5_leave_6 : decode cX5_leave 6 = .ok (.aload_n 0, 1) := by decide +kernel
theorem dX5_leave_7 : decode cX5_leave 7 = .ok (.getfield 43, 3) := by decide +kernel
theorem dX5_leave_10 : decode cX5_leave 10 = .ok (.iload_n 1, 1) := by decide +kernel
theorem dX5_leave_11 : decode cX5_leave 11 = .ok (.iload_n 2, 1) := by decide +kernel
theorem dX5_leave_12 : decode cX5_leave 12 = .ok (.invokevirtual 149, 3) := by decide +kernel
theorem dX5_leave_15 : decode cX5_leave 15 = .ok (.ireturn, 1) := by decide +kernel
theorem dX5_completion_0 : decode cX5_completion 0 = .ok (.aload_n 0, 1) := by decide +kernel
theorem dX5_completion_1 : decode cX5_completion 1 = .ok (.iload_n 1, 1) := by decide +kernel
theorem dX5_completion_2 : decode cX5_completion 2 = .ok (.invokevirtual 102, 3) := by decide +kernel
theorem dX5_completion_5 : decode cX5_completion 5 = .ok (.aload_n 0, 1) := by decide +kernel
theorem dX5_completion_6 : decode cX5_completion 6 = .ok (.getfield 43, 3) := by decide +kernel
theorem dX5_completion_9 : decode cX5_completion 9 = .ok (.iload_n 1, 1) := by decide +kernel
theorem dX5_completion_10 : decode cX5_completion 10 = .ok (.invokevirtual 152, 3) := by decide +kernel
theorem dX5_completion_13 : decode cX5_completion 13 = .ok (.ireturn, 1) := by decide +kernel
theorem dX5_makespan_0 : decode cX5_makespan 0 = .ok (.aload_n 0, 1) := by decide +kernel
theorem dX5_makespan_1 : decode cX5_makespan 1 = .ok (.getfield 43, 3) := by decide +kernel
theorem dX5_makespan_4 : decode cX5_makespan 4 = .ok (.invokevirtual 155, 3) := by decide +kernel
theorem dX5_makespan_7 : decode cX5_makespan 7 = .ok (.ireturn, 1) := by decide +kernel
theorem dX5_jobCost_0 : decode cX5_jobCost 0 = .ok (.aload_n 0, 1) := by decide +kernel
theorem dX5_jobCost_1 : decode cX5_jobCost 1 = .ok (.iload_n 1, 1) := by decide +kernel
theorem dX5_jobCost_2 : decode cX5_jobCost 2 = .ok (.invokevirtual 102, 3) := by decide +kernel
theorem dX5_jobCost_5 : decode cX5_jobCost 5 = .ok (.aload_n 0, 1) := by decide +kernel
theorem dX5_jobCost_6 : decode cX5_jobCost 6 = .ok (.getfield 43, 3) := by decide +kernel
theorem dX5_jobCost_9 : decode cX5_jobCost 9 = .ok (.iload_n 1, 1) := by decide +kernel
theorem dX5_jobCost_10 : decode cX5_jobCost 10 = .ok (.invokevirtual 159, 3) := by decide +kernel
theorem dX5_jobCost_13 : decode cX5_jobCost 13 = .ok (.ireturn, 1) := by decide +kernel
theorem dX5_planCost_0 : decode cX5_planCost 0 = .ok (.aload_n 0, 1) := by decide +kernel
theorem dX5_planCost_1 : decode cX5_planCost 1 = .ok (.getfield 43, 3) := by decide +kernel
theorem dX5_planCost_4 : decode cX5_planCost 4 = .ok (.invokevirtual 162, 3) := by decide +kernel
theorem dX5_planCost_7 : decode cX5_planCost 7 = .ok (.ireturn, 1) := by decide +kernel
theorem dX5_blockedTime_0 : decode cX5_blockedTime 0 = .ok (.aload_n 0, 1) := by decide +kernel
theorem dX5_blockedTime_1 : decode cX5_blockedTime 1 = .ok (.iload_n 1, 1) := by decide +kernel
theorem dX5_blockedTime_2 : decode cX5_blockedTime 2 = .ok (.invokevirtual 129, 3) := by decide +kernel
theorem dX5_blockedTime_5 : decode cX5_blockedTime 5 = .ok (.iconst 0, 1) := by decide +kernel
theorem dX5_blockedTime_6 : decode cX5_blockedTime 6 = .ok (.istore_n 2, 1) := by decide +kernel
theorem dX5_blockedTime_7 : decode cX5_blockedTime 7 = .ok (.iconst 0, 1) := by decide +kernel
theorem dX5_blockedTime_8 : decode cX5_blockedTime 8 = .ok (.istore_n 3, 1) := by decide +kernel
theorem dX5_blockedTime_9 : decode cX5_blockedTime 9 = .ok (.iload_n 3, 1) := by decide +kernel
theorem dX5_blockedTime_10 : decode cX5_blockedTime 10 = .ok (.aload_n 0, 1) := by decide +kernel
theorem dX5_blockedTime_11 : decode cX5_blockedTime 11 = .ok (.getfield 51, 3) := by decide +kernel
theorem dX5_blockedTime_14 : decode cX5_blockedTime 14 = .ok (.getfield 95, 3) := by decide +kernel
theorem dX5_blockedTime_17 : decode cX5_blockedTime 17 = .ok (.getfield 132, 3) := by decide +kernel
theorem dX5_blockedTime_20 : decode cX5_blockedTime 20 = .ok (.iload_n 1, 1) := by decide +kernel
theorem dX5_blockedTime_21 : decode cX5_blockedTime 21 = .ok (.iaload, 1) := by decide +kernel
theorem dX5_blockedTime_22 : decode cX5_blockedTime 22 = .ok (.if_icmp .ge 55, 3) := by decide +kernel
theorem dX5_blockedTime_25 : decode cX5_blockedTime 25 = .ok (.aload_n 0, 1) := by decide +kernel
theorem dX5_blockedTime_26 : decode cX5_blockedTime 26 = .ok (.getfield 51, 3) := by decide +kernel
theorem dX5_blockedTime_29 : decode cX5_blockedTime 29 = .ok (.getfield 140, 3) := by decide +kernel
theorem dX5_blockedTime_32 : decode cX5_blockedTime 32 = .ok (.iload_n 1, 1) := by decide +kernel
theorem dX5_blockedTime_33 : decode cX5_blockedTime 33 = .ok (.bipush 6, 2) := by decide +kernel
theorem dX5_blockedTime_35 : decode cX5_blockedTime 35 = .ok (.imul, 1) := by decide +kernel
theorem dX5_blockedTime_36 : decode cX5_blockedTime 36 = .ok (.iload_n 3, 1) := by decide +kernel
theorem dX5_blockedTime_37 : decode cX5_blockedTime 37 = .ok (.iadd, 1) := by decide +kernel
theorem dX5_blockedTime_38 : decode cX5_blockedTime 38 = .ok (.iaload, 1) := by decide +kernel
theorem dX5_blockedTime_39 : decode cX5_blockedTime 39 = .ok (.istore 4, 2) := by decide +kernel
theorem dX5_blockedTime_41 : decode cX5_blockedTime 41 = .ok (.iload_n 2, 1) := by decide +kernel
theorem dX5_blockedTime_42 : decode cX5_blockedTime 42 = .ok (.aload_n 0, 1) := by decide +kernel
theorem dX5_blockedTime_43 : decode cX5_blockedTime 43 = .ok (.getfield 43, 3) := by decide +kernel
theorem dX5_blockedTime_46 : decode cX5_blockedTime 46 = .ok (.iload 4, 2) := by decide +kernel
theorem dX5_blockedTime_48 : decode cX5_blockedTime 48 = .ok (.bipush 6, 2) := by decide +kernel
theorem dX5_blockedTime_50 : decode cX5_blockedTime 50 = .ok (.idiv, 1) := by decide +kernel
theorem dX5_blockedTime_51 : decode cX5_blockedTime 51 = .ok (.iload 4, 2) := by decide +kernel
theorem dX5_blockedTime_53 : decode cX5_blockedTime 53 = .ok (.bipush 6, 2) := by decide +kernel
theorem dX5_blockedTime_55 : decode cX5_blockedTime 55 = .ok (.irem, 1) := by decide +kernel
theorem dX5_blockedTime_56 : decode cX5_blockedTime 56 = .ok (.invokevirtual 149, 3) := by decide +kernel
theorem dX5_blockedTime_59 : decode cX5_blockedTime 59 = .ok (.aload_n 0, 1) := by decide +kernel
theorem dX5_blockedTime_60 : decode cX5_blockedTime 60 = .ok (.getfield 43, 3) := by decide +kernel
theorem dX5_blockedTime_63 : decode cX5_blockedTime 63 = .ok (.iload 4, 2) := by decide +kernel
theorem dX5_blockedTime_65 : decode cX5_blockedTime 65 = .ok (.invokevirtual 165, 3) := by decide +kernel
theorem dX5_blockedTime_68 : decode cX5_blockedTime 68 = .ok (.isub, 1) := by decide +kernel
theorem dX5_blockedTime_69 : decode cX5_blockedTime 69 = .ok (.iadd, 1) := by decide +kernel
theorem dX5_blockedTime_70 : decode cX5_blockedTime 70 = .ok (.istore_n 2, 1) := by decide +kernel
theorem dX5_blockedTime_71 : decode cX5_blockedTime 71 = .ok (.iinc 3 1, 3) := by decide +kernel
theorem dX5_blockedTime_74 : decode cX5_blockedTime 74 = .ok (.goto (-65), 3) := by decide +kernel
theorem dX5_blockedTime_77 : decode cX5_blockedTime 77 = .ok (.iload_n 2, 1) := by decide +kernel
theorem dX5_blockedTime_78 : decode cX5_blockedTime 78 = .ok (.ireturn, 1) := by decide +kernel
theorem dX5_criticalLength_0 : decode cX5_criticalLength 0 = .ok (.aload_n 0, 1) := by decide +kernel
theorem dX5_criticalLength_1 : decode cX5_criticalLength 1 = .ok (.getfield 43, 3) := by decide +kernel
theorem dX5_criticalLength_4 : decode cX5_criticalLength 4 = .ok (.invokevirtual 168, 3) := by decide +kernel
theorem dX5_criticalLength_7 : decode cX5_criticalLength 7 = .ok (.aload_n 0, 1) := by decide +kernel
theorem dX5_criticalLength_8 : decode cX5_criticalLength 8 = .ok (.getfield 43, 3) := by decide +kernel
theorem dX5_criticalLength_11 : decode cX5_criticalLength 11 = .ok (.getfield 171, 3) := by decide +kernel
theorem dX5_criticalLength_14 : decode cX5_criticalLength 14 = .ok (.ireturn, 1) := by decide +kernel
theorem dX5_critical_0 : decode cX5_critical 0 = .ok (.aload_n 0, 1) := by decide +kernel
theorem dX5_critical_1 : decode cX5_critical 1 = .ok (.getfield 43, 3) := by decide +kernel
theorem dX5_critical_4 : decode cX5_critical 4 = .ok (.invokevirtual 168, 3) := by decide +kernel
theorem dX5_critical_7 : decode cX5_critical 7 = .ok (.iload_n 1, 1) := by decide +kernel
theorem dX5_critical_8 : decode cX5_critical 8 = .ok (.ifCond .lt 14, 3) := by decide +kernel
theorem dX5_critical_11 : decode cX5_critical 11 = .ok (.iload_n 1, 1) := by decide +kernel
theorem dX5_critical_12 : decode cX5_critical 12 = .ok (.aload_n 0, 1) := by decide +kernel
theorem dX5_critical_13 : decode cX5_critical 13 = .ok (.getfield 43, 3) := by decide +kernel
theorem dX5_critical_16 : decode cX5_critical 16 = .ok (.getfield 171, 3) := by decide +kernel
theorem dX5_critical_19 : decode cX5_critical 19 = .ok (.if_icmp .lt 13, 3) := by decide +kernel
theorem dX5_critical_22 : decode cX5_critical 22 = .ok (.new 174, 3) := by decide +kernel
theorem dX5_critical_25 : decode cX5_critical 25 = .ok (.dup, 1) := by decide +kernel
theorem dX5_critical_26 : decode cX5_critical 26 = .ok (.ldc 176, 2) := by decide +kernel
theorem dX5_critical_28 : decode cX5_critical 28 = .ok (.invokespecial 178, 3) := by decide +kernel
theorem dX5_critical_31 : decode cX5_critical 31 = .ok (.athrow, 1) := by decide +kernel
theorem dX5_critical_32 : decode cX5_critical 32 = .ok (.aload_n 0, 1) := by decide +kernel
theorem dX5_critical_33 : decode cX5_critical 33 = .ok (.getfield 43, 3) := by decide +kernel
theorem dX5_critical_36 : decode cX5_critical 36 = .ok (.getfield 179, 3) := by decide +kernel
theorem dX5_critical_39 : decode cX5_critical 39 = .ok (.iload_n 1, 1) := by decide +kernel
theorem dX5_critical_40 : decode cX5_critical 40 = .ok (.iaload, 1) := by decide +kernel
theorem dX5_critical_41 : decode cX5_critical 41 = .ok (.invokestatic 143, 3) := by decide +kernel
theorem dX5_critical_44 : decode cX5_critical 44 = .ok (.ireturn, 1) := by decide +kernel
theorem dX5_blockCount_0 : decode cX5_blockCount 0 = .ok (.aload_n 0, 1) := by decide +kernel
theorem dX5_blockCount_1 : decode cX5_blockCount 1 = .ok (.getfield 43, 3) := by decide +kernel
theorem dX5_blockCount_4 : decode cX5_blockCount 4 = .ok (.invokevirtual 168, 3) := by decide +kernel
theorem dX5_blockCount_7 : decode cX5_blockCount 7 = .ok (.iconst 0, 1) := by decide +kernel
theorem dX5_blockCount_8 : decode cX5_blockCount 8 = .ok (.istore_n 1, 1) := by decide +kernel
theorem dX5_blockCount_9 : decode cX5_blockCount 9 = .ok (.iconst 0, 1) := by decide +kernel
theorem dX5_blockCount_10 : decode cX5_blockCount 10 = .ok (.istore_n 2, 1) := by decide +kernel
theorem dX5_blockCount_11 : decode cX5_blockCount 11 = .ok (.iload_n 2, 1) := by decide +kernel
theorem dX5_blockCount_12 : decode cX5_blockCount 12 = .ok (.aload_n 0, 1) := by decide +kernel
theorem dX5_blockCount_13 : decode cX5_blockCount 13 = .ok (.getfield 43, 3) := by decide +kernel
theorem dX5_blockCount_16 : decode cX5_blockCount 16 = .ok (.getfield 171, 3) := by decide +kernel
theorem dX5_blockCount_19 : decode cX5_blockCount 19 = .ok (.if_icmp .ge 23, 3) := by decide +kernel
theorem dX5_blockCount_22 : decode cX5_blockCount 22 = .ok (.aload_n 0, 1) := by decide +kernel
theorem dX5_blockCount_23 : decode cX5_blockCount 23 = .ok (.getfield 43, 3) := by decide +kernel
theorem dX5_blockCount_26 : decode cX5_blockCount 26 = .ok (.iload_n 2, 1) := by decide +kernel
theorem dX5_blockCount_27 : decode cX5_blockCount 27 = .ok (.invokevirtual 182, 3) := by decide +kernel
theorem dX5_blockCount_30 : decode cX5_blockCount 30 = .ok (.ifCond .ne 6, 3) := by decide +kernel
theorem dX5_blockCount_33 : decode cX5_blockCount 33 = .ok (.iinc 1 1, 3) := by decide +kernel
theorem dX5_blockCount_36 : decode cX5_blockCount 36 = .ok (.iinc 2 1, 3) := by decide +kernel
theorem dX5_blockCount_39 : decode cX5_blockCount 39 = .ok (.goto (-28), 3) := by decide +kernel
theorem dX5_blockCount_42 : decode cX5_blockCount 42 = .ok (.iload_n 1, 1) := by decide +kernel
theorem dX5_blockCount_43 : decode cX5_blockCount 43 = .ok (.ireturn, 1) := by decide +kernel
theorem dX5_longestBlock_0 : decode cX5_longestBlock 0 = .ok (.aload_n 0, 1) := by decide +kernel
theorem dX5_longestBlock_1 : decode cX5_longestBlock 1 = .ok (.getfield 43, 3) := by decide +kernel
theorem dX5_longestBlock_4 : decode cX5_longestBlock 4 = .ok (.invokevirtual 168, 3) := by decide +kernel
theorem dX5_longestBlock_7 : decode cX5_longestBlock 7 = .ok (.iconst 0, 1) := by decide +kernel
theorem dX5_longestBlock_8 : decode cX5_longestBlock 8 = .ok (.istore_n 1, 1) := by decide +kernel
theorem dX5_longestBlock_9 : decode cX5_longestBlock 9 = .ok (.iconst 0, 1) := by decide +kernel
theorem dX5_longestBlock_10 : decode cX5_longestBlock 10 = .ok (.istore_n 2, 1) := by decide +kernel
theorem dX5_longestBlock_11 : decode cX5_longestBlock 11 = .ok (.iconst 0, 1) := by decide +kernel
theorem dX5_longestBlock_12 : decode cX5_longestBlock 12 = .ok (.istore_n 3, 1) := by decide +kernel
theorem dX5_longestBlock_13 : decode cX5_longestBlock 13 = .ok (.iload_n 3, 1) := by decide +kernel
theorem dX5_longestBlock_14 : decode cX5_longestBlock 14 = .ok (.aload_n 0, 1) := by decide +kernel
theorem dX5_longestBlock_15 : decode cX5_longestBlock 15 = .ok (.getfield 43, 3) := by decide +kernel
theorem dX5_longestBlock_18 : decode cX5_longestBlock 18 = .ok (.getfield 171, 3) := by decide +kernel
theorem dX5_longestBlock_21 : decode cX5_longestBlock 21 = .ok (.if_icmp .ge 34, 3) := by decide +kernel
theorem dX5_longestBlock_24 : decode cX5_longestBlock 24 = .ok (.aload_n 0, 1) := by decide +kernel
theorem dX5_longestBlock_25 : decode cX5_longestBlock 25 = .ok (.getfield 43, 3) := by decide +kernel
theorem dX5_longestBlock_28 : decode cX5_longestBlock 28 = .ok (.iload_n 3, 1) := by decide +kernel
theorem dX5_longestBlock_29 : decode cX5_longestBlock 29 = .ok (.invokevirtual 182, 3) := by decide +kernel
theorem dX5_longestBlock_32 : decode cX5_longestBlock 32 = .ok (.ifCond .eq 9, 3) := by decide +kernel
theorem dX5_longestBlock_35 : decode cX5_longestBlock 35 = .ok (.iload_n 2, 1) := by decide +kernel
theorem dX5_longestBlock_36 : decode cX5_longestBlock 36 = .ok (.iconst 1, 1) := by decide +kernel
theorem dX5_longestBlock_37 : decode cX5_longestBlock 37 = .ok (.iadd, 1) := by decide +kernel
theorem dX5_longestBlock_38 : decode cX5_longestBlock 38 = .ok (.goto 4, 3) := by decide +kernel
theorem dX5_longestBlock_41 : decode cX5_longestBlock 41 = .ok (.iconst 1, 1) := by decide +kernel
theorem dX5_longestBlock_42 : decode cX5_longestBlock 42 = .ok (.istore_n 2, 1) := by decide +kernel
theorem dX5_longestBlock_43 : decode cX5_longestBlock 43 = .ok (.iload_n 1, 1) := by decide +kernel
theorem dX5_longestBlock_44 : decode cX5_longestBlock 44 = .ok (.iload_n 2, 1) := by decide +kernel
theorem dX5_longestBlock_45 : decode cX5_longestBlock 45 = .ok (.invokestatic 186, 3) := by decide +kernel
theorem dX5_longestBlock_48 : decode cX5_longestBlock 48 = .ok (.istore_n 1, 1) := by decide +kernel
theorem dX5_longestBlock_49 : decode cX5_longestBlock 49 = .ok (.iinc 3 1, 3) := by decide +kernel
theorem dX5_longestBlock_52 : decode cX5_longestBlock 52 = .ok (.goto (-39), 3) := by decide +kernel
theorem dX5_longestBlock_55 : decode cX5_longestBlock 55 = .ok (.iload_n 1, 1) := by decide +kernel
theorem dX5_longestBlock_56 : decode cX5_longestBlock 56 = .ok (.ireturn, 1) := by decide +kernel
theorem dX5_deadlocks_0 : decode cX5_deadlocks 0 = .ok (.aload_n 0, 1) := by decide +kernel
theorem dX5_deadlocks_1 : decode cX5_deadlocks 1 = .ok (.iload_n 1, 1) := by decide +kernel
theorem dX5_deadlocks_2 : decode cX5_deadlocks 2 = .ok (.iload_n 2, 1) := by decide +kernel
theorem dX5_deadlocks_3 : decode cX5_deadlocks 3 = .ok (.invokevirtual 191, 3) := by decide +kernel
theorem dX5_deadlocks_6 : decode cX5_deadlocks 6 = .ok (.aload_n 0, 1) := by decide +kernel
theorem dX5_deadlocks_7 : decode cX5_deadlocks 7 = .ok (.iload_n 1, 1) := by decide +kernel
theorem dX5_deadlocks_8 : decode cX5_deadlocks 8 = .ok (.iload_n 2, 1) := by decide +kernel
theorem dX5_deadlocks_9 : decode cX5_deadlocks 9 = .ok (.invokevirtual 194, 3) := by decide +kernel
theorem dX5_deadlocks_12 : decode cX5_deadlocks 12 = .ok (.ifCond .ne 7, 3) := by decide +kernel
theorem dX5_deadlocks_15 : decode cX5_deadlocks 15 = .ok (.iconst 1, 1) := by decide +kernel
theorem dX5_deadlocks_16 : decode cX5_deadlocks 16 = .ok (.goto 4, 3) := by decide +kernel
theorem dX5_deadlocks_19 : decode cX5_deadlocks 19 = .ok (.iconst 0, 1) := by decide +kernel
theorem dX5_deadlocks_20 : decode cX5_deadlocks 20 = .ok (.ireturn, 1) := by decide +kernel
theorem dX5_makespanAfter_0 : decode cX5_makespanAfter 0 = .ok (.aload_n 0, 1) := by decide +kernel
theorem dX5_makespanAfter_1 : decode cX5_makespanAfter 1 = .ok (.iload_n 1, 1) := by decide +kernel
theorem dX5_makespanAfter_2 : decode cX5_makespanAfter 2 = .ok (.iload_n 2, 1) := by decide +kernel
theorem dX5_makespanAfter_3 : decode cX5_makespanAfter 3 = .ok (.invokevirtual 191, 3) := by decide +kernel
theorem dX5_makespanAfter_6 : decode cX5_makespanAfter 6 = .ok (.aload_n 0, 1) := by decide +kernel
theorem dX5_makespanAfter_7 : decode cX5_makespanAfter 7 = .ok (.iload_n 1, 1) := by decide +kernel
theorem dX5_makespanAfter_8 : decode cX5_makespanAfter 8 = .ok (.iload_n 2, 1) := by decide +kernel
theorem dX5_makespanAfter_9 : decode cX5_makespanAfter 9 = .ok (.invokevirtual 194, 3) := by decide +kernel
theorem dX5_makespanAfter_12 : decode cX5_makespanAfter 12 = .ok (.ifCond .eq 13, 3) := by decide +kernel
theorem dX5_makespanAfter_15 : decode cX5_makespanAfter 15 = .ok (.aload_n 0, 1) := by decide +kernel
theorem dX5_makespanAfter_16 : decode cX5_makespanAfter 16 = .ok (.getfield 52, 3) := by decide +kernel
theorem dX5_makespanAfter_19 : decode cX5_makespanAfter 19 = .ok (.invokevirtual 155, 3) := by decide +kernel
theorem dX5_makespanAfter_22 : decode cX5_makespanAfter 22 = .ok (.goto 4, 3) := by decide +kernel
theorem dX5_makespanAfter_25 : decode cX5_makespanAfter 25 = .ok (.iconst (-1), 1) := by decide +kernel
theorem dX5_makespanAfter_26 : decode cX5_makespanAfter 26 = .ok (.ireturn, 1) := by decide +kernel
theorem dX5_bestSwap_0 : decode cX5_bestSwap 0 = .ok (.iconst (-1), 1) := by decide +kernel
theorem dX5_bestSwap_1 : decode cX5_bestSwap 1 = .ok (.istore_n 1, 1) := by decide +kernel
theorem dX5_bestSwap_2 : decode cX5_bestSwap 2 = .ok (.iconst 0, 1) := by decide +kernel
theorem dX5_bestSwap_3 : decode cX5_bestSwap 3 = .ok (.istore_n 2, 1) := by decide +kernel
theorem dX5_bestSwap_4 : decode cX5_bestSwap 4 = .ok (.iconst 0, 1) := by decide +kernel
theorem dX5_bestSwap_5 : decode cX5_bestSwap 5 = .ok (.istore_n 3, 1) := by decide +kernel
theorem dX5_bestSwap_6 : decode cX5_bestSwap 6 = .ok (.iconst 0, 1) := by decide +kernel
theorem dX5_bestSwap_7 : decode cX5_bestSwap 7 = .ok (.istore 4, 2) := by decide +kernel
theorem dX5_bestSwap_9 : decode cX5_bestSwap 9 = .ok (.iload 4, 2) := by decide +kernel
theorem dX5_bestSwap_11 : decode cX5_bestSwap 11 = .ok (.aload_n 0, 1) := by decide +kernel
theorem dX5_bestSwap_12 : decode cX5_bestSwap 12 = .ok (.getfield 51, 3) := by decide +kernel
theorem dX5_bestSwap_15 : decode cX5_bestSwap 15 = .ok (.getfield 95, 3) := by decide +kernel
theorem dX5_bestSwap_18 : decode cX5_bestSwap 18 = .ok (.getfield 99, 3) := by decide +kernel
theorem dX5_bestSwap_21 : decode cX5_bestSwap 21 = .ok (.if_icmp .ge 93, 3) := by decide +kernel
theorem dX5_bestSwap_24 : decode cX5_bestSwap 24 = .ok (.iconst 0, 1) := by decide +kernel
theorem dX5_bestSwap_25 : decode cX5_bestSwap 25 = .ok (.istore 5, 2) := by decide +kernel
theorem dX5_bestSwap_27 : decode cX5_bestSwap 27 = .ok (.iload 5, 2) := by decide +kernel
theorem dX5_bestSwap_29 : decode cX5_bestSwap 29 = .ok (.aload_n 0, 1) := by decide +kernel
theorem dX5_bestSwap_30 : decode cX5_bestSwap 30 = .ok (.getfield 51, 3) := by decide +kernel
theorem dX5_bestSwap_33 : decode cX5_bestSwap 33 = .ok (.getfield 95, 3) := by decide +kernel
theorem dX5_bestSwap_36 : decode cX5_bestSwap 36 = .ok (.getfield 132, 3) := by decide +kernel
theorem dX5_bestSwap_39 : decode cX5_bestSwap 39 = .ok (.iload 4, 2) := by decide +kernel
theorem dX5_bestSwap_41 : decode cX5_bestSwap 41 = .ok (.iaload, 1) := by decide +kernel
theorem dX5_bestSwap_42 : decode cX5_bestSwap 42 = .ok (.iconst 1, 1) := by decide +kernel
theorem dX5_bestSwap_43 : decode cX5_bestSwap 43 = .ok (.isub, 1) := by decide +kernel
theorem dX5_bestSwap_44 : decode cX5_bestSwap 44 = .ok (.if_icmp .ge 64, 3) := by decide +kernel
theorem dX5_bestSwap_47 : decode cX5_bestSwap 47 = .ok (.aload_n 0, 1) := by decide +kernel
theorem dX5_bestSwap_48 : decode cX5_bestSwap 48 = .ok (.iload 4, 2) := by decide +kernel
theorem dX5_bestSwap_50 : decode cX5_bestSwap 50 = .ok (.iload 5, 2) := by decide +kernel
theorem dX5_bestSwap_52 : decode cX5_bestSwap 52 = .ok (.invokevirtual 194, 3) := by decide +kernel
theorem dX5_bestSwap_55 : decode cX5_bestSwap 55 = .ok (.ifCond .ne 6, 3) := by decide +kernel
theorem dX5_bestSwap_58 : decode cX5_bestSwap 58 = .ok (.goto 44, 3) := by decide +kernel
theorem dX5_bestSwap_61 : decode cX5_bestSwap 61 = .ok (.iload_n 1, 1) := by decide +kernel
theorem dX5_bestSwap_62 : decode cX5_bestSwap 62 = .ok (.ifCond .lt 15, 3) := by decide +kernel
theorem dX5_bestSwap_65 : decode cX5_bestSwap 65 = .ok (.aload_n 0, 1) := by decide +kernel
theorem dX5_bestSwap_66 : decode cX5_bestSwap 66 = .ok (.getfield 52, 3) := by decide +kernel
theorem dX5_bestSwap_69 : decode cX5_bestSwap 69 = .ok (.iload_n 2, 1) := by decide +kernel
theorem dX5_bestSwap_70 : decode cX5_bestSwap 70 = .ok (.iload_n 3, 1) := by decide +kernel
theorem dX5_bestSwap_71 : decode cX5_bestSwap 71 = .ok (.invokevirtual 198, 3) := by decide +kernel
theorem dX5_bestSwap_74 : decode cX5_bestSwap 74 = .ok (.ifCond .eq 28, 3) := by decide +kernel
theorem dX5_bestSwap_77 : decode cX5_bestSwap 77 = .ok (.bipush 100, 2) := by decide +kernel
theorem dX5_bestSwap_79 : decode cX5_bestSwap 79 = .ok (.iload 4, 2) := by decide +kernel
theorem dX5_bestSwap_81 : decode cX5_bestSwap 81 = .ok (.imul, 1) := by decide +kernel
theorem dX5_bestSwap_82 : decode cX5_bestSwap 82 = .ok (.iload 5, 2) := by decide +kernel
theorem dX5_bestSwap_84 : decode cX5_bestSwap 84 = .ok (.iadd, 1) := by decide +kernel
theorem dX5_bestSwap_85 : decode cX5_bestSwap 85 = .ok (.istore_n 1, 1) := by decide +kernel
theorem dX5_bestSwap_86 : decode cX5_bestSwap 86 = .ok (.aload_n 0, 1) := by decide +kernel
theorem dX5_bestSwap_87 : decode cX5_bestSwap 87 = .ok (.getfield 52, 3) := by decide +kernel
theorem dX5_bestSwap_90 : decode cX5_bestSwap 90 = .ok (.invokevirtual 155, 3) := by decide +kernel
theorem dX5_bestSwap_93 : decode cX5_bestSwap 93 = .ok (.istore_n 2, 1) := by decide +kernel
theorem dX5_bestSwap_94 : decode cX5_bestSwap 94 = .ok (.aload_n 0, 1) := by decide +kernel
theorem dX5_bestSwap_95 : decode cX5_bestSwap 95 = .ok (.getfield 52, 3) := by decide +kernel
theorem dX5_bestSwap_98 : decode cX5_bestSwap 98 = .ok (.invokevirtual 162, 3) := by decide +kernel
theorem dX5_bestSwap_101 : decode cX5_bestSwap 101 = .ok (.istore_n 3, 1) := by decide +kernel
theorem dX5_bestSwap_102 : decode cX5_bestSwap 102 = .ok (.iinc 5 1, 3) := by decide +kernel
theorem dX5_bestSwap_105 : decode cX5_bestSwap 105 = .ok (.goto (-78), 3) := by decide +kernel
theorem dX5_bestSwap_108 : decode cX5_bestSwap 108 = .ok (.iinc 4 1, 3) := by decide +kernel
theorem dX5_bestSwap_111 : decode cX5_bestSwap 111 = .ok (.goto (-102), 3) := by decide +kernel
theorem dX5_bestSwap_114 : decode cX5_bestSwap 114 = .ok (.iload_n 1, 1) := by decide +kernel
theorem dX5_bestSwap_115 : decode cX5_bestSwap 115 = .ok (.ireturn, 1) := by decide +kernel
theorem dX5_swap_0 : decode cX5_swap 0 = .ok (.aload_n 0, 1) := by decide +kernel
theorem dX5_swap_1 : decode cX5_swap 1 = .ok (.iload_n 1, 1) := by decide +kernel
theorem dX5_swap_2 : decode cX5_swap 2 = .ok (.iload_n 2, 1) := by decide +kernel
theorem dX5_swap_3 : decode cX5_swap 3 = .ok (.invokevirtual 191, 3) := by decide +kernel
theorem dX5_swap_6 : decode cX5_swap 6 = .ok (.aload_n 0, 1) := by decide +kernel
theorem dX5_swap_7 : decode cX5_swap 7 = .ok (.iload_n 1, 1) := by decide +kernel
theorem dX5_swap_8 : decode cX5_swap 8 = .ok (.iload_n 2, 1) := by decide +kernel
theorem dX5_swap_9 : decode cX5_swap 9 = .ok (.invokevirtual 194, 3) := by decide +kernel
theorem dX5_swap_12 : decode cX5_swap 12 = .ok (.ifCond .ne 13, 3) := by decide +kernel
theorem dX5_swap_15 : decode cX5_swap 15 = .ok (.new 201, 3) := by decide +kernel
theorem dX5_swap_18 : decode cX5_swap 18 = .ok (.dup, 1) := by decide +kernel
theorem dX5_swap_19 : decode cX5_swap 19 = .ok (.ldc 203, 2) := by decide +kernel
theorem dX5_swap_21 : decode cX5_swap 21 = .ok (.invokespecial 205, 3) := by decide +kernel
theorem dX5_swap_24 : decode cX5_swap 24 = .ok (.athrow, 1) := by decide +kernel
theorem dX5_swap_25 : decode cX5_swap 25 = .ok (.aload_n 0, 1) := by decide +kernel
theorem dX5_swap_26 : decode cX5_swap 26 = .ok (.invokevirtual 82, 3) := by decide +kernel
theorem dX5_swap_29 : decode cX5_swap 29 = .ok (.aload_n 0, 1) := by decide +kernel
theorem dX5_swap_30 : decode cX5_swap 30 = .ok (.invokevirtual 206, 3) := by decide +kernel
theorem dX5_swap_33 : decode cX5_swap 33 = .ok (.aload_n 0, 1) := by decide +kernel
theorem dX5_swap_34 : decode cX5_swap 34 = .ok (.getfield 43, 3) := by decide +kernel
theorem dX5_swap_37 : decode cX5_swap 37 = .ok (.invokevirtual 155, 3) := by decide +kernel
theorem dX5_swap_40 : decode cX5_swap 40 = .ok (.ireturn, 1) := by decide +kernel
theorem dX5_improve_0 : decode cX5_improve 0 = .ok (.iload_n 1, 1) := by decide +kernel
theorem dX5_improve_1 : decode cX5_improve 1 = .ok (.iconst 1, 1) := by decide +kernel
theorem dX5_improve_2 : decode cX5_improve 2 = .ok (.if_icmp .lt 9, 3) := by decide +kernel
theorem dX5_improve_5 : decode cX5_improve 5 = .ok (.iload_n 1, 1) := by decide +kernel
theorem dX5_improve_6 : decode cX5_improve 6 = .ok (.bipush 20, 2) := by decide +kernel
theorem dX5_improve_8 : decode cX5_improve 8 = .ok (.if_icmp .le 13, 3) := by decide +kernel
theorem dX5_improve_11 : decode cX5_improve 11 = .ok (.new 67, 3) := by decide +kernel
theorem dX5_improve_14 : decode cX5_improve 14 = .ok (.dup, 1) := by decide +kernel
theorem dX5_improve_15 : decode cX5_improve 15 = .ok (.ldc 209, 2) := by decide +kernel
theorem dX5_improve_17 : decode cX5_improve 17 = .ok (.invokespecial 71, 3) := by decide +kernel
theorem dX5_improve_20 : decode cX5_improve 20 = .ok (.athrow, 1) := by decide +kernel
theorem dX5_improve_21 : decode cX5_improve 21 = .ok (.aload_n 0, 1) := by decide +kernel
theorem dX5_improve_22 : decode cX5_improve 22 = .ok (.invokevirtual 82, 3) := by decide +kernel
theorem dX5_improve_25 : decode cX5_improve 25 = .ok (.iconst 0, 1) := by decide +kernel
theorem dX5_improve_26 : decode cX5_improve 26 = .ok (.istore_n 2, 1) := by decide +kernel
theorem dX5_improve_27 : decode cX5_improve 27 = .ok (.iload_n 2, 1) := by decide +kernel
theorem dX5_improve_28 : decode cX5_improve 28 = .ok (.iload_n 1, 1) := by decide +kernel
theorem dX5_improve_29 : decode cX5_improve 29 = .ok (.if_icmp .ge 57, 3) := by decide +kernel
theorem dX5_improve_32 : decode cX5_improve 32 = .ok (.aload_n 0, 1) := by decide +kernel
theorem dX5_improve_33 : decode cX5_improve 33 = .ok (.invokevirtual 211, 3) := by decide +kernel
theorem dX5_improve_36 : decode cX5_improve 36 = .ok (.istore_n 3, 1) := by decide +kernel
theorem dX5_improve_37 : decode cX5_improve 37 = .ok (.iload_n 3, 1) := by decide +kernel
theorem dX5_improve_38 : decode cX5_improve 38 = .ok (.ifCond .lt 36, 3) := by decide +kernel
theorem dX5_improve_41 : decode cX5_improve 41 = .ok (.aload_n 0, 1) := by decide +kernel
theorem dX5_improve_42 : decode cX5_improve 42 = .ok (.iload_n 3, 1) := by decide +kernel
theorem dX5_improve_43 : decode cX5_improve 43 = .ok (.bipush 100, 2) := by decide +kernel
theorem dX5_improve_45 : decode cX5_improve 45 = .ok (.idiv, 1) := by decide +kernel
theorem dX5_improve_46 : decode cX5_improve 46 = .ok (.iload_n 3, 1) := by decide +kernel
theorem dX5_improve_47 : decode cX5_improve 47 = .ok (.bipush 100, 2) := by decide +kernel
theorem dX5_improve_49 : decode cX5_improve 49 = .ok (.irem, 1) := by decide +kernel
theorem dX5_improve_50 : decode cX5_improve 50 = .ok (.invokevirtual 194, 3) := by decide +kernel
theorem dX5_improve_53 : decode cX5_improve 53 = .ok (.ifCond .eq 21, 3) := by decide +kernel
theorem dX5_improve_56 : decode cX5_improve 56 = .ok (.aload_n 0, 1) := by decide +kernel
theorem dX5_improve_57 : decode cX5_improve 57 = .ok (.getfield 52, 3) := by decide +kernel
theorem dX5_improve_60 : decode cX5_improve 60 = .ok (.aload_n 0, 1) := by decide +kernel
theorem dX5_improve_61 : decode cX5_improve 61 = .ok (.invokevirtual 214, 3) := by decide +kernel
theorem dX5_improve_64 : decode cX5_improve 64 = .ok (.aload_n 0, 1) := by decide +kernel
theorem dX5_improve_65 : decode cX5_improve 65 = .ok (.invokevirtual 217, 3) := by decide +kernel
theorem dX5_improve_68 : decode cX5_improve 68 = .ok (.invokevirtual 198, 3) := by decide +kernel
theorem dX5_improve_71 : decode cX5_improve 71 = .ok (.ifCond .ne 5, 3) := by decide +kernel
theorem dX5_improve_74 : decode cX5_improve 74 = .ok (.iload_n 2, 1) := by decide +kernel
theorem dX5_improve_75 : decode cX5_improve 75 = .ok (.ireturn, 1) := by decide +kernel
theorem dX5_improve_76 : decode cX5_improve 76 = .ok (.aload_n 0, 1) := by decide +kernel
theorem dX5_improve_77 : decode cX5_improve 77 = .ok (.invokevirtual 206, 3) := by decide +kernel
theorem dX5_improve_80 : decode cX5_improve 80 = .ok (.iinc 2 1, 3) := by decide +kernel
theorem dX5_improve_83 : decode cX5_improve 83 = .ok (.goto (-56), 3) := by decide +kernel
theorem dX5_improve_86 : decode cX5_improve 86 = .ok (.iload_n 1, 1) := by decide +kernel
theorem dX5_improve_87 : decode cX5_improve 87 = .ok (.ireturn, 1) := by decide +kernel
theorem dX5_place_0 : decode cX5_place 0 = .ok (.aload_n 0, 1) := by decide +kernel
theorem dX5_place_1 : decode cX5_place 1 = .ok (.iload_n 1, 1) := by decide +kernel
theorem dX5_place_2 : decode cX5_place 2 = .ok (.iload_n 2, 1) := by decide +kernel
theorem dX5_place_3 : decode cX5_place 3 = .ok (.invokevirtual 110, 3) := by decide +kernel
theorem dX5_place_6 : decode cX5_place 6 = .ok (.iload_n 1, 1) := by decide +kernel
theorem dX5_place_7 : decode cX5_place 7 = .ok (.iload_n 2, 1) := by decide +kernel
theorem dX5_place_8 : decode cX5_place 8 = .ok (.invokestatic 113, 3) := by decide +kernel
theorem dX5_place_11 : decode cX5_place 11 = .ok (.istore 4, 2) := by decide +kernel
theorem dX5_place_13 : decode cX5_place 13 = .ok (.aload_n 0, 1) := by decide +kernel
theorem dX5_place_14 : decode cX5_place 14 = .ok (.getfield 51, 3) := by decide +kernel
theorem dX5_place_17 : decode cX5_place 17 = .ok (.getfield 95, 3) := by decide +kernel
theorem dX5_place_20 : decode cX5_place 20 = .ok (.getfield 117, 3) := by decide +kernel
theorem dX5_place_23 : decode cX5_place 23 = .ok (.iload 4, 2) := by decide +kernel
theorem dX5_place_25 : decode cX5_place 25 = .ok (.iaload, 1) := by decide +kernel
theorem dX5_place_26 : decode cX5_place 26 = .ok (.istore 5, 2) := by decide +kernel
theorem dX5_place_28 : decode cX5_place 28 = .ok (.iload_n 3, 1) := by decide +kernel
theorem dX5_place_29 : decode cX5_place 29 = .ok (.ifCond .lt 20, 3) := by decide +kernel
theorem dX5_place_32 : decode cX5_place 32 = .ok (.iload_n 3, 1) := by decide +kernel
theorem dX5_place_33 : decode cX5_place 33 = .ok (.aload_n 0, 1) := by decide +kernel
theorem dX5_place_34 : decode cX5_place 34 = .ok (.getfield 51, 3) := by decide +kernel
theorem dX5_place_37 : decode cX5_place 37 = .ok (.getfield 95, 3) := by decide +kernel
theorem dX5_place_40 : decode cX5_place 40 = .ok (.getfield 132, 3) := by decide +kernel
theorem dX5_place_43 : decode cX5_place 43 = .ok (.iload 5, 2) := by decide +kernel
theorem dX5_place_45 : decode cX5_place 45 = .ok (.iaload, 1) := by decide +kernel
theorem dX5_place_46 : decode cX5_place 46 = .ok (.if_icmp .lt 13, 3) := by decide +kernel
theorem dX5_place_49 : decode cX5_place 49 = .ok (.new 135, 3) := by decide +kernel
theorem dX5_place_52 : decode cX5_place 52 = .ok (.dup, 1) := by decide +kernel
theorem dX5_place_53 : decode cX5_place 53 = .ok (.ldc 220, 2) := by decide +kernel
theorem dX5_place_55 : decode cX5_place 55 = .ok (.invokespecial 139, 3) := by decide +kernel
theorem dX5_place_58 : decode cX5_place 58 = .ok (.athrow, 1) := by decide +kernel
theorem dX5_place_59 : decode cX5_place 59 = .ok (.aload_n 0, 1) := by decide +kernel
theorem dX5_place_60 : decode cX5_place 60 = .ok (.getfield 55, 3) := by decide +kernel
theorem dX5_place_63 : decode cX5_place 63 = .ok (.aload_n 0, 1) := by decide +kernel
theorem dX5_place_64 : decode cX5_place 64 = .ok (.getfield 51, 3) := by decide +kernel
end
section
theorem dX5_place_67 : decode cX5_place 67 = .ok (.invokevirtual 222, 3) := by decide +kernel
theorem dX5_place_70 : decode cX5_place 70 = .ok (.aload_n 0, 1) := by decide +kernel
theorem dX5_place_71 : decode cX5_place 71 = .ok (.getfield 55, 3) := by decide +kernel
theorem dX5_place_74 : decode cX5_place 74 = .ok (.iload 5, 2) := by decide +kernel
theorem dX5_place_76 : decode cX5_place 76 = .ok (.aload_n 0, 1) := by decide +kernel
theorem dX5_place_77 : decode cX5_place 77 = .ok (.getfield 51, 3) := by decide +kernel
theorem dX5_place_80 : decode cX5_place 80 = .ok (.iload 4, 2) := by decide +kernel
theorem dX5_place_82 : decode cX5_place 82 = .ok (.invokevirtual 123, 3) := by decide +kernel
theorem dX5_place_85 : decode cX5_place 85 = .ok (.iload_n 3, 1) := by decide +kernel
theorem dX5_place_86 : decode cX5_place 86 = .ok (.invokevirtual 226, 3) := by decide +kernel
theorem dX5_place_89 : decode cX5_place 89 = .ok (.aload_n 0, 1) := by decide +kernel
theorem dX5_place_90 : decode cX5_place 90 = .ok (.getfield 52, 3) := by decide +kernel
theorem dX5_place_93 : decode cX5_place 93 = .ok (.invokevirtual 88, 3) := by decide +kernel
theorem dX5_place_96 : decode cX5_place 96 = .ok (.ifCond .ne 13, 3) := by decide +kernel
theorem dX5_place_99 : decode cX5_place 99 = .ok (.new 201, 3) := by decide +kernel
theorem dX5_place_102 : decode cX5_place 102 = .ok (.dup, 1) := by decide +kernel
theorem dX5_place_103 : decode cX5_place 103 = .ok (.ldc 230, 2) := by decide +kernel
theorem dX5_place_105 : decode cX5_place 105 = .ok (.invokespecial 205, 3) := by decide +kernel
theorem dX5_place_108 : decode cX5_place 108 = .ok (.athrow, 1) := by decide +kernel
theorem dX5_place_109 : decode cX5_place 109 = .ok (.aload_n 0, 1) := by decide +kernel
theorem dX5_place_110 : decode cX5_place 110 = .ok (.invokevirtual 82, 3) := by decide +kernel
theorem dX5_place_113 : decode cX5_place 113 = .ok (.aload_n 0, 1) := by decide +kernel
theorem dX5_place_114 : decode cX5_place 114 = .ok (.invokevirtual 206, 3) := by decide +kernel
theorem dX5_place_117 : decode cX5_place 117 = .ok (.aload_n 0, 1) := by decide +kernel
theorem dX5_place_118 : decode cX5_place 118 = .ok (.getfield 43, 3) := by decide +kernel
theorem dX5_place_121 : decode cX5_place 121 = .ok (.invokevirtual 155, 3) := by decide +kernel
theorem dX5_place_124 : decode cX5_place 124 = .ok (.ireturn, 1) := by decide +kernel
theorem dX5_setDuration_0 : decode cX5_setDuration 0 = .ok (.aload_n 0, 1) := by decide +kernel
theorem dX5_setDuration_1 : decode cX5_setDuration 1 = .ok (.iload_n 1, 1) := by decide +kernel
theorem dX5_setDuration_2 : decode cX5_setDuration 2 = .ok (.iload_n 2, 1) := by decide +kernel
theorem dX5_setDuration_3 : decode cX5_setDuration 3 = .ok (.invokevirtual 110, 3) := by decide +kernel
theorem dX5_setDuration_6 : decode cX5_setDuration 6 = .ok (.iload_n 3, 1) := by decide +kernel
theorem dX5_setDuration_7 : decode cX5_setDuration 7 = .ok (.iconst 1, 1) := by decide +kernel
theorem dX5_setDuration_8 : decode cX5_setDuration 8 = .ok (.if_icmp .lt 9, 3) := by decide +kernel
theorem dX5_setDuration_11 : decode cX5_setDuration 11 = .ok (.iload_n 3, 1) := by decide +kernel
theorem dX5_setDuration_12 : decode cX5_setDuration 12 = .ok (.bipush 99, 2) := by decide +kernel
theorem dX5_setDuration_14 : decode cX5_setDuration 14 = .ok (.if_icmp .le 13, 3) := by decide +kernel
theorem dX5_setDuration_17 : decode cX5_setDuration 17 = .ok (.new 67, 3) := by decide +kernel
theorem dX5_setDuration_20 : decode cX5_setDuration 20 = .ok (.dup, 1) := by decide +kernel
theorem dX5_setDuration_21 : decode cX5_setDuration 21 = .ok (.ldc 232, 2) := by decide +kernel
theorem dX5_setDuration_23 : decode cX5_setDuration 23 = .ok (.invokespecial 71, 3) := by decide +kernel
theorem dX5_setDuration_26 : decode cX5_setDuration 26 = .ok (.athrow, 1) := by decide +kernel
theorem dX5_setDuration_27 : decode cX5_setDuration 27 = .ok (.iload_n 1, 1) := by decide +kernel
theorem dX5_setDuration_28 : decode cX5_setDuration 28 = .ok (.iload_n 2, 1) := by decide +kernel
theorem dX5_setDuration_29 : decode cX5_setDuration 29 = .ok (.invokestatic 113, 3) := by decide +kernel
theorem dX5_setDuration_32 : decode cX5_setDuration 32 = .ok (.istore 4, 2) := by decide +kernel
theorem dX5_setDuration_34 : decode cX5_setDuration 34 = .ok (.aload_n 0, 1) := by decide +kernel
theorem dX5_setDuration_35 : decode cX5_setDuration 35 = .ok (.getfield 51, 3) := by decide +kernel
theorem dX5_setDuration_38 : decode cX5_setDuration 38 = .ok (.getfield 120, 3) := by decide +kernel
theorem dX5_setDuration_41 : decode cX5_setDuration 41 = .ok (.iload 4, 2) := by decide +kernel
theorem dX5_setDuration_43 : decode cX5_setDuration 43 = .ok (.iaload, 1) := by decide +kernel
theorem dX5_setDuration_44 : decode cX5_setDuration 44 = .ok (.istore 5, 2) := by decide +kernel
theorem dX5_setDuration_46 : decode cX5_setDuration 46 = .ok (.aload_n 0, 1) := by decide +kernel
theorem dX5_setDuration_47 : decode cX5_setDuration 47 = .ok (.invokevirtual 82, 3) := by decide +kernel
theorem dX5_setDuration_50 : decode cX5_setDuration 50 = .ok (.aload_n 0, 1) := by decide +kernel
theorem dX5_setDuration_51 : decode cX5_setDuration 51 = .ok (.getfield 51, 3) := by decide +kernel
theorem dX5_setDuration_54 : decode cX5_setDuration 54 = .ok (.getfield 120, 3) := by decide +kernel
theorem dX5_setDuration_57 : decode cX5_setDuration 57 = .ok (.iload 4, 2) := by decide +kernel
theorem dX5_setDuration_59 : decode cX5_setDuration 59 = .ok (.iload_n 3, 1) := by decide +kernel
theorem dX5_setDuration_60 : decode cX5_setDuration 60 = .ok (.iastore, 1) := by decide +kernel
theorem dX5_setDuration_61 : decode cX5_setDuration 61 = .ok (.aload_n 0, 1) := by decide +kernel
theorem dX5_setDuration_62 : decode cX5_setDuration 62 = .ok (.getfield 43, 3) := by decide +kernel
theorem dX5_setDuration_65 : decode cX5_setDuration 65 = .ok (.invokevirtual 88, 3) := by decide +kernel
theorem dX5_setDuration_68 : decode cX5_setDuration 68 = .ok (.pop, 1) := by decide +kernel
theorem dX5_setDuration_69 : decode cX5_setDuration 69 = .ok (.iload 5, 2) := by decide +kernel
theorem dX5_setDuration_71 : decode cX5_setDuration 71 = .ok (.ireturn, 1) := by decide +kernel
theorem dX5_restart_0 : decode cX5_restart 0 = .ok (.aload_n 0, 1) := by decide +kernel
theorem dX5_restart_1 : decode cX5_restart 1 = .ok (.invokevirtual 82, 3) := by decide +kernel
theorem dX5_restart_4 : decode cX5_restart 4 = .ok (.aload_n 0, 1) := by decide +kernel
theorem dX5_restart_5 : decode cX5_restart 5 = .ok (.getfield 51, 3) := by decide +kernel
theorem dX5_restart_8 : decode cX5_restart 8 = .ok (.invokevirtual 234, 3) := by decide +kernel
theorem dX5_restart_11 : decode cX5_restart 11 = .ok (.aload_n 0, 1) := by decide +kernel
theorem dX5_restart_12 : decode cX5_restart 12 = .ok (.getfield 43, 3) := by decide +kernel
theorem dX5_restart_15 : decode cX5_restart 15 = .ok (.invokevirtual 88, 3) := by decide +kernel
theorem dX5_restart_18 : decode cX5_restart 18 = .ok (.pop, 1) := by decide +kernel
theorem dX5_restart_19 : decode cX5_restart 19 = .ok (.aload_n 0, 1) := by decide +kernel
theorem dX5_restart_20 : decode cX5_restart 20 = .ok (.getfield 43, 3) := by decide +kernel
theorem dX5_restart_23 : decode cX5_restart 23 = .ok (.invokevirtual 155, 3) := by decide +kernel
theorem dX5_restart_26 : decode cX5_restart 26 = .ok (.ireturn, 1) := by decide +kernel
theorem dX5_undo_0 : decode cX5_undo 0 = .ok (.aload_n 0, 1) := by decide +kernel
theorem dX5_undo_1 : decode cX5_undo 1 = .ok (.getfield 32, 3) := by decide +kernel
theorem dX5_undo_4 : decode cX5_undo 4 = .ok (.ifCond .gt 5, 3) := by decide +kernel
theorem dX5_undo_7 : decode cX5_undo 7 = .ok (.iconst (-1), 1) := by decide +kernel
theorem dX5_undo_8 : decode cX5_undo 8 = .ok (.ireturn, 1) := by decide +kernel
theorem dX5_undo_9 : decode cX5_undo 9 = .ok (.aload_n 0, 1) := by decide +kernel
theorem dX5_undo_10 : decode cX5_undo 10 = .ok (.dup, 1) := by decide +kernel
theorem dX5_undo_11 : decode cX5_undo 11 = .ok (.getfield 32, 3) := by decide +kernel
theorem dX5_undo_14 : decode cX5_undo 14 = .ok (.iconst 1, 1) := by decide +kernel
theorem dX5_undo_15 : decode cX5_undo 15 = .ok (.isub, 1) := by decide +kernel
theorem dX5_undo_16 : decode cX5_undo 16 = .ok (.putfield 32, 3) := by decide +kernel
theorem dX5_undo_19 : decode cX5_undo 19 = .ok (.aload_n 0, 1) := by decide +kernel
theorem dX5_undo_20 : decode cX5_undo 20 = .ok (.getfield 25, 3) := by decide +kernel
theorem dX5_undo_23 : decode cX5_undo 23 = .ok (.aload_n 0, 1) := by decide +kernel
theorem dX5_undo_24 : decode cX5_undo 24 = .ok (.getfield 29, 3) := by decide +kernel
theorem dX5_undo_27 : decode cX5_undo 27 = .ok (.aload_n 0, 1) := by decide +kernel
theorem dX5_undo_28 : decode cX5_undo 28 = .ok (.getfield 32, 3) := by decide +kernel
theorem dX5_undo_31 : decode cX5_undo 31 = .ok (.iadd, 1) := by decide +kernel
theorem dX5_undo_32 : decode cX5_undo 32 = .ok (.bipush 8, 2) := by decide +kernel
theorem dX5_undo_34 : decode cX5_undo 34 = .ok (.irem, 1) := by decide +kernel
theorem dX5_undo_35 : decode cX5_undo 35 = .ok (.aaload, 1) := by decide +kernel
theorem dX5_undo_36 : decode cX5_undo 36 = .ok (.astore_n 1, 1) := by decide +kernel
theorem dX5_undo_37 : decode cX5_undo 37 = .ok (.aload_n 1, 1) := by decide +kernel
theorem dX5_undo_38 : decode cX5_undo 38 = .ok (.ifnull 19, 3) := by decide +kernel
theorem dX5_undo_41 : decode cX5_undo 41 = .ok (.aload_n 0, 1) := by decide +kernel
theorem dX5_undo_42 : decode cX5_undo 42 = .ok (.getfield 51, 3) := by decide +kernel
theorem dX5_undo_45 : decode cX5_undo 45 = .ok (.aload_n 1, 1) := by decide +kernel
theorem dX5_undo_46 : decode cX5_undo 46 = .ok (.invokevirtual 222, 3) := by decide +kernel
theorem dX5_undo_49 : decode cX5_undo 49 = .ok (.aload_n 0, 1) := by decide +kernel
theorem dX5_undo_50 : decode cX5_undo 50 = .ok (.getfield 43, 3) := by decide +kernel
theorem dX5_undo_53 : decode cX5_undo 53 = .ok (.invokevirtual 88, 3) := by decide +kernel
theorem dX5_undo_56 : decode cX5_undo 56 = .ok (.pop, 1) := by decide +kernel
theorem dX5_undo_57 : decode cX5_undo 57 = .ok (.aload_n 0, 1) := by decide +kernel
theorem dX5_undo_58 : decode cX5_undo 58 = .ok (.getfield 32, 3) := by decide +kernel
theorem dX5_undo_61 : decode cX5_undo 61 = .ok (.ireturn, 1) := by decide +kernel
theorem dX5_checksum_0 : decode cX5_checksum 0 = .ok (.ldc2_w 237, 3) := by decide +kernel
theorem dX5_checksum_3 : decode cX5_checksum 3 = .ok (.aload_n 0, 1) := by decide +kernel
theorem dX5_checksum_4 : decode cX5_checksum 4 = .ok (.getfield 43, 3) := by decide +kernel
theorem dX5_checksum_7 : decode cX5_checksum 7 = .ok (.invokevirtual 155, 3) := by decide +kernel
theorem dX5_checksum_10 : decode cX5_checksum 10 = .ok (.i2l, 1) := by decide +kernel
theorem dX5_checksum_11 : decode cX5_checksum 11 = .ok (.lmul, 1) := by decide +kernel
theorem dX5_checksum_12 : decode cX5_checksum 12 = .ok (.aload_n 0, 1) := by decide +kernel
theorem dX5_checksum_13 : decode cX5_checksum 13 = .ok (.getfield 43, 3) := by decide +kernel
theorem dX5_checksum_16 : decode cX5_checksum 16 = .ok (.invokevirtual 162, 3) := by decide +kernel
theorem dX5_checksum_19 : decode cX5_checksum 19 = .ok (.i2l, 1) := by decide +kernel
theorem dX5_checksum_20 : decode cX5_checksum 20 = .ok (.ladd, 1) := by decide +kernel
theorem dX5_checksum_21 : decode cX5_checksum 21 = .ok (.lstore_n 1, 1) := by decide +kernel
theorem dX5_checksum_22 : decode cX5_checksum 22 = .ok (.iconst 0, 1) := by decide +kernel
theorem dX5_checksum_23 : decode cX5_checksum 23 = .ok (.istore_n 3, 1) := by decide +kernel
theorem dX5_checksum_24 : decode cX5_checksum 24 = .ok (.iload_n 3, 1) := by decide +kernel
theorem dX5_checksum_25 : decode cX5_checksum 25 = .ok (.aload_n 0, 1) := by decide +kernel
theorem dX5_checksum_26 : decode cX5_checksum 26 = .ok (.getfield 51, 3) := by decide +kernel
theorem dX5_checksum_29 : decode cX5_checksum 29 = .ok (.getfield 95, 3) := by decide +kernel
theorem dX5_checksum_32 : decode cX5_checksum 32 = .ok (.getfield 99, 3) := by decide +kernel
theorem dX5_checksum_35 : decode cX5_checksum 35 = .ok (.if_icmp .ge 61, 3) := by decide +kernel
theorem dX5_checksum_38 : decode cX5_checksum 38 = .ok (.iconst 0, 1) := by decide +kernel
theorem dX5_checksum_39 : decode cX5_checksum 39 = .ok (.istore 4, 2) := by decide +kernel
theorem dX5_checksum_41 : decode cX5_checksum 41 = .ok (.iload 4, 2) := by decide +kernel
theorem dX5_checksum_43 : decode cX5_checksum 43 = .ok (.aload_n 0, 1) := by decide +kernel
theorem dX5_checksum_44 : decode cX5_checksum 44 = .ok (.getfield 51, 3) := by decide +kernel
theorem dX5_checksum_47 : decode cX5_checksum 47 = .ok (.getfield 95, 3) := by decide +kernel
theorem dX5_checksum_50 : decode cX5_checksum 50 = .ok (.getfield 132, 3) := by decide +kernel
theorem dX5_checksum_53 : decode cX5_checksum 53 = .ok (.iload_n 3, 1) := by decide +kernel
theorem dX5_checksum_54 : decode cX5_checksum 54 = .ok (.iaload, 1) := by decide +kernel
theorem dX5_checksum_55 : decode cX5_checksum 55 = .ok (.if_icmp .ge 35, 3) := by decide +kernel
theorem dX5_checksum_58 : decode cX5_checksum 58 = .ok (.ldc2_w 237, 3) := by decide +kernel
theorem dX5_checksum_61 : decode cX5_checksum 61 = .ok (.lload_n 1, 1) := by decide +kernel
theorem dX5_checksum_62 : decode cX5_checksum 62 = .ok (.lmul, 1) := by decide +kernel
theorem dX5_checksum_63 : decode cX5_checksum 63 = .ok (.aload_n 0, 1) := by decide +kernel
theorem dX5_checksum_64 : decode cX5_checksum 64 = .ok (.getfield 51, 3) := by decide +kernel
theorem dX5_checksum_67 : decode cX5_checksum 67 = .ok (.getfield 140, 3) := by decide +kernel
theorem dX5_checksum_70 : decode cX5_checksum 70 = .ok (.iload_n 3, 1) := by decide +kernel
theorem dX5_checksum_71 : decode cX5_checksum 71 = .ok (.bipush 6, 2) := by decide +kernel
theorem dX5_checksum_73 : decode cX5_checksum 73 = .ok (.imul, 1) := by decide +kernel
theorem dX5_checksum_74 : decode cX5_checksum 74 = .ok (.iload 4, 2) := by decide +kernel
theorem dX5_checksum_76 : decode cX5_checksum 76 = .ok (.iadd, 1) := by decide +kernel
theorem dX5_checksum_77 : decode cX5_checksum 77 = .ok (.iaload, 1) := by decide +kernel
theorem dX5_checksum_78 : decode cX5_checksum 78 = .ok (.invokestatic 143, 3) := by decide +kernel
theorem dX5_checksum_81 : decode cX5_checksum 81 = .ok (.i2l, 1) := by decide +kernel
theorem dX5_checksum_82 : decode cX5_checksum 82 = .ok (.ladd, 1) := by decide +kernel
theorem dX5_checksum_83 : decode cX5_checksum 83 = .ok (.lstore_n 1, 1) := by decide +kernel
theorem dX5_checksum_84 : decode cX5_checksum 84 = .ok (.iinc 4 1, 3) := by decide +kernel
theorem dX5_checksum_87 : decode cX5_checksum 87 = .ok (.goto (-46), 3) := by decide +kernel
theorem dX5_checksum_90 : decode cX5_checksum 90 = .ok (.iinc 3 1, 3) := by decide +kernel
theorem dX5_checksum_93 : decode cX5_checksum 93 = .ok (.goto (-69), 3) := by decide +kernel
theorem dX5_checksum_96 : decode cX5_checksum 96 = .ok (.iconst 0, 1) := by decide +kernel
theorem dX5_checksum_97 : decode cX5_checksum 97 = .ok (.istore_n 3, 1) := by decide +kernel
theorem dX5_checksum_98 : decode cX5_checksum 98 = .ok (.iload_n 3, 1) := by decide +kernel
theorem dX5_checksum_99 : decode cX5_checksum 99 = .ok (.aload_n 0, 1) := by decide +kernel
theorem dX5_checksum_100 : decode cX5_checksum 100 = .ok (.getfield 51, 3) := by decide +kernel
theorem dX5_checksum_103 : decode cX5_checksum 103 = .ok (.getfield 95, 3) := by decide +kernel
theorem dX5_checksum_106 : decode cX5_checksum 106 = .ok (.getfield 92, 3) := by decide +kernel
theorem dX5_checksum_109 : decode cX5_checksum 109 = .ok (.if_icmp .ge 57, 3) := by decide +kernel
theorem dX5_checksum_112 : decode cX5_checksum 112 = .ok (.iconst 0, 1) := by decide +kernel
theorem dX5_checksum_113 : decode cX5_checksum 113 = .ok (.istore 4, 2) := by decide +kernel
theorem dX5_checksum_115 : decode cX5_checksum 115 = .ok (.iload 4, 2) := by decide +kernel
theorem dX5_checksum_117 : decode cX5_checksum 117 = .ok (.aload_n 0, 1) := by decide +kernel
theorem dX5_checksum_118 : decode cX5_checksum 118 = .ok (.getfield 51, 3) := by decide +kernel
theorem dX5_checksum_121 : decode cX5_checksum 121 = .ok (.getfield 95, 3) := by decide +kernel
theorem dX5_checksum_124 : decode cX5_checksum 124 = .ok (.getfield 106, 3) := by decide +kernel
theorem dX5_checksum_127 : decode cX5_checksum 127 = .ok (.iload_n 3, 1) := by decide +kernel
theorem dX5_checksum_128 : decode cX5_checksum 128 = .ok (.iaload, 1) := by decide +kernel
theorem dX5_checksum_129 : decode cX5_checksum 129 = .ok (.if_icmp .ge 31, 3) := by decide +kernel
theorem dX5_checksum_132 : decode cX5_checksum 132 = .ok (.ldc2_w 237, 3) := by decide +kernel
theorem dX5_checksum_135 : decode cX5_checksum 135 = .ok (.lload_n 1, 1) := by decide +kernel
theorem dX5_checksum_136 : decode cX5_checksum 136 = .ok (.lmul, 1) := by decide +kernel
theorem dX5_checksum_137 : decode cX5_checksum 137 = .ok (.aload_n 0, 1) := by decide +kernel
theorem dX5_checksum_138 : decode cX5_checksum 138 = .ok (.getfield 43, 3) := by decide +kernel
theorem dX5_checksum_141 : decode cX5_checksum 141 = .ok (.getfield 146, 3) := by decide +kernel
theorem dX5_checksum_144 : decode cX5_checksum 144 = .ok (.iload_n 3, 1) := by decide +kernel
theorem dX5_checksum_145 : decode cX5_checksum 145 = .ok (.iload 4, 2) := by decide +kernel
theorem dX5_checksum_147 : decode cX5_checksum 147 = .ok (.invokestatic 113, 3) := by decide +kernel
theorem dX5_checksum_150 : decode cX5_checksum 150 = .ok (.iaload, 1) := by decide +kernel
theorem dX5_checksum_151 : decode cX5_checksum 151 = .ok (.i2l, 1) := by decide +kernel
theorem dX5_checksum_152 : decode cX5_checksum 152 = .ok (.ladd, 1) := by decide +kernel
theorem dX5_checksum_153 : decode cX5_checksum 153 = .ok (.lstore_n 1, 1) := by decide +kernel
theorem dX5_checksum_154 : decode cX5_checksum 154 = .ok (.iinc 4 1, 3) := by decide +kernel
theorem dX5_checksum_157 : decode cX5_checksum 157 = .ok (.goto (-42), 3) := by decide +kernel
theorem dX5_checksum_160 : decode cX5_checksum 160 = .ok (.iinc 3 1, 3) := by decide +kernel
theorem dX5_checksum_163 : decode cX5_checksum 163 = .ok (.goto (-65), 3) := by decide +kernel
theorem dX5_checksum_166 : decode cX5_checksum 166 = .ok (.lload_n 1, 1) := by decide +kernel
theorem dX5_checksum_167 : decode cX5_checksum 167 = .ok (.lreturn, 1) := by decide +kernel
theorem dX5_needMachine_0 : decode cX5_needMachine 0 = .ok (.iload_n 1, 1) := by decide +kernel
theorem dX5_needMachine_1 : decode cX5_needMachine 1 = .ok (.ifCond .lt 17, 3) := by decide +kernel
theorem dX5_needMachine_4 : decode cX5_needMachine 4 = .ok (.iload_n 1, 1) := by decide +kernel
theorem dX5_needMachine_5 : decode cX5_needMachine 5 = .ok (.aload_n 0, 1) := by decide +kernel
theorem dX5_needMachine_6 : decode cX5_needMachine 6 = .ok (.getfield 51, 3) := by decide +kernel
theorem dX5_needMachine_9 : decode cX5_needMachine 9 = .ok (.getfield 95, 3) := by decide +kernel
theorem dX5_needMachine_12 : decode cX5_needMachine 12 = .ok (.getfield 99, 3) := by decide +kernel
theorem dX5_needMachine_15 : decode cX5_needMachine 15 = .ok (.if_icmp .lt 13, 3) := by decide +kernel
theorem dX5_needMachine_18 : decode cX5_needMachine 18 = .ok (.new 135, 3) := by decide +kernel
theorem dX5_needMachine_21 : decode cX5_needMachine 21 = .ok (.dup, 1) := by decide +kernel
theorem dX5_needMachine_22 : decode cX5_needMachine 22 = .ok (.ldc 239, 2) := by decide +kernel
theorem dX5_needMachine_24 : decode cX5_needMachine 24 = .ok (.invokespecial 139, 3) := by decide +kernel
theorem dX5_needMachine_27 : decode cX5_needMachine 27 = .ok (.athrow, 1) := by decide +kernel
theorem dX5_needMachine_28 : decode cX5_needMachine 28 = .ok (.return_, 1) := by decide +kernel
theorem dX5_needJob_0 : decode cX5_needJob 0 = .ok (.iload_n 1, 1) := by decide +kernel
theorem dX5_needJob_1 : decode cX5_needJob 1 = .ok (.ifCond .lt 17, 3) := by decide +kernel
theorem dX5_needJob_4 : decode cX5_needJob 4 = .ok (.iload_n 1, 1) := by decide +kernel
theorem dX5_needJob_5 : decode cX5_needJob 5 = .ok (.aload_n 0, 1) := by decide +kernel
theorem dX5_needJob_6 : decode cX5_needJob 6 = .ok (.getfield 51, 3) := by decide +kernel
theorem dX5_needJob_9 : decode cX5_needJob 9 = .ok (.getfield 95, 3) := by decide +kernel
theorem dX5_needJob_12 : decode cX5_needJob 12 = .ok (.getfield 92, 3) := by decide +kernel
theorem dX5_needJob_15 : decode cX5_needJob 15 = .ok (.if_icmp .lt 13, 3) := by decide +kernel
theorem dX5_needJob_18 : decode cX5_needJob 18 = .ok (.new 135, 3) := by decide +kernel
theorem dX5_needJob_21 : decode cX5_needJob 21 = .ok (.dup, 1) := by decide +kernel
theorem dX5_needJob_22 : decode cX5_needJob 22 = .ok (.ldc 241, 2) := by decide +kernel
theorem dX5_needJob_24 : decode cX5_needJob 24 = .ok (.invokespecial 139, 3) := by decide +kernel
theorem dX5_needJob_27 : decode cX5_needJob 27 = .ok (.athrow, 1) := by decide +kernel
theorem dX5_needJob_28 : decode cX5_needJob 28 = .ok (.return_, 1) := by decide +kernel
theorem dX5_needOperation_0 : decode cX5_needOperation 0 = .ok (.aload_n 0, 1) := by decide +kernel
theorem dX5_needOperation_1 : decode cX5_needOperation 1 = .ok (.iload_n 1, 1) := by decide +kernel
theorem dX5_needOperation_2 : decode cX5_needOperation 2 = .ok (.invokevirtual 102, 3) := by decide +kernel
theorem dX5_needOperation_5 : decode cX5_needOperation 5 = .ok (.iload_n 2, 1) := by decide +kernel
theorem dX5_needOperation_6 : decode cX5_needOperation 6 = .ok (.ifCond .lt 19, 3) := by decide +kernel
theorem dX5_needOperation_9 : decode cX5_needOperation 9 = .ok (.iload_n 2, 1) := by decide +kernel
theorem dX5_needOperation_10 : decode cX5_needOperation 10 = .ok (.aload_n 0, 1) := by decide +kernel
theorem dX5_needOperation_11 : decode cX5_needOperation 11 = .ok (.getfield 51, 3) := by decide +kernel
theorem dX5_needOperation_14 : decode cX5_needOperation 14 = .ok (.getfield 95, 3) := by decide +kernel
theorem dX5_needOperation_17 : decode cX5_needOperation 17 = .ok (.getfield 106, 3) := by decide +kernel
theorem dX5_needOperation_20 : decode cX5_needOperation 20 = .ok (.iload_n 1, 1) := by decide +kernel
theorem dX5_needOperation_21 : decode cX5_needOperation 21 = .ok (.iaload, 1) := by decide +kernel
theorem dX5_needOperation_22 : decode cX5_needOperation 22 = .ok (.if_icmp .lt 13, 3) := by decide +kernel
theorem dX5_needOperation_25 : decode cX5_needOperation 25 = .ok (.new 135, 3) := by decide +kernel
theorem dX5_needOperation_28 : decode cX5_needOperation 28 = .ok (.dup, 1) := by decide +kernel
theorem dX5_needOperation_29 : decode cX5_needOperation 29 = .ok (.ldc 243, 2) := by decide +kernel
theorem dX5_needOperation_31 : decode cX5_needOperation 31 = .ok (.invokespecial 139, 3) := by decide +kernel
theorem dX5_needOperation_34 : decode cX5_needOperation 34 = .ok (.athrow, 1) := by decide +kernel
theorem dX5_needOperation_35 : decode cX5_needOperation 35 = .ok (.return_, 1) := by decide +kernel
theorem dX5_needSwap_0 : decode cX5_needSwap 0 = .ok (.aload_n 0, 1) := by decide +kernel
theorem dX5_needSwap_1 : decode cX5_needSwap 1 = .ok (.iload_n 1, 1) := by decide +kernel
theorem dX5_needSwap_2 : decode cX5_needSwap 2 = .ok (.invokevirtual 129, 3) := by decide +kernel
theorem dX5_needSwap_5 : decode cX5_needSwap 5 = .ok (.iload_n 2, 1) := by decide +kernel
theorem dX5_needSwap_6 : decode cX5_needSwap 6 = .ok (.ifCond .lt 21, 3) := by decide +kernel
theorem dX5_needSwap_9 : decode cX5_needSwap 9 = .ok (.iload_n 2, 1) := by decide +kernel
theorem dX5_needSwap_10 : decode cX5_needSwap 10 = .ok (.aload_n 0, 1) := by decide +kernel
theorem dX5_needSwap_11 : decode cX5_needSwap 11 = .ok (.getfield 51, 3) := by decide +kernel
theorem dX5_needSwap_14 : decode cX5_needSwap 14 = .ok (.getfield 95, 3) := by decide +kernel
theorem dX5_needSwap_17 : decode cX5_needSwap 17 = .ok (.getfield 132, 3) := by decide +kernel
theorem dX5_needSwap_20 : decode cX5_needSwap 20 = .ok (.iload_n 1, 1) := by decide +kernel
theorem dX5_needSwap_21 : decode cX5_needSwap 21 = .ok (.iaload, 1) := by decide +kernel
theorem dX5_needSwap_22 : decode cX5_needSwap 22 = .ok (.iconst 1, 1) := by decide +kernel
theorem dX5_needSwap_23 : decode cX5_needSwap 23 = .ok (.isub, 1) := by decide +kernel
theorem dX5_needSwap_24 : decode cX5_needSwap 24 = .ok (.if_icmp .lt 13, 3) := by decide +kernel
theorem dX5_needSwap_27 : decode cX5_needSwap 27 = .ok (.new 135, 3) := by decide +kernel
theorem dX5_needSwap_30 : decode cX5_needSwap 30 = .ok (.dup, 1) := by decide +kernel
theorem dX5_needSwap_31 : decode cX5_needSwap 31 = .ok (.ldc 245, 2) := by decide +kernel
theorem dX5_needSwap_33 : decode cX5_needSwap 33 = .ok (.invokespecial 139, 3) := by decide +kernel
theorem dX5_needSwap_36 : decode cX5_needSwap 36 = .ok (.athrow, 1) := by decide +kernel
theorem dX5_needSwap_37 : decode cX5_needSwap 37 = .ok (.return_, 1) := by decide +kernel
theorem dX5_remember_0 : decode cX5_remember 0 = .ok (.aload_n 0, 1) := by decide +kernel
theorem dX5_remember_1 : decode cX5_remember 1 = .ok (.getfield 25, 3) := by decide +kernel
theorem dX5_remember_4 : decode cX5_remember 4 = .ok (.aload_n 0, 1) := by decide +kernel
theorem dX5_remember_5 : decode cX5_remember 5 = .ok (.getfield 29, 3) := by decide +kernel
theorem dX5_remember_8 : decode cX5_remember 8 = .ok (.aload_n 0, 1) := by decide +kernel
theorem dX5_remember_9 : decode cX5_remember 9 = .ok (.getfield 32, 3) := by decide +kernel
theorem dX5_remember_12 : decode cX5_remember 12 = .ok (.iadd, 1) := by decide +kernel
theorem dX5_remember_13 : decode cX5_remember 13 = .ok (.bipush 8, 2) := by decide +kernel
theorem dX5_remember_15 : decode cX5_remember 15 = .ok (.irem, 1) := by decide +kernel
theorem dX5_remember_16 : decode cX5_remember 16 = .ok (.aaload, 1) := by decide +kernel
theorem dX5_remember_17 : decode cX5_remember 17 = .ok (.astore_n 1, 1) := by decide +kernel
theorem dX5_remember_18 : decode cX5_remember 18 = .ok (.aload_n 1, 1) := by decide +kernel
theorem dX5_remember_19 : decode cX5_remember 19 = .ok (.ifnull 11, 3) := by decide +kernel
theorem dX5_remember_22 : decode cX5_remember 22 = .ok (.aload_n 1, 1) := by decide +kernel
theorem dX5_remember_23 : decode cX5_remember 23 = .ok (.aload_n 0, 1) := by decide +kernel
theorem dX5_remember_24 : decode cX5_remember 24 = .ok (.getfield 51, 3) := by decide +kernel
theorem dX5_remember_27 : decode cX5_remember 27 = .ok (.invokevirtual 222, 3) := by decide +kernel
theorem dX5_remember_30 : decode cX5_remember 30 = .ok (.aload_n 0, 1) := by decide +kernel
theorem dX5_remember_31 : decode cX5_remember 31 = .ok (.getfield 32, 3) := by decide +kernel
theorem dX5_remember_34 : decode cX5_remember 34 = .ok (.bipush 8, 2) := by decide +kernel
theorem dX5_remember_36 : decode cX5_remember 36 = .ok (.if_icmp .ge 16, 3) := by decide +kernel
theorem dX5_remember_39 : decode cX5_remember 39 = .ok (.aload_n 0, 1) := by decide +kernel
theorem dX5_remember_40 : decode cX5_remember 40 = .ok (.dup, 1) := by decide +kernel
theorem dX5_remember_41 : decode cX5_remember 41 = .ok (.getfield 32, 3) := by decide +kernel
theorem dX5_remember_44 : decode cX5_remember 44 = .ok (.iconst 1, 1) := by decide +kernel
theorem dX5_remember_45 : decode cX5_remember 45 = .ok (.iadd, 1) := by decide +kernel
theorem dX5_remember_46 : decode cX5_remember 46 = .ok (.putfield 32, 3) := by decide +kernel
theorem dX5_remember_49 : decode cX5_remember 49 = .ok (.goto 16, 3) := by decide +kernel
theorem dX5_remember_52 : decode cX5_remember 52 = .ok (.aload_n 0, 1) := by decide +kernel
theorem dX5_remember_53 : decode cX5_remember 53 = .ok (.aload_n 0, 1) := by decide +kernel
theorem dX5_remember_54 : decode cX5_remember 54 = .ok (.getfield 29, 3) := by decide +kernel
theorem dX5_remember_57 : decode cX5_remember 57 = .ok (.iconst 1, 1) := by decide +kernel
theorem dX5_remember_58 : decode cX5_remember 58 = .ok (.iadd, 1) := by decide +kernel
theorem dX5_remember_59 : decode cX5_remember 59 = .ok (.bipush 8, 2) := by decide +kernel
theorem dX5_remember_61 : decode cX5_remember 61 = .ok (.irem, 1) := by decide +kernel
theorem dX5_remember_62 : decode cX5_remember 62 = .ok (.putfield 29, 3) := by decide +kernel
theorem dX5_remember_65 : decode cX5_remember 65 = .ok (.return_, 1) := by decide +kernel
theorem dX5_trySwap_0 : decode cX5_trySwap 0 = .ok (.aload_n 0, 1) := by decide +kernel
theorem dX5_trySwap_1 : decode cX5_trySwap 1 = .ok (.getfield 55, 3) := by decide +kernel
theorem dX5_trySwap_4 : decode cX5_trySwap 4 = .ok (.aload_n 0, 1) := by decide +kernel
theorem dX5_trySwap_5 : decode cX5_trySwap 5 = .ok (.getfield 51, 3) := by decide +kernel
theorem dX5_trySwap_8 : decode cX5_trySwap 8 = .ok (.invokevirtual 222, 3) := by decide +kernel
theorem dX5_trySwap_11 : decode cX5_trySwap 11 = .ok (.aload_n 0, 1) := by decide +kernel
theorem dX5_trySwap_12 : decode cX5_trySwap 12 = .ok (.getfield 55, 3) := by decide +kernel
theorem dX5_trySwap_15 : decode cX5_trySwap 15 = .ok (.iload_n 1, 1) := by decide +kernel
theorem dX5_trySwap_16 : decode cX5_trySwap 16 = .ok (.iload_n 2, 1) := by decide +kernel
theorem dX5_trySwap_17 : decode cX5_trySwap 17 = .ok (.invokevirtual 247, 3) := by decide +kernel
theorem dX5_trySwap_20 : decode cX5_trySwap 20 = .ok (.aload_n 0, 1) := by decide +kernel
theorem dX5_trySwap_21 : decode cX5_trySwap 21 = .ok (.getfield 52, 3) := by decide +kernel
theorem dX5_trySwap_24 : decode cX5_trySwap 24 = .ok (.invokevirtual 88, 3) := by decide +kernel
theorem dX5_trySwap_27 : decode cX5_trySwap 27 = .ok (.ireturn, 1) := by decide +kernel
theorem dX5_adoptTrial_0 : decode cX5_adoptTrial 0 = .ok (.aload_n 0, 1) := by decide +kernel
theorem dX5_adoptTrial_1 : decode cX5_adoptTrial 1 = .ok (.getfield 51, 3) := by decide +kernel
theorem dX5_adoptTrial_4 : decode cX5_adoptTrial 4 = .ok (.aload_n 0, 1) := by decide +kernel
theorem dX5_adoptTrial_5 : decode cX5_adoptTrial 5 = .ok (.getfield 55, 3) := by decide +kernel
theorem dX5_adoptTrial_8 : decode cX5_adoptTrial 8 = .ok (.invokevirtual 222, 3) := by decide +kernel
theorem dX5_adoptTrial_11 : decode cX5_adoptTrial 11 = .ok (.aload_n 0, 1) := by decide +kernel
theorem dX5_adoptTrial_12 : decode cX5_adoptTrial 12 = .ok (.getfield 43, 3) := by decide +kernel
theorem dX5_adoptTrial_15 : decode cX5_adoptTrial 15 = .ok (.invokevirtual 88, 3) := by decide +kernel
theorem dX5_adoptTrial_18 : decode cX5_adoptTrial 18 = .ok (.pop, 1) := by decide +kernel
theorem dX5_adoptTrial_19 : decode cX5_adoptTrial 19 = .ok (.return_, 1) := by decide +kernel
theorem dX5_idOf_0 : decode cX5_idOf 0 = .ok (.iload_n 0, 1) := by decide +kernel
theorem dX5_idOf_1 : decode cX5_idOf 1 = .ok (.bipush 6, 2) := by decide +kernel
theorem dX5_idOf_3 : decode cX5_idOf 3 = .ok (.imul, 1) := by decide +kernel
theorem dX5_idOf_4 : decode cX5_idOf 4 = .ok (.iload_n 1, 1) := by decide +kernel
theorem dX5_idOf_5 : decode cX5_idOf 5 = .ok (.iadd, 1) := by decide +kernel
theorem dX5_idOf_6 : decode cX5_idOf 6 = .ok (.ireturn, 1) := by decide +kernel
theorem dX5_codeOf_0 : decode cX5_codeOf 0 = .ok (.bipush 10, 2) := by decide +kernel
theorem dX5_codeOf_2 : decode cX5_codeOf 2 = .ok (.iload_n 0, 1) := by decide +kernel
theorem dX5_codeOf_3 : decode cX5_codeOf 3 = .ok (.bipush 6, 2) := by decide +kernel
theorem dX5_codeOf_5 : decode cX5_codeOf 5 = .ok (.idiv, 1) := by decide +kernel
theorem dX5_codeOf_6 : decode cX5_codeOf 6 = .ok (.imul, 1) := by decide +kernel
theorem dX5_codeOf_7 : decode cX5_codeOf 7 = .ok (.iload_n 0, 1) := by decide +kernel
theorem dX5_codeOf_8 : decode cX5_codeOf 8 = .ok (.bipush 6, 2) := by decide +kernel
theorem dX5_codeOf_10 : decode cX5_codeOf 10 = .ok (.irem, 1) := by decide +kernel
theorem dX5_codeOf_11 : decode cX5_codeOf 11 = .ok (.iadd, 1) := by decide +kernel
theorem dX5_codeOf_12 : decode cX5_codeOf 12 = .ok (.ireturn, 1) := by decide +kernel
theorem dX6_init_0 : decode cX6_init 0 = .ok (.aload_n 0, 1) := by decide +kernel
theorem dX6_init_1 : decode cX6_init 1 = .ok (.invokespecial 3, 3) := by decide +kernel
theorem dX6_init_4 : decode cX6_init 4 = .ok (.aload_n 0, 1) := by decide +kernel
theorem dX6_init_5 : decode cX6_init 5 = .ok (.sipush 900, 3) := by decide +kernel
theorem dX6_init_8 : decode cX6_init 8 = .ok (.newarray .int, 2) := by decide +kernel
theorem dX6_init_10 : decode cX6_init 10 = .ok (.putfield 9, 3) := by decide +kernel
theorem dX6_init_13 : decode cX6_init 13 = .ok (.aload_n 0, 1) := by decide +kernel
theorem dX6_init_14 : decode cX6_init 14 = .ok (.iconst (-1), 1) := by decide +kernel
theorem dX6_init_15 : decode cX6_init 15 = .ok (.putfield 13, 3) := by decide +kernel
theorem dX6_init_18 : decode cX6_init 18 = .ok (.aload_n 0, 1) := by decide +kernel
theorem dX6_init_19 : decode cX6_init 19 = .ok (.sipush 1655, 3) := by decide +kernel
theorem dX6_init_22 : decode cX6_init 22 = .ok (.newarray .int, 2) := by decide +kernel
theorem dX6_init_24 : decode cX6_init 24 = .ok (.putfield 17, 3) := by decide +kernel
theorem dX6_init_27 : decode cX6_init 27 = .ok (.aload_n 0, 1) := by decide +kernel
theorem dX6_init_28 : decode cX6_init 28 = .ok (.sipush 1655, 3) := by decide +kernel
theorem dX6_init_31 : decode cX6_init 31 = .ok (.newarray .int, 2) := by decide +kernel
theorem dX6_init_33 : decode cX6_init 33 = .ok (.putfield 20, 3) := by decide +kernel
theorem dX6_init_36 : decode cX6_init 36 = .ok (.aload_n 0, 1) := by decide +kernel
theorem dX6_init_37 : decode cX6_init 37 = .ok (.sipush 1655, 3) := by decide +kernel
theorem dX6_init_40 : decode cX6_init 40 = .ok (.newarray .int, 2) := by decide +kernel
theorem dX6_init_42 : decode cX6_init 42 = .ok (.putfield 23, 3) := by decide +kernel
theorem dX6_init_45 : decode cX6_init 45 = .ok (.aload_n 0, 1) := by decide +kernel
theorem dX6_init_46 : decode cX6_init 46 = .ok (.bipush 8, 2) := by decide +kernel
theorem dX6_init_48 : decode cX6_init 48 = .ok (.sipush 1655, 3) := by decide +kernel
theorem dX6_init_51 : decode cX6_init 51 = .ok (.multianewarray 26 2, 4) := by decide +kernel
theorem dX6_init_55 : decode cX6_init 55 = .ok (.putfield 28, 3) := by decide +kernel
theorem dX6_init_58 : decode cX6_init 58 = .ok (.aload_n 0, 1) := by decide +kernel
theorem dX6_init_59 : decode cX6_init 59 = .ok (.bipush 36, 2) := by decide +kernel
theorem dX6_init_61 : decode cX6_init 61 = .ok (.newarray .int, 2) := by decide +kernel
theorem dX6_init_63 : decode cX6_init 63 = .ok (.putfield 31, 3) := by decide +kernel
theorem dX6_init_66 : decode cX6_init 66 = .ok (.aload_n 0, 1) := by decide +kernel
theorem dX6_init_67 : decode cX6_init 67 = .ok (.bipush 36, 2) := by decide +kernel
theorem dX6_init_69 : decode cX6_init 69 = .ok (.newarray .int, 2) := by decide +kernel
theorem dX6_init_71 : decode cX6_init 71 = .ok (.putfield 34, 3) := by decide +kernel
theorem dX6_init_74 : decode cX6_init 74 = .ok (.aload_n 0, 1) := by decide +kernel
theorem dX6_init_75 : decode cX6_init 75 = .ok (.bipush 36, 2) := by decide +kernel
theorem dX6_init_77 : decode cX6_init 77 = .ok (.newarray .int, 2) := by decide +kernel
theorem dX6_init_79 : decode cX6_init 79 = .ok (.putfield 37, 3) := by decide +kernel
theorem dX6_init_82 : decode cX6_init 82 = .ok (.aload_n 0, 1) := by decide +kernel
theorem dX6_init_83 : decode cX6_init 83 = .ok (.bipush 36, 2) := by decide +kernel
theorem dX6_init_85 : decode cX6_init 85 = .ok (.newarray .boolean, 2) := by decide +kernel
theorem dX6_init_87 : decode cX6_init 87 = .ok (.putfield 40, 3) := by decide +kernel
theorem dX6_init_90 : decode cX6_init 90 = .ok (.aload_n 0, 1) := by decide +kernel
theorem dX6_init_91 : decode cX6_init 91 = .ok (.sipush 1500, 3) := by decide +kernel
theorem dX6_init_94 : decode cX6_init 94 = .ok (.newarray .long, 2) := by decide +kernel
theorem dX6_init_96 : decode cX6_init 96 = .ok (.putfield 44, 3) := by decide +kernel
theorem dX6_init_99 : decode cX6_init 99 = .ok (.aload_n 0, 1) := by decide +kernel
theorem dX6_init_100 : decode cX6_init 100 = .ok (.bipush 36, 2) := by decide +kernel
theorem dX6_init_102 : decode cX6_init 102 = .ok (.newarray .int, 2) := by decide +kernel
theorem dX6_init_104 : decode cX6_init 104 = .ok (.putfield 48, 3) := by decide +kernel
theorem dX6_init_107 : decode cX6_init 107 = .ok (.return_, 1) := by decide +kernel
theorem dX6_thrown_0 : decode cX6_thrown 0 = .ok (.aload_n 0, 1) := by decide +kernel
theorem dX6_thrown_1 : decode cX6_thrown 1 = .ok (.getfield 51, 3) := by decide +kernel
theorem dX6_thrown_4 : decode cX6_thrown 4 = .ok (.ireturn, 1) := by decide +kernel
theorem dX6_fails_0 : decode cX6_fails 0 = .ok (.iload_n 1, 1) := by decide +kernel
theorem dX6_fails_1 : decode cX6_fails 1 = .ok (.ifCond .eq 15, 3) := by decide +kernel
theorem dX6_fails_4 : decode cX6_fails 4 = .ok (.aload_n 0, 1) := by decide +kernel
theorem dX6_fails_5 : decode cX6_fails 5 = .ok (.getfield 51, 3) := by decide +kernel
theorem dX6_fails_8 : decode cX6_fails 8 = .ok (.ifCond .ne 8, 3) := by decide +kernel
theorem dX6_fails_11 : decode cX6_fails 11 = .ok (.aload_n 0, 1) := by decide +kernel
theorem dX6_fails_12 : decode cX6_fails 12 = .ok (.iload_n 2, 1) := by decide +kernel
theorem dX6_fails_13 : decode cX6_fails 13 = .ok (.putfield 51, 3) := by decide +kernel
theorem dX6_fails_16 : decode cX6_fails 16 = .ok (.aload_n 0, 1) := by decide +kernel
theorem dX6_fails_17 : decode cX6_fails 17 = .ok (.getfield 51, 3) := by decide +kernel
theorem dX6_fails_20 : decode cX6_fails 20 = .ok (.ifCond .eq 7, 3) := by decide +kernel
theorem dX6_fails_23 : decode cX6_fails 23 = .ok (.iconst 1, 1) := by decide +kernel
theorem dX6_fails_24 : decode cX6_fails 24 = .ok (.goto 4, 3) := by decide +kernel
theorem dX6_fails_27 : decode cX6_fails 27 = .ok (.iconst 0, 1) := by decide +kernel
theorem dX6_fails_28 : decode cX6_fails 28 = .ok (.ireturn, 1) := by decide +kernel
theorem dX6_in_0 : decode cX6_in 0 = .ok (.iload_n 0, 1) := by decide +kernel
theorem dX6_in_1 : decode cX6_in 1 = .ok (.iload_n 1, 1) := by decide +kernel
theorem dX6_in_2 : decode cX6_in 2 = .ok (.if_icmp .lt 12, 3) := by decide +kernel
theorem dX6_in_5 : decode cX6_in 5 = .ok (.iload_n 0, 1) := by decide +kernel
theorem dX6_in_6 : decode cX6_in 6 = .ok (.iload_n 2, 1) := by decide +kernel
theorem dX6_in_7 : decode cX6_in 7 = .ok (.if_icmp .gt 7, 3) := by decide +kernel
theorem dX6_in_10 : decode cX6_in 10 = .ok (.iconst 1, 1) := by decide +kernel
theorem dX6_in_11 : decode cX6_in 11 = .ok (.goto 4, 3) := by decide +kernel
theorem dX6_in_14 : decode cX6_in 14 = .ok (.iconst 0, 1) := by decide +kernel
theorem dX6_in_15 : decode cX6_in 15 = .ok (.ireturn, 1) := by decide +kernel
theorem dX6_min_0 : decode cX6_min 0 = .ok (.iload_n 0, 1) := by decide +kernel
theorem dX6_min_1 : decode cX6_min 1 = .ok (.iload_n 1, 1) := by decide +kernel
theorem dX6_min_2 : decode cX6_min 2 = .ok (.if_icmp .ge 7, 3) := by decide +kernel
theorem dX6_min_5 : decode cX6_min 5 = .ok (.iload_n 0, 1) := by decide +kernel
theorem dX6_min_6 : decode cX6_min 6 = .ok (.goto 4, 3) := by decide +kernel
theorem dX6_min_9 : decode cX6_min 9 = .ok (.iload_n 1, 1) := by decide +kernel
theorem dX6_min_10 : decode cX6_min 10 = .ok (.ireturn, 1) := by decide +kernel
theorem dX6_max_0 : decode cX6_max 0 = .ok (.iload_n 0, 1) := by decide +kernel
theorem dX6_max_1 : decode cX6_max 1 = .ok (.iload_n 1, 1) := by decide +kernel
theorem dX6_max_2 : decode cX6_max 2 = .ok (.if_icmp .le 7, 3) := by decide +kernel
theorem dX6_max_5 : decode cX6_max 5 = .ok (.iload_n 0, 1) := by decide +kernel
theorem dX6_max_6 : decode cX6_max 6 = .ok (.goto 4, 3) := by decide +kernel
theorem dX6_max_9 : decode cX6_max 9 = .ok (.iload_n 1, 1) := by decide +kernel
theorem dX6_max_10 : decode cX6_max 10 = .ok (.ireturn, 1) := by decide +kernel
theorem dX6_copy_0 : decode cX6_copy 0 = .ok (.iconst 0, 1) := by decide +kernel
theorem dX6_copy_1 : decode cX6_copy 1 = .ok (.istore_n 2, 1) := by decide +kernel
theorem dX6_copy_2 : decode cX6_copy 2 = .ok (.iload_n 2, 1) := by decide +kernel
theorem dX6_copy_3 : decode cX6_copy 3 = .ok (.sipush 1655, 3) := by decide +kernel
theorem dX6_copy_6 : decode cX6_copy 6 = .ok (.if_icmp .ge 15, 3) := by decide +kernel
theorem dX6_copy_9 : decode cX6_copy 9 = .ok (.aload_n 1, 1) := by decide +kernel
theorem dX6_copy_10 : decode cX6_copy 10 = .ok (.iload_n 2, 1) := by decide +kernel
theorem dX6_copy_11 : decode cX6_copy 11 = .ok (.aload_n 0, 1) := by decide +kernel
theorem dX6_copy_12 : decode cX6_copy 12 = .ok (.iload_n 2, 1) := by decide +kernel
theorem dX6_copy_13 : decode cX6_copy 13 = .ok (.iaload, 1) := by decide +kernel
theorem dX6_copy_14 : decode cX6_copy 14 = .ok (.iastore, 1) := by decide +kernel
theorem dX6_copy_15 : decode cX6_copy 15 = .ok (.iinc 2 1, 3) := by decide +kernel
theorem dX6_copy_18 : decode cX6_copy 18 = .ok (.goto (-16), 3) := by decide +kernel
theorem dX6_copy_21 : decode cX6_copy 21 = .ok (.return_, 1) := by decide +kernel
theorem dX6_machine_0 : decode cX6_machine 0 = .ok (.iconst 5, 1) := by decide +kernel
theorem dX6_machine_1 : decode cX6_machine 1 = .ok (.bipush 9, 2) := by decide +kernel
theorem dX6_machine_3 : decode cX6_machine 3 = .ok (.iload_n 0, 1) := by decide +kernel
theorem dX6_machine_4 : decode cX6_machine 4 = .ok (.imul, 1) := by decide +kernel
theorem dX6_machine_5 : decode cX6_machine 5 = .ok (.iadd, 1) := by decide +kernel
theorem dX6_machine_6 : decode cX6_machine 6 = .ok (.ireturn, 1) := by decide +kernel
theorem dX6_job_0 : decode cX6_job 0 = .ok (.bipush 59, 2) := by decide +kernel
theorem dX6_job_2 : decode cX6_job 2 = .ok (.iconst 4, 1) := by decide +kernel
theorem dX6_job_3 : decode cX6_job 3 = .ok (.iload_n 0, 1) := by decide +kernel
theorem dX6_job_4 : decode cX6_job 4 = .ok (.imul, 1) := by decide +kernel
theorem dX6_job_5 : decode cX6_job 5 = .ok (.iadd, 1) := by decide +kernel
theorem dX6_job_6 : decode cX6_job 6 = .ok (.ireturn, 1) := by decide +kernel
theorem dX6_operationAt_0 : decode cX6_operationAt 0 = .ok (.bipush 83, 2) := by decide +kernel
theorem dX6_operationAt_2 : decode cX6_operationAt 2 = .ok (.iconst 2, 1) := by decide +kernel
theorem dX6_operationAt_3 : decode cX6_operationAt 3 = .ok (.iload_n 0, 1) := by decide +kernel
theorem dX6_operationAt_4 : decode cX6_operationAt 4 = .ok (.imul, 1) := by decide +kernel
theorem dX6_operationAt_5 : decode cX6_operationAt 5 = .ok (.iadd, 1) := by decide +kernel
theorem dX6_operationAt_6 : decode cX6_operationAt 6 = .ok (.ireturn, 1) := by decide +kernel
theorem dX6_append_0 : decode cX6_append 0 = .ok (.aload_n 0, 1) := by decide +kernel
theorem dX6_append_1 : decode cX6_append 1 = .ok (.iconst 0, 1) := by decide +kernel
theorem dX6_append_2 : decode cX6_append 2 = .ok (.putfield 51, 3) := by decide +kernel
theorem dX6_append_5 : decode cX6_append 5 = .ok (.aload_n 0, 1) := by decide +kernel
theorem dX6_append_6 : decode cX6_append 6 = .ok (.getfield 54, 3) := by decide +kernel
theorem dX6_append_9 : decode cX6_append 9 = .ok (.bipush 20, 2) := by decide +kernel
theorem dX6_append_11 : decode cX6_append 11 = .ok (.iadd, 1) := by decide +kernel
theorem dX6_append_12 : decode cX6_append 12 = .ok (.sipush 900, 3) := by decide +kernel
theorem dX6_append_15 : decode cX6_append 15 = .ok (.if_icmp .le 5, 3) := by decide +kernel
theorem dX6_append_18 : decode cX6_append 18 = .ok (.iconst (-1), 1) := by decide +kernel
theorem dX6_append_19 : decode cX6_append 19 = .ok (.ireturn, 1) := by decide +kernel
theorem dX6_append_20 : decode cX6_append 20 = .ok (.iconst 0, 1) := by decide +kernel
theorem dX6_append_21 : decode cX6_append 21 = .ok (.istore 6, 2) := by decide +kernel
theorem dX6_append_23 : decode cX6_append 23 = .ok (.iload 6, 2) := by decide +kernel
theorem dX6_append_25 : decode cX6_append 25 = .ok (.bipush 20, 2) := by decide +kernel
theorem dX6_append_27 : decode cX6_append 27 = .ok (.if_icmp .ge 93, 3) := by decide +kernel
theorem dX6_append_30 : decode cX6_append 30 = .ok (.iload 6, 2) := by decide +kernel
theorem dX6_append_32 : decode cX6_append 32 = .ok (.iconst 4, 1) := by decide +kernel
theorem dX6_append_33 : decode cX6_append 33 = .ok (.if_icmp .ge 7, 3) := by decide +kernel
theorem dX6_append_36 : decode cX6_append 36 = .ok (.iload_n 1, 1) := by decide +kernel
theorem dX6_append_37 : decode cX6_append 37 = .ok (.goto 39, 3) := by decide +kernel
theorem dX6_append_40 : decode cX6_append 40 = .ok (.iload 6, 2) := by decide +kernel
theorem dX6_append_42 : decode cX6_append 42 = .ok (.bipush 8, 2) := by decide +kernel
theorem dX6_append_44 : decode cX6_append 44 = .ok (.if_icmp .ge 7, 3) := by decide +kernel
theorem dX6_append_47 : decode cX6_append 47 = .ok (.iload_n 2, 1) := by decide +kernel
theorem dX6_append_48 : decode cX6_append 48 = .ok (.goto 28, 3) := by decide +kernel
theorem dX6_append_51 : decode cX6_append 51 = .ok (.iload 6, 2) := by decide +kernel
theorem dX6_append_53 : decode cX6_append 53 = .ok (.bipush 12, 2) := by decide +kernel
theorem dX6_append_55 : decode cX6_append 55 = .ok (.if_icmp .ge 7, 3) := by decide +kernel
theorem dX6_append_58 : decode cX6_append 58 = .ok (.iload_n 3, 1) := by decide +kernel
theorem dX6_append_59 : decode cX6_append 59 = .ok (.goto 17, 3) := by decide +kernel
theorem dX6_append_62 : decode cX6_append 62 = .ok (.iload 6, 2) := by decide +kernel
theorem dX6_append_64 : decode cX6_append 64 = .ok (.bipush 16, 2) := by decide +kernel
theorem dX6_append_66 : decode cX6_append 66 = .ok (.if_icmp .ge 8, 3) := by decide +kernel
theorem dX6_append_69 : decode cX6_append 69 = .ok (.iload 4, 2) := by decide +kernel
theorem dX6_append_71 : decode cX6_append 71 = .ok (.goto 5, 3) := by decide +kernel
theorem dX6_append_74 : decode cX6_append 74 = .ok (.iload 5, 2) := by decide +kernel
theorem dX6_append_76 : decode cX6_append 76 = .ok (.istore 7, 2) := by decide +kernel
theorem dX6_append_78 : decode cX6_append 78 = .ok (.aload_n 0, 1) := by decide +kernel
theorem dX6_append_79 : decode cX6_append 79 = .ok (.getfield 9, 3) := by decide +kernel
theorem dX6_append_82 : decode cX6_append 82 = .ok (.aload_n 0, 1) := by decide +kernel
theorem dX6_append_83 : decode cX6_append 83 = .ok (.getfield 54, 3) := by decide +kernel
theorem dX6_append_86 : decode cX6_append 86 = .ok (.iload 7, 2) := by decide +kernel
theorem dX6_append_88 : decode cX6_append 88 = .ok (.bipush 24, 2) := by decide +kernel
theorem dX6_append_90 : decode cX6_append 90 = .ok (.bipush 8, 2) := by decide +kernel
theorem dX6_append_92 : decode cX6_append 92 = .ok (.iload 6, 2) := by decide +kernel
theorem dX6_append_94 : decode cX6_append 94 = .ok (.iconst 4, 1) := by decide +kernel
theorem dX6_append_95 : decode cX6_append 95 = .ok (.irem, 1) := by decide +kernel
theorem dX6_append_96 : decode cX6_append 96 = .ok (.imul, 1) := by decide +kernel
theorem dX6_append_97 : decode cX6_append 97 = .ok (.isub, 1) := by decide +kernel
theorem dX6_append_98 : decode cX6_append 98 = .ok (.ishr, 1) := by decide +kernel
theorem dX6_append_99 : decode cX6_append 99 = .ok (.sipush 255, 3) := by decide +kernel
theorem dX6_append_102 : decode cX6_append 102 = .ok (.iand, 1) := by decide +kernel
theorem dX6_append_103 : decode cX6_append 103 = .ok (.iastore, 1) := by decide +kernel
theorem dX6_append_104 : decode cX6_append 104 = .ok (.aload_n 0, 1) := by decide +kernel
theorem dX6_append_105 : decode cX6_append 105 = .ok (.dup, 1) := by decide +kernel
theorem dX6_append_106 : decode cX6_append 106 = .ok (.getfield 54, 3) := by decide +kernel
theorem dX6_append_109 : decode cX6_append 109 = .ok (.iconst 1, 1) := by decide +kernel
theorem dX6_append_110 : decode cX6_append 110 = .ok (.iadd, 1) := by decide +kernel
theorem dX6_append_111 : decode cX6_append 111 = .ok (.putfield 54, 3) := by decide +kernel
theorem dX6_append_114 : decode cX6_append 114 = .ok (.iinc 6 1, 3) := by decide +kernel
theorem dX6_append_117 : decode cX6_append 117 = .ok (.goto (-94), 3) := by decide +kernel
theorem dX6_append_120 : decode cX6_append 120 = .ok (.aload_n 0, 1) := by decide +kernel
theorem dX6_append_121 : decode cX6_append 121 = .ok (.getfield 54, 3) := by decide +kernel
theorem dX6_append_124 : decode cX6_append 124 = .ok (.ireturn, 1) := by decide +kernel
theorem dX6_byteAt_0 : decode cX6_byteAt 0 = .ok (.iload_n 1, 1) := by decide +kernel
theorem dX6_byteAt_1 : decode cX6_byteAt 1 = .ok (.aload_n 0, 1) := by decide +kernel
theorem dX6_byteAt_2 : decode cX6_byteAt 2 = .ok (.getfield 57, 3) := by decide +kernel
theorem dX6_byteAt_5 : decode cX6_byteAt 5 = .ok (.if_icmp .ge 12, 3) := by decide +kernel
theorem dX6_byteAt_8 : decode cX6_byteAt 8 = .ok (.aload_n 0, 1) := by decide +kernel
theorem dX6_byteAt_9 : decode cX6_byteAt 9 = .ok (.getfield 9, 3) := by decide +kernel
theorem dX6_byteAt_12 : decode cX6_byteAt 12 = .ok (.iload_n 1, 1) := by decide +kernel
theorem dX6_byteAt_13 : decode cX6_byteAt 13 = .ok (.iaload, 1) := by decide +kernel
theorem dX6_byteAt_14 : decode cX6_byteAt 14 = .ok (.goto 4, 3) := by decide +kernel
theorem dX6_byteAt_17 : decode cX6_byteAt 17 = .ok (.iconst (-1), 1) := by decide +kernel
theorem dX6_byteAt_18 : decode cX6_byteAt 18 = .ok (.ireturn, 1) := by decide +kernel
theorem dX6_next_0 : decode cX6_next 0 = .ok (.aload_n 0, 1) := by decide +kernel
theorem dX6_next_1 : decode cX6_next 1 = .ok (.aload_n 0, 1) := by decide +kernel
theorem dX6_next_2 : decode cX6_next 2 = .ok (.getfield 60, 3) := by decide +kernel
theorem dX6_next_5 : decode cX6_next 5 = .ok (.invokevirtual 63, 3) := by decide +kernel
theorem dX6_next_8 : decode cX6_next 8 = .ok (.bipush 32, 2) := by decide +kernel
theorem dX6_next_10 : decode cX6_next 10 = .ok (.if_icmp .ne 16, 3) := by decide +kernel
theorem dX6_next_13 : decode cX6_next 13 = .ok (.aload_n 0, 1) := by decide +kernel
theorem dX6_next_14 : decode cX6_next 14 = .ok (.dup, 1) := by decide +kernel
theorem dX6_next_15 : decode cX6_next 15 = .ok (.getfield 60, 3) := by decide +kernel
theorem dX6_next_18 : decode cX6_next 18 = .ok (.iconst 1, 1) := by decide +kernel
theorem dX6_next_19 : decode cX6_next 19 = .ok (.iadd, 1) := by decide +kernel
theorem dX6_next_20 : decode cX6_next 20 = .ok (.putfield 60, 3) := by decide +kernel
theorem dX6_next_23 : decode cX6_next 23 = .ok (.goto (-23), 3) := by decide +kernel
theorem dX6_next_26 : decode cX6_next 26 = .ok (.aload_n 0, 1) := by decide +kernel
theorem dX6_next_27 : decode cX6_next 27 = .ok (.aload_n 0, 1) := by decide +kernel
theorem dX6_next_28 : decode cX6_next 28 = .ok (.getfield 60, 3) := by decide +kernel
theorem dX6_next_31 : decode cX6_next 31 = .ok (.invokevirtual 63, 3) := by decide +kernel
theorem dX6_next_34 : decode cX6_next 34 = .ok (.ireturn, 1) := by decide +kernel
theorem dX6_isGood_0 : decode cX6_isGood 0 = .ok (.aload_n 0, 1) := by decide +kernel
theorem dX6_isGood_1 : decode cX6_isGood 1 = .ok (.getfield 67, 3) := by decide +kernel
theorem dX6_isGood_4 : decode cX6_isGood 4 = .ok (.ifCond .ne 7, 3) := by decide +kernel
theorem dX6_isGood_7 : decode cX6_isGood 7 = .ok (.iconst 1, 1) := by decide +kernel
theorem dX6_isGood_8 : decode cX6_isGood 8 = .ok (.goto 4, 3) := by decide +kernel
theorem dX6_isGood_11 : decode cX6_isGood 11 = .ok (.iconst 0, 1) := by decide +kernel
theorem dX6_isGood_12 : decode cX6_isGood 12 = .ok (.ireturn, 1) := by decide +kernel
theorem dX6_report_0 : decode cX6_report 0 = .ok (.aload_n 0, 1) := by decide +kernel
theorem dX6_report_1 : decode cX6_report 1 = .ok (.getfield 67, 3) := by decide +kernel
theorem dX6_report_4 : decode cX6_report 4 = .ok (.ifCond .eq 4, 3) := by decide +kernel
theorem dX6_report_7 : decode cX6_report 7 = .ok (.return_, 1) := by decide +kernel
theorem dX6_report_8 : decode cX6_report 8 = .ok (.aload_n 0, 1) := by decide +kernel
theorem dX6_report_9 : decode cX6_report 9 = .ok (.iload_n 1, 1) := by decide +kernel
theorem dX6_report_10 : decode cX6_report 10 = .ok (.putfield 67, 3) := by decide +kernel
theorem dX6_report_13 : decode cX6_report 13 = .ok (.aload_n 0, 1) := by decide +kernel
theorem dX6_report_14 : decode cX6_report 14 = .ok (.iload_n 2, 1) := by decide +kernel
theorem dX6_report_15 : decode cX6_report 15 = .ok (.putfield 70, 3) := by decide +kernel
theorem dX6_report_18 : decode cX6_report 18 = .ok (.return_, 1) := by decide +kernel
theorem dX6_isDigit_0 : decode cX6_isDigit 0 = .ok (.iload_n 0, 1) := by decide +kernel
theorem dX6_isDigit_1 : decode cX6_isDigit 1 = .ok (.bipush 48, 2) := by decide +kernel
theorem dX6_isDigit_3 : decode cX6_isDigit 3 = .ok (.bipush 57, 2) := by decide +kernel
theorem dX6_isDigit_5 : decode cX6_isDigit 5 = .ok (.invokestatic 73, 3) := by decide +kernel
theorem dX6_isDigit_8 : decode cX6_isDigit 8 = .ok (.ireturn, 1) := by decide +kernel
theorem dX6_takeWord_0 : decode cX6_takeWord 0 = .ok (.aload_n 0, 1) := by decide +kernel
theorem dX6_takeWord_1 : decode cX6_takeWord 1 = .ok (.invokevirtual 77, 3) := by decide +kernel
theorem dX6_takeWord_4 : decode cX6_takeWord 4 = .ok (.ifCond .ne 5, 3) := by decide +kernel
theorem dX6_takeWord_7 : decode cX6_takeWord 7 = .ok (.iconst 0, 1) := by decide +kernel
theorem dX6_takeWord_8 : decode cX6_takeWord 8 = .ok (.ireturn, 1) := by decide +kernel
theorem dX6_takeWord_9 : decode cX6_takeWord 9 = .ok (.aload_n 0, 1) := by decide +kernel
theorem dX6_takeWord_10 : decode cX6_takeWord 10 = .ok (.invokevirtual 81, 3) := by decide +kernel
theorem dX6_takeWord_13 : decode cX6_takeWord 13 = .ok (.pop, 1) := by decide +kernel
theorem dX6_takeWord_14 : decode cX6_takeWord 14 = .ok (.iconst 0, 1) := by decide +kernel
theorem dX6_takeWord_15 : decode cX6_takeWord 15 = .ok (.istore_n 2, 1) := by decide +kernel
theorem dX6_takeWord_16 : decode cX6_takeWord 16 = .ok (.iload_n 2, 1) := by decide +kernel
theorem dX6_takeWord_17 : decode cX6_takeWord 17 = .ok (.aload_n 1, 1) := by decide +kernel
theorem dX6_takeWord_18 : decode cX6_takeWord 18 = .ok (.invokevirtual 85, 3) := by decide +kernel
theorem dX6_takeWord_21 : decode cX6_takeWord 21 = .ok (.if_icmp .ge 27, 3) := by decide +kernel
theorem dX6_takeWord_24 : decode cX6_takeWord 24 = .ok (.aload_n 0, 1) := by decide +kernel
theorem dX6_takeWord_25 : decode cX6_takeWord 25 = .ok (.aload_n 0, 1) := by decide +kernel
theorem dX6_takeWord_26 : decode cX6_takeWord 26 = .ok (.getfield 60, 3) := by decide +kernel
theorem dX6_takeWord_29 : decode cX6_takeWord 29 = .ok (.iload_n 2, 1) := by decide +kernel
theorem dX6_takeWord_30 : decode cX6_takeWord 30 = .ok (.iadd, 1) := by decide +kernel
theorem dX6_takeWord_31 : decode cX6_takeWord 31 = .ok (.invokevirtual 63, 3) := by decide +kernel
theorem dX6_takeWord_34 : decode cX6_takeWord 34 = .ok (.aload_n 1, 1) := by decide +kernel
theorem dX6_takeWord_35 : decode cX6_takeWord 35 = .ok (.iload_n 2, 1) := by decide +kernel
theorem dX6_takeWord_36 : decode cX6_takeWord 36 = .ok (.invokevirtual 90, 3) := by decide +kernel
theorem dX6_takeWord_39 : decode cX6_takeWord 39 = .ok (.if_icmp .ne 9, 3) := by decide +kernel
theorem dX6_takeWord_42 : decode cX6_takeWord 42 = .ok (.iinc 2 1, 3) := by decide +kernel
theorem dX6_takeWord_45 : decode cX6_takeWord 45 = .ok (.goto (-29), 3) := by decide +kernel
theorem dX6_takeWord_48 : decode cX6_takeWord 48 = .ok (.iload_n 2, 1) := by decide +kernel
theorem dX6_takeWord_49 : decode cX6_takeWord 49 = .ok (.aload_n 1, 1) := by decide +kernel
theorem dX6_takeWord_50 : decode cX6_takeWord 50 = .ok (.invokevirtual 85, 3) := by decide +kernel
theorem dX6_takeWord_53 : decode cX6_takeWord 53 = .ok (.if_icmp .lt 23, 3) := by decide +kernel
theorem dX6_takeWord_56 : decode cX6_takeWord 56 = .ok (.aload_n 0, 1) := by decide +kernel
theorem dX6_takeWord_57 : decode cX6_takeWord 57 = .ok (.aload_n 0, 1) := by decide +kernel
theorem dX6_takeWord_58 : decode cX6_takeWord 58 = .ok (.getfield 60, 3) := by decide +kernel
theorem dX6_takeWord_61 : decode cX6_takeWord 61 = .ok (.iload_n 2, 1) := by decide +kernel
theorem dX6_takeWord_62 : decode cX6_takeWord 62 = .ok (.iadd, 1) := by decide +kernel
theorem dX6_takeWord_63 : decode cX6_takeWord 63 = .ok (.invokevirtual 63, 3) := by decide +kernel
theorem dX6_takeWord_66 : decode cX6_takeWord 66 = .ok (.bipush 97, 2) := by decide +kernel
theorem dX6_takeWord_68 : decode cX6_takeWord 68 = .ok (.bipush 122, 2) := by decide +kernel
theorem dX6_takeWord_70 : decode cX6_takeWord 70 = .ok (.invokestatic 73, 3) := by decide +kernel
theorem dX6_takeWord_73 : decode cX6_takeWord 73 = .ok (.ifCond .eq 5, 3) := by decide +kernel
theorem dX6_takeWord_76 : decode cX6_takeWord 76 = .ok (.iconst 0, 1) := by decide +kernel
theorem dX6_takeWord_77 : decode cX6_takeWord 77 = .ok (.ireturn, 1) := by decide +kernel
theorem dX6_takeWord_78 : decode cX6_takeWord 78 = .ok (.aload_n 0, 1) := by decide +kernel
theorem dX6_takeWord_79 : decode cX6_takeWord 79 = .ok (.dup, 1) := by decide +kernel
theorem dX6_takeWord_80 : decode cX6_takeWord 80 = .ok (.getfield 60, 3) := by decide +kernel
theorem dX6_takeWord_83 : decode cX6_takeWord 83 = .ok (.iload_n 2, 1) := by decide +kernel
theorem dX6_takeWord_84 : decode cX6_takeWord 84 = .ok (.iadd, 1) := by decide +kernel
theorem dX6_takeWord_85 : decode cX6_takeWord 85 = .ok (.putfield 60, 3) := by decide +kernel
theorem dX6_takeWord_88 : decode cX6_takeWord 88 = .ok (.iconst 1, 1) := by decide +kernel
theorem dX6_takeWord_89 : decode cX6_takeWord 89 = .ok (.ireturn, 1) := by decide +kernel
theorem dX6_expect_0 : decode cX6_expect 0 = .ok (.aload_n 0, 1) := by decide +kernel
theorem dX6_expect_1 : decode cX6_expect 1 = .ok (.invokevirtual 77, 3) := by decide +kernel
theorem dX6_expect_4 : decode cX6_expect 4 = .ok (.ifCond .ne 4, 3) := by decide +kernel
theorem dX6_expect_7 : decode cX6_expect 7 = .ok (.return_, 1) := by decide +kernel
theorem dX6_expect_8 : decode cX6_expect 8 = .ok (.aload_n 0, 1) := by decide +kernel
theorem dX6_expect_9 : decode cX6_expect 9 = .ok (.invokevirtual 81, 3) := by decide +kernel
theorem dX6_expect_12 : decode cX6_expect 12 = .ok (.iload_n 1, 1) := by decide +kernel
theorem dX6_expect_13 : decode cX6_expect 13 = .ok (.if_icmp .ne 16, 3) := by decide +kernel
theorem dX6_expect_16 : decode cX6_expect 16 = .ok (.aload_n 0, 1) := by decide +kernel
theorem dX6_expect_17 : decode cX6_expect 17 = .ok (.dup, 1) := by decide +kernel
theorem dX6_expect_18 : decode cX6_expect 18 = .ok (.getfield 60, 3) := by decide +kernel
theorem dX6_expect_21 : decode cX6_expect 21 = .ok (.iconst 1, 1) := by decide +kernel
theorem dX6_expect_22 : decode cX6_expect 22 = .ok (.iadd, 1) := by decide +kernel
theorem dX6_expect_23 : decode cX6_expect 23 = .ok (.putfield 60, 3) := by decide +kernel
theorem dX6_expect_26 : decode cX6_expect 26 = .ok (.goto 13, 3) := by decide +kernel
theorem dX6_expect_29 : decode cX6_expect 29 = .ok (.aload_n 0, 1) := by decide +kernel
theorem dX6_expect_30 : decode cX6_expect 30 = .ok (.bipush (-2), 2) := by decide +kernel
theorem dX6_expect_32 : decode cX6_expect 32 = .ok (.aload_n 0, 1) := by decide +kernel
theorem dX6_expect_33 : decode cX6_expect 33 = .ok (.getfield 60, 3) := by decide +kernel
theorem dX6_expect_36 : decode cX6_expect 36 = .ok (.invokevirtual 94, 3) := by decide +kernel
theorem dX6_expect_39 : decode cX6_expect 39 = .ok (.return_, 1) := by decide +kernel
theorem dX6_number_0 : decode cX6_number 0 = .ok (.aload_n 0, 1) := by decide +kernel
theorem dX6_number_1 : decode cX6_number 1 = .ok (.invokevirtual 77, 3) := by decide +kernel
theorem dX6_number_4 : decode cX6_number 4 = .ok (.ifCond .ne 5, 3) := by decide +kernel
theorem dX6_number_7 : decode cX6_number 7 = .ok (.iconst 0, 1) := by decide +kernel
theorem dX6_number_8 : decode cX6_number 8 = .ok (.ireturn, 1) := by decide +kernel
theorem dX6_number_9 : decode cX6_number 9 = .ok (.aload_n 0, 1) := by decide +kernel
theorem dX6_number_10 : decode cX6_number 10 = .ok (.invokevirtual 81, 3) := by decide +kernel
theorem dX6_number_13 : decode cX6_number 13 = .ok (.invokestatic 98, 3) := by decide +kernel
theorem dX6_number_16 : decode cX6_number 16 = .ok (.ifCond .ne 15, 3) := by decide +kernel
theorem dX6_number_19 : decode cX6_number 19 = .ok (.aload_n 0, 1) := by decide +kernel
theorem dX6_number_20 : decode cX6_number 20 = .ok (.bipush (-2), 2) := by decide +kernel
theorem dX6_number_22 : decode cX6_number 22 = .ok (.aload_n 0, 1) := by decide +kernel
theorem dX6_number_23 : decode cX6_number 23 = .ok (.getfield 60, 3) := by decide +kernel
theorem dX6_number_26 : decode cX6_number 26 = .ok (.invokevirtual 94, 3) := by decide +kernel
theorem dX6_number_29 : decode cX6_number 29 = .ok (.iconst 0, 1) := by decide +kernel
theorem dX6_number_30 : decode cX6_number 30 = .ok (.ireturn, 1) := by decide +kernel
theorem dX6_number_31 : decode cX6_number 31 = .ok (.aload_n 0, 1) := by decide +kernel
theorem dX6_number_32 : decode cX6_number 32 = .ok (.aload_n 0, 1) := by decide +kernel
theorem dX6_number_33 : decode cX6_number 33 = .ok (.getfield 60, 3) := by decide +kernel
theorem dX6_number_36 : decode cX6_number 36 = .ok (.putfield 102, 3) := by decide +kernel
theorem dX6_number_39 : decode cX6_number 39 = .ok (.iconst 0, 1) := by decide +kernel
theorem dX6_number_40 : decode cX6_number 40 = .ok (.istore_n 3, 1) := by decide +kernel
theorem dX6_number_41 : decode cX6_number 41 = .ok (.aload_n 0, 1) := by decide +kernel
theorem dX6_number_42 : decode cX6_number 42 = .ok (.aload_n 0, 1) := by decide +kernel
theorem dX6_number_43 : decode cX6_number 43 = .ok (.getfield 60, 3) := by decide +kernel
theorem dX6_number_46 : decode cX6_number 46 = .ok (.invokevirtual 63, 3) := by decide +kernel
theorem dX6_number_49 : decode cX6_number 49 = .ok (.invokestatic 98, 3) := by decide +kernel
theorem dX6_number_52 : decode cX6_number 52 = .ok (.ifCond .eq 38, 3) := by decide +kernel
theorem dX6_number_55 : decode cX6_number 55 = .ok (.ldc 105, 2) := by decide +kernel
theorem dX6_number_57 : decode cX6_number 57 = .ok (.bipush 10, 2) := by decide +kernel
theorem dX6_number_59 : decode cX6_number 59 = .ok (.iload_n 3, 1) := by decide +kernel
theorem dX6_number_60 : decode cX6_number 60 = .ok (.imul, 1) := by decide +kernel
theorem dX6_number_61 : decode cX6_number 61 = .ok (.aload_n 0, 1) := by decide +kernel
theorem dX6_number_62 : decode cX6_number 62 = .ok (.aload_n 0, 1) := by decide +kernel
theorem dX6_number_63 : decode cX6_number 63 = .ok (.getfield 60, 3) := by decide +kernel
theorem dX6_number_66 : decode cX6_number 66 = .ok (.invokevirtual 63, 3) := by decide +kernel
theorem dX6_number_69 : decode cX6_number 69 = .ok (.iadd, 1) := by decide +kernel
theorem dX6_number_70 : decode cX6_number 70 = .ok (.bipush 48, 2) := by decide +kernel
theorem dX6_number_72 : decode cX6_number 72 = .ok (.isub, 1) := by decide +kernel
theorem dX6_number_73 : decode cX6_number 73 = .ok (.invokestatic 106, 3) := by decide +kernel
theorem dX6_number_76 : decode cX6_number 76 = .ok (.istore_n 3, 1) := by decide +kernel
theorem dX6_number_77 : decode cX6_number 77 = .ok (.aload_n 0, 1) := by decide +kernel
theorem dX6_number_78 : decode cX6_number 78 = .ok (.dup, 1) := by decide +kernel
theorem dX6_number_79 : decode cX6_number 79 = .ok (.getfield 60, 3) := by decide +kernel
theorem dX6_number_82 : decode cX6_number 82 = .ok (.iconst 1, 1) := by decide +kernel
theorem dX6_number_83 : decode cX6_number 83 = .ok (.iadd, 1) := by decide +kernel
theorem dX6_number_84 : decode cX6_number 84 = .ok (.putfield 60, 3) := by decide +kernel
theorem dX6_number_87 : decode cX6_number 87 = .ok (.goto (-46), 3) := by decide +kernel
theorem dX6_number_90 : decode cX6_number 90 = .ok (.iload_n 3, 1) := by decide +kernel
theorem dX6_number_91 : decode cX6_number 91 = .ok (.iload_n 1, 1) := by decide +kernel
theorem dX6_number_92 : decode cX6_number 92 = .ok (.iload_n 2, 1) := by decide +kernel
theorem dX6_number_93 : decode cX6_number 93 = .ok (.invokestatic 73, 3) := by decide +kernel
theorem dX6_number_96 : decode cX6_number 96 = .ok (.ifCond .ne 13, 3) := by decide +kernel
theorem dX6_number_99 : decode cX6_number 99 = .ok (.aload_n 0, 1) := by decide +kernel
theorem dX6_number_100 : decode cX6_number 100 = .ok (.bipush (-3), 2) := by decide +kernel
theorem dX6_number_102 : decode cX6_number 102 = .ok (.aload_n 0, 1) := by decide +kernel
theorem dX6_number_103 : decode cX6_number 103 = .ok (.getfield 102, 3) := by decide +kernel
theorem dX6_number_106 : decode cX6_number 106 = .ok (.invokevirtual 94, 3) := by decide +kernel
theorem dX6_number_109 : decode cX6_number 109 = .ok (.iload_n 3, 1) := by decide +kernel
theorem dX6_number_110 : decode cX6_number 110 = .ok (.ireturn, 1) := by decide +kernel
theorem dX6_emit_0 : decode cX6_emit 0 = .ok (.aload_n 0, 1) := by decide +kernel
theorem dX6_emit_1 : decode cX6_emit 1 = .ok (.invokevirtual 77, 3) := by decide +kernel
theorem dX6_emit_4 : decode cX6_emit 4 = .ok (.ifCond .ne 4, 3) := by decide +kernel
theorem dX6_emit_7 : decode cX6_emit 7 = .ok (.return_, 1) := by decide +kernel
theorem dX6_emit_8 : decode cX6_emit 8 = .ok (.aload_n 0, 1) := by decide +kernel
theorem dX6_emit_9 : decode cX6_emit 9 = .ok (.getfield 20, 3) := by decide +kernel
theorem dX6_emit_12 : decode cX6_emit 12 = .ok (.sipush 155, 3) := by decide +kernel
theorem dX6_emit_15 : decode cX6_emit 15 = .ok (.aload_n 0, 1) := by decide +kernel
theorem dX6_emit_16 : decode cX6_emit 16 = .ok (.getfield 20, 3) := by decide +kernel
theorem dX6_emit_19 : decode cX6_emit 19 = .ok (.iconst 4, 1) := by decide +kernel
theorem dX6_emit_20 : decode cX6_emit 20 = .ok (.iaload, 1) := by decide +kernel
theorem dX6_emit_21 : decode cX6_emit 21 = .ok (.iadd, 1) := by decide +kernel
theorem dX6_emit_22 : decode cX6_emit 22 = .ok (.iload_n 1, 1) := by decide +kernel
theorem dX6_emit_23 : decode cX6_emit 23 = .ok (.iastore, 1) := by decide +kernel
theorem dX6_emit_24 : decode cX6_emit 24 = .ok (.aload_n 0, 1) := by decide +kernel
theorem dX6_emit_25 : decode cX6_emit 25 = .ok (.getfield 20, 3) := by decide +kernel
theorem dX6_emit_28 : decode cX6_emit 28 = .ok (.iconst 4, 1) := by decide +kernel
theorem dX6_emit_29 : decode cX6_emit 29 = .ok (.dup2, 1) := by decide +kernel
theorem dX6_emit_30 : decode cX6_emit 30 = .ok (.iaload, 1) := by decide +kernel
theorem dX6_emit_31 : decode cX6_emit 31 = .ok (.iconst 1, 1) := by decide +kernel
theorem dX6_emit_32 : decode cX6_emit 32 = .ok (.iadd, 1) := by decide +kernel
theorem dX6_emit_33 : decode cX6_emit 33 = .ok (.iastore, 1) := by decide +kernel
theorem dX6_emit_34 : decode cX6_emit 34 = .ok (.return_, 1) := by decide +kernel
theorem dX6_factor_0 : decode cX6_factor 0 = .ok (.aload_n 0, 1) := by decide +kernel
theorem dX6_factor_1 : decode cX6_factor 1 = .ok (.invokevirtual 77, 3) := by decide +kernel
theorem dX6_factor_4 : decode cX6_factor 4 = .ok (.ifCond .ne 4, 3) := by decide +kernel
theorem dX6_factor_7 : decode cX6_factor 7 = .ok (.return_, 1) := by decide +kernel
theorem dX6_factor_8 : decode cX6_factor 8 = .ok (.aload_n 0, 1) := by decide +kernel
theorem dX6_factor_9 : decode cX6_factor 9 = .ok (.invokevirtual 81, 3) := by decide +kernel
theorem dX6_factor_12 : decode cX6_factor 12 = .ok (.istore_n 1, 1) := by decide +kernel
theorem dX6_factor_13 : decode cX6_factor 13 = .ok (.iload_n 1, 1) := by decide +kernel
theorem dX6_factor_14 : decode cX6_factor 14 = .ok (.bipush 40, 2) := by decide +kernel
theorem dX6_factor_16 : decode cX6_factor 16 = .ok (.if_icmp .ne 62, 3) := by decide +kernel
theorem dX6_factor_19 : decode cX6_factor 19 = .ok (.aload_n 0, 1) := by decide +kernel
theorem dX6_factor_20 : decode cX6_factor 20 = .ok (.getfield 110, 3) := by decide +kernel
theorem dX6_factor_23 : decode cX6_factor 23 = .ok (.iconst 4, 1) := by decide +kernel
theorem dX6_factor_24 : decode cX6_factor 24 = .ok (.if_icmp .ne 13, 3) := by decide +kernel
theorem dX6_factor_27 : decode cX6_factor 27 = .ok (.aload_n 0, 1) := by decide +kernel
theorem dX6_factor_28 : decode cX6_factor 28 = .ok (.bipush (-5), 2) := by decide +kernel
theorem dX6_factor_30 : decode cX6_factor 30 = .ok (.aload_n 0, 1) := by decide +kernel
theorem dX6_factor_31 : decode cX6_factor 31 = .ok (.getfield 60, 3) := by decide +kernel
theorem dX6_factor_34 : decode cX6_factor 34 = .ok (.invokevirtual 94, 3) := by decide +kernel
theorem dX6_factor_37 : decode cX6_factor 37 = .ok (.aload_n 0, 1) := by decide +kernel
theorem dX6_factor_38 : decode cX6_factor 38 = .ok (.dup, 1) := by decide +kernel
theorem dX6_factor_39 : decode cX6_factor 39 = .ok (.getfield 60, 3) := by decide +kernel
theorem dX6_factor_42 : decode cX6_factor 42 = .ok (.iconst 1, 1) := by decide +kernel
theorem dX6_factor_43 : decode cX6_factor 43 = .ok (.iadd, 1) := by decide +kernel
theorem dX6_factor_44 : decode cX6_factor 44 = .ok (.putfield 60, 3) := by decide +kernel
theorem dX6_factor_47 : decode cX6_factor 47 = .ok (.aload_n 0, 1) := by decide +kernel
theorem dX6_factor_48 : decode cX6_factor 48 = .ok (.dup, 1) := by decide +kernel
theorem dX6_factor_49 : decode cX6_factor 49 = .ok (.getfield 110, 3) := by decide +kernel
theorem dX6_factor_52 : decode cX6_factor 52 = .ok (.iconst 1, 1) := by decide +kernel
theorem dX6_factor_53 : decode cX6_factor 53 = .ok (.iadd, 1) := by decide +kernel
theorem dX6_factor_54 : decode cX6_factor 54 = .ok (.putfield 110, 3) := by decide +kernel
theorem dX6_factor_57 : decode cX6_factor 57 = .ok (.aload_n 0, 1) := by decide +kernel
theorem dX6_factor_58 : decode cX6_factor 58 = .ok (.invokevirtual 113, 3) := by decide +kernel
theorem dX6_factor_61 : decode cX6_factor 61 = .ok (.aload_n 0, 1) := by decide +kernel
theorem dX6_factor_62 : decode cX6_factor 62 = .ok (.bipush 41, 2) := by decide +kernel
theorem dX6_factor_64 : decode cX6_factor 64 = .ok (.invokevirtual 116, 3) := by decide +kernel
theorem dX6_factor_67 : decode cX6_factor 67 = .ok (.aload_n 0, 1) := by decide +kernel
theorem dX6_factor_68 : decode cX6_factor 68 = .ok (.dup, 1) := by decide +kernel
theorem dX6_factor_69 : decode cX6_factor 69 = .ok (.getfield 110, 3) := by decide +kernel
theorem dX6_factor_72 : decode cX6_factor 72 = .ok (.iconst 1, 1) := by decide +kernel
theorem dX6_factor_73 : decode cX6_factor 73 = .ok (.isub, 1) := by decide +kernel
theorem dX6_factor_74 : decode cX6_factor 74 = .ok (.putfield 110, 3) := by decide +kernel
theorem dX6_factor_77 : decode cX6_factor 77 = .ok (.return_, 1) := by decide +kernel
theorem dX6_factor_78 : decode cX6_factor 78 = .ok (.iload_n 1, 1) := by decide +kernel
theorem dX6_factor_79 : decode cX6_factor 79 = .ok (.invokestatic 98, 3) := by decide +kernel
theorem dX6_factor_82 : decode cX6_factor 82 = .ok (.ifCond .eq 7, 3) := by decide +kernel
theorem dX6_factor_85 : decode cX6_factor 85 = .ok (.iconst (-1), 1) := by decide +kernel
theorem dX6_factor_86 : decode cX6_factor 86 = .ok (.goto 56, 3) := by decide +kernel
theorem dX6_factor_89 : decode cX6_factor 89 = .ok (.aload_n 0, 1) := by decide +kernel
theorem dX6_factor_90 : decode cX6_factor 90 = .ok (.ldc 120, 2) := by decide +kernel
theorem dX6_factor_92 : decode cX6_factor 92 = .ok (.invokevirtual 122, 3) := by decide +kernel
theorem dX6_factor_95 : decode cX6_factor 95 = .ok (.ifCond .eq 7, 3) := by decide +kernel
theorem dX6_factor_98 : decode cX6_factor 98 = .ok (.iconst 0, 1) := by decide +kernel
theorem dX6_factor_99 : decode cX6_factor 99 = .ok (.goto 43, 3) := by decide +kernel
theorem dX6_factor_102 : decode cX6_factor 102 = .ok (.aload_n 0, 1) := by decide +kernel
theorem dX6_factor_103 : decode cX6_factor 103 = .ok (.ldc 126, 2) := by decide +kernel
theorem dX6_factor_105 : decode cX6_factor 105 = .ok (.invokevirtual 122, 3) := by decide +kernel
theorem dX6_factor_108 : decode cX6_factor 108 = .ok (.ifCond .eq 7, 3) := by decide +kernel
theorem dX6_factor_111 : decode cX6_factor 111 = .ok (.iconst 1, 1) := by decide +kernel
theorem dX6_factor_112 : decode cX6_factor 112 = .ok (.goto 30, 3) := by decide +kernel
theorem dX6_factor_115 : decode cX6_factor 115 = .ok (.aload_n 0, 1) := by decide +kernel
theorem dX6_factor_116 : decode cX6_factor 116 = .ok (.ldc 128, 2) := by decide +kernel
theorem dX6_factor_118 : decode cX6_factor 118 = .ok (.invokevirtual 122, 3) := by decide +kernel
theorem dX6_factor_121 : decode cX6_factor 121 = .ok (.ifCond .eq 7, 3) := by decide +kernel
theorem dX6_factor_124 : decode cX6_factor 124 = .ok (.iconst 2, 1) := by decide +kernel
theorem dX6_factor_125 : decode cX6_factor 125 = .ok (.goto 17, 3) := by decide +kernel
theorem dX6_factor_128 : decode cX6_factor 128 = .ok (.aload_n 0, 1) := by decide +kernel
theorem dX6_factor_129 : decode cX6_factor 129 = .ok (.ldc 130, 2) := by decide +kernel
theorem dX6_factor_131 : decode cX6_factor 131 = .ok (.invokevirtual 122, 3) := by decide +kernel
theorem dX6_factor_134 : decode cX6_factor 134 = .ok (.ifCond .eq 7, 3) := by decide +kernel
theorem dX6_factor_137 : decode cX6_factor 137 = .ok (.iconst 3, 1) := by decide +kernel
theorem dX6_factor_138 : decode cX6_factor 138 = .ok (.goto 4, 3) := by decide +kernel
theorem dX6_factor_141 : decode cX6_factor 141 = .ok (.iconst (-1), 1) := by decide +kernel
theorem dX6_factor_142 : decode cX6_factor 142 = .ok (.istore_n 2, 1) := by decide +kernel
theorem dX6_factor_143 : decode cX6_factor 143 = .ok (.iload_n 2, 1) := by decide +kernel
theorem dX6_factor_144 : decode cX6_factor 144 = .ok (.ifCond .ge 14, 3) := by decide +kernel
theorem dX6_factor_147 : decode cX6_factor 147 = .ok (.aload_n 0, 1) := by decide +kernel
theorem dX6_factor_148 : decode cX6_factor 148 = .ok (.iconst 0, 1) := by decide +kernel
theorem dX6_factor_149 : decode cX6_factor 149 = .ok (.sipush 9999, 3) := by decide +kernel
theorem dX6_factor_152 : decode cX6_factor 152 = .ok (.invokevirtual 132, 3) := by decide +kernel
theorem dX6_factor_155 : decode cX6_factor 155 = .ok (.goto 4, 3) := by decide +kernel
theorem dX6_factor_158 : decode cX6_factor 158 = .ok (.iload_n 2, 1) := by decide +kernel
theorem dX6_factor_159 : decode cX6_factor 159 = .ok (.istore_n 3, 1) := by decide +kernel
theorem dX6_factor_160 : decode cX6_factor 160 = .ok (.aload_n 0, 1) := by decide +kernel
theorem dX6_factor_161 : decode cX6_factor 161 = .ok (.iload_n 2, 1) := by decide +kernel
theorem dX6_factor_162 : decode cX6_factor 162 = .ok (.ifCond .ge 7, 3) := by decide +kernel
theorem dX6_factor_165 : decode cX6_factor 165 = .ok (.iconst 0, 1) := by decide +kernel
theorem dX6_factor_166 : decode cX6_factor 166 = .ok (.goto 4, 3) := by decide +kernel
theorem dX6_factor_169 : decode cX6_factor 169 = .ok (.iconst 1, 1) := by decide +kernel
theorem dX6_factor_170 : decode cX6_factor 170 = .ok (.invokevirtual 135, 3) := by decide +kernel
theorem dX6_factor_173 : decode cX6_factor 173 = .ok (.aload_n 0, 1) := by decide +kernel
theorem dX6_factor_174 : decode cX6_factor 174 = .ok (.iload_n 3, 1) := by decide +kernel
theorem dX6_factor_175 : decode cX6_factor 175 = .ok (.invokevirtual 135, 3) := by decide +kernel
theorem dX6_factor_178 : decode cX6_factor 178 = .ok (.return_, 1) := by decide +kernel
theorem dX6_term_0 : decode cX6_term 0 = .ok (.aload_n 0, 1) := by decide +kernel
theorem dX6_term_1 : decode cX6_term 1 = .ok (.invokevirtual 138, 3) := by decide +kernel
theorem dX6_term_4 : decode cX6_term 4 = .ok (.aload_n 0, 1) := by decide +kernel
theorem dX6_term_5 : decode cX6_term 5 = .ok (.invokevirtual 77, 3) := by decide +kernel
theorem dX6_term_8 : decode cX6_term 8 = .ok (.ifCond .eq 66, 3) := by decide +kernel
theorem dX6_term_11 : decode cX6_term 11 = .ok (.aload_n 0, 1) := by decide +kernel
theorem dX6_term_12 : decode cX6_term 12 = .ok (.invokevirtual 81, 3) := by decide +kernel
theorem dX6_term_15 : decode cX6_term 15 = .ok (.bipush 42, 2) := by decide +kernel
theorem dX6_term_17 : decode cX6_term 17 = .ok (.if_icmp .eq 12, 3) := by decide +kernel
theorem dX6_term_20 : decode cX6_term 20 = .ok (.aload_n 0, 1) := by decide +kernel
theorem dX6_term_21 : decode cX6_term 21 = .ok (.invokevirtual 81, 3) := by decide +kernel
theorem dX6_term_24 : decode cX6_term 24 = .ok (.bipush 47, 2) := by decide +kernel
theorem dX6_term_26 : decode cX6_term 26 = .ok (.if_icmp .ne 48, 3) := by decide +kernel
theorem dX6_term_29 : decode cX6_term 29 = .ok (.aload_n 0, 1) := by decide +kernel
theorem dX6_term_30 : decode cX6_term 30 = .ok (.invokevirtual 81, 3) := by decide +kernel
theorem dX6_term_33 : decode cX6_term 33 = .ok (.bipush 42, 2) := by decide +kernel
theorem dX6_term_35 : decode cX6_term 35 = .ok (.if_icmp .ne 7, 3) := by decide +kernel
theorem dX6_term_38 : decode cX6_term 38 = .ok (.iconst 1, 1) := by decide +kernel
theorem dX6_term_39 : decode cX6_term 39 = .ok (.goto 4, 3) := by decide +kernel
theorem dX6_term_42 : decode cX6_term 42 = .ok (.iconst 0, 1) := by decide +kernel
theorem dX6_term_43 : decode cX6_term 43 = .ok (.istore_n 1, 1) := by decide +kernel
theorem dX6_term_44 : decode cX6_term 44 = .ok (.aload_n 0, 1) := by decide +kernel
theorem dX6_term_45 : decode cX6_term 45 = .ok (.dup, 1) := by decide +kernel
theorem dX6_term_46 : decode cX6_term 46 = .ok (.getfield 60, 3) := by decide +kernel
theorem dX6_term_49 : decode cX6_term 49 = .ok (.iconst 1, 1) := by decide +kernel
theorem dX6_term_50 : decode cX6_term 50 = .ok (.iadd, 1) := by decide +kernel
theorem dX6_term_51 : decode cX6_term 51 = .ok (.putfield 60, 3) := by decide +kernel
theorem dX6_term_54 : decode cX6_term 54 = .ok (.aload_n 0, 1) := by decide +kernel
theorem dX6_term_55 : decode cX6_term 55 = .ok (.invokevirtual 138, 3) := by decide +kernel
theorem dX6_term_58 : decode cX6_term 58 = .ok (.aload_n 0, 1) := by decide +kernel
theorem dX6_term_59 : decode cX6_term 59 = .ok (.iload_n 1, 1) := by decide +kernel
theorem dX6_term_60 : decode cX6_term 60 = .ok (.ifCond .eq 7, 3) := by decide +kernel
theorem dX6_term_63 : decode cX6_term 63 = .ok (.iconst 4, 1) := by decide +kernel
theorem dX6_term_64 : decode cX6_term 64 = .ok (.goto 4, 3) := by decide +kernel
theorem dX6_term_67 : decode cX6_term 67 = .ok (.iconst 5, 1) := by decide +kernel
theorem dX6_term_68 : decode cX6_term 68 = .ok (.invokevirtual 135, 3) := by decide +kernel
theorem dX6_term_71 : decode cX6_term 71 = .ok (.goto (-67), 3) := by decide +kernel
theorem dX6_term_74 : decode cX6_term 74 = .ok (.return_, 1) := by decide +kernel
theorem dX6_sum_0 : decode cX6_sum 0 = .ok (.aload_n 0, 1) := by decide +kernel
theorem dX6_sum_1 : decode cX6_sum 1 = .ok (.invokevirtual 141, 3) := by decide +kernel
theorem dX6_sum_4 : decode cX6_sum 4 = .ok (.aload_n 0, 1) := by decide +kernel
theorem dX6_sum_5 : decode cX6_sum 5 = .ok (.invokevirtual 77, 3) := by decide +kernel
theorem dX6_sum_8 : decode cX6_sum 8 = .ok (.ifCond .eq 66, 3) := by decide +kernel
theorem dX6_sum_11 : decode cX6_sum 11 = .ok (.aload_n 0, 1) := by decide +kernel
theorem dX6_sum_12 : decode cX6_sum 12 = .ok (.invokevirtual 81, 3) := by decide +kernel
theorem dX6_sum_15 : decode cX6_sum 15 = .ok (.bipush 43, 2) := by decide +kernel
theorem dX6_sum_17 : decode cX6_sum 17 = .ok (.if_icmp .eq 12, 3) := by decide +kernel
theorem dX6_sum_20 : decode cX6_sum 20 = .ok (.aload_n 0, 1) := by decide +kernel
theorem dX6_sum_21 : decode cX6_sum 21 = .ok (.invokevirtual 81, 3) := by decide +kernel
theorem dX6_sum_24 : decode cX6_sum 24 = .ok (.bipush 45, 2) := by decide +kernel
theorem dX6_sum_26 : decode cX6_sum 26 = .ok (.if_icmp .ne 48, 3) := by decide +kernel
theorem dX6_sum_29 : decode cX6_sum 29 = .ok (.aload_n 0, 1) := by decide +kernel
theorem dX6_sum_30 : decode cX6_sum 30 = .ok (.invokevirtual 81, 3) := by decide +kernel
theorem dX6_sum_33 : decode cX6_sum 33 = .ok (.bipush 43, 2) := by decide +kernel
theorem dX6_sum_35 : decode cX6_sum 35 = .ok (.if_icmp .ne 7, 3) := by decide +kernel
theorem dX6_sum_38 : decode cX6_sum 38 = .ok (.iconst 1, 1) := by decide +kernel
theorem dX6_sum_39 : decode cX6_sum 39 = .ok (.goto 4, 3) := by decide +kernel
theorem dX6_sum_42 : decode cX6_sum 42 = .ok (.iconst 0, 1) := by decide +kernel
theorem dX6_sum_43 : decode cX6_sum 43 = .ok (.istore_n 1, 1) := by decide +kernel
theorem dX6_sum_44 : decode cX6_sum 44 = .ok (.aload_n 0, 1) := by decide +kernel
theorem dX6_sum_45 : decode cX6_sum 45 = .ok (.dup, 1) := by decide +kernel
theorem dX6_sum_46 : decode cX6_sum 46 = .ok (.getfield 60, 3) := by decide +kernel
theorem dX6_sum_49 : decode cX6_sum 49 = .ok (.iconst 1, 1) := by decide +kernel
theorem dX6_sum_50 : decode cX6_sum 50 = .ok (.iadd, 1) := by decide +kernel
theorem dX6_sum_51 : decode cX6_sum 51 = .ok (.putfield 60, 3) := by decide +kernel
theorem dX6_sum_54 : decode cX6_sum 54 = .ok (.aload_n 0, 1) := by decide +kernel
theorem dX6_sum_55 : decode cX6_sum 55 = .ok (.invokevirtual 141, 3) := by decide +kernel
theorem dX6_sum_58 : decode cX6_sum 58 = .ok (.aload_n 0, 1) := by decide +kernel
theorem dX6_sum_59 : decode cX6_sum 59 = .ok (.iload_n 1, 1) := by decide +kernel
theorem dX6_sum_60 : decode cX6_sum 60 = .ok (.ifCond .eq 7, 3) := by decide +kernel
theorem dX6_sum_63 : decode cX6_sum 63 = .ok (.iconst 2, 1) := by decide +kernel
theorem dX6_sum_64 : decode cX6_sum 64 = .ok (.goto 4, 3) := by decide +kernel
theorem dX6_sum_67 : decode cX6_sum 67 = .ok (.iconst 3, 1) := by decide +kernel
theorem dX6_sum_68 : decode cX6_sum 68 = .ok (.invokevirtual 135, 3) := by decide +kernel
theorem dX6_sum_71 : decode cX6_sum 71 = .ok (.goto (-67), 3) := by decide +kernel
theorem dX6_sum_74 : decode cX6_sum 74 = .ok (.return_, 1) := by decide +kernel
theorem dX6_once_0 : decode cX6_once 0 = .ok (.aload_n 0, 1) := by decide +kernel
theorem dX6_once_1 : decode cX6_once 1 = .ok (.getfield 144, 3) := by decide +kernel
theorem dX6_once_4 : decode cX6_once 4 = .ok (.iload_n 1, 1) := by decide +kernel
theorem dX6_once_5 : decode cX6_once 5 = .ok (.ishr, 1) := by decide +kernel
theorem dX6_once_6 : decode cX6_once 6 = .ok (.iconst 1, 1) := by decide +kernel
theorem dX6_once_7 : decode cX6_once 7 = .ok (.iand, 1) := by decide +kernel
theorem dX6_once_8 : decode cX6_once 8 = .ok (.iconst 1, 1) := by decide +kernel
theorem dX6_once_9 : decode cX6_once 9 = .ok (.if_icmp .ne 10, 3) := by decide +kernel
theorem dX6_once_12 : decode cX6_once 12 = .ok (.aload_n 0, 1) := by decide +kernel
theorem dX6_once_13 : decode cX6_once 13 = .ok (.bipush (-2), 2) := by decide +kernel
theorem dX6_once_15 : decode cX6_once 15 = .ok (.iload_n 2, 1) := by decide +kernel
theorem dX6_once_16 : decode cX6_once 16 = .ok (.invokevirtual 94, 3) := by decide +kernel
theorem dX6_once_19 : decode cX6_once 19 = .ok (.aload_n 0, 1) := by decide +kernel
theorem dX6_once_20 : decode cX6_once 20 = .ok (.dup, 1) := by decide +kernel
theorem dX6_once_21 : decode cX6_once 21 = .ok (.getfield 144, 3) := by decide +kernel
theorem dX6_once_24 : decode cX6_once 24 = .ok (.iconst 1, 1) := by decide +kernel
theorem dX6_once_25 : decode cX6_once 25 = .ok (.iload_n 1, 1) := by decide +kernel
theorem dX6_once_26 : decode cX6_once 26 = .ok (.ishl, 1) := by decide +kernel
theorem dX6_once_27 : decode cX6_once 27 = .ok (.ior, 1) := by decide +kernel
theorem dX6_once_28 : decode cX6_once 28 = .ok (.putfield 144, 3) := by decide +kernel
theorem dX6_once_31 : decode cX6_once 31 = .ok (.return_, 1) := by decide +kernel
theorem dX6_readJob_0 : decode cX6_readJob 0 = .ok (.aload_n 0, 1) := by decide +kernel
theorem dX6_readJob_1 : decode cX6_readJob 1 = .ok (.getfield 20, 3) := by decide +kernel
theorem dX6_readJob_4 : decode cX6_readJob 4 = .ok (.iconst 2, 1) := by decide +kernel
theorem dX6_readJob_5 : decode cX6_readJob 5 = .ok (.iaload, 1) := by decide +kernel
theorem dX6_readJob_6 : decode cX6_readJob 6 = .ok (.bipush 6, 2) := by decide +kernel
theorem dX6_readJob_8 : decode cX6_readJob 8 = .ok (.if_icmp .ne 10, 3) := by decide +kernel
theorem dX6_readJob_11 : decode cX6_readJob 11 = .ok (.aload_n 0, 1) := by decide +kernel
theorem dX6_readJob_12 : decode cX6_readJob 12 = .ok (.bipush (-4), 2) := by decide +kernel
theorem dX6_readJob_14 : decode cX6_readJob 14 = .ok (.iload_n 1, 1) := by decide +kernel
theorem dX6_readJob_15 : decode cX6_readJob 15 = .ok (.invokevirtual 94, 3) := by decide +kernel
theorem dX6_readJob_18 : decode cX6_readJob 18 = .ok (.aload_n 0, 1) := by decide +kernel
theorem dX6_readJob_19 : decode cX6_readJob 19 = .ok (.iconst 0, 1) := by decide +kernel
theorem dX6_readJob_20 : decode cX6_readJob 20 = .ok (.sipush 999, 3) := by decide +kernel
theorem dX6_readJob_23 : decode cX6_readJob 23 = .ok (.invokevirtual 132, 3) := by decide +kernel
theorem dX6_readJob_26 : decode cX6_readJob 26 = .ok (.istore_n 2, 1) := by decide +kernel
theorem dX6_readJob_27 : decode cX6_readJob 27 = .ok (.aload_n 0, 1) := by decide +kernel
theorem dX6_readJob_28 : decode cX6_readJob 28 = .ok (.iconst 0, 1) := by decide +kernel
theorem dX6_readJob_29 : decode cX6_readJob 29 = .ok (.sipush 9999, 3) := by decide +kernel
theorem dX6_readJob_32 : decode cX6_readJob 32 = .ok (.invokevirtual 132, 3) := by decide +kernel
theorem dX6_readJob_35 : decode cX6_readJob 35 = .ok (.istore_n 3, 1) := by decide +kernel
theorem dX6_readJob_36 : decode cX6_readJob 36 = .ok (.aload_n 0, 1) := by decide +kernel
theorem dX6_readJob_37 : decode cX6_readJob 37 = .ok (.iconst 0, 1) := by decide +kernel
theorem dX6_readJob_38 : decode cX6_readJob 38 = .ok (.bipush 99, 2) := by decide +kernel
theorem dX6_readJob_40 : decode cX6_readJob 40 = .ok (.invokevirtual 132, 3) := by decide +kernel
theorem dX6_readJob_43 : decode cX6_readJob 43 = .ok (.istore 4, 2) := by decide +kernel
theorem dX6_readJob_45 : decode cX6_readJob 45 = .ok (.aload_n 0, 1) := by decide +kernel
theorem dX6_readJob_46 : decode cX6_readJob 46 = .ok (.invokevirtual 77, 3) := by decide +kernel
theorem dX6_readJob_49 : decode cX6_readJob 49 = .ok (.ifCond .ne 4, 3) := by decide +kernel
theorem dX6_readJob_52 : decode cX6_readJob 52 = .ok (.return_, 1) := by decide +kernel
theorem dX6_readJob_53 : decode cX6_readJob 53 = .ok (.aload_n 0, 1) := by decide +kernel
theorem dX6_readJob_54 : decode cX6_readJob 54 = .ok (.getfield 20, 3) := by decide +kernel
theorem dX6_readJob_57 : decode cX6_readJob 57 = .ok (.iconst 2, 1) := by decide +kernel
theorem dX6_readJob_58 : decode cX6_readJob 58 = .ok (.iaload, 1) := by decide +kernel
theorem dX6_readJob_59 : decode cX6_readJob 59 = .ok (.istore 5, 2) := by decide +kernel
theorem dX6_readJob_61 : decode cX6_readJob 61 = .ok (.iload 5, 2) := by decide +kernel
theorem dX6_readJob_63 : decode cX6_readJob 63 = .ok (.invokestatic 147, 3) := by decide +kernel
theorem dX6_readJob_66 : decode cX6_readJob 66 = .ok (.istore 6, 2) := by decide +kernel
theorem dX6_readJob_68 : decode cX6_readJob 68 = .ok (.aload_n 0, 1) := by decide +kernel
theorem dX6_readJob_69 : decode cX6_readJob 69 = .ok (.getfield 20, 3) := by decide +kernel
theorem dX6_readJob_72 : decode cX6_readJob 72 = .ok (.iload 6, 2) := by decide +kernel
theorem dX6_readJob_74 : decode cX6_readJob 74 = .ok (.iload_n 2, 1) := by decide +kernel
theorem dX6_readJob_75 : decode cX6_readJob 75 = .ok (.iastore, 1) := by decide +kernel
theorem dX6_readJob_76 : decode cX6_readJob 76 = .ok (.aload_n 0, 1) := by decide +kernel
theorem dX6_readJob_77 : decode cX6_readJob 77 = .ok (.getfield 20, 3) := by decide +kernel
theorem dX6_readJob_80 : decode cX6_readJob 80 = .ok (.iload 6, 2) := by decide +kernel
theorem dX6_readJob_82 : decode cX6_readJob 82 = .ok (.iconst 1, 1) := by decide +kernel
theorem dX6_readJob_83 : decode cX6_readJob 83 = .ok (.iadd, 1) := by decide +kernel
theorem dX6_readJob_84 : decode cX6_readJob 84 = .ok (.iload_n 3, 1) := by decide +kernel
theorem dX6_readJob_85 : decode cX6_readJob 85 = .ok (.iastore, 1) := by decide +kernel
theorem dX6_readJob_86 : decode cX6_readJob 86 = .ok (.aload_n 0, 1) := by decide +kernel
theorem dX6_readJob_87 : decode cX6_readJob 87 = .ok (.getfield 20, 3) := by decide +kernel
theorem dX6_readJob_90 : decode cX6_readJob 90 = .ok (.iload 6, 2) := by decide +kernel
theorem dX6_readJob_92 : decode cX6_readJob 92 = .ok (.iconst 2, 1) := by decide +kernel
theorem dX6_readJob_93 : decode cX6_readJob 93 = .ok (.iadd, 1) := by decide +kernel
theorem dX6_readJob_94 : decode cX6_readJob 94 = .ok (.iload 4, 2) := by decide +kernel
theorem dX6_readJob_96 : decode cX6_readJob 96 = .ok (.iastore, 1) := by decide +kernel
theorem dX6_readJob_97 : decode cX6_readJob 97 = .ok (.aload_n 0, 1) := by decide +kernel
theorem dX6_readJob_98 : decode cX6_readJob 98 = .ok (.getfield 20, 3) := by decide +kernel
theorem dX6_readJob_101 : decode cX6_readJob 101 = .ok (.iconst 2, 1) := by decide +kernel
theorem dX6_readJob_102 : decode cX6_readJob 102 = .ok (.dup2, 1) := by decide +kernel
theorem dX6_readJob_103 : decode cX6_readJob 103 = .ok (.iaload, 1) := by decide +kernel
theorem dX6_readJob_104 : decode cX6_readJob 104 = .ok (.iconst 1, 1) := by decide +kernel
theorem dX6_readJob_105 : decode cX6_readJob 105 = .ok (.iadd, 1) := by decide +kernel
theorem dX6_readJob_106 : decode cX6_readJob 106 = .ok (.iastore, 1) := by decide +kernel
theorem dX6_readJob_107 : decode cX6_readJob 107 = .ok (.iconst 1, 1) := by decide +kernel
theorem dX6_readJob_108 : decode cX6_readJob 108 = .ok (.istore 7, 2) := by decide +kernel
theorem dX6_readJob_110 : decode cX6_readJob 110 = .ok (.iload 7, 2) := by decide +kernel
theorem dX6_readJob_112 : decode cX6_readJob 112 = .ok (.ifCond .eq 61, 3) := by decide +kernel
theorem dX6_readJob_115 : decode cX6_readJob 115 = .ok (.aload_n 0, 1) := by decide +kernel
theorem dX6_readJob_116 : decode cX6_readJob 116 = .ok (.invokevirtual 81, 3) := by decide +kernel
theorem dX6_readJob_119 : decode cX6_readJob 119 = .ok (.pop, 1) := by decide +kernel
theorem dX6_readJob_120 : decode cX6_readJob 120 = .ok (.aload_n 0, 1) := by decide +kernel
theorem dX6_readJob_121 : decode cX6_readJob 121 = .ok (.getfield 60, 3) := by decide +kernel
theorem dX6_readJob_124 : decode cX6_readJob 124 = .ok (.istore 8, 2) := by decide +kernel
theorem dX6_readJob_126 : decode cX6_readJob 126 = .ok (.aload_n 0, 1) := by decide +kernel
theorem dX6_readJob_127 : decode cX6_readJob 127 = .ok (.ldc 150, 2) := by decide +kernel
theorem dX6_readJob_129 : decode cX6_readJob 129 = .ok (.invokevirtual 122, 3) := by decide +kernel
theorem dX6_readJob_132 : decode cX6_readJob 132 = .ok (.ifCond .ne 24, 3) := by decide +kernel
theorem dX6_readJob_135 : decode cX6_readJob 135 = .ok (.aload_n 0, 1) := by decide +kernel
theorem dX6_readJob_136 : decode cX6_readJob 136 = .ok (.getfield 20, 3) := by decide +kernel
theorem dX6_readJob_139 : decode cX6_readJob 139 = .ok (.iload 6, 2) := by decide +kernel
theorem dX6_readJob_141 : decode cX6_readJob 141 = .ok (.iconst 3, 1) := by decide +kernel
theorem dX6_readJob_142 : decode cX6_readJob 142 = .ok (.iadd, 1) := by decide +kernel
theorem dX6_readJob_143 : decode cX6_readJob 143 = .ok (.iaload, 1) := by decide +kernel
theorem dX6_readJob_144 : decode cX6_readJob 144 = .ok (.ifCond .ne 11, 3) := by decide +kernel
theorem dX6_readJob_147 : decode cX6_readJob 147 = .ok (.aload_n 0, 1) := by decide +kernel
theorem dX6_readJob_148 : decode cX6_readJob 148 = .ok (.bipush (-2), 2) := by decide +kernel
theorem dX6_readJob_150 : decode cX6_readJob 150 = .ok (.iload 8, 2) := by decide +kernel
theorem dX6_readJob_152 : decode cX6_readJob 152 = .ok (.invokevirtual 94, 3) := by decide +kernel
theorem dX6_readJob_155 : decode cX6_readJob 155 = .ok (.return_, 1) := by decide +kernel
theorem dX6_readJob_156 : decode cX6_readJob 156 = .ok (.aload_n 0, 1) := by decide +kernel
theorem dX6_readJob_157 : decode cX6_readJob 157 = .ok (.iload 5, 2) := by decide +kernel
theorem dX6_readJob_159 : decode cX6_readJob 159 = .ok (.iload 8, 2) := by decide +kernel
theorem dX6_readJob_161 : decode cX6_readJob 161 = .ok (.invokevirtual 152, 3) := by decide +kernel
theorem dX6_readJob_164 : decode cX6_readJob 164 = .ok (.aload_n 0, 1) := by decide +kernel
theorem dX6_readJob_165 : decode cX6_readJob 165 = .ok (.invokevirtual 77, 3) := by decide +kernel
theorem dX6_readJob_168 : decode cX6_readJob 168 = .ok (.istore 7, 2) := by decide +kernel
theorem dX6_readJob_170 : decode cX6_readJob 170 = .ok (.goto (-60), 3) := by decide +kernel
theorem dX6_readJob_173 : decode cX6_readJob 173 = .ok (.return_, 1) := by decide +kernel
theorem dX6_readOperation_0 : decode cX6_readOperation 0 = .ok (.aload_n 0, 1) := by decide +kernel
theorem dX6_readOperation_1 : decode cX6_readOperation 1 = .ok (.getfield 20, 3) := by decide +kernel
theorem dX6_readOperation_4 : decode cX6_readOperation 4 = .ok (.iload_n 1, 1) := by decide +kernel
theorem dX6_readOperation_5 : decode cX6_readOperation 5 = .ok (.invokestatic 147, 3) := by decide +kernel
theorem dX6_readOperation_8 : decode cX6_readOperation 8 = .ok (.iconst 3, 1) := by decide +kernel
theorem dX6_readOperation_9 : decode cX6_readOperation 9 = .ok (.iadd, 1) := by decide +kernel
theorem dX6_readOperation_10 : decode cX6_readOperation 10 = .ok (.iaload, 1) := by decide +kernel
theorem dX6_readOperation_11 : decode cX6_readOperation 11 = .ok (.istore_n 3, 1) := by decide +kernel
theorem dX6_readOperation_12 : decode cX6_readOperation 12 = .ok (.iload_n 3, 1) := by decide +kernel
theorem dX6_readOperation_13 : decode cX6_readOperation 13 = .ok (.bipush 6, 2) := by decide +kernel
theorem dX6_readOperation_15 : decode cX6_readOperation 15 = .ok (.if_icmp .ne 10, 3) := by decide +kernel
theorem dX6_readOperation_18 : decode cX6_readOperation 18 = .ok (.aload_n 0, 1) := by decide +kernel
theorem dX6_readOperation_19 : decode cX6_readOperation 19 = .ok (.bipush (-4), 2) := by decide +kernel
theorem dX6_readOperation_21 : decode cX6_readOperation 21 = .ok (.iload_n 2, 1) := by decide +kernel
theorem dX6_readOperation_22 : decode cX6_readOperation 22 = .ok (.invokevirtual 94, 3) := by decide +kernel
theorem dX6_readOperation_25 : decode cX6_readOperation 25 = .ok (.aload_n 0, 1) := by decide +kernel
theorem dX6_readOperation_26 : decode cX6_readOperation 26 = .ok (.iconst 0, 1) := by decide +kernel
theorem dX6_readOperation_27 : decode cX6_readOperation 27 = .ok (.aload_n 0, 1) := by decide +kernel
theorem dX6_readOperation_28 : decode cX6_readOperation 28 = .ok (.getfield 20, 3) := by decide +kernel
theorem dX6_readOperation_31 : decode cX6_readOperation 31 = .ok (.iconst 0, 1) := by decide +kernel
theorem dX6_readOperation_32 : decode cX6_readOperation 32 = .ok (.iaload, 1) := by decide +kernel
theorem dX6_readOperation_33 : decode cX6_readOperation 33 = .ok (.iconst 1, 1) := by decide +kernel
theorem dX6_readOperation_34 : decode cX6_readOperation 34 = .ok (.isub, 1) := by decide +kernel
theorem dX6_readOperation_35 : decode cX6_readOperation 35 = .ok (.invokevirtual 132, 3) := by decide +kernel
theorem dX6_readOperation_38 : decode cX6_readOperation 38 = .ok (.istore 4, 2) := by decide +kernel
theorem dX6_readOperation_40 : decode cX6_readOperation 40 = .ok (.iconst 0, 1) := by decide +kernel
theorem dX6_readOperation_41 : decode cX6_readOperation 41 = .ok (.istore 5, 2) := by decide +kernel
theorem dX6_readOperation_43 : decode cX6_readOperation 43 = .ok (.iload 5, 2) := by decide +kernel
theorem dX6_readOperation_45 : decode cX6_readOperation 45 = .ok (.iload_n 3, 1) := by decide +kernel
theorem dX6_readOperation_46 : decode cX6_readOperation 46 = .ok (.if_icmp .ge 46, 3) := by decide +kernel
theorem dX6_readOperation_49 : decode cX6_readOperation 49 = .ok (.aload_n 0, 1) := by decide +kernel
theorem dX6_readOperation_50 : decode cX6_readOperation 50 = .ok (.invokevirtual 77, 3) := by decide +kernel
theorem dX6_readOperation_53 : decode cX6_readOperation 53 = .ok (.ifCond .eq 39, 3) := by decide +kernel
theorem dX6_readOperation_56 : decode cX6_readOperation 56 = .ok (.aload_n 0, 1) := by decide +kernel
theorem dX6_readOperation_57 : decode cX6_readOperation 57 = .ok (.getfield 20, 3) := by decide +kernel
theorem dX6_readOperation_60 : decode cX6_readOperation 60 = .ok (.bipush 6, 2) := by decide +kernel
theorem dX6_readOperation_62 : decode cX6_readOperation 62 = .ok (.iload_n 1, 1) := by decide +kernel
theorem dX6_readOperation_63 : decode cX6_readOperation 63 = .ok (.imul, 1) := by decide +kernel
theorem dX6_readOperation_64 : decode cX6_readOperation 64 = .ok (.iload 5, 2) := by decide +kernel
theorem dX6_readOperation_66 : decode cX6_readOperation 66 = .ok (.iadd, 1) := by decide +kernel
theorem dX6_readOperation_67 : decode cX6_readOperation 67 = .ok (.invokestatic 155, 3) := by decide +kernel
theorem dX6_readOperation_70 : decode cX6_readOperation 70 = .ok (.iaload, 1) := by decide +kernel
theorem dX6_readOperation_71 : decode cX6_readOperation 71 = .ok (.iload 4, 2) := by decide +kernel
theorem dX6_readOperation_73 : decode cX6_readOperation 73 = .ok (.if_icmp .ne 13, 3) := by decide +kernel
theorem dX6_readOperation_76 : decode cX6_readOperation 76 = .ok (.aload_n 0, 1) := by decide +kernel
theorem dX6_readOperation_77 : decode cX6_readOperation 77 = .ok (.bipush (-3), 2) := by decide +kernel
theorem dX6_readOperation_79 : decode cX6_readOperation 79 = .ok (.aload_n 0, 1) := by decide +kernel
theorem dX6_readOperation_80 : decode cX6_readOperation 80 = .ok (.getfield 102, 3) := by decide +kernel
theorem dX6_readOperation_83 : decode cX6_readOperation 83 = .ok (.invokevirtual 94, 3) := by decide +kernel
theorem dX6_readOperation_86 : decode cX6_readOperation 86 = .ok (.iinc 5 1, 3) := by decide +kernel
theorem dX6_readOperation_89 : decode cX6_readOperation 89 = .ok (.goto (-46), 3) := by decide +kernel
theorem dX6_readOperation_92 : decode cX6_readOperation 92 = .ok (.aload_n 0, 1) := by decide +kernel
theorem dX6_readOperation_93 : decode cX6_readOperation 93 = .ok (.iconst 1, 1) := by decide +kernel
theorem dX6_readOperation_94 : decode cX6_readOperation 94 = .ok (.bipush 99, 2) := by decide +kernel
theorem dX6_readOperation_96 : decode cX6_readOperation 96 = .ok (.invokevirtual 132, 3) := by decide +kernel
theorem dX6_readOperation_99 : decode cX6_readOperation 99 = .ok (.istore 5, 2) := by decide +kernel
theorem dX6_readOperation_101 : decode cX6_readOperation 101 = .ok (.aload_n 0, 1) := by decide +kernel
theorem dX6_readOperation_102 : decode cX6_readOperation 102 = .ok (.invokevirtual 77, 3) := by decide +kernel
theorem dX6_readOperation_105 : decode cX6_readOperation 105 = .ok (.ifCond .ne 4, 3) := by decide +kernel
theorem dX6_readOperation_108 : decode cX6_readOperation 108 = .ok (.return_, 1) := by decide +kernel
theorem dX6_readOperation_109 : decode cX6_readOperation 109 = .ok (.aload_n 0, 1) := by decide +kernel
theorem dX6_readOperation_110 : decode cX6_readOperation 110 = .ok (.getfield 20, 3) := by decide +kernel
theorem dX6_readOperation_113 : decode cX6_readOperation 113 = .ok (.bipush 6, 2) := by decide +kernel
theorem dX6_readOperation_115 : decode cX6_readOperation 115 = .ok (.iload_n 1, 1) := by decide +kernel
theorem dX6_readOperation_116 : decode cX6_readOperation 116 = .ok (.imul, 1) := by decide +kernel
theorem dX6_readOperation_117 : decode cX6_readOperation 117 = .ok (.iload_n 3, 1) := by decide +kernel
theorem dX6_readOperation_118 : decode cX6_readOperation 118 = .ok (.iadd, 1) := by decide +kernel
theorem dX6_readOperation_119 : decode cX6_readOperation 119 = .ok (.invokestatic 155, 3) := by decide +kernel
theorem dX6_readOperation_122 : decode cX6_readOperation 122 = .ok (.iload 4, 2) := by decide +kernel
theorem dX6_readOperation_124 : decode cX6_readOperation 124 = .ok (.iastore, 1) := by decide +kernel
theorem dX6_readOperation_125 : decode cX6_readOperation 125 = .ok (.aload_n 0, 1) := by decide +kernel
theorem dX6_readOperation_126 : decode cX6_readOperation 126 = .ok (.getfield 20, 3) := by decide +kernel
theorem dX6_readOperation_129 : decode cX6_readOperation 129 = .ok (.bipush 6, 2) := by decide +kernel
theorem dX6_readOperation_131 : decode cX6_readOperation 131 = .ok (.iload_n 1, 1) := by decide +kernel
theorem dX6_readOperation_132 : decode cX6_readOperation 132 = .ok (.imul, 1) := by decide +kernel
theorem dX6_readOperation_133 : decode cX6_readOperation 133 = .ok (.iload_n 3, 1) := by decide +kernel
theorem dX6_readOperation_134 : decode cX6_readOperation 134 = .ok (.iadd, 1) := by decide +kernel
theorem dX6_readOperation_135 : decode cX6_readOperation 135 = .ok (.invokestatic 155, 3) := by decide +kernel
theorem dX6_readOperation_138 : decode cX6_readOperation 138 = .ok (.iconst 1, 1) := by decide +kernel
theorem dX6_readOperation_139 : decode cX6_readOperation 139 = .ok (.iadd, 1) := by decide +kernel
theorem dX6_readOperation_140 : decode cX6_readOperation 140 = .ok (.iload 5, 2) := by decide +kernel
theorem dX6_readOperation_142 : decode cX6_readOperation 142 = .ok (.iastore, 1) := by decide +kernel
theorem dX6_readOperation_143 : decode cX6_readOperation 143 = .ok (.aload_n 0, 1) := by decide +kernel
theorem dX6_readOperation_144 : decode cX6_readOperation 144 = .ok (.getfield 20, 3) := by decide +kernel
theorem dX6_readOperation_147 : decode cX6_readOperation 147 = .ok (.iload_n 1, 1) := by decide +kernel
theorem dX6_readOperation_148 : decode cX6_readOperation 148 = .ok (.invokestatic 147, 3) := by decide +kernel
theorem dX6_readOperation_151 : decode cX6_readOperation 151 = .ok (.iconst 3, 1) := by decide +kernel
theorem dX6_readOperation_152 : decode cX6_readOperation 152 = .ok (.iadd, 1) := by decide +kernel
theorem dX6_readOperation_153 : decode cX6_readOperation 153 = .ok (.dup2, 1) := by decide +kernel
theorem dX6_readOperation_154 : decode cX6_readOperation 154 = .ok (.iaload, 1) := by decide +kernel
theorem dX6_readOperation_155 : decode cX6_readOperation 155 = .ok (.iconst 1, 1) := by decide +kernel
theorem dX6_readOperation_156 : decode cX6_readOperation 156 = .ok (.iadd, 1) := by decide +kernel
theorem dX6_readOperation_157 : decode cX6_readOperation 157 = .ok (.iastore, 1) := by decide +kernel
theorem dX6_readOperation_158 : decode cX6_readOperation 158 = .ok (.return_, 1) := by decide +kernel
theorem dX6_readMachine_0 : decode cX6_readMachine 0 = .ok (.aload_n 0, 1) := by decide +kernel
theorem dX6_readMachine_1 : decode cX6_readMachine 1 = .ok (.iconst 0, 1) := by decide +kernel
theorem dX6_readMachine_2 : decode cX6_readMachine 2 = .ok (.aload_n 0, 1) := by decide +kernel
theorem dX6_readMachine_3 : decode cX6_readMachine 3 = .ok (.getfield 20, 3) := by decide +kernel
theorem dX6_readMachine_6 : decode cX6_readMachine 6 = .ok (.iconst 0, 1) := by decide +kernel
theorem dX6_readMachine_7 : decode cX6_readMachine 7 = .ok (.iaload, 1) := by decide +kernel
theorem dX6_readMachine_8 : decode cX6_readMachine 8 = .ok (.iconst 1, 1) := by decide +kernel
theorem dX6_readMachine_9 : decode cX6_readMachine 9 = .ok (.isub, 1) := by decide +kernel
theorem dX6_readMachine_10 : decode cX6_readMachine 10 = .ok (.invokevirtual 132, 3) := by decide +kernel
theorem dX6_readMachine_13 : decode cX6_readMachine 13 = .ok (.istore_n 1, 1) := by decide +kernel
theorem dX6_readMachine_14 : decode cX6_readMachine 14 = .ok (.aload_n 0, 1) := by decide +kernel
theorem dX6_readMachine_15 : decode cX6_readMachine 15 = .ok (.iconst 0, 1) := by decide +kernel
theorem dX6_readMachine_16 : decode cX6_readMachine 16 = .ok (.iconst 1, 1) := by decide +kernel
theorem dX6_readMachine_17 : decode cX6_readMachine 17 = .ok (.invokevirtual 132, 3) := by decide +kernel
theorem dX6_readMachine_20 : decode cX6_readMachine 20 = .ok (.istore_n 2, 1) := by decide +kernel
theorem dX6_readMachine_21 : decode cX6_readMachine 21 = .ok (.aload_n 0, 1) := by decide +kernel
theorem dX6_readMachine_22 : decode cX6_readMachine 22 = .ok (.iconst 0, 1) := by decide +kernel
theorem dX6_readMachine_23 : decode cX6_readMachine 23 = .ok (.bipush 99, 2) := by decide +kernel
theorem dX6_readMachine_25 : decode cX6_readMachine 25 = .ok (.invokevirtual 132, 3) := by decide +kernel
theorem dX6_readMachine_28 : decode cX6_readMachine 28 = .ok (.istore_n 3, 1) := by decide +kernel
theorem dX6_readMachine_29 : decode cX6_readMachine 29 = .ok (.aload_n 0, 1) := by decide +kernel
theorem dX6_readMachine_30 : decode cX6_readMachine 30 = .ok (.invokevirtual 77, 3) := by decide +kernel
theorem dX6_readMachine_33 : decode cX6_readMachine 33 = .ok (.ifCond .ne 4, 3) := by decide +kernel
theorem dX6_readMachine_36 : decode cX6_readMachine 36 = .ok (.return_, 1) := by decide +kernel
theorem dX6_readMachine_37 : decode cX6_readMachine 37 = .ok (.aload_n 0, 1) := by decide +kernel
theorem dX6_readMachine_38 : decode cX6_readMachine 38 = .ok (.getfield 20, 3) := by decide +kernel
theorem dX6_readMachine_41 : decode cX6_readMachine 41 = .ok (.iload_n 1, 1) := by decide +kernel
theorem dX6_readMachine_42 : decode cX6_readMachine 42 = .ok (.invokestatic 158, 3) := by decide +kernel
theorem dX6_readMachine_45 : decode cX6_readMachine 45 = .ok (.iconst 1, 1) := by decide +kernel
theorem dX6_readMachine_46 : decode cX6_readMachine 46 = .ok (.iload_n 2, 1) := by decide +kernel
theorem dX6_readMachine_47 : decode cX6_readMachine 47 = .ok (.isub, 1) := by decide +kernel
theorem dX6_readMachine_48 : decode cX6_readMachine 48 = .ok (.iastore, 1) := by decide +kernel
theorem dX6_readMachine_49 : decode cX6_readMachine 49 = .ok (.aload_n 0, 1) := by decide +kernel
theorem dX6_readMachine_50 : decode cX6_readMachine 50 = .ok (.getfield 20, 3) := by decide +kernel
theorem dX6_readMachine_53 : decode cX6_readMachine 53 = .ok (.iload_n 1, 1) := by decide +kernel
theorem dX6_readMachine_54 : decode cX6_readMachine 54 = .ok (.invokestatic 158, 3) := by decide +kernel
theorem dX6_readMachine_57 : decode cX6_readMachine 57 = .ok (.iconst 1, 1) := by decide +kernel
theorem dX6_readMachine_58 : decode cX6_readMachine 58 = .ok (.iadd, 1) := by decide +kernel
theorem dX6_readMachine_59 : decode cX6_readMachine 59 = .ok (.iload_n 3, 1) := by decide +kernel
theorem dX6_readMachine_60 : decode cX6_readMachine 60 = .ok (.iastore, 1) := by decide +kernel
theorem dX6_readMachine_61 : decode cX6_readMachine 61 = .ok (.return_, 1) := by decide +kernel
theorem dX6_statement_0 : decode cX6_statement 0 = .ok (.aload_n 0, 1) := by decide +kernel
theorem dX6_statement_1 : decode cX6_statement 1 = .ok (.invokevirtual 81, 3) := by decide +kernel
theorem dX6_statement_4 : decode cX6_statement 4 = .ok (.pop, 1) := by decide +kernel
theorem dX6_statement_5 : decode cX6_statement 5 = .ok (.aload_n 0, 1) := by decide +kernel
theorem dX6_statement_6 : decode cX6_statement 6 = .ok (.getfield 60, 3) := by decide +kernel
theorem dX6_statement_9 : decode cX6_statement 9 = .ok (.istore_n 1, 1) := by decide +kernel
theorem dX6_statement_10 : decode cX6_statement 10 = .ok (.aload_n 0, 1) := by decide +kernel
theorem dX6_statement_11 : decode cX6_statement 11 = .ok (.ldc 161, 2) := by decide +kernel
theorem dX6_statement_13 : decode cX6_statement 13 = .ok (.invokevirtual 122, 3) := by decide +kernel
theorem dX6_statement_16 : decode cX6_statement 16 = .ok (.ifCond .eq 11, 3) := by decide +kernel
theorem dX6_statement_19 : decode cX6_statement 19 = .ok (.aload_n 0, 1) := by decide +kernel
theorem dX6_statement_20 : decode cX6_statement 20 = .ok (.iload_n 1, 1) := by decide +kernel
theorem dX6_statement_21 : decode cX6_statement 21 = .ok (.invokevirtual 162, 3) := by decide +kernel
theorem dX6_statement_24 : decode cX6_statement 24 = .ok (.goto 55, 3) := by decide +kernel
theorem dX6_statement_27 : decode cX6_statement 27 = .ok (.aload_n 0, 1) := by decide +kernel
theorem dX6_statement_28 : decode cX6_statement 28 = .ok (.ldc 165, 2) := by decide +kernel
theorem dX6_statement_30 : decode cX6_statement 30 = .ok (.invokevirtual 122, 3) := by decide +kernel
theorem dX6_statement_33 : decode cX6_statement 33 = .ok (.ifCond .eq 10, 3) := by decide +kernel
theorem dX6_statement_36 : decode cX6_statement 36 = .ok (.aload_n 0, 1) := by decide +kernel
theorem dX6_statement_37 : decode cX6_statement 37 = .ok (.invokevirtual 166, 3) := by decide +kernel
theorem dX6_statement_40 : decode cX6_statement 40 = .ok (.goto 39, 3) := by decide +kernel
theorem dX6_statement_43 : decode cX6_statement 43 = .ok (.aload_n 0, 1) := by decide +kernel
theorem dX6_statement_44 : decode cX6_statement 44 = .ok (.ldc 169, 2) := by decide +kernel
theorem dX6_statement_46 : decode cX6_statement 46 = .ok (.invokevirtual 122, 3) := by decide +kernel
theorem dX6_statement_49 : decode cX6_statement 49 = .ok (.ifCond .eq 23, 3) := by decide +kernel
theorem dX6_statement_52 : decode cX6_statement 52 = .ok (.aload_n 0, 1) := by decide +kernel
theorem dX6_statement_53 : decode cX6_statement 53 = .ok (.iconst 0, 1) := by decide +kernel
theorem dX6_statement_54 : decode cX6_statement 54 = .ok (.iload_n 1, 1) := by decide +kernel
theorem dX6_statement_55 : decode cX6_statement 55 = .ok (.invokevirtual 171, 3) := by decide +kernel
theorem dX6_statement_58 : decode cX6_statement 58 = .ok (.aload_n 0, 1) := by decide +kernel
theorem dX6_statement_59 : decode cX6_statement 59 = .ok (.getfield 20, 3) := by decide +kernel
theorem dX6_statement_62 : decode cX6_statement 62 = .ok (.iconst 3, 1) := by decide +kernel
theorem dX6_statement_63 : decode cX6_statement 63 = .ok (.iconst 1, 1) := by decide +kernel
theorem dX6_statement_64 : decode cX6_statement 64 = .ok (.iastore, 1) := by decide +kernel
theorem dX6_statement_65 : decode cX6_statement 65 = .ok (.aload_n 0, 1) := by decide +kernel
theorem dX6_statement_66 : decode cX6_statement 66 = .ok (.invokevirtual 113, 3) := by decide +kernel
theorem dX6_statement_69 : decode cX6_statement 69 = .ok (.goto 10, 3) := by decide +kernel
theorem dX6_statement_72 : decode cX6_statement 72 = .ok (.aload_n 0, 1) := by decide +kernel
theorem dX6_statement_73 : decode cX6_statement 73 = .ok (.bipush (-2), 2) := by decide +kernel
theorem dX6_statement_75 : decode cX6_statement 75 = .ok (.iload_n 1, 1) := by decide +kernel
theorem dX6_statement_76 : decode cX6_statement 76 = .ok (.invokevirtual 94, 3) := by decide +kernel
theorem dX6_statement_79 : decode cX6_statement 79 = .ok (.aload_n 0, 1) := by decide +kernel
theorem dX6_statement_80 : decode cX6_statement 80 = .ok (.bipush 59, 2) := by decide +kernel
theorem dX6_statement_82 : decode cX6_statement 82 = .ok (.invokevirtual 116, 3) := by decide +kernel
theorem dX6_statement_85 : decode cX6_statement 85 = .ok (.return_, 1) := by decide +kernel
theorem dX6_load_0 : decode cX6_load 0 = .ok (.aload_n 0, 1) := by decide +kernel
theorem dX6_load_1 : decode cX6_load 1 = .ok (.iconst 0, 1) := by decide +kernel
theorem dX6_load_2 : decode cX6_load 2 = .ok (.putfield 51, 3) := by decide +kernel
theorem dX6_load_5 : decode cX6_load 5 = .ok (.aload_n 0, 1) := by decide +kernel
theorem dX6_load_6 : decode cX6_load 6 = .ok (.iload_n 1, 1) := by decide +kernel
theorem dX6_load_7 : decode cX6_load 7 = .ok (.iconst 0, 1) := by decide +kernel
theorem dX6_load_8 : decode cX6_load 8 = .ok (.aload_n 0, 1) := by decide +kernel
theorem dX6_load_9 : decode cX6_load 9 = .ok (.getfield 54, 3) := by decide +kernel
theorem dX6_load_12 : decode cX6_load 12 = .ok (.invokestatic 73, 3) := by decide +kernel
theorem dX6_load_15 : decode cX6_load 15 = .ok (.ifCond .ne 7, 3) := by decide +kernel
theorem dX6_load_18 : decode cX6_load 18 = .ok (.iconst 1, 1) := by decide +kernel
theorem dX6_load_19 : decode cX6_load 19 = .ok (.goto 4, 3) := by decide +kernel
theorem dX6_load_22 : decode cX6_load 22 = .ok (.iconst 0, 1) := by decide +kernel
theorem dX6_load_23 : decode cX6_load 23 = .ok (.iconst 1, 1) := by decide +kernel
theorem dX6_load_24 : decode cX6_load 24 = .ok (.invokevirtual 174, 3) := by decide +kernel
theorem dX6_load_27 : decode cX6_load 27 = .ok (.ifCond .eq 5, 3) := by decide +kernel
theorem dX6_load_30 : decode cX6_load 30 = .ok (.iconst 0, 1) := by decide +kernel
theorem dX6_load_31 : decode cX6_load 31 = .ok (.ireturn, 1) := by decide +kernel
theorem dX6_load_32 : decode cX6_load 32 = .ok (.aload_n 0, 1) := by decide +kernel
theorem dX6_load_33 : decode cX6_load 33 = .ok (.iconst 0, 1) := by decide +kernel
theorem dX6_load_34 : decode cX6_load 34 = .ok (.putfield 54, 3) := by decide +kernel
theorem dX6_load_37 : decode cX6_load 37 = .ok (.aload_n 0, 1) := by decide +kernel
theorem dX6_load_38 : decode cX6_load 38 = .ok (.iload_n 1, 1) := by decide +kernel
theorem dX6_load_39 : decode cX6_load 39 = .ok (.putfield 57, 3) := by decide +kernel
theorem dX6_load_42 : decode cX6_load 42 = .ok (.aload_n 0, 1) := by decide +kernel
theorem dX6_load_43 : decode cX6_load 43 = .ok (.iconst 0, 1) := by decide +kernel
theorem dX6_load_44 : decode cX6_load 44 = .ok (.putfield 60, 3) := by decide +kernel
theorem dX6_load_47 : decode cX6_load 47 = .ok (.aload_n 0, 1) := by decide +kernel
theorem dX6_load_48 : decode cX6_load 48 = .ok (.iconst 0, 1) := by decide +kernel
theorem dX6_load_49 : decode cX6_load 49 = .ok (.putfield 67, 3) := by decide +kernel
theorem dX6_load_52 : decode cX6_load 52 = .ok (.aload_n 0, 1) := by decide +kernel
theorem dX6_load_53 : decode cX6_load 53 = .ok (.iconst (-1), 1) := by decide +kernel
theorem dX6_load_54 : decode cX6_load 54 = .ok (.putfield 70, 3) := by decide +kernel
theorem dX6_load_57 : decode cX6_load 57 = .ok (.aload_n 0, 1) := by decide +kernel
theorem dX6_load_58 : decode cX6_load 58 = .ok (.iconst 0, 1) := by decide +kernel
theorem dX6_load_59 : decode cX6_load 59 = .ok (.putfield 110, 3) := by decide +kernel
theorem dX6_load_62 : decode cX6_load 62 = .ok (.aload_n 0, 1) := by decide +kernel
theorem dX6_load_63 : decode cX6_load 63 = .ok (.iconst 0, 1) := by decide +kernel
theorem dX6_load_64 : decode cX6_load 64 = .ok (.putfield 144, 3) := by decide +kernel
theorem dX6_load_67 : decode cX6_load 67 = .ok (.iconst 0, 1) := by decide +kernel
theorem dX6_load_68 : decode cX6_load 68 = .ok (.istore_n 2, 1) := by decide +kernel
theorem dX6_load_69 : decode cX6_load 69 = .ok (.iload_n 2, 1) := by decide +kernel
theorem dX6_load_70 : decode cX6_load 70 = .ok (.sipush 1655, 3) := by decide +kernel
theorem dX6_load_73 : decode cX6_load 73 = .ok (.if_icmp .ge 16, 3) := by decide +kernel
theorem dX6_load_76 : decode cX6_load 76 = .ok (.aload_n 0, 1) := by decide +kernel
theorem dX6_load_77 : decode cX6_load 77 = .ok (.getfield 20, 3) := by decide +kernel
theorem dX6_load_80 : decode cX6_load 80 = .ok (.iload_n 2, 1) := by decide +kernel
theorem dX6_load_81 : decode cX6_load 81 = .ok (.iconst 0, 1) := by decide +kernel
theorem dX6_load_82 : decode cX6_load 82 = .ok (.iastore, 1) := by decide +kernel
theorem dX6_load_83 : decode cX6_load 83 = .ok (.iinc 2 1, 3) := by decide +kernel
theorem dX6_load_86 : decode cX6_load 86 = .ok (.goto (-17), 3) := by decide +kernel
theorem dX6_load_89 : decode cX6_load 89 = .ok (.aload_n 0, 1) := by decide +kernel
theorem dX6_load_90 : decode cX6_load 90 = .ok (.ldc 178, 2) := by decide +kernel
theorem dX6_load_92 : decode cX6_load 92 = .ok (.invokevirtual 122, 3) := by decide +kernel
theorem dX6_load_95 : decode cX6_load 95 = .ok (.ifCond .ne 13, 3) := by decide +kernel
theorem dX6_load_98 : decode cX6_load 98 = .ok (.aload_n 0, 1) := by decide +kernel
theorem dX6_load_99 : decode cX6_load 99 = .ok (.bipush (-2), 2) := by decide +kernel
theorem dX6_load_101 : decode cX6_load 101 = .ok (.aload_n 0, 1) := by decide +kernel
theorem dX6_load_102 : decode cX6_load 102 = .ok (.getfield 60, 3) := by decide +kernel
theorem dX6_load_105 : decode cX6_load 105 = .ok (.invokevirtual 94, 3) := by decide +kernel
theorem dX6_load_108 : decode cX6_load 108 = .ok (.aload_n 0, 1) := by decide +kernel
theorem dX6_load_109 : decode cX6_load 109 = .ok (.getfield 20, 3) := by decide +kernel
theorem dX6_load_112 : decode cX6_load 112 = .ok (.iconst 0, 1) := by decide +kernel
theorem dX6_load_113 : decode cX6_load 113 = .ok (.aload_n 0, 1) := by decide +kernel
theorem dX6_load_114 : decode cX6_load 114 = .ok (.iconst 1, 1) := by decide +kernel
theorem dX6_load_115 : decode cX6_load 115 = .ok (.bipush 6, 2) := by decide +kernel
theorem dX6_load_117 : decode cX6_load 117 = .ok (.invokevirtual 132, 3) := by decide +kernel
theorem dX6_load_120 : decode cX6_load 120 = .ok (.iastore, 1) := by decide +kernel
theorem dX6_load_121 : decode cX6_load 121 = .ok (.aload_n 0, 1) := by decide +kernel
theorem dX6_load_122 : decode cX6_load 122 = .ok (.getfield 20, 3) := by decide +kernel
theorem dX6_load_125 : decode cX6_load 125 = .ok (.iconst 1, 1) := by decide +kernel
theorem dX6_load_126 : decode cX6_load 126 = .ok (.aload_n 0, 1) := by decide +kernel
theorem dX6_load_127 : decode cX6_load 127 = .ok (.iconst 0, 1) := by decide +kernel
theorem dX6_load_128 : decode cX6_load 128 = .ok (.iconst 1, 1) := by decide +kernel
theorem dX6_load_129 : decode cX6_load 129 = .ok (.invokevirtual 132, 3) := by decide +kernel
theorem dX6_load_132 : decode cX6_load 132 = .ok (.iastore, 1) := by decide +kernel
theorem dX6_load_133 : decode cX6_load 133 = .ok (.aload_n 0, 1) := by decide +kernel
theorem dX6_load_134 : decode cX6_load 134 = .ok (.bipush 59, 2) := by decide +kernel
theorem dX6_load_136 : decode cX6_load 136 = .ok (.invokevirtual 116, 3) := by decide +kernel
theorem dX6_load_139 : decode cX6_load 139 = .ok (.aload_n 0, 1) := by decide +kernel
theorem dX6_load_140 : decode cX6_load 140 = .ok (.invokevirtual 77, 3) := by decide +kernel
theorem dX6_load_143 : decode cX6_load 143 = .ok (.ifCond .eq 18, 3) := by decide +kernel
theorem dX6_load_146 : decode cX6_load 146 = .ok (.aload_n 0, 1) := by decide +kernel
theorem dX6_load_147 : decode cX6_load 147 = .ok (.invokevirtual 81, 3) := by decide +kernel
theorem dX6_load_150 : decode cX6_load 150 = .ok (.iconst (-1), 1) := by decide +kernel
theorem dX6_load_151 : decode cX6_load 151 = .ok (.if_icmp .eq 10, 3) := by decide +kernel
theorem dX6_load_154 : decode cX6_load 154 = .ok (.aload_n 0, 1) := by decide +kernel
theorem dX6_load_155 : decode cX6_load 155 = .ok (.invokevirtual 180, 3) := by decide +kernel
theorem dX6_load_158 : decode cX6_load 158 = .ok (.goto (-19), 3) := by decide +kernel
theorem dX6_load_161 : decode cX6_load 161 = .ok (.aload_n 0, 1) := by decide +kernel
theorem dX6_load_162 : decode cX6_load 162 = .ok (.getfield 20, 3) := by decide +kernel
theorem dX6_load_165 : decode cX6_load 165 = .ok (.iconst 2, 1) := by decide +kernel
theorem dX6_load_166 : decode cX6_load 166 = .ok (.iaload, 1) := by decide +kernel
theorem dX6_load_167 : decode cX6_load 167 = .ok (.ifCond .ne 13, 3) := by decide +kernel
theorem dX6_load_170 : decode cX6_load 170 = .ok (.aload_n 0, 1) := by decide +kernel
theorem dX6_load_171 : decode cX6_load 171 = .ok (.bipush (-2), 2) := by decide +kernel
theorem dX6_load_173 : decode cX6_load 173 = .ok (.aload_n 0, 1) := by decide +kernel
theorem dX6_load_174 : decode cX6_load 174 = .ok (.getfield 57, 3) := by decide +kernel
theorem dX6_load_177 : decode cX6_load 177 = .ok (.invokevirtual 94, 3) := by decide +kernel
theorem dX6_load_180 : decode cX6_load 180 = .ok (.aload_n 0, 1) := by decide +kernel
theorem dX6_load_181 : decode cX6_load 181 = .ok (.aload_n 0, 1) := by decide +kernel
theorem dX6_load_182 : decode cX6_load 182 = .ok (.getfield 70, 3) := by decide +kernel
theorem dX6_load_185 : decode cX6_load 185 = .ok (.putfield 13, 3) := by decide +kernel
theorem dX6_load_188 : decode cX6_load 188 = .ok (.aload_n 0, 1) := by decide +kernel
theorem dX6_load_189 : decode cX6_load 189 = .ok (.invokevirtual 77, 3) := by decide +kernel
theorem dX6_load_192 : decode cX6_load 192 = .ok (.ifCond .ne 8, 3) := by decide +kernel
theorem dX6_load_195 : decode cX6_load 195 = .ok (.aload_n 0, 1) := by decide +kernel
theorem dX6_load_196 : decode cX6_load 196 = .ok (.getfield 67, 3) := by decide +kernel
theorem dX6_load_199 : decode cX6_load 199 = .ok (.ireturn, 1) := by decide +kernel
theorem dX6_load_200 : decode cX6_load 200 = .ok (.aload_n 0, 1) := by decide +kernel
theorem dX6_load_201 : decode cX6_load 201 = .ok (.invokevirtual 183, 3) := by decide +kernel
theorem dX6_load_204 : decode cX6_load 204 = .ok (.aload_n 0, 1) := by decide +kernel
theorem dX6_load_205 : decode cX6_load 205 = .ok (.getfield 20, 3) := by decide +kernel
theorem dX6_load_208 : decode cX6_load 208 = .ok (.aload_n 0, 1) := by decide +kernel
theorem dX6_load_209 : decode cX6_load 209 = .ok (.getfield 17, 3) := by decide +kernel
theorem dX6_load_212 : decode cX6_load 212 = .ok (.invokestatic 186, 3) := by decide +kernel
theorem dX6_load_215 : decode cX6_load 215 = .ok (.aload_n 0, 1) := by decide +kernel
theorem dX6_load_216 : decode cX6_load 216 = .ok (.invokevirtual 190, 3) := by decide +kernel
theorem dX6_load_219 : decode cX6_load 219 = .ok (.aload_n 0, 1) := by decide +kernel
theorem dX6_load_220 : decode cX6_load 220 = .ok (.getfield 17, 3) := by decide +kernel
theorem dX6_load_223 : decode cX6_load 223 = .ok (.iconst 2, 1) := by decide +kernel
theorem dX6_load_224 : decode cX6_load 224 = .ok (.iaload, 1) := by decide +kernel
theorem dX6_load_225 : decode cX6_load 225 = .ok (.ireturn, 1) := by decide +kernel
theorem dX6_errorOffset_0 : decode cX6_errorOffset 0 = .ok (.aload_n 0, 1) := by decide +kernel
theorem dX6_errorOffset_1 : decode cX6_errorOffset 1 = .ok (.iconst 0, 1) := by decide +kernel
theorem dX6_errorOffset_2 : decode cX6_errorOffset 2 = .ok (.putfield 51, 3) := by decide +kernel
theorem dX6_errorOffset_5 : decode cX6_errorOffset 5 = .ok (.aload_n 0, 1) := by decide +kernel
theorem dX6_errorOffset_6 : decode cX6_errorOffset 6 = .ok (.getfield 13, 3) := by decide +kernel
theorem dX6_errorOffset_9 : decode cX6_errorOffset 9 = .ok (.ireturn, 1) := by decide +kernel
theorem dX6_layFirst_0 : decode cX6_layFirst 0 = .ok (.iconst 0, 1) := by decide +kernel
theorem dX6_layFirst_1 : decode cX6_layFirst 1 = .ok (.istore_n 1, 1) := by decide +kernel
theorem dX6_layFirst_2 : decode cX6_layFirst 2 = .ok (.iload_n 1, 1) := by decide +kernel
theorem dX6_layFirst_3 : decode cX6_layFirst 3 = .ok (.aload_n 0, 1) := by decide +kernel
theorem dX6_layFirst_4 : decode cX6_layFirst 4 = .ok (.getfield 17, 3) := by decide +kernel
theorem dX6_layFirst_7 : decode cX6_layFirst 7 = .ok (.iconst 0, 1) := by decide +kernel
theorem dX6_layFirst_8 : decode cX6_layFirst 8 = .ok (.iaload, 1) := by decide +kernel
theorem dX6_layFirst_9 : decode cX6_layFirst 9 = .ok (.if_icmp .ge 21, 3) := by decide +kernel
theorem dX6_layFirst_12 : decode cX6_layFirst 12 = .ok (.aload_n 0, 1) := by decide +kernel
theorem dX6_layFirst_13 : decode cX6_layFirst 13 = .ok (.getfield 17, 3) := by decide +kernel
theorem dX6_layFirst_16 : decode cX6_layFirst 16 = .ok (.iload_n 1, 1) := by decide +kernel
theorem dX6_layFirst_17 : decode cX6_layFirst 17 = .ok (.invokestatic 158, 3) := by decide +kernel
theorem dX6_layFirst_20 : decode cX6_layFirst 20 = .ok (.iconst 2, 1) := by decide +kernel
theorem dX6_layFirst_21 : decode cX6_layFirst 21 = .ok (.iadd, 1) := by decide +kernel
theorem dX6_layFirst_22 : decode cX6_layFirst 22 = .ok (.iconst 0, 1) := by decide +kernel
theorem dX6_layFirst_23 : decode cX6_layFirst 23 = .ok (.iastore, 1) := by decide +kernel
theorem dX6_layFirst_24 : decode cX6_layFirst 24 = .ok (.iinc 1 1, 3) := by decide +kernel
theorem dX6_layFirst_27 : decode cX6_layFirst 27 = .ok (.goto (-25), 3) := by decide +kernel
theorem dX6_layFirst_30 : decode cX6_layFirst 30 = .ok (.iconst 0, 1) := by decide +kernel
theorem dX6_layFirst_31 : decode cX6_layFirst 31 = .ok (.istore_n 1, 1) := by decide +kernel
theorem dX6_layFirst_32 : decode cX6_layFirst 32 = .ok (.iload_n 1, 1) := by decide +kernel
theorem dX6_layFirst_33 : decode cX6_layFirst 33 = .ok (.aload_n 0, 1) := by decide +kernel
theorem dX6_layFirst_34 : decode cX6_layFirst 34 = .ok (.getfield 17, 3) := by decide +kernel
theorem dX6_layFirst_37 : decode cX6_layFirst 37 = .ok (.iconst 2, 1) := by decide +kernel
theorem dX6_layFirst_38 : decode cX6_layFirst 38 = .ok (.iaload, 1) := by decide +kernel
theorem dX6_layFirst_39 : decode cX6_layFirst 39 = .ok (.if_icmp .ge 85, 3) := by decide +kernel
theorem dX6_layFirst_42 : decode cX6_layFirst 42 = .ok (.iconst 0, 1) := by decide +kernel
theorem dX6_layFirst_43 : decode cX6_layFirst 43 = .ok (.istore_n 2, 1) := by decide +kernel
theorem dX6_layFirst_44 : decode cX6_layFirst 44 = .ok (.iload_n 2, 1) := by decide +kernel
theorem dX6_layFirst_45 : decode cX6_layFirst 45 = .ok (.aload_n 0, 1) := by decide +kernel
theorem dX6_layFirst_46 : decode cX6_layFirst 46 = .ok (.getfield 17, 3) := by decide +kernel
theorem dX6_layFirst_49 : decode cX6_layFirst 49 = .ok (.iload_n 1, 1) := by decide +kernel
theorem dX6_layFirst_50 : decode cX6_layFirst 50 = .ok (.invokestatic 147, 3) := by decide +kernel
theorem dX6_layFirst_53 : decode cX6_layFirst 53 = .ok (.iconst 3, 1) := by decide +kernel
theorem dX6_layFirst_54 : decode cX6_layFirst 54 = .ok (.iadd, 1) := by decide +kernel
theorem dX6_layFirst_55 : decode cX6_layFirst 55 = .ok (.iaload, 1) := by decide +kernel
theorem dX6_layFirst_56 : decode cX6_layFirst 56 = .ok (.if_icmp .ge 62, 3) := by decide +kernel
theorem dX6_layFirst_59 : decode cX6_layFirst 59 = .ok (.aload_n 0, 1) := by decide +kernel
theorem dX6_layFirst_60 : decode cX6_layFirst 60 = .ok (.getfield 17, 3) := by decide +kernel
theorem dX6_layFirst_63 : decode cX6_layFirst 63 = .ok (.bipush 6, 2) := by decide +kernel
theorem dX6_layFirst_65 : decode cX6_layFirst 65 = .ok (.iload_n 1, 1) := by decide +kernel
theorem dX6_layFirst_66 : decode cX6_layFirst 66 = .ok (.imul, 1) := by decide +kernel
theorem dX6_layFirst_67 : decode cX6_layFirst 67 = .ok (.iload_n 2, 1) := by decide +kernel
theorem dX6_layFirst_68 : decode cX6_layFirst 68 = .ok (.iadd, 1) := by decide +kernel
theorem dX6_layFirst_69 : decode cX6_layFirst 69 = .ok (.invokestatic 155, 3) := by decide +kernel
theorem dX6_layFirst_72 : decode cX6_layFirst 72 = .ok (.iaload, 1) := by decide +kernel
theorem dX6_layFirst_73 : decode cX6_layFirst 73 = .ok (.invokestatic 158, 3) := by decide +kernel
theorem dX6_layFirst_76 : decode cX6_layFirst 76 = .ok (.istore_n 3, 1) := by decide +kernel
theorem dX6_layFirst_77 : decode cX6_layFirst 77 = .ok (.aload_n 0, 1) := by decide +kernel
theorem dX6_layFirst_78 : decode cX6_layFirst 78 = .ok (.getfield 17, 3) := by decide +kernel
theorem dX6_layFirst_81 : decode cX6_layFirst 81 = .ok (.iload_n 3, 1) := by decide +kernel
theorem dX6_layFirst_82 : decode cX6_layFirst 82 = .ok (.iconst 3, 1) := by decide +kernel
theorem dX6_layFirst_83 : decode cX6_layFirst 83 = .ok (.iadd, 1) := by decide +kernel
theorem dX6_layFirst_84 : decode cX6_layFirst 84 = .ok (.aload_n 0, 1) := by decide +kernel
theorem dX6_layFirst_85 : decode cX6_layFirst 85 = .ok (.getfield 17, 3) := by decide +kernel
theorem dX6_layFirst_88 : decode cX6_layFirst 88 = .ok (.iload_n 3, 1) := by decide +kernel
theorem dX6_layFirst_89 : decode cX6_layFirst 89 = .ok (.iconst 2, 1) := by decide +kernel
theorem dX6_layFirst_90 : decode cX6_layFirst 90 = .ok (.iadd, 1) := by decide +kernel
theorem dX6_layFirst_91 : decode cX6_layFirst 91 = .ok (.iaload, 1) := by decide +kernel
theorem dX6_layFirst_92 : decode cX6_layFirst 92 = .ok (.iadd, 1) := by decide +kernel
theorem dX6_layFirst_93 : decode cX6_layFirst 93 = .ok (.bipush 6, 2) := by decide +kernel
theorem dX6_layFirst_95 : decode cX6_layFirst 95 = .ok (.iload_n 1, 1) := by decide +kernel
theorem dX6_layFirst_96 : decode cX6_layFirst 96 = .ok (.imul, 1) := by decide +kernel
theorem dX6_layFirst_97 : decode cX6_layFirst 97 = .ok (.iload_n 2, 1) := by decide +kernel
theorem dX6_layFirst_98 : decode cX6_layFirst 98 = .ok (.iadd, 1) := by decide +kernel
theorem dX6_layFirst_99 : decode cX6_layFirst 99 = .ok (.iastore, 1) := by decide +kernel
theorem dX6_layFirst_100 : decode cX6_layFirst 100 = .ok (.aload_n 0, 1) := by decide +kernel
theorem dX6_layFirst_101 : decode cX6_layFirst 101 = .ok (.getfield 17, 3) := by decide +kernel
theorem dX6_layFirst_104 : decode cX6_layFirst 104 = .ok (.iload_n 3, 1) := by decide +kernel
theorem dX6_layFirst_105 : decode cX6_layFirst 105 = .ok (.iconst 2, 1) := by decide +kernel
theorem dX6_layFirst_106 : decode cX6_layFirst 106 = .ok (.iadd, 1) := by decide +kernel
theorem dX6_layFirst_107 : decode cX6_layFirst 107 = .ok (.dup2, 1) := by decide +kernel
theorem dX6_layFirst_108 : decode cX6_layFirst 108 = .ok (.iaload, 1) := by decide +kernel
theorem dX6_layFirst_109 : decode cX6_layFirst 109 = .ok (.iconst 1, 1) := by decide +kernel
theorem dX6_layFirst_110 : decode cX6_layFirst 110 = .ok (.iadd, 1) := by decide +kernel
theorem dX6_layFirst_111 : decode cX6_layFirst 111 = .ok (.iastore, 1) := by decide +kernel
theorem dX6_layFirst_112 : decode cX6_layFirst 112 = .ok (.iinc 2 1, 3) := by decide +kernel
theorem dX6_layFirst_115 : decode cX6_layFirst 115 = .ok (.goto (-71), 3) := by decide +kernel
theorem dX6_layFirst_118 : decode cX6_layFirst 118 = .ok (.iinc 1 1, 3) := by decide +kernel
theorem dX6_layFirst_121 : decode cX6_layFirst 121 = .ok (.goto (-89), 3) := by decide +kernel
theorem dX6_layFirst_124 : decode cX6_layFirst 124 = .ok (.return_, 1) := by decide +kernel
theorem dX6_isThere_0 : decode cX6_isThere 0 = .ok (.iload_n 1, 1) := by decide +kernel
theorem dX6_isThere_1 : decode cX6_isThere 1 = .ok (.bipush 6, 2) := by decide +kernel
theorem dX6_isThere_3 : decode cX6_isThere 3 = .ok (.idiv, 1) := by decide +kernel
theorem dX6_isThere_4 : decode cX6_isThere 4 = .ok (.aload_n 0, 1) := by decide +kernel
theorem dX6_isThere_5 : decode cX6_isThere 5 = .ok (.getfield 17, 3) := by decide +kernel
theorem dX6_isThere_8 : decode cX6_isThere 8 = .ok (.iconst 2, 1) := by decide +kernel
theorem dX6_isThere_9 : decode cX6_isThere 9 = .ok (.iaload, 1) := by decide +kernel
theorem dX6_isThere_10 : decode cX6_isThere 10 = .ok (.if_icmp .ge 28, 3) := by decide +kernel
theorem dX6_isThere_13 : decode cX6_isThere 13 = .ok (.iload_n 1, 1) := by decide +kernel
theorem dX6_isThere_14 : decode cX6_isThere 14 = .ok (.bipush 6, 2) := by decide +kernel
theorem dX6_isThere_16 : decode cX6_isThere 16 = .ok (.irem, 1) := by decide +kernel
theorem dX6_isThere_17 : decode cX6_isThere 17 = .ok (.aload_n 0, 1) := by decide +kernel
theorem dX6_isThere_18 : decode cX6_isThere 18 = .ok (.getfield 17, 3) := by decide +kernel
theorem dX6_isThere_21 : decode cX6_isThere 21 = .ok (.iload_n 1, 1) := by decide +kernel
theorem dX6_isThere_22 : decode cX6_isThere 22 = .ok (.bipush 6, 2) := by decide +kernel
theorem dX6_isThere_24 : decode cX6_isThere 24 = .ok (.idiv, 1) := by decide +kernel
theorem dX6_isThere_25 : decode cX6_isThere 25 = .ok (.invokestatic 147, 3) := by decide +kernel
theorem dX6_isThere_28 : decode cX6_isThere 28 = .ok (.iconst 3, 1) := by decide +kernel
theorem dX6_isThere_29 : decode cX6_isThere 29 = .ok (.iadd, 1) := by decide +kernel
theorem dX6_isThere_30 : decode cX6_isThere 30 = .ok (.iaload, 1) := by decide +kernel
theorem dX6_isThere_31 : decode cX6_isThere 31 = .ok (.if_icmp .ge 7, 3) := by decide +kernel
theorem dX6_isThere_34 : decode cX6_isThere 34 = .ok (.iconst 1, 1) := by decide +kernel
theorem dX6_isThere_35 : decode cX6_isThere 35 = .ok (.goto 4, 3) := by decide +kernel
theorem dX6_isThere_38 : decode cX6_isThere 38 = .ok (.iconst 0, 1) := by decide +kernel
theorem dX6_isThere_39 : decode cX6_isThere 39 = .ok (.ireturn, 1) := by decide +kernel
theorem dX6_isLast_0 : decode cX6_isLast 0 = .ok (.iload_n 1, 1) := by decide +kernel
theorem dX6_isLast_1 : decode cX6_isLast 1 = .ok (.bipush 6, 2) := by decide +kernel
theorem dX6_isLast_3 : decode cX6_isLast 3 = .ok (.irem, 1) := by decide +kernel
theorem dX6_isLast_4 : decode cX6_isLast 4 = .ok (.aload_n 0, 1) := by decide +kernel
theorem dX6_isLast_5 : decode cX6_isLast 5 = .ok (.getfield 17, 3) := by decide +kernel
theorem dX6_isLast_8 : decode cX6_isLast 8 = .ok (.iload_n 1, 1) := by decide +kernel
theorem dX6_isLast_9 : decode cX6_isLast 9 = .ok (.bipush 6, 2) := by decide +kernel
theorem dX6_isLast_11 : decode cX6_isLast 11 = .ok (.idiv, 1) := by decide +kernel
theorem dX6_isLast_12 : decode cX6_isLast 12 = .ok (.invokestatic 147, 3) := by decide +kernel
theorem dX6_isLast_15 : decode cX6_isLast 15 = .ok (.iconst 3, 1) := by decide +kernel
theorem dX6_isLast_16 : decode cX6_isLast 16 = .ok (.iadd, 1) := by decide +kernel
theorem dX6_isLast_17 : decode cX6_isLast 17 = .ok (.iaload, 1) := by decide +kernel
theorem dX6_isLast_18 : decode cX6_isLast 18 = .ok (.iconst 1, 1) := by decide +kernel
theorem dX6_isLast_19 : decode cX6_isLast 19 = .ok (.isub, 1) := by decide +kernel
theorem dX6_isLast_20 : decode cX6_isLast 20 = .ok (.if_icmp .ne 7, 3) := by decide +kernel
theorem dX6_isLast_23 : decode cX6_isLast 23 = .ok (.iconst 1, 1) := by decide +kernel
theorem dX6_isLast_24 : decode cX6_isLast 24 = .ok (.goto 4, 3) := by decide +kernel
theorem dX6_isLast_27 : decode cX6_isLast 27 = .ok (.iconst 0, 1) := by decide +kernel
theorem dX6_isLast_28 : decode cX6_isLast 28 = .ok (.ireturn, 1) := by decide +kernel
theorem dX6_machineOf_0 : decode cX6_machineOf 0 = .ok (.aload_n 0, 1) := by decide +kernel
theorem dX6_machineOf_1 : decode cX6_machineOf 1 = .ok (.getfield 17, 3) := by decide +kernel
theorem dX6_machineOf_4 : decode cX6_machineOf 4 = .ok (.iload_n 1, 1) := by decide +kernel
theorem dX6_machineOf_5 : decode cX6_machineOf 5 = .ok (.invokestatic 155, 3) := by decide +kernel
theorem dX6_machineOf_8 : decode cX6_machineOf 8 = .ok (.iaload, 1) := by decide +kernel
theorem dX6_machineOf_9 : decode cX6_machineOf 9 = .ok (.ireturn, 1) := by decide +kernel
theorem dX6_durationOf_0 : decode cX6_durationOf 0 = .ok (.aload_n 0, 1) := by decide +kernel
theorem dX6_durationOf_1 : decode cX6_durationOf 1 = .ok (.getfield 17, 3) := by decide +kernel
theorem dX6_durationOf_4 : decode cX6_durationOf 4 = .ok (.iload_n 1, 1) := by decide +kernel
theorem dX6_durationOf_5 : decode cX6_durationOf 5 = .ok (.invokestatic 155, 3) := by decide +kernel
theorem dX6_durationOf_8 : decode cX6_durationOf 8 = .ok (.iconst 1, 1) := by decide +kernel
theorem dX6_durationOf_9 : decode cX6_durationOf 9 = .ok (.iadd, 1) := by decide +kernel
theorem dX6_durationOf_10 : decode cX6_durationOf 10 = .ok (.iaload, 1) := by decide +kernel
theorem dX6_durationOf_11 : decode cX6_durationOf 11 = .ok (.ireturn, 1) := by decide +kernel
theorem dX6_placeOf_0 : decode cX6_placeOf 0 = .ok (.aload_n 0, 1) := by decide +kernel
theorem dX6_placeOf_1 : decode cX6_placeOf 1 = .ok (.iload_n 1, 1) := by decide +kernel
theorem dX6_placeOf_2 : decode cX6_placeOf 2 = .ok (.invokevirtual 193, 3) := by decide +kernel
theorem dX6_placeOf_5 : decode cX6_placeOf 5 = .ok (.invokestatic 158, 3) := by decide +kernel
theorem dX6_placeOf_8 : decode cX6_placeOf 8 = .ok (.iconst 3, 1) := by decide +kernel
theorem dX6_placeOf_9 : decode cX6_placeOf 9 = .ok (.iadd, 1) := by decide +kernel
theorem dX6_placeOf_10 : decode cX6_placeOf 10 = .ok (.istore_n 2, 1) := by decide +kernel
theorem dX6_placeOf_11 : decode cX6_placeOf 11 = .ok (.iconst 0, 1) := by decide +kernel
theorem dX6_placeOf_12 : decode cX6_placeOf 12 = .ok (.istore_n 3, 1) := by decide +kernel
theorem dX6_placeOf_13 : decode cX6_placeOf 13 = .ok (.aload_n 0, 1) := by decide +kernel
theorem dX6_placeOf_14 : decode cX6_placeOf 14 = .ok (.getfield 17, 3) := by decide +kernel
theorem dX6_placeOf_17 : decode cX6_placeOf 17 = .ok (.iload_n 2, 1) := by decide +kernel
theorem dX6_placeOf_18 : decode cX6_placeOf 18 = .ok (.iload_n 3, 1) := by decide +kernel
theorem dX6_placeOf_19 : decode cX6_placeOf 19 = .ok (.iadd, 1) := by decide +kernel
theorem dX6_placeOf_20 : decode cX6_placeOf 20 = .ok (.iaload, 1) := by decide +kernel
theorem dX6_placeOf_21 : decode cX6_placeOf 21 = .ok (.iload_n 1, 1) := by decide +kernel
theorem dX6_placeOf_22 : decode cX6_placeOf 22 = .ok (.if_icmp .eq 9, 3) := by decide +kernel
theorem dX6_placeOf_25 : decode cX6_placeOf 25 = .ok (.iinc 3 1, 3) := by decide +kernel
theorem dX6_placeOf_28 : decode cX6_placeOf 28 = .ok (.goto (-15), 3) := by decide +kernel
theorem dX6_placeOf_31 : decode cX6_placeOf 31 = .ok (.iload_n 3, 1) := by decide +kernel
theorem dX6_placeOf_32 : decode cX6_placeOf 32 = .ok (.ireturn, 1) := by decide +kernel
theorem dX6_isBlocking_0 : decode cX6_isBlocking 0 = .ok (.aload_n 0, 1) := by decide +kernel
theorem dX6_isBlocking_1 : decode cX6_isBlocking 1 = .ok (.getfield 17, 3) := by decide +kernel
theorem dX6_isBlocking_4 : decode cX6_isBlocking 4 = .ok (.aload_n 0, 1) := by decide +kernel
theorem dX6_isBlocking_5 : decode cX6_isBlocking 5 = .ok (.iload_n 1, 1) := by decide +kernel
theorem dX6_isBlocking_6 : decode cX6_isBlocking 6 = .ok (.invokevirtual 193, 3) := by decide +kernel
theorem dX6_isBlocking_9 : decode cX6_isBlocking 9 = .ok (.invokestatic 158, 3) := by decide +kernel
theorem dX6_isBlocking_12 : decode cX6_isBlocking 12 = .ok (.iaload, 1) := by decide +kernel
theorem dX6_isBlocking_13 : decode cX6_isBlocking 13 = .ok (.ifCond .ne 15, 3) := by decide +kernel
theorem dX6_isBlocking_16 : decode cX6_isBlocking 16 = .ok (.aload_n 0, 1) := by decide +kernel
theorem dX6_isBlocking_17 : decode cX6_isBlocking 17 = .ok (.iload_n 1, 1) := by decide +kernel
theorem dX6_isBlocking_18 : decode cX6_isBlocking 18 = .ok (.invokevirtual 196, 3) := by decide +kernel
theorem dX6_isBlocking_21 : decode cX6_isBlocking 21 = .ok (.ifCond .ne 7, 3) := by decide +kernel
theorem dX6_isBlocking_24 : decode cX6_isBlocking 24 = .ok (.iconst 1, 1) := by decide +kernel
theorem dX6_isBlocking_25 : decode cX6_isBlocking 25 = .ok (.goto 4, 3) := by decide +kernel
theorem dX6_isBlocking_28 : decode cX6_isBlocking 28 = .ok (.iconst 0, 1) := by decide +kernel
theorem dX6_isBlocking_29 : decode cX6_isBlocking 29 = .ok (.ireturn, 1) := by decide +kernel
theorem dX6_layArcs_0 : decode cX6_layArcs 0 = .ok (.iconst 0, 1) := by decide +kernel
theorem dX6_layArcs_1 : decode cX6_layArcs 1 = .ok (.istore_n 1, 1) := by decide +kernel
theorem dX6_layArcs_2 : decode cX6_layArcs 2 = .ok (.iload_n 1, 1) := by decide +kernel
theorem dX6_layArcs_3 : decode cX6_layArcs 3 = .ok (.bipush 36, 2) := by decide +kernel
theorem dX6_layArcs_5 : decode cX6_layArcs 5 = .ok (.if_icmp .ge 16, 3) := by decide +kernel
theorem dX6_layArcs_8 : decode cX6_layArcs 8 = .ok (.aload_n 0, 1) := by decide +kernel
theorem dX6_layArcs_9 : decode cX6_layArcs 9 = .ok (.getfield 31, 3) := by decide +kernel
theorem dX6_layArcs_12 : decode cX6_layArcs 12 = .ok (.iload_n 1, 1) := by decide +kernel
theorem dX6_layArcs_13 : decode cX6_layArcs 13 = .ok (.iconst (-1), 1) := by decide +kernel
theorem dX6_layArcs_14 : decode cX6_layArcs 14 = .ok (.iastore, 1) := by decide +kernel
theorem dX6_layArcs_15 : decode cX6_layArcs 15 = .ok (.iinc 1 1, 3) := by decide +kernel
theorem dX6_layArcs_18 : decode cX6_layArcs 18 = .ok (.goto (-16), 3) := by decide +kernel
theorem dX6_layArcs_21 : decode cX6_layArcs 21 = .ok (.iconst 0, 1) := by decide +kernel
theorem dX6_layArcs_22 : decode cX6_layArcs 22 = .ok (.istore_n 1, 1) := by decide +kernel
theorem dX6_layArcs_23 : decode cX6_layArcs 23 = .ok (.iload_n 1, 1) := by decide +kernel
theorem dX6_layArcs_24 : decode cX6_layArcs 24 = .ok (.aload_n 0, 1) := by decide +kernel
theorem dX6_layArcs_25 : decode cX6_layArcs 25 = .ok (.getfield 17, 3) := by decide +kernel
theorem dX6_layArcs_28 : decode cX6_layArcs 28 = .ok (.iconst 0, 1) := by decide +kernel
theorem dX6_layArcs_29 : decode cX6_layArcs 29 = .ok (.iaload, 1) := by decide +kernel
theorem dX6_layArcs_30 : decode cX6_layArcs 30 = .ok (.if_icmp .ge 120, 3) := by decide +kernel
theorem dX6_layArcs_33 : decode cX6_layArcs 33 = .ok (.iload_n 1, 1) := by decide +kernel
theorem dX6_layArcs_34 : decode cX6_layArcs 34 = .ok (.invokestatic 158, 3) := by decide +kernel
theorem dX6_layArcs_37 : decode cX6_layArcs 37 = .ok (.istore_n 2, 1) := by decide +kernel
theorem dX6_layArcs_38 : decode cX6_layArcs 38 = .ok (.iconst 1, 1) := by decide +kernel
theorem dX6_layArcs_39 : decode cX6_layArcs 39 = .ok (.istore_n 3, 1) := by decide +kernel
theorem dX6_layArcs_40 : decode cX6_layArcs 40 = .ok (.iload_n 3, 1) := by decide +kernel
theorem dX6_layArcs_41 : decode cX6_layArcs 41 = .ok (.aload_n 0, 1) := by decide +kernel
theorem dX6_layArcs_42 : decode cX6_layArcs 42 = .ok (.getfield 17, 3) := by decide +kernel
theorem dX6_layArcs_45 : decode cX6_layArcs 45 = .ok (.iload_n 2, 1) := by decide +kernel
theorem dX6_layArcs_46 : decode cX6_layArcs 46 = .ok (.iconst 2, 1) := by decide +kernel
theorem dX6_layArcs_47 : decode cX6_layArcs 47 = .ok (.iadd, 1) := by decide +kernel
theorem dX6_layArcs_48 : decode cX6_layArcs 48 = .ok (.iaload, 1) := by decide +kernel
theorem dX6_layArcs_49 : decode cX6_layArcs 49 = .ok (.if_icmp .ge 95, 3) := by decide +kernel
theorem dX6_layArcs_52 : decode cX6_layArcs 52 = .ok (.aload_n 0, 1) := by decide +kernel
theorem dX6_layArcs_53 : decode cX6_layArcs 53 = .ok (.getfield 17, 3) := by decide +kernel
theorem dX6_layArcs_56 : decode cX6_layArcs 56 = .ok (.iload_n 2, 1) := by decide +kernel
theorem dX6_layArcs_57 : decode cX6_layArcs 57 = .ok (.iconst 3, 1) := by decide +kernel
theorem dX6_layArcs_58 : decode cX6_layArcs 58 = .ok (.iadd, 1) := by decide +kernel
theorem dX6_layArcs_59 : decode cX6_layArcs 59 = .ok (.iload_n 3, 1) := by decide +kernel
theorem dX6_layArcs_60 : decode cX6_layArcs 60 = .ok (.iadd, 1) := by decide +kernel
theorem dX6_layArcs_61 : decode cX6_layArcs 61 = .ok (.iconst 1, 1) := by decide +kernel
theorem dX6_layArcs_62 : decode cX6_layArcs 62 = .ok (.isub, 1) := by decide +kernel
theorem dX6_layArcs_63 : decode cX6_layArcs 63 = .ok (.iaload, 1) := by decide +kernel
theorem dX6_layArcs_64 : decode cX6_layArcs 64 = .ok (.istore 4, 2) := by decide +kernel
theorem dX6_layArcs_66 : decode cX6_layArcs 66 = .ok (.aload_n 0, 1) := by decide +kernel
theorem dX6_layArcs_67 : decode cX6_layArcs 67 = .ok (.getfield 17, 3) := by decide +kernel
theorem dX6_layArcs_70 : decode cX6_layArcs 70 = .ok (.iload_n 2, 1) := by decide +kernel
theorem dX6_layArcs_71 : decode cX6_layArcs 71 = .ok (.iconst 3, 1) := by decide +kernel
theorem dX6_layArcs_72 : decode cX6_layArcs 72 = .ok (.iadd, 1) := by decide +kernel
theorem dX6_layArcs_73 : decode cX6_layArcs 73 = .ok (.iload_n 3, 1) := by decide +kernel
theorem dX6_layArcs_74 : decode cX6_layArcs 74 = .ok (.iadd, 1) := by decide +kernel
theorem dX6_layArcs_75 : decode cX6_layArcs 75 = .ok (.iaload, 1) := by decide +kernel
theorem dX6_layArcs_76 : decode cX6_layArcs 76 = .ok (.istore 5, 2) := by decide +kernel
theorem dX6_layArcs_78 : decode cX6_layArcs 78 = .ok (.aload_n 0, 1) := by decide +kernel
theorem dX6_layArcs_79 : decode cX6_layArcs 79 = .ok (.getfield 31, 3) := by decide +kernel
theorem dX6_layArcs_82 : decode cX6_layArcs 82 = .ok (.iload 5, 2) := by decide +kernel
theorem dX6_layArcs_84 : decode cX6_layArcs 84 = .ok (.aload_n 0, 1) := by decide +kernel
theorem dX6_layArcs_85 : decode cX6_layArcs 85 = .ok (.iload 4, 2) := by decide +kernel
theorem dX6_layArcs_87 : decode cX6_layArcs 87 = .ok (.invokevirtual 199, 3) := by decide +kernel
theorem dX6_layArcs_90 : decode cX6_layArcs 90 = .ok (.ifCond .eq 10, 3) := by decide +kernel
theorem dX6_layArcs_93 : decode cX6_layArcs 93 = .ok (.iload 4, 2) := by decide +kernel
theorem dX6_layArcs_95 : decode cX6_layArcs 95 = .ok (.iconst 1, 1) := by decide +kernel
theorem dX6_layArcs_96 : decode cX6_layArcs 96 = .ok (.iadd, 1) := by decide +kernel
theorem dX6_layArcs_97 : decode cX6_layArcs 97 = .ok (.goto 5, 3) := by decide +kernel
theorem dX6_layArcs_100 : decode cX6_layArcs 100 = .ok (.iload 4, 2) := by decide +kernel
theorem dX6_layArcs_102 : decode cX6_layArcs 102 = .ok (.iastore, 1) := by decide +kernel
theorem dX6_layArcs_103 : decode cX6_layArcs 103 = .ok (.aload_n 0, 1) := by decide +kernel
theorem dX6_layArcs_104 : decode cX6_layArcs 104 = .ok (.getfield 34, 3) := by decide +kernel
theorem dX6_layArcs_107 : decode cX6_layArcs 107 = .ok (.iload 5, 2) := by decide +kernel
theorem dX6_layArcs_109 : decode cX6_layArcs 109 = .ok (.aload_n 0, 1) := by decide +kernel
theorem dX6_layArcs_110 : decode cX6_layArcs 110 = .ok (.getfield 17, 3) := by decide +kernel
theorem dX6_layArcs_113 : decode cX6_layArcs 113 = .ok (.iload_n 2, 1) := by decide +kernel
theorem dX6_layArcs_114 : decode cX6_layArcs 114 = .ok (.iconst 1, 1) := by decide +kernel
theorem dX6_layArcs_115 : decode cX6_layArcs 115 = .ok (.iadd, 1) := by decide +kernel
theorem dX6_layArcs_116 : decode cX6_layArcs 116 = .ok (.iaload, 1) := by decide +kernel
theorem dX6_layArcs_117 : decode cX6_layArcs 117 = .ok (.aload_n 0, 1) := by decide +kernel
theorem dX6_layArcs_118 : decode cX6_layArcs 118 = .ok (.iload 4, 2) := by decide +kernel
theorem dX6_layArcs_120 : decode cX6_layArcs 120 = .ok (.invokevirtual 199, 3) := by decide +kernel
theorem dX6_layArcs_123 : decode cX6_layArcs 123 = .ok (.ifCond .eq 7, 3) := by decide +kernel
theorem dX6_layArcs_126 : decode cX6_layArcs 126 = .ok (.iconst 0, 1) := by decide +kernel
theorem dX6_layArcs_127 : decode cX6_layArcs 127 = .ok (.goto 9, 3) := by decide +kernel
theorem dX6_layArcs_130 : decode cX6_layArcs 130 = .ok (.aload_n 0, 1) := by decide +kernel
theorem dX6_layArcs_131 : decode cX6_layArcs 131 = .ok (.iload 4, 2) := by decide +kernel
theorem dX6_layArcs_133 : decode cX6_layArcs 133 = .ok (.invokevirtual 202, 3) := by decide +kernel
theorem dX6_layArcs_136 : decode cX6_layArcs 136 = .ok (.iadd, 1) := by decide +kernel
theorem dX6_layArcs_137 : decode cX6_layArcs 137 = .ok (.iastore, 1) := by decide +kernel
theorem dX6_layArcs_138 : decode cX6_layArcs 138 = .ok (.iinc 3 1, 3) := by decide +kernel
theorem dX6_layArcs_141 : decode cX6_layArcs 141 = .ok (.goto (-101), 3) := by decide +kernel
theorem dX6_layArcs_144 : decode cX6_layArcs 144 = .ok (.iinc 1 1, 3) := by decide +kernel
theorem dX6_layArcs_147 : decode cX6_layArcs 147 = .ok (.goto (-124), 3) := by decide +kernel
theorem dX6_layArcs_150 : decode cX6_layArcs 150 = .ok (.return_, 1) := by decide +kernel
theorem dX6_raises_0 : decode cX6_raises 0 = .ok (.iload_n 1, 1) := by decide +kernel
theorem dX6_raises_1 : decode cX6_raises 1 = .ok (.bipush 6, 2) := by decide +kernel
theorem dX6_raises_3 : decode cX6_raises 3 = .ok (.irem, 1) := by decide +kernel
theorem dX6_raises_4 : decode cX6_raises 4 = .ok (.ifCond .ne 18, 3) := by decide +kernel
theorem dX6_raises_7 : decode cX6_raises 7 = .ok (.aload_n 0, 1) := by decide +kernel
theorem dX6_raises_8 : decode cX6_raises 8 = .ok (.getfield 17, 3) := by decide +kernel
theorem dX6_raises_11 : decode cX6_raises 11 = .ok (.iload_n 1, 1) := by decide +kernel
theorem dX6_raises_12 : decode cX6_raises 12 = .ok (.bipush 6, 2) := by decide +kernel
theorem dX6_raises_14 : decode cX6_raises 14 = .ok (.idiv, 1) := by decide +kernel
theorem dX6_raises_15 : decode cX6_raises 15 = .ok (.invokestatic 147, 3) := by decide +kernel
theorem dX6_raises_18 : decode cX6_raises 18 = .ok (.iaload, 1) := by decide +kernel
theorem dX6_raises_19 : decode cX6_raises 19 = .ok (.goto 19, 3) := by decide +kernel
theorem dX6_raises_22 : decode cX6_raises 22 = .ok (.aload_n 0, 1) := by decide +kernel
theorem dX6_raises_23 : decode cX6_raises 23 = .ok (.getfield 37, 3) := by decide +kernel
theorem dX6_raises_26 : decode cX6_raises 26 = .ok (.iload_n 1, 1) := by decide +kernel
theorem dX6_raises_27 : decode cX6_raises 27 = .ok (.iconst 1, 1) := by decide +kernel
theorem dX6_raises_28 : decode cX6_raises 28 = .ok (.isub, 1) := by decide +kernel
theorem dX6_raises_29 : decode cX6_raises 29 = .ok (.iaload, 1) := by decide +kernel
theorem dX6_raises_30 : decode cX6_raises 30 = .ok (.aload_n 0, 1) := by decide +kernel
theorem dX6_raises_31 : decode cX6_raises 31 = .ok (.iload_n 1, 1) := by decide +kernel
theorem dX6_raises_32 : decode cX6_raises 32 = .ok (.iconst 1, 1) := by decide +kernel
theorem dX6_raises_33 : decode cX6_raises 33 = .ok (.isub, 1) := by decide +kernel
theorem dX6_raises_34 : decode cX6_raises 34 = .ok (.invokevirtual 202, 3) := by decide +kernel
theorem dX6_raises_37 : decode cX6_raises 37 = .ok (.iadd, 1) := by decide +kernel
theorem dX6_raises_38 : decode cX6_raises 38 = .ok (.istore_n 2, 1) := by decide +kernel
theorem dX6_raises_39 : decode cX6_raises 39 = .ok (.aload_n 0, 1) := by decide +kernel
theorem dX6_raises_40 : decode cX6_raises 40 = .ok (.getfield 31, 3) := by decide +kernel
theorem dX6_raises_43 : decode cX6_raises 43 = .ok (.iload_n 1, 1) := by decide +kernel
theorem dX6_raises_44 : decode cX6_raises 44 = .ok (.iaload, 1) := by decide +kernel
theorem dX6_raises_45 : decode cX6_raises 45 = .ok (.iconst (-1), 1) := by decide +kernel
theorem dX6_raises_46 : decode cX6_raises 46 = .ok (.if_icmp .eq 26, 3) := by decide +kernel
theorem dX6_raises_49 : decode cX6_raises 49 = .ok (.iload_n 2, 1) := by decide +kernel
theorem dX6_raises_50 : decode cX6_raises 50 = .ok (.aload_n 0, 1) := by decide +kernel
theorem dX6_raises_51 : decode cX6_raises 51 = .ok (.getfield 37, 3) := by decide +kernel
theorem dX6_raises_54 : decode cX6_raises 54 = .ok (.aload_n 0, 1) := by decide +kernel
theorem dX6_raises_55 : decode cX6_raises 55 = .ok (.getfield 31, 3) := by decide +kernel
theorem dX6_raises_58 : decode cX6_raises 58 = .ok (.iload_n 1, 1) := by decide +kernel
theorem dX6_raises_59 : decode cX6_raises 59 = .ok (.iaload, 1) := by decide +kernel
theorem dX6_raises_60 : decode cX6_raises 60 = .ok (.iaload, 1) := by decide +kernel
theorem dX6_raises_61 : decode cX6_raises 61 = .ok (.aload_n 0, 1) := by decide +kernel
theorem dX6_raises_62 : decode cX6_raises 62 = .ok (.getfield 34, 3) := by decide +kernel
theorem dX6_raises_65 : decode cX6_raises 65 = .ok (.iload_n 1, 1) := by decide +kernel
theorem dX6_raises_66 : decode cX6_raises 66 = .ok (.iaload, 1) := by decide +kernel
theorem dX6_raises_67 : decode cX6_raises 67 = .ok (.iadd, 1) := by decide +kernel
theorem dX6_raises_68 : decode cX6_raises 68 = .ok (.invokestatic 205, 3) := by decide +kernel
theorem dX6_raises_71 : decode cX6_raises 71 = .ok (.istore_n 2, 1) := by decide +kernel
theorem dX6_raises_72 : decode cX6_raises 72 = .ok (.iload_n 2, 1) := by decide +kernel
theorem dX6_raises_73 : decode cX6_raises 73 = .ok (.aload_n 0, 1) := by decide +kernel
theorem dX6_raises_74 : decode cX6_raises 74 = .ok (.getfield 37, 3) := by decide +kernel
theorem dX6_raises_77 : decode cX6_raises 77 = .ok (.iload_n 1, 1) := by decide +kernel
theorem dX6_raises_78 : decode cX6_raises 78 = .ok (.iaload, 1) := by decide +kernel
theorem dX6_raises_79 : decode cX6_raises 79 = .ok (.if_icmp .gt 5, 3) := by decide +kernel
theorem dX6_raises_82 : decode cX6_raises 82 = .ok (.iconst 0, 1) := by decide +kernel
theorem dX6_raises_83 : decode cX6_raises 83 = .ok (.ireturn, 1) := by decide +kernel
theorem dX6_raises_84 : decode cX6_raises 84 = .ok (.aload_n 0, 1) := by decide +kernel
theorem dX6_raises_85 : decode cX6_raises 85 = .ok (.getfield 37, 3) := by decide +kernel
theorem dX6_raises_88 : decode cX6_raises 88 = .ok (.iload_n 1, 1) := by decide +kernel
theorem dX6_raises_89 : decode cX6_raises 89 = .ok (.iload_n 2, 1) := by decide +kernel
theorem dX6_raises_90 : decode cX6_raises 90 = .ok (.iastore, 1) := by decide +kernel
theorem dX6_raises_91 : decode cX6_raises 91 = .ok (.iconst 1, 1) := by decide +kernel
theorem dX6_raises_92 : decode cX6_raises 92 = .ok (.ireturn, 1) := by decide +kernel
theorem dX6_findStarts_0 : decode cX6_findStarts 0 = .ok (.aload_n 0, 1) := by decide +kernel
theorem dX6_findStarts_1 : decode cX6_findStarts 1 = .ok (.invokevirtual 208, 3) := by decide +kernel
theorem dX6_findStarts_4 : decode cX6_findStarts 4 = .ok (.iconst 0, 1) := by decide +kernel
theorem dX6_findStarts_5 : decode cX6_findStarts 5 = .ok (.istore_n 1, 1) := by decide +kernel
theorem dX6_findStarts_6 : decode cX6_findStarts 6 = .ok (.iload_n 1, 1) := by decide +kernel
theorem dX6_findStarts_7 : decode cX6_findStarts 7 = .ok (.bipush 36, 2) := by decide +kernel
theorem dX6_findStarts_9 : decode cX6_findStarts 9 = .ok (.if_icmp .ge 16, 3) := by decide +kernel
theorem dX6_findStarts_12 : decode cX6_findStarts 12 = .ok (.aload_n 0, 1) := by decide +kernel
theorem dX6_findStarts_13 : decode cX6_findStarts 13 = .ok (.getfield 37, 3) := by decide +kernel
theorem dX6_findStarts_16 : decode cX6_findStarts 16 = .ok (.iload_n 1, 1) := by decide +kernel
theorem dX6_findStarts_17 : decode cX6_findStarts 17 = .ok (.iconst 0, 1) := by decide +kernel
theorem dX6_findStarts_18 : decode cX6_findStarts 18 = .ok (.iastore, 1) := by decide +kernel
theorem dX6_findStarts_19 : decode cX6_findStarts 19 = .ok (.iinc 1 1, 3) := by decide +kernel
theorem dX6_findStarts_22 : decode cX6_findStarts 22 = .ok (.goto (-16), 3) := by decide +kernel
theorem dX6_findStarts_25 : decode cX6_findStarts 25 = .ok (.iconst 0, 1) := by decide +kernel
theorem dX6_findStarts_26 : decode cX6_findStarts 26 = .ok (.istore_n 1, 1) := by decide +kernel
theorem dX6_findStarts_27 : decode cX6_findStarts 27 = .ok (.iload_n 1, 1) := by decide +kernel
theorem dX6_findStarts_28 : decode cX6_findStarts 28 = .ok (.bipush 36, 2) := by decide +kernel
theorem dX6_findStarts_30 : decode cX6_findStarts 30 = .ok (.if_icmp .gt 49, 3) := by decide +kernel
theorem dX6_findStarts_33 : decode cX6_findStarts 33 = .ok (.iconst 0, 1) := by decide +kernel
theorem dX6_findStarts_34 : decode cX6_findStarts 34 = .ok (.istore_n 2, 1) := by decide +kernel
theorem dX6_findStarts_35 : decode cX6_findStarts 35 = .ok (.iconst 0, 1) := by decide +kernel
theorem dX6_findStarts_36 : decode cX6_findStarts 36 = .ok (.istore_n 3, 1) := by decide +kernel
theorem dX6_findStarts_37 : decode cX6_findStarts 37 = .ok (.iload_n 3, 1) := by decide +kernel
theorem dX6_findStarts_38 : decode cX6_findStarts 38 = .ok (.bipush 36, 2) := by decide +kernel
theorem dX6_findStarts_40 : decode cX6_findStarts 40 = .ok (.if_icmp .ge 27, 3) := by decide +kernel
theorem dX6_findStarts_43 : decode cX6_findStarts 43 = .ok (.aload_n 0, 1) := by decide +kernel
theorem dX6_findStarts_44 : decode cX6_findStarts 44 = .ok (.iload_n 3, 1) := by decide +kernel
theorem dX6_findStarts_45 : decode cX6_findStarts 45 = .ok (.invokevirtual 211, 3) := by decide +kernel
theorem dX6_findStarts_48 : decode cX6_findStarts 48 = .ok (.ifCond .eq 13, 3) := by decide +kernel
theorem dX6_findStarts_51 : decode cX6_findStarts 51 = .ok (.aload_n 0, 1) := by decide +kernel
theorem dX6_findStarts_52 : decode cX6_findStarts 52 = .ok (.iload_n 3, 1) := by decide +kernel
theorem dX6_findStarts_53 : decode cX6_findStarts 53 = .ok (.invokevirtual 214, 3) := by decide +kernel
theorem dX6_findStarts_56 : decode cX6_findStarts 56 = .ok (.ifCond .eq 5, 3) := by decide +kernel
theorem dX6_findStarts_59 : decode cX6_findStarts 59 = .ok (.iconst 1, 1) := by decide +kernel
theorem dX6_findStarts_60 : decode cX6_findStarts 60 = .ok (.istore_n 2, 1) := by decide +kernel
theorem dX6_findStarts_61 : decode cX6_findStarts 61 = .ok (.iinc 3 1, 3) := by decide +kernel
theorem dX6_findStarts_64 : decode cX6_findStarts 64 = .ok (.goto (-27), 3) := by decide +kernel
theorem dX6_findStarts_67 : decode cX6_findStarts 67 = .ok (.iload_n 2, 1) := by decide +kernel
theorem dX6_findStarts_68 : decode cX6_findStarts 68 = .ok (.ifCond .ne 5, 3) := by decide +kernel
theorem dX6_findStarts_71 : decode cX6_findStarts 71 = .ok (.iconst 1, 1) := by decide +kernel
theorem dX6_findStarts_72 : decode cX6_findStarts 72 = .ok (.ireturn, 1) := by decide +kernel
theorem dX6_findStarts_73 : decode cX6_findStarts 73 = .ok (.iinc 1 1, 3) := by decide +kernel
theorem dX6_findStarts_76 : decode cX6_findStarts 76 = .ok (.goto (-49), 3) := by decide +kernel
theorem dX6_findStarts_79 : decode cX6_findStarts 79 = .ok (.iconst 0, 1) := by decide +kernel
theorem dX6_findStarts_80 : decode cX6_findStarts 80 = .ok (.ireturn, 1) := by decide +kernel
theorem dX6_hasCycle_0 : decode cX6_hasCycle 0 = .ok (.iconst 0, 1) := by decide +kernel
theorem dX6_hasCycle_1 : decode cX6_hasCycle 1 = .ok (.istore_n 1, 1) := by decide +kernel
theorem dX6_hasCycle_2 : decode cX6_hasCycle 2 = .ok (.iconst 0, 1) := by decide +kernel
theorem dX6_hasCycle_3 : decode cX6_hasCycle 3 = .ok (.istore_n 2, 1) := by decide +kernel
theorem dX6_hasCycle_4 : decode cX6_hasCycle 4 = .ok (.iload_n 2, 1) := by decide +kernel
theorem dX6_hasCycle_5 : decode cX6_hasCycle 5 = .ok (.bipush 36, 2) := by decide +kernel
theorem dX6_hasCycle_7 : decode cX6_hasCycle 7 = .ok (.if_icmp .ge 32, 3) := by decide +kernel
theorem dX6_hasCycle_10 : decode cX6_hasCycle 10 = .ok (.aload_n 0, 1) := by decide +kernel
theorem dX6_hasCycle_11 : decode cX6_hasCycle 11 = .ok (.getfield 40, 3) := by decide +kernel
theorem dX6_hasCycle_14 : decode cX6_hasCycle 14 = .ok (.iload_n 2, 1) := by decide +kernel
theorem dX6_hasCycle_15 : decode cX6_hasCycle 15 = .ok (.iconst 0, 1) := by decide +kernel
theorem dX6_hasCycle_16 : decode cX6_hasCycle 16 = .ok (.bastore, 1) := by decide +kernel
theorem dX6_hasCycle_17 : decode cX6_hasCycle 17 = .ok (.iload_n 1, 1) := by decide +kernel
theorem dX6_hasCycle_18 : decode cX6_hasCycle 18 = .ok (.aload_n 0, 1) := by decide +kernel
theorem dX6_hasCycle_19 : decode cX6_hasCycle 19 = .ok (.iload_n 2, 1) := by decide +kernel
theorem dX6_hasCycle_20 : decode cX6_hasCycle 20 = .ok (.invokevirtual 211, 3) := by decide +kernel
theorem dX6_hasCycle_23 : decode cX6_hasCycle 23 = .ok (.ifCond .eq 7, 3) := by decide +kernel
theorem dX6_hasCycle_26 : decode cX6_hasCycle 26 = .ok (.iconst 1, 1) := by decide +kernel
theorem dX6_hasCycle_27 : decode cX6_hasCycle 27 = .ok (.goto 4, 3) := by decide +kernel
theorem dX6_hasCycle_30 : decode cX6_hasCycle 30 = .ok (.iconst 0, 1) := by decide +kernel
theorem dX6_hasCycle_31 : decode cX6_hasCycle 31 = .ok (.iadd, 1) := by decide +kernel
theorem dX6_hasCycle_32 : decode cX6_hasCycle 32 = .ok (.istore_n 1, 1) := by decide +kernel
theorem dX6_hasCycle_33 : decode cX6_hasCycle 33 = .ok (.iinc 2 1, 3) := by decide +kernel
theorem dX6_hasCycle_36 : decode cX6_hasCycle 36 = .ok (.goto (-32), 3) := by decide +kernel
theorem dX6_hasCycle_39 : decode cX6_hasCycle 39 = .ok (.iconst 1, 1) := by decide +kernel
theorem dX6_hasCycle_40 : decode cX6_hasCycle 40 = .ok (.istore_n 2, 1) := by decide +kernel
theorem dX6_hasCycle_41 : decode cX6_hasCycle 41 = .ok (.iload_n 2, 1) := by decide +kernel
theorem dX6_hasCycle_42 : decode cX6_hasCycle 42 = .ok (.ifCond .eq 96, 3) := by decide +kernel
theorem dX6_hasCycle_45 : decode cX6_hasCycle 45 = .ok (.iconst 0, 1) := by decide +kernel
theorem dX6_hasCycle_46 : decode cX6_hasCycle 46 = .ok (.istore_n 2, 1) := by decide +kernel
theorem dX6_hasCycle_47 : decode cX6_hasCycle 47 = .ok (.iconst 0, 1) := by decide +kernel
theorem dX6_hasCycle_48 : decode cX6_hasCycle 48 = .ok (.istore_n 3, 1) := by decide +kernel
theorem dX6_hasCycle_49 : decode cX6_hasCycle 49 = .ok (.iload_n 3, 1) := by decide +kernel
theorem dX6_hasCycle_50 : decode cX6_hasCycle 50 = .ok (.bipush 36, 2) := by decide +kernel
theorem dX6_hasCycle_52 : decode cX6_hasCycle 52 = .ok (.if_icmp .ge 83, 3) := by decide +kernel
theorem dX6_hasCycle_55 : decode cX6_hasCycle 55 = .ok (.aload_n 0, 1) := by decide +kernel
theorem dX6_hasCycle_56 : decode cX6_hasCycle 56 = .ok (.iload_n 3, 1) := by decide +kernel
theorem dX6_hasCycle_57 : decode cX6_hasCycle 57 = .ok (.invokevirtual 211, 3) := by decide +kernel
theorem dX6_hasCycle_60 : decode cX6_hasCycle 60 = .ok (.ifCond .eq 69, 3) := by decide +kernel
theorem dX6_hasCycle_63 : decode cX6_hasCycle 63 = .ok (.aload_n 0, 1) := by decide +kernel
theorem dX6_hasCycle_64 : decode cX6_hasCycle 64 = .ok (.getfield 40, 3) := by decide +kernel
theorem dX6_hasCycle_67 : decode cX6_hasCycle 67 = .ok (.iload_n 3, 1) := by decide +kernel
theorem dX6_hasCycle_68 : decode cX6_hasCycle 68 = .ok (.baload, 1) := by decide +kernel
theorem dX6_hasCycle_69 : decode cX6_hasCycle 69 = .ok (.ifCond .ne 60, 3) := by decide +kernel
theorem dX6_hasCycle_72 : decode cX6_hasCycle 72 = .ok (.iload_n 3, 1) := by decide +kernel
theorem dX6_hasCycle_73 : decode cX6_hasCycle 73 = .ok (.bipush 6, 2) := by decide +kernel
theorem dX6_hasCycle_75 : decode cX6_hasCycle 75 = .ok (.irem, 1) := by decide +kernel
theorem dX6_hasCycle_76 : decode cX6_hasCycle 76 = .ok (.ifCond .le 14, 3) := by decide +kernel
theorem dX6_hasCycle_79 : decode cX6_hasCycle 79 = .ok (.aload_n 0, 1) := by decide +kernel
theorem dX6_hasCycle_80 : decode cX6_hasCycle 80 = .ok (.getfield 40, 3) := by decide +kernel
theorem dX6_hasCycle_83 : decode cX6_hasCycle 83 = .ok (.iload_n 3, 1) := by decide +kernel
theorem dX6_hasCycle_84 : decode cX6_hasCycle 84 = .ok (.iconst 1, 1) := by decide +kernel
theorem dX6_hasCycle_85 : decode cX6_hasCycle 85 = .ok (.isub, 1) := by decide +kernel
theorem dX6_hasCycle_86 : decode cX6_hasCycle 86 = .ok (.baload, 1) := by decide +kernel
theorem dX6_hasCycle_87 : decode cX6_hasCycle 87 = .ok (.ifCond .eq 42, 3) := by decide +kernel
theorem dX6_hasCycle_90 : decode cX6_hasCycle 90 = .ok (.aload_n 0, 1) := by decide +kernel
theorem dX6_hasCycle_91 : decode cX6_hasCycle 91 = .ok (.getfield 31, 3) := by decide +kernel
theorem dX6_hasCycle_94 : decode cX6_hasCycle 94 = .ok (.iload_n 3, 1) := by decide +kernel
theorem dX6_hasCycle_95 : decode cX6_hasCycle 95 = .ok (.iaload, 1) := by decide +kernel
theorem dX6_hasCycle_96 : decode cX6_hasCycle 96 = .ok (.iconst (-1), 1) := by decide +kernel
theorem dX6_hasCycle_97 : decode cX6_hasCycle 97 = .ok (.if_icmp .eq 20, 3) := by decide +kernel
theorem dX6_hasCycle_100 : decode cX6_hasCycle 100 = .ok (.aload_n 0, 1) := by decide +kernel
theorem dX6_hasCycle_101 : decode cX6_hasCycle 101 = .ok (.getfield 40, 3) := by decide +kernel
theorem dX6_hasCycle_104 : decode cX6_hasCycle 104 = .ok (.aload_n 0, 1) := by decide +kernel
theorem dX6_hasCycle_105 : decode cX6_hasCycle 105 = .ok (.getfield 31, 3) := by decide +kernel
theorem dX6_hasCycle_108 : decode cX6_hasCycle 108 = .ok (.iload_n 3, 1) := by decide +kernel
theorem dX6_hasCycle_109 : decode cX6_hasCycle 109 = .ok (.iaload, 1) := by decide +kernel
theorem dX6_hasCycle_110 : decode cX6_hasCycle 110 = .ok (.baload, 1) := by decide +kernel
theorem dX6_hasCycle_111 : decode cX6_hasCycle 111 = .ok (.ifCond .ne 6, 3) := by decide +kernel
theorem dX6_hasCycle_114 : decode cX6_hasCycle 114 = .ok (.goto 15, 3) := by decide +kernel
theorem dX6_hasCycle_117 : decode cX6_hasCycle 117 = .ok (.aload_n 0, 1) := by decide +kernel
theorem dX6_hasCycle_118 : decode cX6_hasCycle 118 = .ok (.getfield 40, 3) := by decide +kernel
theorem dX6_hasCycle_121 : decode cX6_hasCycle 121 = .ok (.iload_n 3, 1) := by decide +kernel
theorem dX6_hasCycle_122 : decode cX6_hasCycle 122 = .ok (.iconst 1, 1) := by decide +kernel
theorem dX6_hasCycle_123 : decode cX6_hasCycle 123 = .ok (.bastore, 1) := by decide +kernel
theorem dX6_hasCycle_124 : decode cX6_hasCycle 124 = .ok (.iconst 1, 1) := by decide +kernel
theorem dX6_hasCycle_125 : decode cX6_hasCycle 125 = .ok (.istore_n 2, 1) := by decide +kernel
theorem dX6_hasCycle_126 : decode cX6_hasCycle 126 = .ok (.iinc 1 (-1), 3) := by decide +kernel
theorem dX6_hasCycle_129 : decode cX6_hasCycle 129 = .ok (.iinc 3 1, 3) := by decide +kernel
theorem dX6_hasCycle_132 : decode cX6_hasCycle 132 = .ok (.goto (-83), 3) := by decide +kernel
theorem dX6_hasCycle_135 : decode cX6_hasCycle 135 = .ok (.goto (-94), 3) := by decide +kernel
theorem dX6_hasCycle_138 : decode cX6_hasCycle 138 = .ok (.iload_n 1, 1) := by decide +kernel
theorem dX6_hasCycle_139 : decode cX6_hasCycle 139 = .ok (.ifCond .le 7, 3) := by decide +kernel
theorem dX6_hasCycle_142 : decode cX6_hasCycle 142 = .ok (.iconst 1, 1) := by decide +kernel
theorem dX6_hasCycle_143 : decode cX6_hasCycle 143 = .ok (.goto 4, 3) := by decide +kernel
theorem dX6_hasCycle_146 : decode cX6_hasCycle 146 = .ok (.iconst 0, 1) := by decide +kernel
theorem dX6_hasCycle_147 : decode cX6_hasCycle 147 = .ok (.ireturn, 1) := by decide +kernel
theorem dX6_isDeadlocked_0 : decode cX6_isDeadlocked 0 = .ok (.aload_n 0, 1) := by decide +kernel
theorem dX6_isDeadlocked_1 : decode cX6_isDeadlocked 1 = .ok (.invokevirtual 217, 3) := by decide +kernel
theorem dX6_isDeadlocked_4 : decode cX6_isDeadlocked 4 = .ok (.ifCond .eq 19, 3) := by decide +kernel
theorem dX6_isDeadlocked_7 : decode cX6_isDeadlocked 7 = .ok (.aload_n 0, 1) := by decide +kernel
theorem dX6_isDeadlocked_8 : decode cX6_isDeadlocked 8 = .ok (.getfield 17, 3) := by decide +kernel
theorem dX6_isDeadlocked_11 : decode cX6_isDeadlocked 11 = .ok (.iconst 1, 1) := by decide +kernel
theorem dX6_isDeadlocked_12 : decode cX6_isDeadlocked 12 = .ok (.iaload, 1) := by decide +kernel
theorem dX6_isDeadlocked_13 : decode cX6_isDeadlocked 13 = .ok (.ifCond .ne 14, 3) := by decide +kernel
theorem dX6_isDeadlocked_16 : decode cX6_isDeadlocked 16 = .ok (.aload_n 0, 1) := by decide +kernel
theorem dX6_isDeadlocked_17 : decode cX6_isDeadlocked 17 = .ok (.invokevirtual 220, 3) := by decide +kernel
theorem dX6_isDeadlocked_20 : decode cX6_isDeadlocked 20 = .ok (.ifCond .eq 7, 3) := by decide +kernel
theorem dX6_isDeadlocked_23 : decode cX6_isDeadlocked 23 = .ok (.iconst 1, 1) := by decide +kernel
theorem dX6_isDeadlocked_24 : decode cX6_isDeadlocked 24 = .ok (.goto 4, 3) := by decide +kernel
theorem dX6_isDeadlocked_27 : decode cX6_isDeadlocked 27 = .ok (.iconst 0, 1) := by decide +kernel
theorem dX6_isDeadlocked_28 : decode cX6_isDeadlocked 28 = .ok (.ireturn, 1) := by decide +kernel
theorem dX6_completionOf_0 : decode cX6_completionOf 0 = .ok (.bipush 6, 2) := by decide +kernel
theorem dX6_completionOf_2 : decode cX6_completionOf 2 = .ok (.iload_n 1, 1) := by decide +kernel
theorem dX6_completionOf_3 : decode cX6_completionOf 3 = .ok (.imul, 1) := by decide +kernel
theorem dX6_completionOf_4 : decode cX6_completionOf 4 = .ok (.aload_n 0, 1) := by decide +kernel
theorem dX6_completionOf_5 : decode cX6_completionOf 5 = .ok (.getfield 17, 3) := by decide +kernel
theorem dX6_completionOf_8 : decode cX6_completionOf 8 = .ok (.iload_n 1, 1) := by decide +kernel
theorem dX6_completionOf_9 : decode cX6_completionOf 9 = .ok (.invokestatic 147, 3) := by decide +kernel
theorem dX6_completionOf_12 : decode cX6_completionOf 12 = .ok (.iconst 3, 1) := by decide +kernel
theorem dX6_completionOf_13 : decode cX6_completionOf 13 = .ok (.iadd, 1) := by decide +kernel
theorem dX6_completionOf_14 : decode cX6_completionOf 14 = .ok (.iaload, 1) := by decide +kernel
theorem dX6_completionOf_15 : decode cX6_completionOf 15 = .ok (.iadd, 1) := by decide +kernel
theorem dX6_completionOf_16 : decode cX6_completionOf 16 = .ok (.iconst 1, 1) := by decide +kernel
theorem dX6_completionOf_17 : decode cX6_completionOf 17 = .ok (.isub, 1) := by decide +kernel
theorem dX6_completionOf_18 : decode cX6_completionOf 18 = .ok (.istore_n 2, 1) := by decide +kernel
theorem dX6_completionOf_19 : decode cX6_completionOf 19 = .ok (.aload_n 0, 1) := by decide +kernel
theorem dX6_completionOf_20 : decode cX6_completionOf 20 = .ok (.getfield 37, 3) := by decide +kernel
theorem dX6_completionOf_23 : decode cX6_completionOf 23 = .ok (.iload_n 2, 1) := by decide +kernel
theorem dX6_completionOf_24 : decode cX6_completionOf 24 = .ok (.iaload, 1) := by decide +kernel
theorem dX6_completionOf_25 : decode cX6_completionOf 25 = .ok (.aload_n 0, 1) := by decide +kernel
theorem dX6_completionOf_26 : decode cX6_completionOf 26 = .ok (.iload_n 2, 1) := by decide +kernel
theorem dX6_completionOf_27 : decode cX6_completionOf 27 = .ok (.invokevirtual 202, 3) := by decide +kernel
theorem dX6_completionOf_30 : decode cX6_completionOf 30 = .ok (.iadd, 1) := by decide +kernel
theorem dX6_completionOf_31 : decode cX6_completionOf 31 = .ok (.ireturn, 1) := by decide +kernel
theorem dX6_makespanOf_0 : decode cX6_makespanOf 0 = .ok (.iconst 0, 1) := by decide +kernel
theorem dX6_makespanOf_1 : decode cX6_makespanOf 1 = .ok (.istore_n 1, 1) := by decide +kernel
theorem dX6_makespanOf_2 : decode cX6_makespanOf 2 = .ok (.iconst 0, 1) := by decide +kernel
theorem dX6_makespanOf_3 : decode cX6_makespanOf 3 = .ok (.istore_n 2, 1) := by decide +kernel
theorem dX6_makespanOf_4 : decode cX6_makespanOf 4 = .ok (.iload_n 2, 1) := by decide +kernel
theorem dX6_makespanOf_5 : decode cX6_makespanOf 5 = .ok (.aload_n 0, 1) := by decide +kernel
theorem dX6_makespanOf_6 : decode cX6_makespanOf 6 = .ok (.getfield 17, 3) := by decide +kernel
theorem dX6_makespanOf_9 : decode cX6_makespanOf 9 = .ok (.iconst 2, 1) := by decide +kernel
theorem dX6_makespanOf_10 : decode cX6_makespanOf 10 = .ok (.iaload, 1) := by decide +kernel
theorem dX6_makespanOf_11 : decode cX6_makespanOf 11 = .ok (.if_icmp .ge 19, 3) := by decide +kernel
theorem dX6_makespanOf_14 : decode cX6_makespanOf 14 = .ok (.iload_n 1, 1) := by decide +kernel
theorem dX6_makespanOf_15 : decode cX6_makespanOf 15 = .ok (.aload_n 0, 1) := by decide +kernel
theorem dX6_makespanOf_16 : decode cX6_makespanOf 16 = .ok (.iload_n 2, 1) := by decide +kernel
theorem dX6_makespanOf_17 : decode cX6_makespanOf 17 = .ok (.invokevirtual 223, 3) := by decide +kernel
theorem dX6_makespanOf_20 : decode cX6_makespanOf 20 = .ok (.invokestatic 205, 3) := by decide +kernel
theorem dX6_makespanOf_23 : decode cX6_makespanOf 23 = .ok (.istore_n 1, 1) := by decide +kernel
theorem dX6_makespanOf_24 : decode cX6_makespanOf 24 = .ok (.iinc 2 1, 3) := by decide +kernel
theorem dX6_makespanOf_27 : decode cX6_makespanOf 27 = .ok (.goto (-23), 3) := by decide +kernel
theorem dX6_makespanOf_30 : decode cX6_makespanOf 30 = .ok (.iload_n 1, 1) := by decide +kernel
theorem dX6_makespanOf_31 : decode cX6_makespanOf 31 = .ok (.ireturn, 1) := by decide +kernel
theorem dX6_limited_0 : decode cX6_limited 0 = .ok (.lload_n 0, 1) := by decide +kernel
theorem dX6_limited_1 : decode cX6_limited 1 = .ok (.ldc2_w 226, 3) := by decide +kernel
theorem dX6_limited_4 : decode cX6_limited 4 = .ok (.lcmp, 1) := by decide +kernel
theorem dX6_limited_5 : decode cX6_limited 5 = .ok (.ifCond .le 9, 3) := by decide +kernel
theorem dX6_limited_8 : decode cX6_limited 8 = .ok (.ldc2_w 226, 3) := by decide +kernel
theorem dX6_limited_11 : decode cX6_limited 11 = .ok (.goto 18, 3) := by decide +kernel
theorem dX6_limited_14 : decode cX6_limited 14 = .ok (.lload_n 0, 1) := by decide +kernel
theorem dX6_limited_15 : decode cX6_limited 15 = .ok (.ldc2_w 228, 3) := by decide +kernel
theorem dX6_limited_18 : decode cX6_limited 18 = .ok (.lcmp, 1) := by decide +kernel
theorem dX6_limited_19 : decode cX6_limited 19 = .ok (.ifCond .ge 9, 3) := by decide +kernel
theorem dX6_limited_22 : decode cX6_limited 22 = .ok (.ldc2_w 228, 3) := by decide +kernel
theorem dX6_limited_25 : decode cX6_limited 25 = .ok (.goto 4, 3) := by decide +kernel
theorem dX6_limited_28 : decode cX6_limited 28 = .ok (.lload_n 0, 1) := by decide +kernel
theorem dX6_limited_29 : decode cX6_limited 29 = .ok (.lreturn, 1) := by decide +kernel
theorem dX6_operate_0 : decode cX6_operate 0 = .ok (.iload_n 0, 1) := by decide +kernel
theorem dX6_operate_1 : decode cX6_operate 1 = .ok (.iconst 5, 1) := by decide +kernel
theorem dX6_operate_2 : decode cX6_operate 2 = .ok (.if_icmp .ne 17, 3) := by decide +kernel
theorem dX6_operate_5 : decode cX6_operate 5 = .ok (.lload_n 3, 1) := by decide +kernel
theorem dX6_operate_6 : decode cX6_operate 6 = .ok (.lconst 0, 1) := by decide +kernel
theorem dX6_operate_7 : decode cX6_operate 7 = .ok (.lcmp, 1) := by decide +kernel
theorem dX6_operate_8 : decode cX6_operate 8 = .ok (.ifCond .ne 7, 3) := by decide +kernel
theorem dX6_operate_11 : decode cX6_operate 11 = .ok (.lconst 0, 1) := by decide +kernel
theorem dX6_operate_12 : decode cX6_operate 12 = .ok (.goto 6, 3) := by decide +kernel
theorem dX6_operate_15 : decode cX6_operate 15 = .ok (.lload_n 1, 1) := by decide +kernel
theorem dX6_operate_16 : decode cX6_operate 16 = .ok (.lload_n 3, 1) := by decide +kernel
theorem dX6_operate_17 : decode cX6_operate 17 = .ok (.ldiv, 1) := by decide +kernel
theorem dX6_operate_18 : decode cX6_operate 18 = .ok (.lreturn, 1) := by decide +kernel
theorem dX6_operate_19 : decode cX6_operate 19 = .ok (.iload_n 0, 1) := by decide +kernel
theorem dX6_operate_20 : decode cX6_operate 20 = .ok (.iconst 2, 1) := by decide +kernel
theorem dX6_operate_21 : decode cX6_operate 21 = .ok (.if_icmp .ne 9, 3) := by decide +kernel
theorem dX6_operate_24 : decode cX6_operate 24 = .ok (.lload_n 1, 1) := by decide +kernel
theorem dX6_operate_25 : decode cX6_operate 25 = .ok (.lload_n 3, 1) := by decide +kernel
theorem dX6_operate_26 : decode cX6_operate 26 = .ok (.ladd, 1) := by decide +kernel
theorem dX6_operate_27 : decode cX6_operate 27 = .ok (.goto 17, 3) := by decide +kernel
theorem dX6_operate_30 : decode cX6_operate 30 = .ok (.iload_n 0, 1) := by decide +kernel
theorem dX6_operate_31 : decode cX6_operate 31 = .ok (.iconst 3, 1) := by decide +kernel
theorem dX6_operate_32 : decode cX6_operate 32 = .ok (.if_icmp .ne 9, 3) := by decide +kernel
theorem dX6_operate_35 : decode cX6_operate 35 = .ok (.lload_n 1, 1) := by decide +kernel
theorem dX6_operate_36 : decode cX6_operate 36 = .ok (.lload_n 3, 1) := by decide +kernel
theorem dX6_operate_37 : decode cX6_operate 37 = .ok (.lsub, 1) := by decide +kernel
theorem dX6_operate_38 : decode cX6_operate 38 = .ok (.goto 6, 3) := by decide +kernel
theorem dX6_operate_41 : decode cX6_operate 41 = .ok (.lload_n 1, 1) := by decide +kernel
theorem dX6_operate_42 : decode cX6_operate 42 = .ok (.lload_n 3, 1) := by decide +kernel
theorem dX6_operate_43 : decode cX6_operate 43 = .ok (.lmul, 1) := by decide +kernel
theorem dX6_operate_44 : decode cX6_operate 44 = .ok (.invokestatic 230, 3) := by decide +kernel
theorem dX6_operate_47 : decode cX6_operate 47 = .ok (.lreturn, 1) := by decide +kernel
theorem dX6_costOf_0 : decode cX6_costOf 0 = .ok (.aload_n 0, 1) := by decide +kernel
theorem dX6_costOf_1 : decode cX6_costOf 1 = .ok (.iload_n 1, 1) := by decide +kernel
theorem dX6_costOf_2 : decode cX6_costOf 2 = .ok (.invokevirtual 223, 3) := by decide +kernel
theorem dX6_costOf_5 : decode cX6_costOf 5 = .ok (.istore_n 2, 1) := by decide +kernel
theorem dX6_costOf_6 : decode cX6_costOf 6 = .ok (.iconst 0, 1) := by decide +kernel
theorem dX6_costOf_7 : decode cX6_costOf 7 = .ok (.istore_n 3, 1) := by decide +kernel
theorem dX6_costOf_8 : decode cX6_costOf 8 = .ok (.aload_n 0, 1) := by decide +kernel
theorem dX6_costOf_9 : decode cX6_costOf 9 = .ok (.getfield 17, 3) := by decide +kernel
theorem dX6_costOf_12 : decode cX6_costOf 12 = .ok (.iconst 3, 1) := by decide +kernel
theorem dX6_costOf_13 : decode cX6_costOf 13 = .ok (.iaload, 1) := by decide +kernel
theorem dX6_costOf_14 : decode cX6_costOf 14 = .ok (.ifCond .ne 5, 3) := by decide +kernel
theorem dX6_costOf_17 : decode cX6_costOf 17 = .ok (.iload_n 2, 1) := by decide +kernel
theorem dX6_costOf_18 : decode cX6_costOf 18 = .ok (.ireturn, 1) := by decide +kernel
theorem dX6_costOf_19 : decode cX6_costOf 19 = .ok (.iconst 0, 1) := by decide +kernel
theorem dX6_costOf_20 : decode cX6_costOf 20 = .ok (.istore 4, 2) := by decide +kernel
theorem dX6_costOf_22 : decode cX6_costOf 22 = .ok (.iload 4, 2) := by decide +kernel
theorem dX6_costOf_24 : decode cX6_costOf 24 = .ok (.aload_n 0, 1) := by decide +kernel
theorem dX6_costOf_25 : decode cX6_costOf 25 = .ok (.getfield 17, 3) := by decide +kernel
theorem dX6_costOf_28 : decode cX6_costOf 28 = .ok (.iconst 4, 1) := by decide +kernel
theorem dX6_costOf_29 : decode cX6_costOf 29 = .ok (.iaload, 1) := by decide +kernel
theorem dX6_costOf_30 : decode cX6_costOf 30 = .ok (.if_icmp .ge 159, 3) := by decide +kernel
theorem dX6_costOf_33 : decode cX6_costOf 33 = .ok (.aload_n 0, 1) := by decide +kernel
theorem dX6_costOf_34 : decode cX6_costOf 34 = .ok (.getfield 17, 3) := by decide +kernel
theorem dX6_costOf_37 : decode cX6_costOf 37 = .ok (.sipush 155, 3) := by decide +kernel
theorem dX6_costOf_40 : decode cX6_costOf 40 = .ok (.iload 4, 2) := by decide +kernel
theorem dX6_costOf_42 : decode cX6_costOf 42 = .ok (.iadd, 1) := by decide +kernel
theorem dX6_costOf_43 : decode cX6_costOf 43 = .ok (.iaload, 1) := by decide +kernel
theorem dX6_costOf_44 : decode cX6_costOf 44 = .ok (.istore 5, 2) := by decide +kernel
theorem dX6_costOf_46 : decode cX6_costOf 46 = .ok (.iload 5, 2) := by decide +kernel
theorem dX6_costOf_48 : decode cX6_costOf 48 = .ok (.iconst 1, 1) := by decide +kernel
theorem dX6_costOf_49 : decode cX6_costOf 49 = .ok (.if_icmp .gt 104, 3) := by decide +kernel
theorem dX6_costOf_52 : decode cX6_costOf 52 = .ok (.iinc 4 1, 3) := by decide +kernel
theorem dX6_costOf_55 : decode cX6_costOf 55 = .ok (.aload_n 0, 1) := by decide +kernel
theorem dX6_costOf_56 : decode cX6_costOf 56 = .ok (.getfield 17, 3) := by decide +kernel
theorem dX6_costOf_59 : decode cX6_costOf 59 = .ok (.sipush 155, 3) := by decide +kernel
theorem dX6_costOf_62 : decode cX6_costOf 62 = .ok (.iload 4, 2) := by decide +kernel
theorem dX6_costOf_64 : decode cX6_costOf 64 = .ok (.iadd, 1) := by decide +kernel
theorem dX6_costOf_65 : decode cX6_costOf 65 = .ok (.iaload, 1) := by decide +kernel
theorem dX6_costOf_66 : decode cX6_costOf 66 = .ok (.istore 6, 2) := by decide +kernel
theorem dX6_costOf_68 : decode cX6_costOf 68 = .ok (.aload_n 0, 1) := by decide +kernel
theorem dX6_costOf_69 : decode cX6_costOf 69 = .ok (.getfield 44, 3) := by decide +kernel
theorem dX6_costOf_72 : decode cX6_costOf 72 = .ok (.iload_n 3, 1) := by decide +kernel
theorem dX6_costOf_73 : decode cX6_costOf 73 = .ok (.iload 5, 2) := by decide +kernel
theorem dX6_costOf_75 : decode cX6_costOf 75 = .ok (.ifCond .ne 9, 3) := by decide +kernel
theorem dX6_costOf_78 : decode cX6_costOf 78 = .ok (.iload 6, 2) := by decide +kernel
theorem dX6_costOf_80 : decode cX6_costOf 80 = .ok (.i2l, 1) := by decide +kernel
theorem dX6_costOf_81 : decode cX6_costOf 81 = .ok (.goto 65, 3) := by decide +kernel
theorem dX6_costOf_84 : decode cX6_costOf 84 = .ok (.iload 6, 2) := by decide +kernel
theorem dX6_costOf_86 : decode cX6_costOf 86 = .ok (.ifCond .ne 8, 3) := by decide +kernel
theorem dX6_costOf_89 : decode cX6_costOf 89 = .ok (.iload_n 2, 1) := by decide +kernel
theorem dX6_costOf_90 : decode cX6_costOf 90 = .ok (.i2l, 1) := by decide +kernel
theorem dX6_costOf_91 : decode cX6_costOf 91 = .ok (.goto 55, 3) := by decide +kernel
theorem dX6_costOf_94 : decode cX6_costOf 94 = .ok (.iload 6, 2) := by decide +kernel
theorem dX6_costOf_96 : decode cX6_costOf 96 = .ok (.iconst 1, 1) := by decide +kernel
theorem dX6_costOf_97 : decode cX6_costOf 97 = .ok (.if_icmp .ne 18, 3) := by decide +kernel
theorem dX6_costOf_100 : decode cX6_costOf 100 = .ok (.aload_n 0, 1) := by decide +kernel
theorem dX6_costOf_101 : decode cX6_costOf 101 = .ok (.getfield 17, 3) := by decide +kernel
theorem dX6_costOf_104 : decode cX6_costOf 104 = .ok (.iload_n 1, 1) := by decide +kernel
theorem dX6_costOf_105 : decode cX6_costOf 105 = .ok (.invokestatic 147, 3) := by decide +kernel
theorem dX6_costOf_108 : decode cX6_costOf 108 = .ok (.iconst 1, 1) := by decide +kernel
theorem dX6_costOf_109 : decode cX6_costOf 109 = .ok (.iadd, 1) := by decide +kernel
theorem dX6_costOf_110 : decode cX6_costOf 110 = .ok (.iaload, 1) := by decide +kernel
theorem dX6_costOf_111 : decode cX6_costOf 111 = .ok (.i2l, 1) := by decide +kernel
theorem dX6_costOf_112 : decode cX6_costOf 112 = .ok (.goto 34, 3) := by decide +kernel
theorem dX6_costOf_115 : decode cX6_costOf 115 = .ok (.iload 6, 2) := by decide +kernel
theorem dX6_costOf_117 : decode cX6_costOf 117 = .ok (.iconst 2, 1) := by decide +kernel
theorem dX6_costOf_118 : decode cX6_costOf 118 = .ok (.if_icmp .ne 18, 3) := by decide +kernel
theorem dX6_costOf_121 : decode cX6_costOf 121 = .ok (.aload_n 0, 1) := by decide +kernel
theorem dX6_costOf_122 : decode cX6_costOf 122 = .ok (.getfield 17, 3) := by decide +kernel
theorem dX6_costOf_125 : decode cX6_costOf 125 = .ok (.iload_n 1, 1) := by decide +kernel
theorem dX6_costOf_126 : decode cX6_costOf 126 = .ok (.invokestatic 147, 3) := by decide +kernel
theorem dX6_costOf_129 : decode cX6_costOf 129 = .ok (.iconst 2, 1) := by decide +kernel
theorem dX6_costOf_130 : decode cX6_costOf 130 = .ok (.iadd, 1) := by decide +kernel
theorem dX6_costOf_131 : decode cX6_costOf 131 = .ok (.iaload, 1) := by decide +kernel
theorem dX6_costOf_132 : decode cX6_costOf 132 = .ok (.i2l, 1) := by decide +kernel
theorem dX6_costOf_133 : decode cX6_costOf 133 = .ok (.goto 13, 3) := by decide +kernel
theorem dX6_costOf_136 : decode cX6_costOf 136 = .ok (.aload_n 0, 1) := by decide +kernel
theorem dX6_costOf_137 : decode cX6_costOf 137 = .ok (.getfield 17, 3) := by decide +kernel
theorem dX6_costOf_140 : decode cX6_costOf 140 = .ok (.iload_n 1, 1) := by decide +kernel
theorem dX6_costOf_141 : decode cX6_costOf 141 = .ok (.invokestatic 147, 3) := by decide +kernel
theorem dX6_costOf_144 : decode cX6_costOf 144 = .ok (.iaload, 1) := by decide +kernel
theorem dX6_costOf_145 : decode cX6_costOf 145 = .ok (.i2l, 1) := by decide +kernel
theorem dX6_costOf_146 : decode cX6_costOf 146 = .ok (.lastore, 1) := by decide +kernel
theorem dX6_costOf_147 : decode cX6_costOf 147 = .ok (.iinc 3 1, 3) := by decide +kernel
theorem dX6_costOf_150 : decode cX6_costOf 150 = .ok (.goto 33, 3) := by decide +kernel
theorem dX6_costOf_153 : decode cX6_costOf 153 = .ok (.iinc 3 (-1), 3) := by decide +kernel
theorem dX6_costOf_156 : decode cX6_costOf 156 = .ok (.aload_n 0, 1) := by decide +kernel
theorem dX6_costOf_157 : decode cX6_costOf 157 = .ok (.getfield 44, 3) := by decide +kernel
theorem dX6_costOf_160 : decode cX6_costOf 160 = .ok (.iload_n 3, 1) := by decide +kernel
theorem dX6_costOf_161 : decode cX6_costOf 161 = .ok (.iconst 1, 1) := by decide +kernel
theorem dX6_costOf_162 : decode cX6_costOf 162 = .ok (.isub, 1) := by decide +kernel
theorem dX6_costOf_163 : decode cX6_costOf 163 = .ok (.iload 5, 2) := by decide +kernel
theorem dX6_costOf_165 : decode cX6_costOf 165 = .ok (.aload_n 0, 1) := by decide +kernel
theorem dX6_costOf_166 : decode cX6_costOf 166 = .ok (.getfield 44, 3) := by decide +kernel
theorem dX6_costOf_169 : decode cX6_costOf 169 = .ok (.iload_n 3, 1) := by decide +kernel
theorem dX6_costOf_170 : decode cX6_costOf 170 = .ok (.iconst 1, 1) := by decide +kernel
theorem dX6_costOf_171 : decode cX6_costOf 171 = .ok (.isub, 1) := by decide +kernel
theorem dX6_costOf_172 : decode cX6_costOf 172 = .ok (.laload, 1) := by decide +kernel
theorem dX6_costOf_173 : decode cX6_costOf 173 = .ok (.aload_n 0, 1) := by decide +kernel
theorem dX6_costOf_174 : decode cX6_costOf 174 = .ok (.getfield 44, 3) := by decide +kernel
theorem dX6_costOf_177 : decode cX6_costOf 177 = .ok (.iload_n 3, 1) := by decide +kernel
theorem dX6_costOf_178 : decode cX6_costOf 178 = .ok (.laload, 1) := by decide +kernel
theorem dX6_costOf_179 : decode cX6_costOf 179 = .ok (.invokestatic 234, 3) := by decide +kernel
theorem dX6_costOf_182 : decode cX6_costOf 182 = .ok (.lastore, 1) := by decide +kernel
theorem dX6_costOf_183 : decode cX6_costOf 183 = .ok (.iinc 4 1, 3) := by decide +kernel
theorem dX6_costOf_186 : decode cX6_costOf 186 = .ok (.goto (-164), 3) := by decide +kernel
theorem dX6_costOf_189 : decode cX6_costOf 189 = .ok (.aload_n 0, 1) := by decide +kernel
theorem dX6_costOf_190 : decode cX6_costOf 190 = .ok (.getfield 44, 3) := by decide +kernel
theorem dX6_costOf_193 : decode cX6_costOf 193 = .ok (.iconst 0, 1) := by decide +kernel
theorem dX6_costOf_194 : decode cX6_costOf 194 = .ok (.laload, 1) := by decide +kernel
theorem dX6_costOf_195 : decode cX6_costOf 195 = .ok (.l2i, 1) := by decide +kernel
theorem dX6_costOf_196 : decode cX6_costOf 196 = .ok (.ireturn, 1) := by decide +kernel
theorem dX6_costOfPlan_0 : decode cX6_costOfPlan 0 = .ok (.iconst 0, 1) := by decide +kernel
theorem dX6_costOfPlan_1 : decode cX6_costOfPlan 1 = .ok (.istore_n 1, 1) := by decide +kernel
theorem dX6_costOfPlan_2 : decode cX6_costOfPlan 2 = .ok (.iconst 0, 1) := by decide +kernel
theorem dX6_costOfPlan_3 : decode cX6_costOfPlan 3 = .ok (.istore_n 2, 1) := by decide +kernel
theorem dX6_costOfPlan_4 : decode cX6_costOfPlan 4 = .ok (.iload_n 2, 1) := by decide +kernel
theorem dX6_costOfPlan_5 : decode cX6_costOfPlan 5 = .ok (.aload_n 0, 1) := by decide +kernel
theorem dX6_costOfPlan_6 : decode cX6_costOfPlan 6 = .ok (.getfield 17, 3) := by decide +kernel
theorem dX6_costOfPlan_9 : decode cX6_costOfPlan 9 = .ok (.iconst 2, 1) := by decide +kernel
theorem dX6_costOfPlan_10 : decode cX6_costOfPlan 10 = .ok (.iaload, 1) := by decide +kernel
theorem dX6_costOfPlan_11 : decode cX6_costOfPlan 11 = .ok (.if_icmp .ge 17, 3) := by decide +kernel
theorem dX6_costOfPlan_14 : decode cX6_costOfPlan 14 = .ok (.iload_n 1, 1) := by decide +kernel
theorem dX6_costOfPlan_15 : decode cX6_costOfPlan 15 = .ok (.aload_n 0, 1) := by decide +kernel
theorem dX6_costOfPlan_16 : decode cX6_costOfPlan 16 = .ok (.iload_n 2, 1) := by decide +kernel
theorem dX6_costOfPlan_17 : decode cX6_costOfPlan 17 = .ok (.invokevirtual 238, 3) := by decide +kernel
theorem dX6_costOfPlan_20 : decode cX6_costOfPlan 20 = .ok (.iadd, 1) := by decide +kernel
theorem dX6_costOfPlan_21 : decode cX6_costOfPlan 21 = .ok (.istore_n 1, 1) := by decide +kernel
theorem dX6_costOfPlan_22 : decode cX6_costOfPlan 22 = .ok (.iinc 2 1, 3) := by decide +kernel
theorem dX6_costOfPlan_25 : decode cX6_costOfPlan 25 = .ok (.goto (-21), 3) := by decide +kernel
theorem dX6_costOfPlan_28 : decode cX6_costOfPlan 28 = .ok (.iload_n 1, 1) := by decide +kernel
theorem dX6_costOfPlan_29 : decode cX6_costOfPlan 29 = .ok (.ireturn, 1) := by decide +kernel
theorem dX6_leaveOf_0 : decode cX6_leaveOf 0 = .ok (.aload_n 0, 1) := by decide +kernel
theorem dX6_leaveOf_1 : decode cX6_leaveOf 1 = .ok (.iload_n 1, 1) := by decide +kernel
theorem dX6_leaveOf_2 : decode cX6_leaveOf 2 = .ok (.invokevirtual 199, 3) := by decide +kernel
theorem dX6_leaveOf_5 : decode cX6_leaveOf 5 = .ok (.ifCond .eq 14, 3) := by decide +kernel
theorem dX6_leaveOf_8 : decode cX6_leaveOf 8 = .ok (.aload_n 0, 1) := by decide +kernel
theorem dX6_leaveOf_9 : decode cX6_leaveOf 9 = .ok (.getfield 37, 3) := by decide +kernel
theorem dX6_leaveOf_12 : decode cX6_leaveOf 12 = .ok (.iload_n 1, 1) := by decide +kernel
theorem dX6_leaveOf_13 : decode cX6_leaveOf 13 = .ok (.iconst 1, 1) := by decide +kernel
theorem dX6_leaveOf_14 : decode cX6_leaveOf 14 = .ok (.iadd, 1) := by decide +kernel
theorem dX6_leaveOf_15 : decode cX6_leaveOf 15 = .ok (.iaload, 1) := by decide +kernel
theorem dX6_leaveOf_16 : decode cX6_leaveOf 16 = .ok (.goto 15, 3) := by decide +kernel
theorem dX6_leaveOf_19 : decode cX6_leaveOf 19 = .ok (.aload_n 0, 1) := by decide +kernel
theorem dX6_leaveOf_20 : decode cX6_leaveOf 20 = .ok (.getfield 37, 3) := by decide +kernel
theorem dX6_leaveOf_23 : decode cX6_leaveOf 23 = .ok (.iload_n 1, 1) := by decide +kernel
theorem dX6_leaveOf_24 : decode cX6_leaveOf 24 = .ok (.iaload, 1) := by decide +kernel
theorem dX6_leaveOf_25 : decode cX6_leaveOf 25 = .ok (.aload_n 0, 1) := by decide +kernel
theorem dX6_leaveOf_26 : decode cX6_leaveOf 26 = .ok (.iload_n 1, 1) := by decide +kernel
theorem dX6_leaveOf_27 : decode cX6_leaveOf 27 = .ok (.invokevirtual 202, 3) := by decide +kernel
theorem dX6_leaveOf_30 : decode cX6_leaveOf 30 = .ok (.iadd, 1) := by decide +kernel
theorem dX6_leaveOf_31 : decode cX6_leaveOf 31 = .ok (.ireturn, 1) := by decide +kernel
theorem dX6_exchange_0 : decode cX6_exchange 0 = .ok (.iload_n 1, 1) := by decide +kernel
theorem dX6_exchange_1 : decode cX6_exchange 1 = .ok (.invokestatic 158, 3) := by decide +kernel
theorem dX6_exchange_4 : decode cX6_exchange 4 = .ok (.iconst 3, 1) := by decide +kernel
theorem dX6_exchange_5 : decode cX6_exchange 5 = .ok (.iadd, 1) := by decide +kernel
theorem dX6_exchange_6 : decode cX6_exchange 6 = .ok (.iload_n 2, 1) := by decide +kernel
theorem dX6_exchange_7 : decode cX6_exchange 7 = .ok (.iadd, 1) := by decide +kernel
theorem dX6_exchange_8 : decode cX6_exchange 8 = .ok (.istore_n 3, 1) := by decide +kernel
theorem dX6_exchange_9 : decode cX6_exchange 9 = .ok (.aload_n 0, 1) := by decide +kernel
theorem dX6_exchange_10 : decode cX6_exchange 10 = .ok (.getfield 17, 3) := by decide +kernel
theorem dX6_exchange_13 : decode cX6_exchange 13 = .ok (.iload_n 3, 1) := by decide +kernel
theorem dX6_exchange_14 : decode cX6_exchange 14 = .ok (.iaload, 1) := by decide +kernel
theorem dX6_exchange_15 : decode cX6_exchange 15 = .ok (.istore 4, 2) := by decide +kernel
theorem dX6_exchange_17 : decode cX6_exchange 17 = .ok (.aload_n 0, 1) := by decide +kernel
theorem dX6_exchange_18 : decode cX6_exchange 18 = .ok (.getfield 17, 3) := by decide +kernel
theorem dX6_exchange_21 : decode cX6_exchange 21 = .ok (.iload_n 3, 1) := by decide +kernel
theorem dX6_exchange_22 : decode cX6_exchange 22 = .ok (.aload_n 0, 1) := by decide +kernel
theorem dX6_exchange_23 : decode cX6_exchange 23 = .ok (.getfield 17, 3) := by decide +kernel
theorem dX6_exchange_26 : decode cX6_exchange 26 = .ok (.iload_n 3, 1) := by decide +kernel
theorem dX6_exchange_27 : decode cX6_exchange 27 = .ok (.iconst 1, 1) := by decide +kernel
theorem dX6_exchange_28 : decode cX6_exchange 28 = .ok (.iadd, 1) := by decide +kernel
theorem dX6_exchange_29 : decode cX6_exchange 29 = .ok (.iaload, 1) := by decide +kernel
theorem dX6_exchange_30 : decode cX6_exchange 30 = .ok (.iastore, 1) := by decide +kernel
theorem dX6_exchange_31 : decode cX6_exchange 31 = .ok (.aload_n 0, 1) := by decide +kernel
theorem dX6_exchange_32 : decode cX6_exchange 32 = .ok (.getfield 17, 3) := by decide +kernel
theorem dX6_exchange_35 : decode cX6_exchange 35 = .ok (.iload_n 3, 1) := by decide +kernel
theorem dX6_exchange_36 : decode cX6_exchange 36 = .ok (.iconst 1, 1) := by decide +kernel
theorem dX6_exchange_37 : decode cX6_exchange 37 = .ok (.iadd, 1) := by decide +kernel
theorem dX6_exchange_38 : decode cX6_exchange 38 = .ok (.iload 4, 2) := by decide +kernel
theorem dX6_exchange_40 : decode cX6_exchange 40 = .ok (.iastore, 1) := by decide +kernel
theorem dX6_exchange_41 : decode cX6_exchange 41 = .ok (.return_, 1) := by decide +kernel
theorem dX6_findBest_0 : decode cX6_findBest 0 = .ok (.iconst (-1), 1) := by decide +kernel
theorem dX6_findBest_1 : decode cX6_findBest 1 = .ok (.istore_n 1, 1) := by decide +kernel
theorem dX6_findBest_2 : decode cX6_findBest 2 = .ok (.iconst 0, 1) := by decide +kernel
theorem dX6_findBest_3 : decode cX6_findBest 3 = .ok (.istore_n 2, 1) := by decide +kernel
theorem dX6_findBest_4 : decode cX6_findBest 4 = .ok (.iload_n 2, 1) := by decide +kernel
theorem dX6_findBest_5 : decode cX6_findBest 5 = .ok (.aload_n 0, 1) := by decide +kernel
theorem dX6_findBest_6 : decode cX6_findBest 6 = .ok (.getfield 17, 3) := by decide +kernel
theorem dX6_findBest_9 : decode cX6_findBest 9 = .ok (.iconst 0, 1) := by decide +kernel
theorem dX6_findBest_10 : decode cX6_findBest 10 = .ok (.iaload, 1) := by decide +kernel
theorem dX6_findBest_11 : decode cX6_findBest 11 = .ok (.if_icmp .ge 107, 3) := by decide +kernel
theorem dX6_findBest_14 : decode cX6_findBest 14 = .ok (.iconst 0, 1) := by decide +kernel
theorem dX6_findBest_15 : decode cX6_findBest 15 = .ok (.istore_n 3, 1) := by decide +kernel
theorem dX6_findBest_16 : decode cX6_findBest 16 = .ok (.iload_n 3, 1) := by decide +kernel
theorem dX6_findBest_17 : decode cX6_findBest 17 = .ok (.iconst 1, 1) := by decide +kernel
theorem dX6_findBest_18 : decode cX6_findBest 18 = .ok (.iadd, 1) := by decide +kernel
theorem dX6_findBest_19 : decode cX6_findBest 19 = .ok (.aload_n 0, 1) := by decide +kernel
theorem dX6_findBest_20 : decode cX6_findBest 20 = .ok (.getfield 17, 3) := by decide +kernel
theorem dX6_findBest_23 : decode cX6_findBest 23 = .ok (.iload_n 2, 1) := by decide +kernel
theorem dX6_findBest_24 : decode cX6_findBest 24 = .ok (.invokestatic 158, 3) := by decide +kernel
theorem dX6_findBest_27 : decode cX6_findBest 27 = .ok (.iconst 2, 1) := by decide +kernel
theorem dX6_findBest_28 : decode cX6_findBest 28 = .ok (.iadd, 1) := by decide +kernel
theorem dX6_findBest_29 : decode cX6_findBest 29 = .ok (.iaload, 1) := by decide +kernel
theorem dX6_findBest_30 : decode cX6_findBest 30 = .ok (.if_icmp .ge 82, 3) := by decide +kernel
theorem dX6_findBest_33 : decode cX6_findBest 33 = .ok (.aload_n 0, 1) := by decide +kernel
theorem dX6_findBest_34 : decode cX6_findBest 34 = .ok (.iload_n 2, 1) := by decide +kernel
theorem dX6_findBest_35 : decode cX6_findBest 35 = .ok (.iload_n 3, 1) := by decide +kernel
theorem dX6_findBest_36 : decode cX6_findBest 36 = .ok (.invokevirtual 241, 3) := by decide +kernel
theorem dX6_findBest_39 : decode cX6_findBest 39 = .ok (.aload_n 0, 1) := by decide +kernel
theorem dX6_findBest_40 : decode cX6_findBest 40 = .ok (.invokevirtual 244, 3) := by decide +kernel
theorem dX6_findBest_43 : decode cX6_findBest 43 = .ok (.ifCond .ne 57, 3) := by decide +kernel
theorem dX6_findBest_46 : decode cX6_findBest 46 = .ok (.aload_n 0, 1) := by decide +kernel
theorem dX6_findBest_47 : decode cX6_findBest 47 = .ok (.invokevirtual 247, 3) := by decide +kernel
theorem dX6_findBest_50 : decode cX6_findBest 50 = .ok (.istore 4, 2) := by decide +kernel
theorem dX6_findBest_52 : decode cX6_findBest 52 = .ok (.aload_n 0, 1) := by decide +kernel
theorem dX6_findBest_53 : decode cX6_findBest 53 = .ok (.invokevirtual 250, 3) := by decide +kernel
theorem dX6_findBest_56 : decode cX6_findBest 56 = .ok (.istore 5, 2) := by decide +kernel
theorem dX6_findBest_58 : decode cX6_findBest 58 = .ok (.iload_n 1, 1) := by decide +kernel
theorem dX6_findBest_59 : decode cX6_findBest 59 = .ok (.iconst (-1), 1) := by decide +kernel
theorem dX6_findBest_60 : decode cX6_findBest 60 = .ok (.if_icmp .eq 21, 3) := by decide +kernel
theorem dX6_findBest_63 : decode cX6_findBest 63 = .ok (.iload 4, 2) := by decide +kernel
theorem dX6_findBest_65 : decode cX6_findBest 65 = .ok (.iload 5, 2) := by decide +kernel
theorem dX6_findBest_67 : decode cX6_findBest 67 = .ok (.aload_n 0, 1) := by decide +kernel
theorem dX6_findBest_68 : decode cX6_findBest 68 = .ok (.getfield 253, 3) := by decide +kernel
theorem dX6_findBest_71 : decode cX6_findBest 71 = .ok (.aload_n 0, 1) := by decide +kernel
theorem dX6_findBest_72 : decode cX6_findBest 72 = .ok (.getfield 256, 3) := by decide +kernel
theorem dX6_findBest_75 : decode cX6_findBest 75 = .ok (.invokestatic 259, 3) := by decide +kernel
theorem dX6_findBest_78 : decode cX6_findBest 78 = .ok (.ifCond .eq 22, 3) := by decide +kernel
theorem dX6_findBest_81 : decode cX6_findBest 81 = .ok (.bipush 100, 2) := by decide +kernel
theorem dX6_findBest_83 : decode cX6_findBest 83 = .ok (.iload_n 2, 1) := by decide +kernel
theorem dX6_findBest_84 : decode cX6_findBest 84 = .ok (.imul, 1) := by decide +kernel
theorem dX6_findBest_85 : decode cX6_findBest 85 = .ok (.iload_n 3, 1) := by decide +kernel
theorem dX6_findBest_86 : decode cX6_findBest 86 = .ok (.iadd, 1) := by decide +kernel
theorem dX6_findBest_87 : decode cX6_findBest 87 = .ok (.istore_n 1, 1) := by decide +kernel
theorem dX6_findBest_88 : decode cX6_findBest 88 = .ok (.aload_n 0, 1) := by decide +kernel
theorem dX6_findBest_89 : decode cX6_findBest 89 = .ok (.iload 4, 2) := by decide +kernel
theorem dX6_findBest_91 : decode cX6_findBest 91 = .ok (.putfield 253, 3) := by decide +kernel
theorem dX6_findBest_94 : decode cX6_findBest 94 = .ok (.aload_n 0, 1) := by decide +kernel
theorem dX6_findBest_95 : decode cX6_findBest 95 = .ok (.iload 5, 2) := by decide +kernel
theorem dX6_findBest_97 : decode cX6_findBest 97 = .ok (.putfield 256, 3) := by decide +kernel
theorem dX6_findBest_100 : decode cX6_findBest 100 = .ok (.aload_n 0, 1) := by decide +kernel
theorem dX6_findBest_101 : decode cX6_findBest 101 = .ok (.iload_n 2, 1) := by decide +kernel
theorem dX6_findBest_102 : decode cX6_findBest 102 = .ok (.iload_n 3, 1) := by decide +kernel
theorem dX6_findBest_103 : decode cX6_findBest 103 = .ok (.invokevirtual 241, 3) := by decide +kernel
theorem dX6_findBest_106 : decode cX6_findBest 106 = .ok (.iinc 3 1, 3) := by decide +kernel
theorem dX6_findBest_109 : decode cX6_findBest 109 = .ok (.goto (-93), 3) := by decide +kernel
theorem dX6_findBest_112 : decode cX6_findBest 112 = .ok (.iinc 2 1, 3) := by decide +kernel
theorem dX6_findBest_115 : decode cX6_findBest 115 = .ok (.goto (-111), 3) := by decide +kernel
theorem dX6_findBest_118 : decode cX6_findBest 118 = .ok (.iload_n 1, 1) := by decide +kernel
theorem dX6_findBest_119 : decode cX6_findBest 119 = .ok (.ireturn, 1) := by decide +kernel
theorem dX6_isBetter_0 : decode cX6_isBetter 0 = .ok (.iload_n 0, 1) := by decide +kernel
theorem dX6_isBetter_1 : decode cX6_isBetter 1 = .ok (.iload_n 2, 1) := by decide +kernel
theorem dX6_isBetter_2 : decode cX6_isBetter 2 = .ok (.if_icmp .eq 16, 3) := by decide +kernel
theorem dX6_isBetter_5 : decode cX6_isBetter 5 = .ok (.iload_n 0, 1) := by decide +kernel
theorem dX6_isBetter_6 : decode cX6_isBetter 6 = .ok (.iload_n 2, 1) := by decide +kernel
theorem dX6_isBetter_7 : decode cX6_isBetter 7 = .ok (.if_icmp .ge 7, 3) := by decide +kernel
theorem dX6_isBetter_10 : decode cX6_isBetter 10 = .ok (.iconst 1, 1) := by decide +kernel
theorem dX6_isBetter_11 : decode cX6_isBetter 11 = .ok (.goto 17, 3) := by decide +kernel
theorem dX6_isBetter_14 : decode cX6_isBetter 14 = .ok (.iconst 0, 1) := by decide +kernel
theorem dX6_isBetter_15 : decode cX6_isBetter 15 = .ok (.goto 13, 3) := by decide +kernel
theorem dX6_isBetter_18 : decode cX6_isBetter 18 = .ok (.iload_n 1, 1) := by decide +kernel
theorem dX6_isBetter_19 : decode cX6_isBetter 19 = .ok (.iload_n 3, 1) := by decide +kernel
theorem dX6_isBetter_20 : decode cX6_isBetter 20 = .ok (.if_icmp .ge 7, 3) := by decide +kernel
theorem dX6_isBetter_23 : decode cX6_isBetter 23 = .ok (.iconst 1, 1) := by decide +kernel
theorem dX6_isBetter_24 : decode cX6_isBetter 24 = .ok (.goto 4, 3) := by decide +kernel
theorem dX6_isBetter_27 : decode cX6_isBetter 27 = .ok (.iconst 0, 1) := by decide +kernel
theorem dX6_isBetter_28 : decode cX6_isBetter 28 = .ok (.ireturn, 1) := by decide +kernel
theorem dX6_findPath_0 : decode cX6_findPath 0 = .ok (.aload_n 0, 1) := by decide +kernel
theorem dX6_findPath_1 : decode cX6_findPath 1 = .ok (.invokevirtual 217, 3) := by decide +kernel
theorem dX6_findPath_4 : decode cX6_findPath 4 = .ok (.istore_n 1, 1) := by decide +kernel
theorem dX6_findPath_5 : decode cX6_findPath 5 = .ok (.aload_n 0, 1) := by decide +kernel
theorem dX6_findPath_6 : decode cX6_findPath 6 = .ok (.iconst 0, 1) := by decide +kernel
theorem dX6_findPath_7 : decode cX6_findPath 7 = .ok (.putfield 263, 3) := by decide +kernel
theorem dX6_findPath_10 : decode cX6_findPath 10 = .ok (.iconst (-1), 1) := by decide +kernel
theorem dX6_findPath_11 : decode cX6_findPath 11 = .ok (.istore_n 2, 1) := by decide +kernel
theorem dX6_findPath_12 : decode cX6_findPath 12 = .ok (.aload_n 0, 1) := by decide +kernel
theorem dX6_findPath_13 : decode cX6_findPath 13 = .ok (.getfield 17, 3) := by decide +kernel
theorem dX6_findPath_16 : decode cX6_findPath 16 = .ok (.iconst 2, 1) := by decide +kernel
theorem dX6_findPath_17 : decode cX6_findPath 17 = .ok (.iaload, 1) := by decide +kernel
theorem dX6_findPath_18 : decode cX6_findPath 18 = .ok (.iconst 1, 1) := by decide +kernel
theorem dX6_findPath_19 : decode cX6_findPath 19 = .ok (.isub, 1) := by decide +kernel
theorem dX6_findPath_20 : decode cX6_findPath 20 = .ok (.istore_n 3, 1) := by decide +kernel
theorem dX6_findPath_21 : decode cX6_findPath 21 = .ok (.iload_n 3, 1) := by decide +kernel
theorem dX6_findPath_22 : decode cX6_findPath 22 = .ok (.ifCond .lt 40, 3) := by decide +kernel
theorem dX6_findPath_25 : decode cX6_findPath 25 = .ok (.aload_n 0, 1) := by decide +kernel
theorem dX6_findPath_26 : decode cX6_findPath 26 = .ok (.iload_n 3, 1) := by decide +kernel
theorem dX6_findPath_27 : decode cX6_findPath 27 = .ok (.invokevirtual 223, 3) := by decide +kernel
theorem dX6_findPath_30 : decode cX6_findPath 30 = .ok (.aload_n 0, 1) := by decide +kernel
theorem dX6_findPath_31 : decode cX6_findPath 31 = .ok (.invokevirtual 247, 3) := by decide +kernel
theorem dX6_findPath_34 : decode cX6_findPath 34 = .ok (.if_icmp .ne 22, 3) := by decide +kernel
theorem dX6_findPath_37 : decode cX6_findPath 37 = .ok (.bipush 6, 2) := by decide +kernel
theorem dX6_findPath_39 : decode cX6_findPath 39 = .ok (.iload_n 3, 1) := by decide +kernel
theorem dX6_findPath_40 : decode cX6_findPath 40 = .ok (.imul, 1) := by decide +kernel
theorem dX6_findPath_41 : decode cX6_findPath 41 = .ok (.aload_n 0, 1) := by decide +kernel
theorem dX6_findPath_42 : decode cX6_findPath 42 = .ok (.getfield 17, 3) := by decide +kernel
theorem dX6_findPath_45 : decode cX6_findPath 45 = .ok (.iload_n 3, 1) := by decide +kernel
theorem dX6_findPath_46 : decode cX6_findPath 46 = .ok (.invokestatic 147, 3) := by decide +kernel
theorem dX6_findPath_49 : decode cX6_findPath 49 = .ok (.iconst 3, 1) := by decide +kernel
theorem dX6_findPath_50 : decode cX6_findPath 50 = .ok (.iadd, 1) := by decide +kernel
theorem dX6_findPath_51 : decode cX6_findPath 51 = .ok (.iaload, 1) := by decide +kernel
theorem dX6_findPath_52 : decode cX6_findPath 52 = .ok (.iadd, 1) := by decide +kernel
theorem dX6_findPath_53 : decode cX6_findPath 53 = .ok (.iconst 1, 1) := by decide +kernel
theorem dX6_findPath_54 : decode cX6_findPath 54 = .ok (.isub, 1) := by decide +kernel
theorem dX6_findPath_55 : decode cX6_findPath 55 = .ok (.istore_n 2, 1) := by decide +kernel
theorem dX6_findPath_56 : decode cX6_findPath 56 = .ok (.iinc 3 (-1), 3) := by decide +kernel
theorem dX6_findPath_59 : decode cX6_findPath 59 = .ok (.goto (-38), 3) := by decide +kernel
theorem dX6_findPath_62 : decode cX6_findPath 62 = .ok (.iload_n 1, 1) := by decide +kernel
theorem dX6_findPath_63 : decode cX6_findPath 63 = .ok (.ifCond .eq 120, 3) := by decide +kernel
theorem dX6_findPath_66 : decode cX6_findPath 66 = .ok (.iload_n 2, 1) := by decide +kernel
theorem dX6_findPath_67 : decode cX6_findPath 67 = .ok (.iconst (-1), 1) := by decide +kernel
theorem dX6_findPath_68 : decode cX6_findPath 68 = .ok (.if_icmp .eq 115, 3) := by decide +kernel
theorem dX6_findPath_71 : decode cX6_findPath 71 = .ok (.aload_n 0, 1) := by decide +kernel
theorem dX6_findPath_72 : decode cX6_findPath 72 = .ok (.iload_n 2, 1) := by decide +kernel
theorem dX6_findPath_73 : decode cX6_findPath 73 = .ok (.invokevirtual 266, 3) := by decide +kernel
theorem dX6_findPath_76 : decode cX6_findPath 76 = .ok (.ifCond .ne 107, 3) := by decide +kernel
theorem dX6_findPath_79 : decode cX6_findPath 79 = .ok (.aload_n 0, 1) := by decide +kernel
theorem dX6_findPath_80 : decode cX6_findPath 80 = .ok (.getfield 48, 3) := by decide +kernel
theorem dX6_findPath_83 : decode cX6_findPath 83 = .ok (.aload_n 0, 1) := by decide +kernel
theorem dX6_findPath_84 : decode cX6_findPath 84 = .ok (.getfield 263, 3) := by decide +kernel
theorem dX6_findPath_87 : decode cX6_findPath 87 = .ok (.iload_n 2, 1) := by decide +kernel
theorem dX6_findPath_88 : decode cX6_findPath 88 = .ok (.iastore, 1) := by decide +kernel
theorem dX6_findPath_89 : decode cX6_findPath 89 = .ok (.aload_n 0, 1) := by decide +kernel
theorem dX6_findPath_90 : decode cX6_findPath 90 = .ok (.dup, 1) := by decide +kernel
theorem dX6_findPath_91 : decode cX6_findPath 91 = .ok (.getfield 263, 3) := by decide +kernel
theorem dX6_findPath_94 : decode cX6_findPath 94 = .ok (.iconst 1, 1) := by decide +kernel
theorem dX6_findPath_95 : decode cX6_findPath 95 = .ok (.iadd, 1) := by decide +kernel
theorem dX6_findPath_96 : decode cX6_findPath 96 = .ok (.putfield 263, 3) := by decide +kernel
theorem dX6_findPath_99 : decode cX6_findPath 99 = .ok (.iload_n 2, 1) := by decide +kernel
theorem dX6_findPath_100 : decode cX6_findPath 100 = .ok (.bipush 6, 2) := by decide +kernel
theorem dX6_findPath_102 : decode cX6_findPath 102 = .ok (.irem, 1) := by decide +kernel
theorem dX6_findPath_103 : decode cX6_findPath 103 = .ok (.ifCond .ne 7, 3) := by decide +kernel
theorem dX6_findPath_106 : decode cX6_findPath 106 = .ok (.iconst 1, 1) := by decide +kernel
theorem dX6_findPath_107 : decode cX6_findPath 107 = .ok (.goto 4, 3) := by decide +kernel
theorem dX6_findPath_110 : decode cX6_findPath 110 = .ok (.iconst 0, 1) := by decide +kernel
theorem dX6_findPath_111 : decode cX6_findPath 111 = .ok (.istore_n 3, 1) := by decide +kernel
theorem dX6_findPath_112 : decode cX6_findPath 112 = .ok (.iload_n 3, 1) := by decide +kernel
theorem dX6_findPath_113 : decode cX6_findPath 113 = .ok (.ifCond .eq 25, 3) := by decide +kernel
theorem dX6_findPath_116 : decode cX6_findPath 116 = .ok (.aload_n 0, 1) := by decide +kernel
theorem dX6_findPath_117 : decode cX6_findPath 117 = .ok (.getfield 37, 3) := by decide +kernel
theorem dX6_findPath_120 : decode cX6_findPath 120 = .ok (.iload_n 2, 1) := by decide +kernel
theorem dX6_findPath_121 : decode cX6_findPath 121 = .ok (.iaload, 1) := by decide +kernel
theorem dX6_findPath_122 : decode cX6_findPath 122 = .ok (.aload_n 0, 1) := by decide +kernel
theorem dX6_findPath_123 : decode cX6_findPath 123 = .ok (.getfield 17, 3) := by decide +kernel
theorem dX6_findPath_126 : decode cX6_findPath 126 = .ok (.iload_n 2, 1) := by decide +kernel
theorem dX6_findPath_127 : decode cX6_findPath 127 = .ok (.bipush 6, 2) := by decide +kernel
theorem dX6_findPath_129 : decode cX6_findPath 129 = .ok (.idiv, 1) := by decide +kernel
theorem dX6_findPath_130 : decode cX6_findPath 130 = .ok (.invokestatic 147, 3) := by decide +kernel
theorem dX6_findPath_133 : decode cX6_findPath 133 = .ok (.iaload, 1) := by decide +kernel
theorem dX6_findPath_134 : decode cX6_findPath 134 = .ok (.if_icmp .ne 4, 3) := by decide +kernel
theorem dX6_findPath_137 : decode cX6_findPath 137 = .ok (.return_, 1) := by decide +kernel
theorem dX6_findPath_138 : decode cX6_findPath 138 = .ok (.iload_n 3, 1) := by decide +kernel
theorem dX6_findPath_139 : decode cX6_findPath 139 = .ok (.ifCond .ne 34, 3) := by decide +kernel
theorem dX6_findPath_142 : decode cX6_findPath 142 = .ok (.aload_n 0, 1) := by decide +kernel
theorem dX6_findPath_143 : decode cX6_findPath 143 = .ok (.getfield 37, 3) := by decide +kernel
theorem dX6_findPath_146 : decode cX6_findPath 146 = .ok (.iload_n 2, 1) := by decide +kernel
theorem dX6_findPath_147 : decode cX6_findPath 147 = .ok (.iconst 1, 1) := by decide +kernel
theorem dX6_findPath_148 : decode cX6_findPath 148 = .ok (.isub, 1) := by decide +kernel
theorem dX6_findPath_149 : decode cX6_findPath 149 = .ok (.iaload, 1) := by decide +kernel
theorem dX6_findPath_150 : decode cX6_findPath 150 = .ok (.aload_n 0, 1) := by decide +kernel
theorem dX6_findPath_151 : decode cX6_findPath 151 = .ok (.iload_n 2, 1) := by decide +kernel
theorem dX6_findPath_152 : decode cX6_findPath 152 = .ok (.iconst 1, 1) := by decide +kernel
theorem dX6_findPath_153 : decode cX6_findPath 153 = .ok (.isub, 1) := by decide +kernel
theorem dX6_findPath_154 : decode cX6_findPath 154 = .ok (.invokevirtual 202, 3) := by decide +kernel
theorem dX6_findPath_157 : decode cX6_findPath 157 = .ok (.iadd, 1) := by decide +kernel
theorem dX6_findPath_158 : decode cX6_findPath 158 = .ok (.aload_n 0, 1) := by decide +kernel
theorem dX6_findPath_159 : decode cX6_findPath 159 = .ok (.getfield 37, 3) := by decide +kernel
theorem dX6_findPath_162 : decode cX6_findPath 162 = .ok (.iload_n 2, 1) := by decide +kernel
theorem dX6_findPath_163 : decode cX6_findPath 163 = .ok (.iaload, 1) := by decide +kernel
theorem dX6_findPath_164 : decode cX6_findPath 164 = .ok (.if_icmp .ne 9, 3) := by decide +kernel
theorem dX6_findPath_167 : decode cX6_findPath 167 = .ok (.iload_n 2, 1) := by decide +kernel
theorem dX6_findPath_168 : decode cX6_findPath 168 = .ok (.iconst 1, 1) := by decide +kernel
theorem dX6_findPath_169 : decode cX6_findPath 169 = .ok (.isub, 1) := by decide +kernel
theorem dX6_findPath_170 : decode cX6_findPath 170 = .ok (.goto 9, 3) := by decide +kernel
theorem dX6_findPath_173 : decode cX6_findPath 173 = .ok (.aload_n 0, 1) := by decide +kernel
theorem dX6_findPath_174 : decode cX6_findPath 174 = .ok (.getfield 31, 3) := by decide +kernel
theorem dX6_findPath_177 : decode cX6_findPath 177 = .ok (.iload_n 2, 1) := by decide +kernel
theorem dX6_findPath_178 : decode cX6_findPath 178 = .ok (.iaload, 1) := by decide +kernel
theorem dX6_findPath_179 : decode cX6_findPath 179 = .ok (.istore_n 2, 1) := by decide +kernel
theorem dX6_findPath_180 : decode cX6_findPath 180 = .ok (.goto (-118), 3) := by decide +kernel
theorem dX6_findPath_183 : decode cX6_findPath 183 = .ok (.return_, 1) := by decide +kernel
theorem dX6_isOnPath_0 : decode cX6_isOnPath 0 = .ok (.iconst 0, 1) := by decide +kernel
theorem dX6_isOnPath_1 : decode cX6_isOnPath 1 = .ok (.istore_n 2, 1) := by decide +kernel
theorem dX6_isOnPath_2 : decode cX6_isOnPath 2 = .ok (.iload_n 2, 1) := by decide +kernel
theorem dX6_isOnPath_3 : decode cX6_isOnPath 3 = .ok (.aload_n 0, 1) := by decide +kernel
theorem dX6_isOnPath_4 : decode cX6_isOnPath 4 = .ok (.getfield 263, 3) := by decide +kernel
theorem dX6_isOnPath_7 : decode cX6_isOnPath 7 = .ok (.if_icmp .ge 21, 3) := by decide +kernel
theorem dX6_isOnPath_10 : decode cX6_isOnPath 10 = .ok (.aload_n 0, 1) := by decide +kernel
theorem dX6_isOnPath_11 : decode cX6_isOnPath 11 = .ok (.getfield 48, 3) := by decide +kernel
theorem dX6_isOnPath_14 : decode cX6_isOnPath 14 = .ok (.iload_n 2, 1) := by decide +kernel
theorem dX6_isOnPath_15 : decode cX6_isOnPath 15 = .ok (.iaload, 1) := by decide +kernel
theorem dX6_isOnPath_16 : decode cX6_isOnPath 16 = .ok (.iload_n 1, 1) := by decide +kernel
theorem dX6_isOnPath_17 : decode cX6_isOnPath 17 = .ok (.if_icmp .ne 5, 3) := by decide +kernel
theorem dX6_isOnPath_20 : decode cX6_isOnPath 20 = .ok (.iconst 1, 1) := by decide +kernel
theorem dX6_isOnPath_21 : decode cX6_isOnPath 21 = .ok (.ireturn, 1) := by decide +kernel
theorem dX6_isOnPath_22 : decode cX6_isOnPath 22 = .ok (.iinc 2 1, 3) := by decide +kernel
theorem dX6_isOnPath_25 : decode cX6_isOnPath 25 = .ok (.goto (-23), 3) := by decide +kernel
theorem dX6_isOnPath_28 : decode cX6_isOnPath 28 = .ok (.iconst 0, 1) := by decide +kernel
theorem dX6_isOnPath_29 : decode cX6_isOnPath 29 = .ok (.ireturn, 1) := by decide +kernel
theorem dX6_told_0 : decode cX6_told 0 = .ok (.bipush 10, 2) := by decide +kernel
theorem dX6_told_2 : decode cX6_told 2 = .ok (.iload_n 0, 1) := by decide +kernel
theorem dX6_told_3 : decode cX6_told 3 = .ok (.bipush 6, 2) := by decide +kernel
theorem dX6_told_5 : decode cX6_told 5 = .ok (.idiv, 1) := by decide +kernel
theorem dX6_told_6 : decode cX6_told 6 = .ok (.imul, 1) := by decide +kernel
theorem dX6_told_7 : decode cX6_told 7 = .ok (.iload_n 0, 1) := by decide +kernel
theorem dX6_told_8 : decode cX6_told 8 = .ok (.bipush 6, 2) := by decide +kernel
theorem dX6_told_10 : decode cX6_told 10 = .ok (.irem, 1) := by decide +kernel
theorem dX6_told_11 : decode cX6_told 11 = .ok (.iadd, 1) := by decide +kernel
theorem dX6_told_12 : decode cX6_told 12 = .ok (.ireturn, 1) := by decide +kernel
theorem dX6_noMachine_0 : decode cX6_noMachine 0 = .ok (.aload_n 0, 1) := by decide +kernel
theorem dX6_noMachine_1 : decode cX6_noMachine 1 = .ok (.iload_n 1, 1) := by decide +kernel
theorem dX6_noMachine_2 : decode cX6_noMachine 2 = .ok (.iconst 0, 1) := by decide +kernel
theorem dX6_noMachine_3 : decode cX6_noMachine 3 = .ok (.aload_n 0, 1) := by decide +kernel
theorem dX6_noMachine_4 : decode cX6_noMachine 4 = .ok (.getfield 17, 3) := by decide +kernel
theorem dX6_noMachine_7 : decode cX6_noMachine 7 = .ok (.iconst 0, 1) := by decide +kernel
theorem dX6_noMachine_8 : decode cX6_noMachine 8 = .ok (.iaload, 1) := by decide +kernel
theorem dX6_noMachine_9 : decode cX6_noMachine 9 = .ok (.iconst 1, 1) := by decide +kernel
theorem dX6_noMachine_10 : decode cX6_noMachine 10 = .ok (.isub, 1) := by decide +kernel
theorem dX6_noMachine_11 : decode cX6_noMachine 11 = .ok (.invokestatic 73, 3) := by decide +kernel
theorem dX6_noMachine_14 : decode cX6_noMachine 14 = .ok (.ifCond .ne 7, 3) := by decide +kernel
theorem dX6_noMachine_17 : decode cX6_noMachine 17 = .ok (.iconst 1, 1) := by decide +kernel
theorem dX6_noMachine_18 : decode cX6_noMachine 18 = .ok (.goto 4, 3) := by decide +kernel
theorem dX6_noMachine_21 : decode cX6_noMachine 21 = .ok (.iconst 0, 1) := by decide +kernel
theorem dX6_noMachine_22 : decode cX6_noMachine 22 = .ok (.iconst 1, 1) := by decide +kernel
theorem dX6_noMachine_23 : decode cX6_noMachine 23 = .ok (.invokevirtual 174, 3) := by decide +kernel
theorem dX6_noMachine_26 : decode cX6_noMachine 26 = .ok (.ireturn, 1) := by decide +kernel
theorem dX6_noJob_0 : decode cX6_noJob 0 = .ok (.aload_n 0, 1) := by decide +kernel
theorem dX6_noJob_1 : decode cX6_noJob 1 = .ok (.iload_n 1, 1) := by decide +kernel
theorem dX6_noJob_2 : decode cX6_noJob 2 = .ok (.iconst 0, 1) := by decide +kernel
theorem dX6_noJob_3 : decode cX6_noJob 3 = .ok (.aload_n 0, 1) := by decide +kernel
theorem dX6_noJob_4 : decode cX6_noJob 4 = .ok (.getfield 17, 3) := by decide +kernel
theorem dX6_noJob_7 : decode cX6_noJob 7 = .ok (.iconst 2, 1) := by decide +kernel
theorem dX6_noJob_8 : decode cX6_noJob 8 = .ok (.iaload, 1) := by decide +kernel
theorem dX6_noJob_9 : decode cX6_noJob 9 = .ok (.iconst 1, 1) := by decide +kernel
theorem dX6_noJob_10 : decode cX6_noJob 10 = .ok (.isub, 1) := by decide +kernel
theorem dX6_noJob_11 : decode cX6_noJob 11 = .ok (.invokestatic 73, 3) := by decide +kernel
theorem dX6_noJob_14 : decode cX6_noJob 14 = .ok (.ifCond .ne 7, 3) := by decide +kernel
theorem dX6_noJob_17 : decode cX6_noJob 17 = .ok (.iconst 1, 1) := by decide +kernel
theorem dX6_noJob_18 : decode cX6_noJob 18 = .ok (.goto 4, 3) := by decide +kernel
theorem dX6_noJob_21 : decode cX6_noJob 21 = .ok (.iconst 0, 1) := by decide +kernel
theorem dX6_noJob_22 : decode cX6_noJob 22 = .ok (.iconst 1, 1) := by decide +kernel
theorem dX6_noJob_23 : decode cX6_noJob 23 = .ok (.invokevirtual 174, 3) := by decide +kernel
theorem dX6_noJob_26 : decode cX6_noJob 26 = .ok (.ireturn, 1) := by decide +kernel
theorem dX6_noOperation_0 : decode cX6_noOperation 0 = .ok (.aload_n 0, 1) := by decide +kernel
theorem dX6_noOperation_1 : decode cX6_noOperation 1 = .ok (.iload_n 1, 1) := by decide +kernel
theorem dX6_noOperation_2 : decode cX6_noOperation 2 = .ok (.invokevirtual 269, 3) := by decide +kernel
theorem dX6_noOperation_5 : decode cX6_noOperation 5 = .ok (.ifCond .ne 37, 3) := by decide +kernel
theorem dX6_noOperation_8 : decode cX6_noOperation 8 = .ok (.aload_n 0, 1) := by decide +kernel
theorem dX6_noOperation_9 : decode cX6_noOperation 9 = .ok (.iload_n 2, 1) := by decide +kernel
theorem dX6_noOperation_10 : decode cX6_noOperation 10 = .ok (.iconst 0, 1) := by decide +kernel
theorem dX6_noOperation_11 : decode cX6_noOperation 11 = .ok (.aload_n 0, 1) := by decide +kernel
theorem dX6_noOperation_12 : decode cX6_noOperation 12 = .ok (.getfield 17, 3) := by decide +kernel
theorem dX6_noOperation_15 : decode cX6_noOperation 15 = .ok (.iload_n 1, 1) := by decide +kernel
theorem dX6_noOperation_16 : decode cX6_noOperation 16 = .ok (.invokestatic 147, 3) := by decide +kernel
theorem dX6_noOperation_19 : decode cX6_noOperation 19 = .ok (.iconst 3, 1) := by decide +kernel
theorem dX6_noOperation_20 : decode cX6_noOperation 20 = .ok (.iadd, 1) := by decide +kernel
theorem dX6_noOperation_21 : decode cX6_noOperation 21 = .ok (.iaload, 1) := by decide +kernel
theorem dX6_noOperation_22 : decode cX6_noOperation 22 = .ok (.iconst 1, 1) := by decide +kernel
theorem dX6_noOperation_23 : decode cX6_noOperation 23 = .ok (.isub, 1) := by decide +kernel
theorem dX6_noOperation_24 : decode cX6_noOperation 24 = .ok (.invokestatic 73, 3) := by decide +kernel
theorem dX6_noOperation_27 : decode cX6_noOperation 27 = .ok (.ifCond .ne 7, 3) := by decide +kernel
theorem dX6_noOperation_30 : decode cX6_noOperation 30 = .ok (.iconst 1, 1) := by decide +kernel
theorem dX6_noOperation_31 : decode cX6_noOperation 31 = .ok (.goto 4, 3) := by decide +kernel
theorem dX6_noOperation_34 : decode cX6_noOperation 34 = .ok (.iconst 0, 1) := by decide +kernel
theorem dX6_noOperation_35 : decode cX6_noOperation 35 = .ok (.iconst 1, 1) := by decide +kernel
theorem dX6_noOperation_36 : decode cX6_noOperation 36 = .ok (.invokevirtual 174, 3) := by decide +kernel
theorem dX6_noOperation_39 : decode cX6_noOperation 39 = .ok (.ifCond .eq 7, 3) := by decide +kernel
theorem dX6_noOperation_42 : decode cX6_noOperation 42 = .ok (.iconst 1, 1) := by decide +kernel
theorem dX6_noOperation_43 : decode cX6_noOperation 43 = .ok (.goto 4, 3) := by decide +kernel
theorem dX6_noOperation_46 : decode cX6_noOperation 46 = .ok (.iconst 0, 1) := by decide +kernel
theorem dX6_noOperation_47 : decode cX6_noOperation 47 = .ok (.ireturn, 1) := by decide +kernel
theorem dX6_noSwap_0 : decode cX6_noSwap 0 = .ok (.aload_n 0, 1) := by decide +kernel
theorem dX6_noSwap_1 : decode cX6_noSwap 1 = .ok (.iload_n 1, 1) := by decide +kernel
theorem dX6_noSwap_2 : decode cX6_noSwap 2 = .ok (.invokevirtual 272, 3) := by decide +kernel
theorem dX6_noSwap_5 : decode cX6_noSwap 5 = .ok (.ifCond .ne 37, 3) := by decide +kernel
theorem dX6_noSwap_8 : decode cX6_noSwap 8 = .ok (.aload_n 0, 1) := by decide +kernel
theorem dX6_noSwap_9 : decode cX6_noSwap 9 = .ok (.iload_n 2, 1) := by decide +kernel
theorem dX6_noSwap_10 : decode cX6_noSwap 10 = .ok (.iconst 0, 1) := by decide +kernel
theorem dX6_noSwap_11 : decode cX6_noSwap 11 = .ok (.aload_n 0, 1) := by decide +kernel
theorem dX6_noSwap_12 : decode cX6_noSwap 12 = .ok (.getfield 17, 3) := by decide +kernel
theorem dX6_noSwap_15 : decode cX6_noSwap 15 = .ok (.iload_n 1, 1) := by decide +kernel
theorem dX6_noSwap_16 : decode cX6_noSwap 16 = .ok (.invokestatic 158, 3) := by decide +kernel
theorem dX6_noSwap_19 : decode cX6_noSwap 19 = .ok (.iconst 2, 1) := by decide +kernel
theorem dX6_noSwap_20 : decode cX6_noSwap 20 = .ok (.iadd, 1) := by decide +kernel
theorem dX6_noSwap_21 : decode cX6_noSwap 21 = .ok (.iaload, 1) := by decide +kernel
theorem dX6_noSwap_22 : decode cX6_noSwap 22 = .ok (.iconst 2, 1) := by decide +kernel
theorem dX6_noSwap_23 : decode cX6_noSwap 23 = .ok (.isub, 1) := by decide +kernel
theorem dX6_noSwap_24 : decode cX6_noSwap 24 = .ok (.invokestatic 73, 3) := by decide +kernel
theorem dX6_noSwap_27 : decode cX6_noSwap 27 = .ok (.ifCond .ne 7, 3) := by decide +kernel
theorem dX6_noSwap_30 : decode cX6_noSwap 30 = .ok (.iconst 1, 1) := by decide +kernel
theorem dX6_noSwap_31 : decode cX6_noSwap 31 = .ok (.goto 4, 3) := by decide +kernel
theorem dX6_noSwap_34 : decode cX6_noSwap 34 = .ok (.iconst 0, 1) := by decide +kernel
theorem dX6_noSwap_35 : decode cX6_noSwap 35 = .ok (.iconst 1, 1) := by decide +kernel
theorem dX6_noSwap_36 : decode cX6_noSwap 36 = .ok (.invokevirtual 174, 3) := by decide +kernel
theorem dX6_noSwap_39 : decode cX6_noSwap 39 = .ok (.ifCond .eq 7, 3) := by decide +kernel
theorem dX6_noSwap_42 : decode cX6_noSwap 42 = .ok (.iconst 1, 1) := by decide +kernel
theorem dX6_noSwap_43 : decode cX6_noSwap 43 = .ok (.goto 4, 3) := by decide +kernel
theorem dX6_noSwap_46 : decode cX6_noSwap 46 = .ok (.iconst 0, 1) := by decide +kernel
theorem dX6_noSwap_47 : decode cX6_noSwap 47 = .ok (.ireturn, 1) := by decide +kernel
theorem dX6_machineCount_0 : decode cX6_machineCount 0 = .ok (.aload_n 0, 1) := by decide +kernel
theorem dX6_machineCount_1 : decode cX6_machineCount 1 = .ok (.iconst 0, 1) := by decide +kernel
theorem dX6_machineCount_2 : decode cX6_machineCount 2 = .ok (.putfield 51, 3) := by decide +kernel
theorem dX6_machineCount_5 : decode cX6_machineCount 5 = .ok (.aload_n 0, 1) := by decide +kernel
theorem dX6_machineCount_6 : decode cX6_machineCount 6 = .ok (.getfield 17, 3) := by decide +kernel
theorem dX6_machineCount_9 : decode cX6_machineCount 9 = .ok (.iconst 0, 1) := by decide +kernel
theorem dX6_machineCount_10 : decode cX6_machineCount 10 = .ok (.iaload, 1) := by decide +kernel
theorem dX6_machineCount_11 : decode cX6_machineCount 11 = .ok (.ireturn, 1) := by decide +kernel
theorem dX6_jobCount_0 : decode cX6_jobCount 0 = .ok (.aload_n 0, 1) := by decide +kernel
theorem dX6_jobCount_1 : decode cX6_jobCount 1 = .ok (.iconst 0, 1) := by decide +kernel
theorem dX6_jobCount_2 : decode cX6_jobCount 2 = .ok (.putfield 51, 3) := by decide +kernel
theorem dX6_jobCount_5 : decode cX6_jobCount 5 = .ok (.aload_n 0, 1) := by decide +kernel
theorem dX6_jobCount_6 : decode cX6_jobCount 6 = .ok (.getfield 17, 3) := by decide +kernel
theorem dX6_jobCount_9 : decode cX6_jobCount 9 = .ok (.iconst 2, 1) := by decide +kernel
theorem dX6_jobCount_10 : decode cX6_jobCount 10 = .ok (.iaload, 1) := by decide +kernel
theorem dX6_jobCount_11 : decode cX6_jobCount 11 = .ok (.ireturn, 1) := by decide +kernel
theorem dX6_operationCount_0 : decode cX6_operationCount 0 = .ok (.aload_n 0, 1) := by decide +kernel
theorem dX6_operationCount_1 : decode cX6_operationCount 1 = .ok (.iconst 0, 1) := by decide +kernel
theorem dX6_operationCount_2 : decode cX6_operationCount 2 = .ok (.putfield 51, 3) := by decide +kernel
theorem dX6_operationCount_5 : decode cX6_operationCount 5 = .ok (.aload_n 0, 1) := by decide +kernel
theorem dX6_operationCount_6 : decode cX6_operationCount 6 = .ok (.iload_n 1, 1) := by decide +kernel
theorem dX6_operationCount_7 : decode cX6_operationCount 7 = .ok (.invokevirtual 269, 3) := by decide +kernel
theorem dX6_operationCount_10 : decode cX6_operationCount 10 = .ok (.ifCond .eq 7, 3) := by decide +kernel
theorem dX6_operationCount_13 : decode cX6_operationCount 13 = .ok (.iconst 0, 1) := by decide +kernel
theorem dX6_operationCount_14 : decode cX6_operationCount 14 = .ok (.goto 14, 3) := by decide +kernel
theorem dX6_operationCount_17 : decode cX6_operationCount 17 = .ok (.aload_n 0, 1) := by decide +kernel
theorem dX6_operationCount_18 : decode cX6_operationCount 18 = .ok (.getfield 17, 3) := by decide +kernel
theorem dX6_operationCount_21 : decode cX6_operationCount 21 = .ok (.iload_n 1, 1) := by decide +kernel
theorem dX6_operationCount_22 : decode cX6_operationCount 22 = .ok (.invokestatic 147, 3) := by decide +kernel
theorem dX6_operationCount_25 : decode cX6_operationCount 25 = .ok (.iconst 3, 1) := by decide +kernel
theorem dX6_operationCount_26 : decode cX6_operationCount 26 = .ok (.iadd, 1) := by decide +kernel
theorem dX6_operationCount_27 : decode cX6_operationCount 27 = .ok (.iaload, 1) := by decide +kernel
theorem dX6_operationCount_28 : decode cX6_operationCount 28 = .ok (.ireturn, 1) := by decide +kernel
theorem dX6_operation_0 : decode cX6_operation 0 = .ok (.aload_n 0, 1) := by decide +kernel
theorem dX6_operation_1 : decode cX6_operation 1 = .ok (.iconst 0, 1) := by decide +kernel
theorem dX6_operation_2 : decode cX6_operation 2 = .ok (.putfield 51, 3) := by decide +kernel
theorem dX6_operation_5 : decode cX6_operation 5 = .ok (.aload_n 0, 1) := by decide +kernel
theorem dX6_operation_6 : decode cX6_operation 6 = .ok (.iload_n 1, 1) := by decide +kernel
theorem dX6_operation_7 : decode cX6_operation 7 = .ok (.iload_n 2, 1) := by decide +kernel
theorem dX6_operation_8 : decode cX6_operation 8 = .ok (.invokevirtual 275, 3) := by decide +kernel
theorem dX6_operation_11 : decode cX6_operation 11 = .ok (.ifCond .ne 25, 3) := by decide +kernel
theorem dX6_operation_14 : decode cX6_operation 14 = .ok (.aload_n 0, 1) := by decide +kernel
theorem dX6_operation_15 : decode cX6_operation 15 = .ok (.iload_n 3, 1) := by decide +kernel
theorem dX6_operation_16 : decode cX6_operation 16 = .ok (.iconst 0, 1) := by decide +kernel
theorem dX6_operation_17 : decode cX6_operation 17 = .ok (.iconst 2, 1) := by decide +kernel
theorem dX6_operation_18 : decode cX6_operation 18 = .ok (.invokestatic 73, 3) := by decide +kernel
theorem dX6_operation_21 : decode cX6_operation 21 = .ok (.ifCond .ne 7, 3) := by decide +kernel
theorem dX6_operation_24 : decode cX6_operation 24 = .ok (.iconst 1, 1) := by decide +kernel
theorem dX6_operation_25 : decode cX6_operation 25 = .ok (.goto 4, 3) := by decide +kernel
theorem dX6_operation_28 : decode cX6_operation 28 = .ok (.iconst 0, 1) := by decide +kernel
theorem dX6_operation_29 : decode cX6_operation 29 = .ok (.iconst 2, 1) := by decide +kernel
theorem dX6_operation_30 : decode cX6_operation 30 = .ok (.invokevirtual 174, 3) := by decide +kernel
theorem dX6_operation_33 : decode cX6_operation 33 = .ok (.ifCond .eq 5, 3) := by decide +kernel
theorem dX6_operation_36 : decode cX6_operation 36 = .ok (.iconst 0, 1) := by decide +kernel
theorem dX6_operation_37 : decode cX6_operation 37 = .ok (.ireturn, 1) := by decide +kernel
theorem dX6_operation_38 : decode cX6_operation 38 = .ok (.bipush 6, 2) := by decide +kernel
theorem dX6_operation_40 : decode cX6_operation 40 = .ok (.iload_n 1, 1) := by decide +kernel
theorem dX6_operation_41 : decode cX6_operation 41 = .ok (.imul, 1) := by decide +kernel
theorem dX6_operation_42 : decode cX6_operation 42 = .ok (.iload_n 2, 1) := by decide +kernel
theorem dX6_operation_43 : decode cX6_operation 43 = .ok (.iadd, 1) := by decide +kernel
theorem dX6_operation_44 : decode cX6_operation 44 = .ok (.istore 4, 2) := by decide +kernel
theorem dX6_operation_46 : decode cX6_operation 46 = .ok (.iload_n 3, 1) := by decide +kernel
theorem dX6_operation_47 : decode cX6_operation 47 = .ok (.iconst 2, 1) := by decide +kernel
theorem dX6_operation_48 : decode cX6_operation 48 = .ok (.if_icmp .ne 12, 3) := by decide +kernel
theorem dX6_operation_51 : decode cX6_operation 51 = .ok (.aload_n 0, 1) := by decide +kernel
theorem dX6_operation_52 : decode cX6_operation 52 = .ok (.iload 4, 2) := by decide +kernel
theorem dX6_operation_54 : decode cX6_operation 54 = .ok (.invokevirtual 279, 3) := by decide +kernel
theorem dX6_operation_57 : decode cX6_operation 57 = .ok (.goto 15, 3) := by decide +kernel
theorem dX6_operation_60 : decode cX6_operation 60 = .ok (.aload_n 0, 1) := by decide +kernel
theorem dX6_operation_61 : decode cX6_operation 61 = .ok (.getfield 17, 3) := by decide +kernel
theorem dX6_operation_64 : decode cX6_operation 64 = .ok (.iload 4, 2) := by decide +kernel
theorem dX6_operation_66 : decode cX6_operation 66 = .ok (.invokestatic 155, 3) := by decide +kernel
theorem dX6_operation_69 : decode cX6_operation 69 = .ok (.iload_n 3, 1) := by decide +kernel
theorem dX6_operation_70 : decode cX6_operation 70 = .ok (.iadd, 1) := by decide +kernel
theorem dX6_operation_71 : decode cX6_operation 71 = .ok (.iaload, 1) := by decide +kernel
theorem dX6_operation_72 : decode cX6_operation 72 = .ok (.ireturn, 1) := by decide +kernel
theorem dX6_orderLength_0 : decode cX6_orderLength 0 = .ok (.aload_n 0, 1) := by decide +kernel
theorem dX6_orderLength_1 : decode cX6_orderLength 1 = .ok (.iconst 0, 1) := by decide +kernel
theorem dX6_orderLength_2 : decode cX6_orderLength 2 = .ok (.putfield 51, 3) := by decide +kernel
theorem dX6_orderLength_5 : decode cX6_orderLength 5 = .ok (.aload_n 0, 1) := by decide +kernel
theorem dX6_orderLength_6 : decode cX6_orderLength 6 = .ok (.iload_n 1, 1) := by decide +kernel
theorem dX6_orderLength_7 : decode cX6_orderLength 7 = .ok (.invokevirtual 272, 3) := by decide +kernel
theorem dX6_orderLength_10 : decode cX6_orderLength 10 = .ok (.ifCond .eq 7, 3) := by decide +kernel
theorem dX6_orderLength_13 : decode cX6_orderLength 13 = .ok (.iconst 0, 1) := by decide +kernel
theorem dX6_orderLength_14 : decode cX6_orderLength 14 = .ok (.goto 14, 3) := by decide +kernel
theorem dX6_orderLength_17 : decode cX6_orderLength 17 = .ok (.aload_n 0, 1) := by decide +kernel
theorem dX6_orderLength_18 : decode cX6_orderLength 18 = .ok (.getfield 17, 3) := by decide +kernel
theorem dX6_orderLength_21 : decode cX6_orderLength 21 = .ok (.iload_n 1, 1) := by decide +kernel
theorem dX6_orderLength_22 : decode cX6_orderLength 22 = .ok (.invokestatic 158, 3) := by decide +kernel
theorem dX6_orderLength_25 : decode cX6_orderLength 25 = .ok (.iconst 2, 1) := by decide +kernel
theorem dX6_orderLength_26 : decode cX6_orderLength 26 = .ok (.iadd, 1) := by decide +kernel
theorem dX6_orderLength_27 : decode cX6_orderLength 27 = .ok (.iaload, 1) := by decide +kernel
theorem dX6_orderLength_28 : decode cX6_orderLength 28 = .ok (.ireturn, 1) := by decide +kernel
theorem dX6_orderAt_0 : decode cX6_orderAt 0 = .ok (.aload_n 0, 1) := by decide +kernel
theorem dX6_orderAt_1 : decode cX6_orderAt 1 = .ok (.iconst 0, 1) := by decide +kernel
theorem dX6_orderAt_2 : decode cX6_orderAt 2 = .ok (.putfield 51, 3) := by decide +kernel
theorem dX6_orderAt_5 : decode cX6_orderAt 5 = .ok (.aload_n 0, 1) := by decide +kernel
theorem dX6_orderAt_6 : decode cX6_orderAt 6 = .ok (.iload_n 1, 1) := by decide +kernel
theorem dX6_orderAt_7 : decode cX6_orderAt 7 = .ok (.invokevirtual 272, 3) := by decide +kernel
theorem dX6_orderAt_10 : decode cX6_orderAt 10 = .ok (.ifCond .ne 37, 3) := by decide +kernel
theorem dX6_orderAt_13 : decode cX6_orderAt 13 = .ok (.aload_n 0, 1) := by decide +kernel
theorem dX6_orderAt_14 : decode cX6_orderAt 14 = .ok (.iload_n 2, 1) := by decide +kernel
theorem dX6_orderAt_15 : decode cX6_orderAt 15 = .ok (.iconst 0, 1) := by decide +kernel
theorem dX6_orderAt_16 : decode cX6_orderAt 16 = .ok (.aload_n 0, 1) := by decide +kernel
theorem dX6_orderAt_17 : decode cX6_orderAt 17 = .ok (.getfield 17, 3) := by decide +kernel
theorem dX6_orderAt_20 : decode cX6_orderAt 20 = .ok (.iload_n 1, 1) := by decide +kernel
theorem dX6_orderAt_21 : decode cX6_orderAt 21 = .ok (.invokestatic 158, 3) := by decide +kernel
theorem dX6_orderAt_24 : decode cX6_orderAt 24 = .ok (.iconst 2, 1) := by decide +kernel
theorem dX6_orderAt_25 : decode cX6_orderAt 25 = .ok (.iadd, 1) := by decide +kernel
theorem dX6_orderAt_26 : decode cX6_orderAt 26 = .ok (.iaload, 1) := by decide +kernel
theorem dX6_orderAt_27 : decode cX6_orderAt 27 = .ok (.iconst 1, 1) := by decide +kernel
theorem dX6_orderAt_28 : decode cX6_orderAt 28 = .ok (.isub, 1) := by decide +kernel
theorem dX6_orderAt_29 : decode cX6_orderAt 29 = .ok (.invokestatic 73, 3) := by decide +kernel
theorem dX6_orderAt_32 : decode cX6_orderAt 32 = .ok (.ifCond .ne 7, 3) := by decide +kernel
theorem dX6_orderAt_35 : decode cX6_orderAt 35 = .ok (.iconst 1, 1) := by decide +kernel
theorem dX6_orderAt_36 : decode cX6_orderAt 36 = .ok (.goto 4, 3) := by decide +kernel
theorem dX6_orderAt_39 : decode cX6_orderAt 39 = .ok (.iconst 0, 1) := by decide +kernel
theorem dX6_orderAt_40 : decode cX6_orderAt 40 = .ok (.iconst 1, 1) := by decide +kernel
theorem dX6_orderAt_41 : decode cX6_orderAt 41 = .ok (.invokevirtual 174, 3) := by decide +kernel
theorem dX6_orderAt_44 : decode cX6_orderAt 44 = .ok (.ifCond .eq 7, 3) := by decide +kernel
theorem dX6_orderAt_47 : decode cX6_orderAt 47 = .ok (.iconst 0, 1) := by decide +kernel
theorem dX6_orderAt_48 : decode cX6_orderAt 48 = .ok (.goto 19, 3) := by decide +kernel
theorem dX6_orderAt_51 : decode cX6_orderAt 51 = .ok (.aload_n 0, 1) := by decide +kernel
theorem dX6_orderAt_52 : decode cX6_orderAt 52 = .ok (.getfield 17, 3) := by decide +kernel
theorem dX6_orderAt_55 : decode cX6_orderAt 55 = .ok (.iload_n 1, 1) := by decide +kernel
theorem dX6_orderAt_56 : decode cX6_orderAt 56 = .ok (.invokestatic 158, 3) := by decide +kernel
theorem dX6_orderAt_59 : decode cX6_orderAt 59 = .ok (.iconst 3, 1) := by decide +kernel
theorem dX6_orderAt_60 : decode cX6_orderAt 60 = .ok (.iadd, 1) := by decide +kernel
theorem dX6_orderAt_61 : decode cX6_orderAt 61 = .ok (.iload_n 2, 1) := by decide +kernel
theorem dX6_orderAt_62 : decode cX6_orderAt 62 = .ok (.iadd, 1) := by decide +kernel
theorem dX6_orderAt_63 : decode cX6_orderAt 63 = .ok (.iaload, 1) := by decide +kernel
theorem dX6_orderAt_64 : decode cX6_orderAt 64 = .ok (.invokestatic 282, 3) := by decide +kernel
theorem dX6_orderAt_67 : decode cX6_orderAt 67 = .ok (.ireturn, 1) := by decide +kernel
theorem dX6_start_0 : decode cX6_start 0 = .ok (.aload_n 0, 1) := by decide +kernel
theorem dX6_start_1 : decode cX6_start 1 = .ok (.iconst 0, 1) := by decide +kernel
theorem dX6_start_2 : decode cX6_start 2 = .ok (.putfield 51, 3) := by decide +kernel
theorem dX6_start_5 : decode cX6_start 5 = .ok (.aload_n 0, 1) := by decide +kernel
theorem dX6_start_6 : decode cX6_start 6 = .ok (.iload_n 1, 1) := by decide +kernel
theorem dX6_start_7 : decode cX6_start 7 = .ok (.iload_n 2, 1) := by decide +kernel
theorem dX6_start_8 : decode cX6_start 8 = .ok (.invokevirtual 275, 3) := by decide +kernel
theorem dX6_start_11 : decode cX6_start 11 = .ok (.ifCond .ne 10, 3) := by decide +kernel
theorem dX6_start_14 : decode cX6_start 14 = .ok (.aload_n 0, 1) := by decide +kernel
theorem dX6_start_15 : decode cX6_start 15 = .ok (.invokevirtual 217, 3) := by decide +kernel
theorem dX6_start_18 : decode cX6_start 18 = .ok (.ifCond .ne 7, 3) := by decide +kernel
theorem dX6_start_21 : decode cX6_start 21 = .ok (.iconst 0, 1) := by decide +kernel
theorem dX6_start_22 : decode cX6_start 22 = .ok (.goto 14, 3) := by decide +kernel
theorem dX6_start_25 : decode cX6_start 25 = .ok (.aload_n 0, 1) := by decide +kernel
theorem dX6_start_26 : decode cX6_start 26 = .ok (.getfield 37, 3) := by decide +kernel
theorem dX6_start_29 : decode cX6_start 29 = .ok (.bipush 6, 2) := by decide +kernel
theorem dX6_start_31 : decode cX6_start 31 = .ok (.iload_n 1, 1) := by decide +kernel
theorem dX6_start_32 : decode cX6_start 32 = .ok (.imul, 1) := by decide +kernel
theorem dX6_start_33 : decode cX6_start 33 = .ok (.iload_n 2, 1) := by decide +kernel
theorem dX6_start_34 : decode cX6_start 34 = .ok (.iadd, 1) := by decide +kernel
theorem dX6_start_35 : decode cX6_start 35 = .ok (.iaload, 1) := by decide +kernel
theorem dX6_start_36 : decode cX6_start 36 = .ok (.ireturn, 1) := by decide +kernel
theorem dX6_leave_0 : decode cX6_leave 0 = .ok (.aload_n 0, 1) := by decide +kernel
theorem dX6_leave_1 : decode cX6_leave 1 = .ok (.iconst 0, 1) := by decide +kernel
theorem dX6_leave_2 : decode cX6_leave 2 = .ok (.putfield 51, 3) := by decide +kernel
theorem dX6_leave_5 : decode cX6_leave 5 = .ok (.aload_n 0, 1) := by decide +kernel
theorem dX6_leave_6 : decode cX6_leave 6 = .ok (.iload_n 1, 1) := by decide +kernel
theorem dX6_leave_7 : decode cX6_leave 7 = .ok (.iload_n 2, 1) := by decide +kernel
theorem dX6_leave_8 : decode cX6_leave 8 = .ok (.invokevirtual 275, 3) := by decide +kernel
theorem dX6_leave_11 : decode cX6_leave 11 = .ok (.ifCond .ne 10, 3) := by decide +kernel
theorem dX6_leave_14 : decode cX6_leave 14 = .ok (.aload_n 0, 1) := by decide +kernel
theorem dX6_leave_15 : decode cX6_leave 15 = .ok (.invokevirtual 217, 3) := by decide +kernel
theorem dX6_leave_18 : decode cX6_leave 18 = .ok (.ifCond .ne 7, 3) := by decide +kernel
theorem dX6_leave_21 : decode cX6_leave 21 = .ok (.iconst 0, 1) := by decide +kernel
theorem dX6_leave_22 : decode cX6_leave 22 = .ok (.goto 13, 3) := by decide +kernel
theorem dX6_leave_25 : decode cX6_leave 25 = .ok (.aload_n 0, 1) := by decide +kernel
theorem dX6_leave_26 : decode cX6_leave 26 = .ok (.bipush 6, 2) := by decide +kernel
theorem dX6_leave_28 : decode cX6_leave 28 = .ok (.iload_n 1, 1) := by decide +kernel
theorem dX6_leave_29 : decode cX6_leave 29 = .ok (.imul, 1) := by decide +kernel
theorem dX6_leave_30 : decode cX6_leave 30 = .ok (.iload_n 2, 1) := by decide +kernel
theorem dX6_leave_31 : decode cX6_leave 31 = .ok (.iadd, 1) := by decide +kernel
theorem dX6_leave_32 : decode cX6_leave 32 = .ok (.invokevirtual 285, 3) := by decide +kernel
theorem dX6_leave_35 : decode cX6_leave 35 = .ok (.ireturn, 1) := by decide +kernel
theorem dX6_completion_0 : decode cX6_completion 0 = .ok (.aload_n 0, 1) := by decide +kernel
theorem dX6_completion_1 : decode cX6_completion 1 = .ok (.iconst 0, 1) := by decide +kernel
theorem dX6_completion_2 : decode cX6_completion 2 = .ok (.putfield 51, 3) := by decide +kernel
theorem dX6_completion_5 : decode cX6_completion 5 = .ok (.aload_n 0, 1) := by decide +kernel
theorem dX6_completion_6 : decode cX6_completion 6 = .ok (.iload_n 1, 1) := by decide +kernel
theorem dX6_completion_7 : decode cX6_completion 7 = .ok (.invokevirtual 269, 3) := by decide +kernel
theorem dX6_completion_10 : decode cX6_completion 10 = .ok (.ifCond .ne 10, 3) := by decide +kernel
theorem dX6_completion_13 : decode cX6_completion 13 = .ok (.aload_n 0, 1) := by decide +kernel
theorem dX6_completion_14 : decode cX6_completion 14 = .ok (.invokevirtual 217, 3) := by decide +kernel
theorem dX6_completion_17 : decode cX6_completion 17 = .ok (.ifCond .ne 7, 3) := by decide +kernel
theorem dX6_completion_20 : decode cX6_completion 20 = .ok (.iconst 0, 1) := by decide +kernel
theorem dX6_completion_21 : decode cX6_completion 21 = .ok (.goto 8, 3) := by decide +kernel
theorem dX6_completion_24 : decode cX6_completion 24 = .ok (.aload_n 0, 1) := by decide +kernel
theorem dX6_completion_25 : decode cX6_completion 25 = .ok (.iload_n 1, 1) := by decide +kernel
theorem dX6_completion_26 : decode cX6_completion 26 = .ok (.invokevirtual 223, 3) := by decide +kernel
theorem dX6_completion_29 : decode cX6_completion 29 = .ok (.ireturn, 1) := by decide +kernel
theorem dX6_spanNow_0 : decode cX6_spanNow 0 = .ok (.aload_n 0, 1) := by decide +kernel
theorem dX6_spanNow_1 : decode cX6_spanNow 1 = .ok (.invokevirtual 217, 3) := by decide +kernel
theorem dX6_spanNow_4 : decode cX6_spanNow 4 = .ok (.ifCond .eq 10, 3) := by decide +kernel
end
section
theorem dX6_spanNow_7 : decode cX6_spanNow 7 = .ok (.aload_n 0, 1) := by decide +kernel
theorem dX6_spanNow_8 : decode cX6_spanNow 8 = .ok (.invokevirtual 247, 3) := by decide +kernel
theorem dX6_spanNow_11 : decode cX6_spanNow 11 = .ok (.goto 4, 3) := by decide +kernel
theorem dX6_spanNow_14 : decode cX6_spanNow 14 = .ok (.iconst 0, 1) := by decide +kernel
theorem dX6_spanNow_15 : decode cX6_spanNow 15 = .ok (.ireturn, 1) := by decide +kernel
theorem dX6_makespan_0 : decode cX6_makespan 0 = .ok (.aload_n 0, 1) := by decide +kernel
theorem dX6_makespan_1 : decode cX6_makespan 1 = .ok (.iconst 0, 1) := by decide +kernel
theorem dX6_makespan_2 : decode cX6_makespan 2 = .ok (.putfield 51, 3) := by decide +kernel
theorem dX6_makespan_5 : decode cX6_makespan 5 = .ok (.aload_n 0, 1) := by decide +kernel
theorem dX6_makespan_6 : decode cX6_makespan 6 = .ok (.invokevirtual 288, 3) := by decide +kernel
theorem dX6_makespan_9 : decode cX6_makespan 9 = .ok (.ireturn, 1) := by decide +kernel
theorem dX6_jobCost_0 : decode cX6_jobCost 0 = .ok (.aload_n 0, 1) := by decide +kernel
theorem dX6_jobCost_1 : decode cX6_jobCost 1 = .ok (.iconst 0, 1) := by decide +kernel
theorem dX6_jobCost_2 : decode cX6_jobCost 2 = .ok (.putfield 51, 3) := by decide +kernel
theorem dX6_jobCost_5 : decode cX6_jobCost 5 = .ok (.aload_n 0, 1) := by decide +kernel
theorem dX6_jobCost_6 : decode cX6_jobCost 6 = .ok (.iload_n 1, 1) := by decide +kernel
theorem dX6_jobCost_7 : decode cX6_jobCost 7 = .ok (.invokevirtual 269, 3) := by decide +kernel
theorem dX6_jobCost_10 : decode cX6_jobCost 10 = .ok (.ifCond .ne 10, 3) := by decide +kernel
theorem dX6_jobCost_13 : decode cX6_jobCost 13 = .ok (.aload_n 0, 1) := by decide +kernel
theorem dX6_jobCost_14 : decode cX6_jobCost 14 = .ok (.invokevirtual 217, 3) := by decide +kernel
theorem dX6_jobCost_17 : decode cX6_jobCost 17 = .ok (.ifCond .ne 7, 3) := by decide +kernel
theorem dX6_jobCost_20 : decode cX6_jobCost 20 = .ok (.iconst 0, 1) := by decide +kernel
theorem dX6_jobCost_21 : decode cX6_jobCost 21 = .ok (.goto 8, 3) := by decide +kernel
theorem dX6_jobCost_24 : decode cX6_jobCost 24 = .ok (.aload_n 0, 1) := by decide +kernel
theorem dX6_jobCost_25 : decode cX6_jobCost 25 = .ok (.iload_n 1, 1) := by decide +kernel
theorem dX6_jobCost_26 : decode cX6_jobCost 26 = .ok (.invokevirtual 238, 3) := by decide +kernel
theorem dX6_jobCost_29 : decode cX6_jobCost 29 = .ok (.ireturn, 1) := by decide +kernel
theorem dX6_planCost_0 : decode cX6_planCost 0 = .ok (.aload_n 0, 1) := by decide +kernel
theorem dX6_planCost_1 : decode cX6_planCost 1 = .ok (.iconst 0, 1) := by decide +kernel
theorem dX6_planCost_2 : decode cX6_planCost 2 = .ok (.putfield 51, 3) := by decide +kernel
theorem dX6_planCost_5 : decode cX6_planCost 5 = .ok (.aload_n 0, 1) := by decide +kernel
theorem dX6_planCost_6 : decode cX6_planCost 6 = .ok (.invokevirtual 217, 3) := by decide +kernel
theorem dX6_planCost_9 : decode cX6_planCost 9 = .ok (.ifCond .eq 10, 3) := by decide +kernel
theorem dX6_planCost_12 : decode cX6_planCost 12 = .ok (.aload_n 0, 1) := by decide +kernel
theorem dX6_planCost_13 : decode cX6_planCost 13 = .ok (.invokevirtual 250, 3) := by decide +kernel
theorem dX6_planCost_16 : decode cX6_planCost 16 = .ok (.goto 4, 3) := by decide +kernel
theorem dX6_planCost_19 : decode cX6_planCost 19 = .ok (.iconst 0, 1) := by decide +kernel
theorem dX6_planCost_20 : decode cX6_planCost 20 = .ok (.ireturn, 1) := by decide +kernel
theorem dX6_blockedTime_0 : decode cX6_blockedTime 0 = .ok (.aload_n 0, 1) := by decide +kernel
theorem dX6_blockedTime_1 : decode cX6_blockedTime 1 = .ok (.iconst 0, 1) := by decide +kernel
theorem dX6_blockedTime_2 : decode cX6_blockedTime 2 = .ok (.putfield 51, 3) := by decide +kernel
theorem dX6_blockedTime_5 : decode cX6_blockedTime 5 = .ok (.aload_n 0, 1) := by decide +kernel
theorem dX6_blockedTime_6 : decode cX6_blockedTime 6 = .ok (.iload_n 1, 1) := by decide +kernel
theorem dX6_blockedTime_7 : decode cX6_blockedTime 7 = .ok (.invokevirtual 272, 3) := by decide +kernel
theorem dX6_blockedTime_10 : decode cX6_blockedTime 10 = .ok (.ifCond .ne 10, 3) := by decide +kernel
theorem dX6_blockedTime_13 : decode cX6_blockedTime 13 = .ok (.aload_n 0, 1) := by decide +kernel
theorem dX6_blockedTime_14 : decode cX6_blockedTime 14 = .ok (.invokevirtual 217, 3) := by decide +kernel
theorem dX6_blockedTime_17 : decode cX6_blockedTime 17 = .ok (.ifCond .ne 5, 3) := by decide +kernel
theorem dX6_blockedTime_20 : decode cX6_blockedTime 20 = .ok (.iconst 0, 1) := by decide +kernel
theorem dX6_blockedTime_21 : decode cX6_blockedTime 21 = .ok (.ireturn, 1) := by decide +kernel
theorem dX6_blockedTime_22 : decode cX6_blockedTime 22 = .ok (.iconst 0, 1) := by decide +kernel
theorem dX6_blockedTime_23 : decode cX6_blockedTime 23 = .ok (.istore_n 2, 1) := by decide +kernel
theorem dX6_blockedTime_24 : decode cX6_blockedTime 24 = .ok (.iconst 0, 1) := by decide +kernel
theorem dX6_blockedTime_25 : decode cX6_blockedTime 25 = .ok (.istore_n 3, 1) := by decide +kernel
theorem dX6_blockedTime_26 : decode cX6_blockedTime 26 = .ok (.iload_n 3, 1) := by decide +kernel
theorem dX6_blockedTime_27 : decode cX6_blockedTime 27 = .ok (.aload_n 0, 1) := by decide +kernel
theorem dX6_blockedTime_28 : decode cX6_blockedTime 28 = .ok (.getfield 17, 3) := by decide +kernel
theorem dX6_blockedTime_31 : decode cX6_blockedTime 31 = .ok (.iload_n 1, 1) := by decide +kernel
theorem dX6_blockedTime_32 : decode cX6_blockedTime 32 = .ok (.invokestatic 158, 3) := by decide +kernel
theorem dX6_blockedTime_35 : decode cX6_blockedTime 35 = .ok (.iconst 2, 1) := by decide +kernel
theorem dX6_blockedTime_36 : decode cX6_blockedTime 36 = .ok (.iadd, 1) := by decide +kernel
theorem dX6_blockedTime_37 : decode cX6_blockedTime 37 = .ok (.iaload, 1) := by decide +kernel
theorem dX6_blockedTime_38 : decode cX6_blockedTime 38 = .ok (.if_icmp .ge 48, 3) := by decide +kernel
theorem dX6_blockedTime_41 : decode cX6_blockedTime 41 = .ok (.aload_n 0, 1) := by decide +kernel
theorem dX6_blockedTime_42 : decode cX6_blockedTime 42 = .ok (.getfield 17, 3) := by decide +kernel
theorem dX6_blockedTime_45 : decode cX6_blockedTime 45 = .ok (.iload_n 1, 1) := by decide +kernel
theorem dX6_blockedTime_46 : decode cX6_blockedTime 46 = .ok (.invokestatic 158, 3) := by decide +kernel
theorem dX6_blockedTime_49 : decode cX6_blockedTime 49 = .ok (.iconst 3, 1) := by decide +kernel
theorem dX6_blockedTime_50 : decode cX6_blockedTime 50 = .ok (.iadd, 1) := by decide +kernel
theorem dX6_blockedTime_51 : decode cX6_blockedTime 51 = .ok (.iload_n 3, 1) := by decide +kernel
theorem dX6_blockedTime_52 : decode cX6_blockedTime 52 = .ok (.iadd, 1) := by decide +kernel
theorem dX6_blockedTime_53 : decode cX6_blockedTime 53 = .ok (.iaload, 1) := by decide +kernel
theorem dX6_blockedTime_54 : decode cX6_blockedTime 54 = .ok (.istore 4, 2) := by decide +kernel
theorem dX6_blockedTime_56 : decode cX6_blockedTime 56 = .ok (.iload_n 2, 1) := by decide +kernel
theorem dX6_blockedTime_57 : decode cX6_blockedTime 57 = .ok (.aload_n 0, 1) := by decide +kernel
theorem dX6_blockedTime_58 : decode cX6_blockedTime 58 = .ok (.iload 4, 2) := by decide +kernel
theorem dX6_blockedTime_60 : decode cX6_blockedTime 60 = .ok (.invokevirtual 285, 3) := by decide +kernel
theorem dX6_blockedTime_63 : decode cX6_blockedTime 63 = .ok (.aload_n 0, 1) := by decide +kernel
theorem dX6_blockedTime_64 : decode cX6_blockedTime 64 = .ok (.getfield 37, 3) := by decide +kernel
theorem dX6_blockedTime_67 : decode cX6_blockedTime 67 = .ok (.iload 4, 2) := by decide +kernel
theorem dX6_blockedTime_69 : decode cX6_blockedTime 69 = .ok (.iaload, 1) := by decide +kernel
theorem dX6_blockedTime_70 : decode cX6_blockedTime 70 = .ok (.isub, 1) := by decide +kernel
theorem dX6_blockedTime_71 : decode cX6_blockedTime 71 = .ok (.aload_n 0, 1) := by decide +kernel
theorem dX6_blockedTime_72 : decode cX6_blockedTime 72 = .ok (.iload 4, 2) := by decide +kernel
theorem dX6_blockedTime_74 : decode cX6_blockedTime 74 = .ok (.invokevirtual 202, 3) := by decide +kernel
theorem dX6_blockedTime_77 : decode cX6_blockedTime 77 = .ok (.isub, 1) := by decide +kernel
theorem dX6_blockedTime_78 : decode cX6_blockedTime 78 = .ok (.iadd, 1) := by decide +kernel
theorem dX6_blockedTime_79 : decode cX6_blockedTime 79 = .ok (.istore_n 2, 1) := by decide +kernel
theorem dX6_blockedTime_80 : decode cX6_blockedTime 80 = .ok (.iinc 3 1, 3) := by decide +kernel
theorem dX6_blockedTime_83 : decode cX6_blockedTime 83 = .ok (.goto (-57), 3) := by decide +kernel
theorem dX6_blockedTime_86 : decode cX6_blockedTime 86 = .ok (.iload_n 2, 1) := by decide +kernel
theorem dX6_blockedTime_87 : decode cX6_blockedTime 87 = .ok (.ireturn, 1) := by decide +kernel
theorem dX6_criticalLength_0 : decode cX6_criticalLength 0 = .ok (.aload_n 0, 1) := by decide +kernel
theorem dX6_criticalLength_1 : decode cX6_criticalLength 1 = .ok (.iconst 0, 1) := by decide +kernel
theorem dX6_criticalLength_2 : decode cX6_criticalLength 2 = .ok (.putfield 51, 3) := by decide +kernel
theorem dX6_criticalLength_5 : decode cX6_criticalLength 5 = .ok (.aload_n 0, 1) := by decide +kernel
theorem dX6_criticalLength_6 : decode cX6_criticalLength 6 = .ok (.invokevirtual 291, 3) := by decide +kernel
theorem dX6_criticalLength_9 : decode cX6_criticalLength 9 = .ok (.aload_n 0, 1) := by decide +kernel
theorem dX6_criticalLength_10 : decode cX6_criticalLength 10 = .ok (.getfield 263, 3) := by decide +kernel
theorem dX6_criticalLength_13 : decode cX6_criticalLength 13 = .ok (.ireturn, 1) := by decide +kernel
theorem dX6_critical_0 : decode cX6_critical 0 = .ok (.aload_n 0, 1) := by decide +kernel
theorem dX6_critical_1 : decode cX6_critical 1 = .ok (.iconst 0, 1) := by decide +kernel
theorem dX6_critical_2 : decode cX6_critical 2 = .ok (.putfield 51, 3) := by decide +kernel
theorem dX6_critical_5 : decode cX6_critical 5 = .ok (.aload_n 0, 1) := by decide +kernel
theorem dX6_critical_6 : decode cX6_critical 6 = .ok (.invokevirtual 291, 3) := by decide +kernel
theorem dX6_critical_9 : decode cX6_critical 9 = .ok (.aload_n 0, 1) := by decide +kernel
theorem dX6_critical_10 : decode cX6_critical 10 = .ok (.iload_n 1, 1) := by decide +kernel
theorem dX6_critical_11 : decode cX6_critical 11 = .ok (.iconst 0, 1) := by decide +kernel
theorem dX6_critical_12 : decode cX6_critical 12 = .ok (.aload_n 0, 1) := by decide +kernel
theorem dX6_critical_13 : decode cX6_critical 13 = .ok (.getfield 263, 3) := by decide +kernel
theorem dX6_critical_16 : decode cX6_critical 16 = .ok (.iconst 1, 1) := by decide +kernel
theorem dX6_critical_17 : decode cX6_critical 17 = .ok (.isub, 1) := by decide +kernel
theorem dX6_critical_18 : decode cX6_critical 18 = .ok (.invokestatic 73, 3) := by decide +kernel
theorem dX6_critical_21 : decode cX6_critical 21 = .ok (.ifCond .ne 7, 3) := by decide +kernel
theorem dX6_critical_24 : decode cX6_critical 24 = .ok (.iconst 1, 1) := by decide +kernel
theorem dX6_critical_25 : decode cX6_critical 25 = .ok (.goto 4, 3) := by decide +kernel
theorem dX6_critical_28 : decode cX6_critical 28 = .ok (.iconst 0, 1) := by decide +kernel
theorem dX6_critical_29 : decode cX6_critical 29 = .ok (.iconst 1, 1) := by decide +kernel
theorem dX6_critical_30 : decode cX6_critical 30 = .ok (.invokevirtual 174, 3) := by decide +kernel
theorem dX6_critical_33 : decode cX6_critical 33 = .ok (.ifCond .eq 7, 3) := by decide +kernel
theorem dX6_critical_36 : decode cX6_critical 36 = .ok (.iconst 0, 1) := by decide +kernel
theorem dX6_critical_37 : decode cX6_critical 37 = .ok (.goto 12, 3) := by decide +kernel
theorem dX6_critical_40 : decode cX6_critical 40 = .ok (.aload_n 0, 1) := by decide +kernel
theorem dX6_critical_41 : decode cX6_critical 41 = .ok (.getfield 48, 3) := by decide +kernel
theorem dX6_critical_44 : decode cX6_critical 44 = .ok (.iload_n 1, 1) := by decide +kernel
theorem dX6_critical_45 : decode cX6_critical 45 = .ok (.iaload, 1) := by decide +kernel
theorem dX6_critical_46 : decode cX6_critical 46 = .ok (.invokestatic 282, 3) := by decide +kernel
theorem dX6_critical_49 : decode cX6_critical 49 = .ok (.ireturn, 1) := by decide +kernel
theorem dX6_blockCount_0 : decode cX6_blockCount 0 = .ok (.aload_n 0, 1) := by decide +kernel
theorem dX6_blockCount_1 : decode cX6_blockCount 1 = .ok (.iconst 0, 1) := by decide +kernel
theorem dX6_blockCount_2 : decode cX6_blockCount 2 = .ok (.putfield 51, 3) := by decide +kernel
theorem dX6_blockCount_5 : decode cX6_blockCount 5 = .ok (.aload_n 0, 1) := by decide +kernel
theorem dX6_blockCount_6 : decode cX6_blockCount 6 = .ok (.invokevirtual 291, 3) := by decide +kernel
theorem dX6_blockCount_9 : decode cX6_blockCount 9 = .ok (.iconst 0, 1) := by decide +kernel
theorem dX6_blockCount_10 : decode cX6_blockCount 10 = .ok (.istore_n 1, 1) := by decide +kernel
theorem dX6_blockCount_11 : decode cX6_blockCount 11 = .ok (.iconst 0, 1) := by decide +kernel
theorem dX6_blockCount_12 : decode cX6_blockCount 12 = .ok (.istore_n 2, 1) := by decide +kernel
theorem dX6_blockCount_13 : decode cX6_blockCount 13 = .ok (.iload_n 2, 1) := by decide +kernel
theorem dX6_blockCount_14 : decode cX6_blockCount 14 = .ok (.aload_n 0, 1) := by decide +kernel
theorem dX6_blockCount_15 : decode cX6_blockCount 15 = .ok (.getfield 263, 3) := by decide +kernel
theorem dX6_blockCount_18 : decode cX6_blockCount 18 = .ok (.if_icmp .ge 46, 3) := by decide +kernel
theorem dX6_blockCount_21 : decode cX6_blockCount 21 = .ok (.iload_n 1, 1) := by decide +kernel
theorem dX6_blockCount_22 : decode cX6_blockCount 22 = .ok (.iload_n 2, 1) := by decide +kernel
theorem dX6_blockCount_23 : decode cX6_blockCount 23 = .ok (.ifCond .eq 28, 3) := by decide +kernel
theorem dX6_blockCount_26 : decode cX6_blockCount 26 = .ok (.aload_n 0, 1) := by decide +kernel
theorem dX6_blockCount_27 : decode cX6_blockCount 27 = .ok (.aload_n 0, 1) := by decide +kernel
theorem dX6_blockCount_28 : decode cX6_blockCount 28 = .ok (.getfield 48, 3) := by decide +kernel
theorem dX6_blockCount_31 : decode cX6_blockCount 31 = .ok (.iload_n 2, 1) := by decide +kernel
theorem dX6_blockCount_32 : decode cX6_blockCount 32 = .ok (.iaload, 1) := by decide +kernel
theorem dX6_blockCount_33 : decode cX6_blockCount 33 = .ok (.invokevirtual 193, 3) := by decide +kernel
theorem dX6_blockCount_36 : decode cX6_blockCount 36 = .ok (.aload_n 0, 1) := by decide +kernel
theorem dX6_blockCount_37 : decode cX6_blockCount 37 = .ok (.aload_n 0, 1) := by decide +kernel
theorem dX6_blockCount_38 : decode cX6_blockCount 38 = .ok (.getfield 48, 3) := by decide +kernel
theorem dX6_blockCount_41 : decode cX6_blockCount 41 = .ok (.iload_n 2, 1) := by decide +kernel
theorem dX6_blockCount_42 : decode cX6_blockCount 42 = .ok (.iconst 1, 1) := by decide +kernel
theorem dX6_blockCount_43 : decode cX6_blockCount 43 = .ok (.isub, 1) := by decide +kernel
theorem dX6_blockCount_44 : decode cX6_blockCount 44 = .ok (.iaload, 1) := by decide +kernel
theorem dX6_blockCount_45 : decode cX6_blockCount 45 = .ok (.invokevirtual 193, 3) := by decide +kernel
theorem dX6_blockCount_48 : decode cX6_blockCount 48 = .ok (.if_icmp .eq 7, 3) := by decide +kernel
theorem dX6_blockCount_51 : decode cX6_blockCount 51 = .ok (.iconst 1, 1) := by decide +kernel
theorem dX6_blockCount_52 : decode cX6_blockCount 52 = .ok (.goto 4, 3) := by decide +kernel
theorem dX6_blockCount_55 : decode cX6_blockCount 55 = .ok (.iconst 0, 1) := by decide +kernel
theorem dX6_blockCount_56 : decode cX6_blockCount 56 = .ok (.iadd, 1) := by decide +kernel
theorem dX6_blockCount_57 : decode cX6_blockCount 57 = .ok (.istore_n 1, 1) := by decide +kernel
theorem dX6_blockCount_58 : decode cX6_blockCount 58 = .ok (.iinc 2 1, 3) := by decide +kernel
theorem dX6_blockCount_61 : decode cX6_blockCount 61 = .ok (.goto (-48), 3) := by decide +kernel
theorem dX6_blockCount_64 : decode cX6_blockCount 64 = .ok (.iload_n 1, 1) := by decide +kernel
theorem dX6_blockCount_65 : decode cX6_blockCount 65 = .ok (.ireturn, 1) := by decide +kernel
theorem dX6_longestBlock_0 : decode cX6_longestBlock 0 = .ok (.aload_n 0, 1) := by decide +kernel
theorem dX6_longestBlock_1 : decode cX6_longestBlock 1 = .ok (.iconst 0, 1) := by decide +kernel
theorem dX6_longestBlock_2 : decode cX6_longestBlock 2 = .ok (.putfield 51, 3) := by decide +kernel
theorem dX6_longestBlock_5 : decode cX6_longestBlock 5 = .ok (.aload_n 0, 1) := by decide +kernel
theorem dX6_longestBlock_6 : decode cX6_longestBlock 6 = .ok (.invokevirtual 291, 3) := by decide +kernel
theorem dX6_longestBlock_9 : decode cX6_longestBlock 9 = .ok (.iconst 0, 1) := by decide +kernel
theorem dX6_longestBlock_10 : decode cX6_longestBlock 10 = .ok (.istore_n 1, 1) := by decide +kernel
theorem dX6_longestBlock_11 : decode cX6_longestBlock 11 = .ok (.iconst 0, 1) := by decide +kernel
theorem dX6_longestBlock_12 : decode cX6_longestBlock 12 = .ok (.istore_n 2, 1) := by decide +kernel
theorem dX6_longestBlock_13 : decode cX6_longestBlock 13 = .ok (.iconst 0, 1) := by decide +kernel
theorem dX6_longestBlock_14 : decode cX6_longestBlock 14 = .ok (.istore_n 3, 1) := by decide +kernel
theorem dX6_longestBlock_15 : decode cX6_longestBlock 15 = .ok (.iload_n 3, 1) := by decide +kernel
theorem dX6_longestBlock_16 : decode cX6_longestBlock 16 = .ok (.aload_n 0, 1) := by decide +kernel
theorem dX6_longestBlock_17 : decode cX6_longestBlock 17 = .ok (.getfield 263, 3) := by decide +kernel
theorem dX6_longestBlock_20 : decode cX6_longestBlock 20 = .ok (.if_icmp .ge 52, 3) := by decide +kernel
theorem dX6_longestBlock_23 : decode cX6_longestBlock 23 = .ok (.iload_n 3, 1) := by decide +kernel
theorem dX6_longestBlock_24 : decode cX6_longestBlock 24 = .ok (.ifCond .eq 28, 3) := by decide +kernel
theorem dX6_longestBlock_27 : decode cX6_longestBlock 27 = .ok (.aload_n 0, 1) := by decide +kernel
theorem dX6_longestBlock_28 : decode cX6_longestBlock 28 = .ok (.aload_n 0, 1) := by decide +kernel
theorem dX6_longestBlock_29 : decode cX6_longestBlock 29 = .ok (.getfield 48, 3) := by decide +kernel
theorem dX6_longestBlock_32 : decode cX6_longestBlock 32 = .ok (.iload_n 3, 1) := by decide +kernel
theorem dX6_longestBlock_33 : decode cX6_longestBlock 33 = .ok (.iaload, 1) := by decide +kernel
theorem dX6_longestBlock_34 : decode cX6_longestBlock 34 = .ok (.invokevirtual 193, 3) := by decide +kernel
theorem dX6_longestBlock_37 : decode cX6_longestBlock 37 = .ok (.aload_n 0, 1) := by decide +kernel
theorem dX6_longestBlock_38 : decode cX6_longestBlock 38 = .ok (.aload_n 0, 1) := by decide +kernel
theorem dX6_longestBlock_39 : decode cX6_longestBlock 39 = .ok (.getfield 48, 3) := by decide +kernel
theorem dX6_longestBlock_42 : decode cX6_longestBlock 42 = .ok (.iload_n 3, 1) := by decide +kernel
theorem dX6_longestBlock_43 : decode cX6_longestBlock 43 = .ok (.iconst 1, 1) := by decide +kernel
theorem dX6_longestBlock_44 : decode cX6_longestBlock 44 = .ok (.isub, 1) := by decide +kernel
theorem dX6_longestBlock_45 : decode cX6_longestBlock 45 = .ok (.iaload, 1) := by decide +kernel
theorem dX6_longestBlock_46 : decode cX6_longestBlock 46 = .ok (.invokevirtual 193, 3) := by decide +kernel
theorem dX6_longestBlock_49 : decode cX6_longestBlock 49 = .ok (.if_icmp .eq 7, 3) := by decide +kernel
theorem dX6_longestBlock_52 : decode cX6_longestBlock 52 = .ok (.iconst 1, 1) := by decide +kernel
theorem dX6_longestBlock_53 : decode cX6_longestBlock 53 = .ok (.goto 6, 3) := by decide +kernel
theorem dX6_longestBlock_56 : decode cX6_longestBlock 56 = .ok (.iload_n 2, 1) := by decide +kernel
theorem dX6_longestBlock_57 : decode cX6_longestBlock 57 = .ok (.iconst 1, 1) := by decide +kernel
theorem dX6_longestBlock_58 : decode cX6_longestBlock 58 = .ok (.iadd, 1) := by decide +kernel
theorem dX6_longestBlock_59 : decode cX6_longestBlock 59 = .ok (.istore_n 2, 1) := by decide +kernel
theorem dX6_longestBlock_60 : decode cX6_longestBlock 60 = .ok (.iload_n 1, 1) := by decide +kernel
theorem dX6_longestBlock_61 : decode cX6_longestBlock 61 = .ok (.iload_n 2, 1) := by decide +kernel
theorem dX6_longestBlock_62 : decode cX6_longestBlock 62 = .ok (.invokestatic 205, 3) := by decide +kernel
theorem dX6_longestBlock_65 : decode cX6_longestBlock 65 = .ok (.istore_n 1, 1) := by decide +kernel
theorem dX6_longestBlock_66 : decode cX6_longestBlock 66 = .ok (.iinc 3 1, 3) := by decide +kernel
theorem dX6_longestBlock_69 : decode cX6_longestBlock 69 = .ok (.goto (-54), 3) := by decide +kernel
theorem dX6_longestBlock_72 : decode cX6_longestBlock 72 = .ok (.iload_n 1, 1) := by decide +kernel
theorem dX6_longestBlock_73 : decode cX6_longestBlock 73 = .ok (.ireturn, 1) := by decide +kernel
theorem dX6_spanAfter_0 : decode cX6_spanAfter 0 = .ok (.aload_n 0, 1) := by decide +kernel
theorem dX6_spanAfter_1 : decode cX6_spanAfter 1 = .ok (.iload_n 1, 1) := by decide +kernel
theorem dX6_spanAfter_2 : decode cX6_spanAfter 2 = .ok (.iload_n 2, 1) := by decide +kernel
theorem dX6_spanAfter_3 : decode cX6_spanAfter 3 = .ok (.invokevirtual 241, 3) := by decide +kernel
theorem dX6_spanAfter_6 : decode cX6_spanAfter 6 = .ok (.aload_n 0, 1) := by decide +kernel
theorem dX6_spanAfter_7 : decode cX6_spanAfter 7 = .ok (.invokevirtual 244, 3) := by decide +kernel
theorem dX6_spanAfter_10 : decode cX6_spanAfter 10 = .ok (.ifCond .eq 7, 3) := by decide +kernel
theorem dX6_spanAfter_13 : decode cX6_spanAfter 13 = .ok (.iconst (-1), 1) := by decide +kernel
theorem dX6_spanAfter_14 : decode cX6_spanAfter 14 = .ok (.goto 7, 3) := by decide +kernel
theorem dX6_spanAfter_17 : decode cX6_spanAfter 17 = .ok (.aload_n 0, 1) := by decide +kernel
theorem dX6_spanAfter_18 : decode cX6_spanAfter 18 = .ok (.invokevirtual 247, 3) := by decide +kernel
theorem dX6_spanAfter_21 : decode cX6_spanAfter 21 = .ok (.istore_n 3, 1) := by decide +kernel
theorem dX6_spanAfter_22 : decode cX6_spanAfter 22 = .ok (.aload_n 0, 1) := by decide +kernel
theorem dX6_spanAfter_23 : decode cX6_spanAfter 23 = .ok (.iload_n 1, 1) := by decide +kernel
theorem dX6_spanAfter_24 : decode cX6_spanAfter 24 = .ok (.iload_n 2, 1) := by decide +kernel
theorem dX6_spanAfter_25 : decode cX6_spanAfter 25 = .ok (.invokevirtual 241, 3) := by decide +kernel
theorem dX6_spanAfter_28 : decode cX6_spanAfter 28 = .ok (.iload_n 3, 1) := by decide +kernel
theorem dX6_spanAfter_29 : decode cX6_spanAfter 29 = .ok (.ireturn, 1) := by decide +kernel
theorem dX6_deadlocks_0 : decode cX6_deadlocks 0 = .ok (.aload_n 0, 1) := by decide +kernel
theorem dX6_deadlocks_1 : decode cX6_deadlocks 1 = .ok (.iconst 0, 1) := by decide +kernel
theorem dX6_deadlocks_2 : decode cX6_deadlocks 2 = .ok (.putfield 51, 3) := by decide +kernel
theorem dX6_deadlocks_5 : decode cX6_deadlocks 5 = .ok (.aload_n 0, 1) := by decide +kernel
theorem dX6_deadlocks_6 : decode cX6_deadlocks 6 = .ok (.iload_n 1, 1) := by decide +kernel
theorem dX6_deadlocks_7 : decode cX6_deadlocks 7 = .ok (.iload_n 2, 1) := by decide +kernel
theorem dX6_deadlocks_8 : decode cX6_deadlocks 8 = .ok (.invokevirtual 294, 3) := by decide +kernel
theorem dX6_deadlocks_11 : decode cX6_deadlocks 11 = .ok (.ifCond .ne 17, 3) := by decide +kernel
theorem dX6_deadlocks_14 : decode cX6_deadlocks 14 = .ok (.aload_n 0, 1) := by decide +kernel
theorem dX6_deadlocks_15 : decode cX6_deadlocks 15 = .ok (.iload_n 1, 1) := by decide +kernel
theorem dX6_deadlocks_16 : decode cX6_deadlocks 16 = .ok (.iload_n 2, 1) := by decide +kernel
theorem dX6_deadlocks_17 : decode cX6_deadlocks 17 = .ok (.invokevirtual 297, 3) := by decide +kernel
theorem dX6_deadlocks_20 : decode cX6_deadlocks 20 = .ok (.iconst (-1), 1) := by decide +kernel
theorem dX6_deadlocks_21 : decode cX6_deadlocks 21 = .ok (.if_icmp .ne 7, 3) := by decide +kernel
theorem dX6_deadlocks_24 : decode cX6_deadlocks 24 = .ok (.iconst 1, 1) := by decide +kernel
theorem dX6_deadlocks_25 : decode cX6_deadlocks 25 = .ok (.goto 4, 3) := by decide +kernel
theorem dX6_deadlocks_28 : decode cX6_deadlocks 28 = .ok (.iconst 0, 1) := by decide +kernel
theorem dX6_deadlocks_29 : decode cX6_deadlocks 29 = .ok (.ireturn, 1) := by decide +kernel
theorem dX6_makespanAfter_0 : decode cX6_makespanAfter 0 = .ok (.aload_n 0, 1) := by decide +kernel
theorem dX6_makespanAfter_1 : decode cX6_makespanAfter 1 = .ok (.iconst 0, 1) := by decide +kernel
theorem dX6_makespanAfter_2 : decode cX6_makespanAfter 2 = .ok (.putfield 51, 3) := by decide +kernel
theorem dX6_makespanAfter_5 : decode cX6_makespanAfter 5 = .ok (.aload_n 0, 1) := by decide +kernel
theorem dX6_makespanAfter_6 : decode cX6_makespanAfter 6 = .ok (.iload_n 1, 1) := by decide +kernel
theorem dX6_makespanAfter_7 : decode cX6_makespanAfter 7 = .ok (.iload_n 2, 1) := by decide +kernel
theorem dX6_makespanAfter_8 : decode cX6_makespanAfter 8 = .ok (.invokevirtual 294, 3) := by decide +kernel
theorem dX6_makespanAfter_11 : decode cX6_makespanAfter 11 = .ok (.ifCond .eq 7, 3) := by decide +kernel
theorem dX6_makespanAfter_14 : decode cX6_makespanAfter 14 = .ok (.iconst 0, 1) := by decide +kernel
theorem dX6_makespanAfter_15 : decode cX6_makespanAfter 15 = .ok (.goto 9, 3) := by decide +kernel
theorem dX6_makespanAfter_18 : decode cX6_makespanAfter 18 = .ok (.aload_n 0, 1) := by decide +kernel
theorem dX6_makespanAfter_19 : decode cX6_makespanAfter 19 = .ok (.iload_n 1, 1) := by decide +kernel
theorem dX6_makespanAfter_20 : decode cX6_makespanAfter 20 = .ok (.iload_n 2, 1) := by decide +kernel
theorem dX6_makespanAfter_21 : decode cX6_makespanAfter 21 = .ok (.invokevirtual 297, 3) := by decide +kernel
theorem dX6_makespanAfter_24 : decode cX6_makespanAfter 24 = .ok (.ireturn, 1) := by decide +kernel
theorem dX6_bestSwap_0 : decode cX6_bestSwap 0 = .ok (.aload_n 0, 1) := by decide +kernel
theorem dX6_bestSwap_1 : decode cX6_bestSwap 1 = .ok (.iconst 0, 1) := by decide +kernel
theorem dX6_bestSwap_2 : decode cX6_bestSwap 2 = .ok (.putfield 51, 3) := by decide +kernel
theorem dX6_bestSwap_5 : decode cX6_bestSwap 5 = .ok (.aload_n 0, 1) := by decide +kernel
theorem dX6_bestSwap_6 : decode cX6_bestSwap 6 = .ok (.invokevirtual 300, 3) := by decide +kernel
theorem dX6_bestSwap_9 : decode cX6_bestSwap 9 = .ok (.ireturn, 1) := by decide +kernel
theorem dX6_remember_0 : decode cX6_remember 0 = .ok (.aload_n 0, 1) := by decide +kernel
theorem dX6_remember_1 : decode cX6_remember 1 = .ok (.getfield 303, 3) := by decide +kernel
theorem dX6_remember_4 : decode cX6_remember 4 = .ok (.bipush 8, 2) := by decide +kernel
theorem dX6_remember_6 : decode cX6_remember 6 = .ok (.if_icmp .ne 44, 3) := by decide +kernel
theorem dX6_remember_9 : decode cX6_remember 9 = .ok (.iconst 1, 1) := by decide +kernel
theorem dX6_remember_10 : decode cX6_remember 10 = .ok (.istore_n 1, 1) := by decide +kernel
theorem dX6_remember_11 : decode cX6_remember 11 = .ok (.iload_n 1, 1) := by decide +kernel
theorem dX6_remember_12 : decode cX6_remember 12 = .ok (.bipush 8, 2) := by decide +kernel
theorem dX6_remember_14 : decode cX6_remember 14 = .ok (.if_icmp .ge 26, 3) := by decide +kernel
theorem dX6_remember_17 : decode cX6_remember 17 = .ok (.aload_n 0, 1) := by decide +kernel
theorem dX6_remember_18 : decode cX6_remember 18 = .ok (.getfield 28, 3) := by decide +kernel
theorem dX6_remember_21 : decode cX6_remember 21 = .ok (.iload_n 1, 1) := by decide +kernel
theorem dX6_remember_22 : decode cX6_remember 22 = .ok (.aaload, 1) := by decide +kernel
theorem dX6_remember_23 : decode cX6_remember 23 = .ok (.aload_n 0, 1) := by decide +kernel
theorem dX6_remember_24 : decode cX6_remember 24 = .ok (.getfield 28, 3) := by decide +kernel
theorem dX6_remember_27 : decode cX6_remember 27 = .ok (.iload_n 1, 1) := by decide +kernel
theorem dX6_remember_28 : decode cX6_remember 28 = .ok (.iconst 1, 1) := by decide +kernel
theorem dX6_remember_29 : decode cX6_remember 29 = .ok (.isub, 1) := by decide +kernel
theorem dX6_remember_30 : decode cX6_remember 30 = .ok (.aaload, 1) := by decide +kernel
theorem dX6_remember_31 : decode cX6_remember 31 = .ok (.invokestatic 186, 3) := by decide +kernel
theorem dX6_remember_34 : decode cX6_remember 34 = .ok (.iinc 1 1, 3) := by decide +kernel
theorem dX6_remember_37 : decode cX6_remember 37 = .ok (.goto (-26), 3) := by decide +kernel
theorem dX6_remember_40 : decode cX6_remember 40 = .ok (.aload_n 0, 1) := by decide +kernel
theorem dX6_remember_41 : decode cX6_remember 41 = .ok (.dup, 1) := by decide +kernel
theorem dX6_remember_42 : decode cX6_remember 42 = .ok (.getfield 303, 3) := by decide +kernel
theorem dX6_remember_45 : decode cX6_remember 45 = .ok (.iconst 1, 1) := by decide +kernel
theorem dX6_remember_46 : decode cX6_remember 46 = .ok (.isub, 1) := by decide +kernel
theorem dX6_remember_47 : decode cX6_remember 47 = .ok (.putfield 303, 3) := by decide +kernel
theorem dX6_remember_50 : decode cX6_remember 50 = .ok (.aload_n 0, 1) := by decide +kernel
theorem dX6_remember_51 : decode cX6_remember 51 = .ok (.getfield 17, 3) := by decide +kernel
theorem dX6_remember_54 : decode cX6_remember 54 = .ok (.aload_n 0, 1) := by decide +kernel
theorem dX6_remember_55 : decode cX6_remember 55 = .ok (.getfield 28, 3) := by decide +kernel
theorem dX6_remember_58 : decode cX6_remember 58 = .ok (.aload_n 0, 1) := by decide +kernel
theorem dX6_remember_59 : decode cX6_remember 59 = .ok (.getfield 303, 3) := by decide +kernel
theorem dX6_remember_62 : decode cX6_remember 62 = .ok (.aaload, 1) := by decide +kernel
theorem dX6_remember_63 : decode cX6_remember 63 = .ok (.invokestatic 186, 3) := by decide +kernel
theorem dX6_remember_66 : decode cX6_remember 66 = .ok (.aload_n 0, 1) := by decide +kernel
theorem dX6_remember_67 : decode cX6_remember 67 = .ok (.dup, 1) := by decide +kernel
theorem dX6_remember_68 : decode cX6_remember 68 = .ok (.getfield 303, 3) := by decide +kernel
theorem dX6_remember_71 : decode cX6_remember 71 = .ok (.iconst 1, 1) := by decide +kernel
theorem dX6_remember_72 : decode cX6_remember 72 = .ok (.iadd, 1) := by decide +kernel
theorem dX6_remember_73 : decode cX6_remember 73 = .ok (.putfield 303, 3) := by decide +kernel
theorem dX6_remember_76 : decode cX6_remember 76 = .ok (.return_, 1) := by decide +kernel
theorem dX6_swap_0 : decode cX6_swap 0 = .ok (.aload_n 0, 1) := by decide +kernel
theorem dX6_swap_1 : decode cX6_swap 1 = .ok (.iconst 0, 1) := by decide +kernel
theorem dX6_swap_2 : decode cX6_swap 2 = .ok (.putfield 51, 3) := by decide +kernel
theorem dX6_swap_5 : decode cX6_swap 5 = .ok (.aload_n 0, 1) := by decide +kernel
theorem dX6_swap_6 : decode cX6_swap 6 = .ok (.iload_n 1, 1) := by decide +kernel
theorem dX6_swap_7 : decode cX6_swap 7 = .ok (.iload_n 2, 1) := by decide +kernel
theorem dX6_swap_8 : decode cX6_swap 8 = .ok (.invokevirtual 294, 3) := by decide +kernel
theorem dX6_swap_11 : decode cX6_swap 11 = .ok (.ifCond .ne 26, 3) := by decide +kernel
theorem dX6_swap_14 : decode cX6_swap 14 = .ok (.aload_n 0, 1) := by decide +kernel
theorem dX6_swap_15 : decode cX6_swap 15 = .ok (.aload_n 0, 1) := by decide +kernel
theorem dX6_swap_16 : decode cX6_swap 16 = .ok (.iload_n 1, 1) := by decide +kernel
theorem dX6_swap_17 : decode cX6_swap 17 = .ok (.iload_n 2, 1) := by decide +kernel
theorem dX6_swap_18 : decode cX6_swap 18 = .ok (.invokevirtual 297, 3) := by decide +kernel
theorem dX6_swap_21 : decode cX6_swap 21 = .ok (.iconst (-1), 1) := by decide +kernel
theorem dX6_swap_22 : decode cX6_swap 22 = .ok (.if_icmp .ne 7, 3) := by decide +kernel
theorem dX6_swap_25 : decode cX6_swap 25 = .ok (.iconst 1, 1) := by decide +kernel
theorem dX6_swap_26 : decode cX6_swap 26 = .ok (.goto 4, 3) := by decide +kernel
theorem dX6_swap_29 : decode cX6_swap 29 = .ok (.iconst 0, 1) := by decide +kernel
theorem dX6_swap_30 : decode cX6_swap 30 = .ok (.iconst 2, 1) := by decide +kernel
theorem dX6_swap_31 : decode cX6_swap 31 = .ok (.invokevirtual 174, 3) := by decide +kernel
theorem dX6_swap_34 : decode cX6_swap 34 = .ok (.ifCond .eq 5, 3) := by decide +kernel
theorem dX6_swap_37 : decode cX6_swap 37 = .ok (.iconst 0, 1) := by decide +kernel
theorem dX6_swap_38 : decode cX6_swap 38 = .ok (.ireturn, 1) := by decide +kernel
theorem dX6_swap_39 : decode cX6_swap 39 = .ok (.aload_n 0, 1) := by decide +kernel
theorem dX6_swap_40 : decode cX6_swap 40 = .ok (.invokevirtual 183, 3) := by decide +kernel
theorem dX6_swap_43 : decode cX6_swap 43 = .ok (.aload_n 0, 1) := by decide +kernel
theorem dX6_swap_44 : decode cX6_swap 44 = .ok (.iload_n 1, 1) := by decide +kernel
theorem dX6_swap_45 : decode cX6_swap 45 = .ok (.iload_n 2, 1) := by decide +kernel
theorem dX6_swap_46 : decode cX6_swap 46 = .ok (.invokevirtual 241, 3) := by decide +kernel
theorem dX6_swap_49 : decode cX6_swap 49 = .ok (.aload_n 0, 1) := by decide +kernel
theorem dX6_swap_50 : decode cX6_swap 50 = .ok (.invokevirtual 288, 3) := by decide +kernel
theorem dX6_swap_53 : decode cX6_swap 53 = .ok (.ireturn, 1) := by decide +kernel
theorem dX6_improve_0 : decode cX6_improve 0 = .ok (.aload_n 0, 1) := by decide +kernel
theorem dX6_improve_1 : decode cX6_improve 1 = .ok (.iconst 0, 1) := by decide +kernel
theorem dX6_improve_2 : decode cX6_improve 2 = .ok (.putfield 51, 3) := by decide +kernel
theorem dX6_improve_5 : decode cX6_improve 5 = .ok (.aload_n 0, 1) := by decide +kernel
theorem dX6_improve_6 : decode cX6_improve 6 = .ok (.iload_n 1, 1) := by decide +kernel
theorem dX6_improve_7 : decode cX6_improve 7 = .ok (.iconst 1, 1) := by decide +kernel
theorem dX6_improve_8 : decode cX6_improve 8 = .ok (.bipush 20, 2) := by decide +kernel
theorem dX6_improve_10 : decode cX6_improve 10 = .ok (.invokestatic 73, 3) := by decide +kernel
theorem dX6_improve_13 : decode cX6_improve 13 = .ok (.ifCond .ne 7, 3) := by decide +kernel
theorem dX6_improve_16 : decode cX6_improve 16 = .ok (.iconst 1, 1) := by decide +kernel
theorem dX6_improve_17 : decode cX6_improve 17 = .ok (.goto 4, 3) := by decide +kernel
theorem dX6_improve_20 : decode cX6_improve 20 = .ok (.iconst 0, 1) := by decide +kernel
theorem dX6_improve_21 : decode cX6_improve 21 = .ok (.iconst 1, 1) := by decide +kernel
theorem dX6_improve_22 : decode cX6_improve 22 = .ok (.invokevirtual 174, 3) := by decide +kernel
theorem dX6_improve_25 : decode cX6_improve 25 = .ok (.ifCond .eq 5, 3) := by decide +kernel
theorem dX6_improve_28 : decode cX6_improve 28 = .ok (.iconst 0, 1) := by decide +kernel
theorem dX6_improve_29 : decode cX6_improve 29 = .ok (.ireturn, 1) := by decide +kernel
theorem dX6_improve_30 : decode cX6_improve 30 = .ok (.aload_n 0, 1) := by decide +kernel
theorem dX6_improve_31 : decode cX6_improve 31 = .ok (.invokevirtual 183, 3) := by decide +kernel
theorem dX6_improve_34 : decode cX6_improve 34 = .ok (.iconst 0, 1) := by decide +kernel
theorem dX6_improve_35 : decode cX6_improve 35 = .ok (.istore_n 2, 1) := by decide +kernel
theorem dX6_improve_36 : decode cX6_improve 36 = .ok (.iload_n 2, 1) := by decide +kernel
theorem dX6_improve_37 : decode cX6_improve 37 = .ok (.iload_n 1, 1) := by decide +kernel
theorem dX6_improve_38 : decode cX6_improve 38 = .ok (.if_icmp .ge 65, 3) := by decide +kernel
theorem dX6_improve_41 : decode cX6_improve 41 = .ok (.aload_n 0, 1) := by decide +kernel
theorem dX6_improve_42 : decode cX6_improve 42 = .ok (.invokevirtual 288, 3) := by decide +kernel
theorem dX6_improve_45 : decode cX6_improve 45 = .ok (.istore_n 3, 1) := by decide +kernel
theorem dX6_improve_46 : decode cX6_improve 46 = .ok (.aload_n 0, 1) := by decide +kernel
theorem dX6_improve_47 : decode cX6_improve 47 = .ok (.invokevirtual 250, 3) := by decide +kernel
theorem dX6_improve_50 : decode cX6_improve 50 = .ok (.istore 4, 2) := by decide +kernel
theorem dX6_improve_52 : decode cX6_improve 52 = .ok (.aload_n 0, 1) := by decide +kernel
theorem dX6_improve_53 : decode cX6_improve 53 = .ok (.invokevirtual 300, 3) := by decide +kernel
theorem dX6_improve_56 : decode cX6_improve 56 = .ok (.istore 5, 2) := by decide +kernel
theorem dX6_improve_58 : decode cX6_improve 58 = .ok (.iload 5, 2) := by decide +kernel
theorem dX6_improve_60 : decode cX6_improve 60 = .ok (.iconst (-1), 1) := by decide +kernel
theorem dX6_improve_61 : decode cX6_improve 61 = .ok (.if_icmp .eq 20, 3) := by decide +kernel
theorem dX6_improve_64 : decode cX6_improve 64 = .ok (.aload_n 0, 1) := by decide +kernel
theorem dX6_improve_65 : decode cX6_improve 65 = .ok (.getfield 253, 3) := by decide +kernel
theorem dX6_improve_68 : decode cX6_improve 68 = .ok (.aload_n 0, 1) := by decide +kernel
theorem dX6_improve_69 : decode cX6_improve 69 = .ok (.getfield 256, 3) := by decide +kernel
theorem dX6_improve_72 : decode cX6_improve 72 = .ok (.iload_n 3, 1) := by decide +kernel
theorem dX6_improve_73 : decode cX6_improve 73 = .ok (.iload 4, 2) := by decide +kernel
theorem dX6_improve_75 : decode cX6_improve 75 = .ok (.invokestatic 259, 3) := by decide +kernel
theorem dX6_improve_78 : decode cX6_improve 78 = .ok (.ifCond .ne 5, 3) := by decide +kernel
theorem dX6_improve_81 : decode cX6_improve 81 = .ok (.iload_n 2, 1) := by decide +kernel
theorem dX6_improve_82 : decode cX6_improve 82 = .ok (.ireturn, 1) := by decide +kernel
theorem dX6_improve_83 : decode cX6_improve 83 = .ok (.aload_n 0, 1) := by decide +kernel
theorem dX6_improve_84 : decode cX6_improve 84 = .ok (.iload 5, 2) := by decide +kernel
theorem dX6_improve_86 : decode cX6_improve 86 = .ok (.bipush 100, 2) := by decide +kernel
theorem dX6_improve_88 : decode cX6_improve 88 = .ok (.idiv, 1) := by decide +kernel
theorem dX6_improve_89 : decode cX6_improve 89 = .ok (.iload 5, 2) := by decide +kernel
theorem dX6_improve_91 : decode cX6_improve 91 = .ok (.bipush 100, 2) := by decide +kernel
theorem dX6_improve_93 : decode cX6_improve 93 = .ok (.irem, 1) := by decide +kernel
theorem dX6_improve_94 : decode cX6_improve 94 = .ok (.invokevirtual 241, 3) := by decide +kernel
theorem dX6_improve_97 : decode cX6_improve 97 = .ok (.iinc 2 1, 3) := by decide +kernel
theorem dX6_improve_100 : decode cX6_improve 100 = .ok (.goto (-64), 3) := by decide +kernel
theorem dX6_improve_103 : decode cX6_improve 103 = .ok (.iload_n 1, 1) := by decide +kernel
theorem dX6_improve_104 : decode cX6_improve 104 = .ok (.ireturn, 1) := by decide +kernel
theorem dX6_bring_0 : decode cX6_bring 0 = .ok (.aload_n 0, 1) := by decide +kernel
theorem dX6_bring_1 : decode cX6_bring 1 = .ok (.iload_n 1, 1) := by decide +kernel
theorem dX6_bring_2 : decode cX6_bring 2 = .ok (.invokevirtual 193, 3) := by decide +kernel
theorem dX6_bring_5 : decode cX6_bring 5 = .ok (.istore_n 3, 1) := by decide +kernel
theorem dX6_bring_6 : decode cX6_bring 6 = .ok (.aload_n 0, 1) := by decide +kernel
theorem dX6_bring_7 : decode cX6_bring 7 = .ok (.iload_n 1, 1) := by decide +kernel
theorem dX6_bring_8 : decode cX6_bring 8 = .ok (.invokevirtual 279, 3) := by decide +kernel
theorem dX6_bring_11 : decode cX6_bring 11 = .ok (.istore 4, 2) := by decide +kernel
theorem dX6_bring_13 : decode cX6_bring 13 = .ok (.iload 4, 2) := by decide +kernel
theorem dX6_bring_15 : decode cX6_bring 15 = .ok (.iload_n 2, 1) := by decide +kernel
theorem dX6_bring_16 : decode cX6_bring 16 = .ok (.if_icmp .ge 16, 3) := by decide +kernel
theorem dX6_bring_19 : decode cX6_bring 19 = .ok (.aload_n 0, 1) := by decide +kernel
theorem dX6_bring_20 : decode cX6_bring 20 = .ok (.iload_n 3, 1) := by decide +kernel
theorem dX6_bring_21 : decode cX6_bring 21 = .ok (.iload 4, 2) := by decide +kernel
theorem dX6_bring_23 : decode cX6_bring 23 = .ok (.invokevirtual 241, 3) := by decide +kernel
theorem dX6_bring_26 : decode cX6_bring 26 = .ok (.iinc 4 1, 3) := by decide +kernel
theorem dX6_bring_29 : decode cX6_bring 29 = .ok (.goto (-16), 3) := by decide +kernel
theorem dX6_bring_32 : decode cX6_bring 32 = .ok (.iload 4, 2) := by decide +kernel
theorem dX6_bring_34 : decode cX6_bring 34 = .ok (.iload_n 2, 1) := by decide +kernel
theorem dX6_bring_35 : decode cX6_bring 35 = .ok (.if_icmp .le 18, 3) := by decide +kernel
theorem dX6_bring_38 : decode cX6_bring 38 = .ok (.aload_n 0, 1) := by decide +kernel
theorem dX6_bring_39 : decode cX6_bring 39 = .ok (.iload_n 3, 1) := by decide +kernel
theorem dX6_bring_40 : decode cX6_bring 40 = .ok (.iload 4, 2) := by decide +kernel
theorem dX6_bring_42 : decode cX6_bring 42 = .ok (.iconst 1, 1) := by decide +kernel
theorem dX6_bring_43 : decode cX6_bring 43 = .ok (.isub, 1) := by decide +kernel
theorem dX6_bring_44 : decode cX6_bring 44 = .ok (.invokevirtual 241, 3) := by decide +kernel
theorem dX6_bring_47 : decode cX6_bring 47 = .ok (.iinc 4 (-1), 3) := by decide +kernel
theorem dX6_bring_50 : decode cX6_bring 50 = .ok (.goto (-18), 3) := by decide +kernel
theorem dX6_bring_53 : decode cX6_bring 53 = .ok (.return_, 1) := by decide +kernel
theorem dX6_place_0 : decode cX6_place 0 = .ok (.aload_n 0, 1) := by decide +kernel
theorem dX6_place_1 : decode cX6_place 1 = .ok (.iconst 0, 1) := by decide +kernel
theorem dX6_place_2 : decode cX6_place 2 = .ok (.putfield 51, 3) := by decide +kernel
theorem dX6_place_5 : decode cX6_place 5 = .ok (.aload_n 0, 1) := by decide +kernel
theorem dX6_place_6 : decode cX6_place 6 = .ok (.iload_n 1, 1) := by decide +kernel
theorem dX6_place_7 : decode cX6_place 7 = .ok (.iload_n 2, 1) := by decide +kernel
theorem dX6_place_8 : decode cX6_place 8 = .ok (.invokevirtual 275, 3) := by decide +kernel
theorem dX6_place_11 : decode cX6_place 11 = .ok (.ifCond .eq 5, 3) := by decide +kernel
theorem dX6_place_14 : decode cX6_place 14 = .ok (.iconst 0, 1) := by decide +kernel
theorem dX6_place_15 : decode cX6_place 15 = .ok (.ireturn, 1) := by decide +kernel
theorem dX6_place_16 : decode cX6_place 16 = .ok (.bipush 6, 2) := by decide +kernel
theorem dX6_place_18 : decode cX6_place 18 = .ok (.iload_n 1, 1) := by decide +kernel
theorem dX6_place_19 : decode cX6_place 19 = .ok (.imul, 1) := by decide +kernel
theorem dX6_place_20 : decode cX6_place 20 = .ok (.iload_n 2, 1) := by decide +kernel
theorem dX6_place_21 : decode cX6_place 21 = .ok (.iadd, 1) := by decide +kernel
theorem dX6_place_22 : decode cX6_place 22 = .ok (.istore 4, 2) := by decide +kernel
theorem dX6_place_24 : decode cX6_place 24 = .ok (.aload_n 0, 1) := by decide +kernel
theorem dX6_place_25 : decode cX6_place 25 = .ok (.iload_n 3, 1) := by decide +kernel
theorem dX6_place_26 : decode cX6_place 26 = .ok (.iconst 0, 1) := by decide +kernel
theorem dX6_place_27 : decode cX6_place 27 = .ok (.aload_n 0, 1) := by decide +kernel
theorem dX6_place_28 : decode cX6_place 28 = .ok (.getfield 17, 3) := by decide +kernel
theorem dX6_place_31 : decode cX6_place 31 = .ok (.aload_n 0, 1) := by decide +kernel
theorem dX6_place_32 : decode cX6_place 32 = .ok (.iload 4, 2) := by decide +kernel
theorem dX6_place_34 : decode cX6_place 34 = .ok (.invokevirtual 193, 3) := by decide +kernel
theorem dX6_place_37 : decode cX6_place 37 = .ok (.invokestatic 158, 3) := by decide +kernel
theorem dX6_place_40 : decode cX6_place 40 = .ok (.iconst 2, 1) := by decide +kernel
theorem dX6_place_41 : decode cX6_place 41 = .ok (.iadd, 1) := by decide +kernel
theorem dX6_place_42 : decode cX6_place 42 = .ok (.iaload, 1) := by decide +kernel
theorem dX6_place_43 : decode cX6_place 43 = .ok (.iconst 1, 1) := by decide +kernel
theorem dX6_place_44 : decode cX6_place 44 = .ok (.isub, 1) := by decide +kernel
theorem dX6_place_45 : decode cX6_place 45 = .ok (.invokestatic 73, 3) := by decide +kernel
theorem dX6_place_48 : decode cX6_place 48 = .ok (.ifCond .ne 7, 3) := by decide +kernel
theorem dX6_place_51 : decode cX6_place 51 = .ok (.iconst 1, 1) := by decide +kernel
theorem dX6_place_52 : decode cX6_place 52 = .ok (.goto 4, 3) := by decide +kernel
theorem dX6_place_55 : decode cX6_place 55 = .ok (.iconst 0, 1) := by decide +kernel
theorem dX6_place_56 : decode cX6_place 56 = .ok (.iconst 1, 1) := by decide +kernel
theorem dX6_place_57 : decode cX6_place 57 = .ok (.invokevirtual 174, 3) := by decide +kernel
theorem dX6_place_60 : decode cX6_place 60 = .ok (.ifCond .eq 5, 3) := by decide +kernel
theorem dX6_place_63 : decode cX6_place 63 = .ok (.iconst 0, 1) := by decide +kernel
theorem dX6_place_64 : decode cX6_place 64 = .ok (.ireturn, 1) := by decide +kernel
theorem dX6_place_65 : decode cX6_place 65 = .ok (.aload_n 0, 1) := by decide +kernel
theorem dX6_place_66 : decode cX6_place 66 = .ok (.getfield 17, 3) := by decide +kernel
theorem dX6_place_69 : decode cX6_place 69 = .ok (.aload_n 0, 1) := by decide +kernel
theorem dX6_place_70 : decode cX6_place 70 = .ok (.getfield 23, 3) := by decide +kernel
theorem dX6_place_73 : decode cX6_place 73 = .ok (.invokestatic 186, 3) := by decide +kernel
theorem dX6_place_76 : decode cX6_place 76 = .ok (.aload_n 0, 1) := by decide +kernel
theorem dX6_place_77 : decode cX6_place 77 = .ok (.iload 4, 2) := by decide +kernel
theorem dX6_place_79 : decode cX6_place 79 = .ok (.iload_n 3, 1) := by decide +kernel
theorem dX6_place_80 : decode cX6_place 80 = .ok (.invokevirtual 306, 3) := by decide +kernel
theorem dX6_place_83 : decode cX6_place 83 = .ok (.aload_n 0, 1) := by decide +kernel
theorem dX6_place_84 : decode cX6_place 84 = .ok (.invokevirtual 244, 3) := by decide +kernel
theorem dX6_place_87 : decode cX6_place 87 = .ok (.istore 5, 2) := by decide +kernel
theorem dX6_place_89 : decode cX6_place 89 = .ok (.aload_n 0, 1) := by decide +kernel
theorem dX6_place_90 : decode cX6_place 90 = .ok (.getfield 23, 3) := by decide +kernel
theorem dX6_place_93 : decode cX6_place 93 = .ok (.aload_n 0, 1) := by decide +kernel
theorem dX6_place_94 : decode cX6_place 94 = .ok (.getfield 17, 3) := by decide +kernel
theorem dX6_place_97 : decode cX6_place 97 = .ok (.invokestatic 186, 3) := by decide +kernel
theorem dX6_place_100 : decode cX6_place 100 = .ok (.aload_n 0, 1) := by decide +kernel
theorem dX6_place_101 : decode cX6_place 101 = .ok (.iload 5, 2) := by decide +kernel
theorem dX6_place_103 : decode cX6_place 103 = .ok (.iconst 2, 1) := by decide +kernel
theorem dX6_place_104 : decode cX6_place 104 = .ok (.invokevirtual 174, 3) := by decide +kernel
theorem dX6_place_107 : decode cX6_place 107 = .ok (.ifCond .eq 5, 3) := by decide +kernel
theorem dX6_place_110 : decode cX6_place 110 = .ok (.iconst 0, 1) := by decide +kernel
theorem dX6_place_111 : decode cX6_place 111 = .ok (.ireturn, 1) := by decide +kernel
theorem dX6_place_112 : decode cX6_place 112 = .ok (.aload_n 0, 1) := by decide +kernel
theorem dX6_place_113 : decode cX6_place 113 = .ok (.invokevirtual 183, 3) := by decide +kernel
theorem dX6_place_116 : decode cX6_place 116 = .ok (.aload_n 0, 1) := by decide +kernel
theorem dX6_place_117 : decode cX6_place 117 = .ok (.iload 4, 2) := by decide +kernel
theorem dX6_place_119 : decode cX6_place 119 = .ok (.iload_n 3, 1) := by decide +kernel
theorem dX6_place_120 : decode cX6_place 120 = .ok (.invokevirtual 306, 3) := by decide +kernel
theorem dX6_place_123 : decode cX6_place 123 = .ok (.aload_n 0, 1) := by decide +kernel
theorem dX6_place_124 : decode cX6_place 124 = .ok (.invokevirtual 288, 3) := by decide +kernel
theorem dX6_place_127 : decode cX6_place 127 = .ok (.ireturn, 1) := by decide +kernel
theorem dX6_setDuration_0 : decode cX6_setDuration 0 = .ok (.aload_n 0, 1) := by decide +kernel
theorem dX6_setDuration_1 : decode cX6_setDuration 1 = .ok (.iconst 0, 1) := by decide +kernel
theorem dX6_setDuration_2 : decode cX6_setDuration 2 = .ok (.putfield 51, 3) := by decide +kernel
theorem dX6_setDuration_5 : decode cX6_setDuration 5 = .ok (.aload_n 0, 1) := by decide +kernel
theorem dX6_setDuration_6 : decode cX6_setDuration 6 = .ok (.iload_n 1, 1) := by decide +kernel
theorem dX6_setDuration_7 : decode cX6_setDuration 7 = .ok (.iload_n 2, 1) := by decide +kernel
theorem dX6_setDuration_8 : decode cX6_setDuration 8 = .ok (.invokevirtual 275, 3) := by decide +kernel
theorem dX6_setDuration_11 : decode cX6_setDuration 11 = .ok (.ifCond .ne 26, 3) := by decide +kernel
theorem dX6_setDuration_14 : decode cX6_setDuration 14 = .ok (.aload_n 0, 1) := by decide +kernel
theorem dX6_setDuration_15 : decode cX6_setDuration 15 = .ok (.iload_n 3, 1) := by decide +kernel
theorem dX6_setDuration_16 : decode cX6_setDuration 16 = .ok (.iconst 1, 1) := by decide +kernel
theorem dX6_setDuration_17 : decode cX6_setDuration 17 = .ok (.bipush 99, 2) := by decide +kernel
theorem dX6_setDuration_19 : decode cX6_setDuration 19 = .ok (.invokestatic 73, 3) := by decide +kernel
theorem dX6_setDuration_22 : decode cX6_setDuration 22 = .ok (.ifCond .ne 7, 3) := by decide +kernel
theorem dX6_setDuration_25 : decode cX6_setDuration 25 = .ok (.iconst 1, 1) := by decide +kernel
theorem dX6_setDuration_26 : decode cX6_setDuration 26 = .ok (.goto 4, 3) := by decide +kernel
theorem dX6_setDuration_29 : decode cX6_setDuration 29 = .ok (.iconst 0, 1) := by decide +kernel
theorem dX6_setDuration_30 : decode cX6_setDuration 30 = .ok (.iconst 2, 1) := by decide +kernel
theorem dX6_setDuration_31 : decode cX6_setDuration 31 = .ok (.invokevirtual 174, 3) := by decide +kernel
theorem dX6_setDuration_34 : decode cX6_setDuration 34 = .ok (.ifCond .eq 5, 3) := by decide +kernel
theorem dX6_setDuration_37 : decode cX6_setDuration 37 = .ok (.iconst 0, 1) := by decide +kernel
theorem dX6_setDuration_38 : decode cX6_setDuration 38 = .ok (.ireturn, 1) := by decide +kernel
theorem dX6_setDuration_39 : decode cX6_setDuration 39 = .ok (.aload_n 0, 1) := by decide +kernel
theorem dX6_setDuration_40 : decode cX6_setDuration 40 = .ok (.invokevirtual 183, 3) := by decide +kernel
theorem dX6_setDuration_43 : decode cX6_setDuration 43 = .ok (.bipush 6, 2) := by decide +kernel
theorem dX6_setDuration_45 : decode cX6_setDuration 45 = .ok (.iload_n 1, 1) := by decide +kernel
theorem dX6_setDuration_46 : decode cX6_setDuration 46 = .ok (.imul, 1) := by decide +kernel
theorem dX6_setDuration_47 : decode cX6_setDuration 47 = .ok (.iload_n 2, 1) := by decide +kernel
theorem dX6_setDuration_48 : decode cX6_setDuration 48 = .ok (.iadd, 1) := by decide +kernel
theorem dX6_setDuration_49 : decode cX6_setDuration 49 = .ok (.invokestatic 155, 3) := by decide +kernel
theorem dX6_setDuration_52 : decode cX6_setDuration 52 = .ok (.iconst 1, 1) := by decide +kernel
theorem dX6_setDuration_53 : decode cX6_setDuration 53 = .ok (.iadd, 1) := by decide +kernel
theorem dX6_setDuration_54 : decode cX6_setDuration 54 = .ok (.istore 4, 2) := by decide +kernel
theorem dX6_setDuration_56 : decode cX6_setDuration 56 = .ok (.aload_n 0, 1) := by decide +kernel
theorem dX6_setDuration_57 : decode cX6_setDuration 57 = .ok (.getfield 17, 3) := by decide +kernel
theorem dX6_setDuration_60 : decode cX6_setDuration 60 = .ok (.iload 4, 2) := by decide +kernel
theorem dX6_setDuration_62 : decode cX6_setDuration 62 = .ok (.iaload, 1) := by decide +kernel
theorem dX6_setDuration_63 : decode cX6_setDuration 63 = .ok (.istore 5, 2) := by decide +kernel
theorem dX6_setDuration_65 : decode cX6_setDuration 65 = .ok (.aload_n 0, 1) := by decide +kernel
theorem dX6_setDuration_66 : decode cX6_setDuration 66 = .ok (.getfield 17, 3) := by decide +kernel
theorem dX6_setDuration_69 : decode cX6_setDuration 69 = .ok (.iload 4, 2) := by decide +kernel
theorem dX6_setDuration_71 : decode cX6_setDuration 71 = .ok (.iload_n 3, 1) := by decide +kernel
theorem dX6_setDuration_72 : decode cX6_setDuration 72 = .ok (.iastore, 1) := by decide +kernel
theorem dX6_setDuration_73 : decode cX6_setDuration 73 = .ok (.iload 5, 2) := by decide +kernel
theorem dX6_setDuration_75 : decode cX6_setDuration 75 = .ok (.ireturn, 1) := by decide +kernel
theorem dX6_restart_0 : decode cX6_restart 0 = .ok (.aload_n 0, 1) := by decide +kernel
theorem dX6_restart_1 : decode cX6_restart 1 = .ok (.iconst 0, 1) := by decide +kernel
theorem dX6_restart_2 : decode cX6_restart 2 = .ok (.putfield 51, 3) := by decide +kernel
theorem dX6_restart_5 : decode cX6_restart 5 = .ok (.aload_n 0, 1) := by decide +kernel
theorem dX6_restart_6 : decode cX6_restart 6 = .ok (.invokevirtual 183, 3) := by decide +kernel
theorem dX6_restart_9 : decode cX6_restart 9 = .ok (.aload_n 0, 1) := by decide +kernel
theorem dX6_restart_10 : decode cX6_restart 10 = .ok (.invokevirtual 190, 3) := by decide +kernel
theorem dX6_restart_13 : decode cX6_restart 13 = .ok (.aload_n 0, 1) := by decide +kernel
theorem dX6_restart_14 : decode cX6_restart 14 = .ok (.invokevirtual 288, 3) := by decide +kernel
theorem dX6_restart_17 : decode cX6_restart 17 = .ok (.ireturn, 1) := by decide +kernel
theorem dX6_undo_0 : decode cX6_undo 0 = .ok (.aload_n 0, 1) := by decide +kernel
theorem dX6_undo_1 : decode cX6_undo 1 = .ok (.iconst 0, 1) := by decide +kernel
theorem dX6_undo_2 : decode cX6_undo 2 = .ok (.putfield 51, 3) := by decide +kernel
theorem dX6_undo_5 : decode cX6_undo 5 = .ok (.aload_n 0, 1) := by decide +kernel
theorem dX6_undo_6 : decode cX6_undo 6 = .ok (.getfield 303, 3) := by decide +kernel
theorem dX6_undo_9 : decode cX6_undo 9 = .ok (.ifCond .ne 5, 3) := by decide +kernel
theorem dX6_undo_12 : decode cX6_undo 12 = .ok (.iconst (-1), 1) := by decide +kernel
theorem dX6_undo_13 : decode cX6_undo 13 = .ok (.ireturn, 1) := by decide +kernel
theorem dX6_undo_14 : decode cX6_undo 14 = .ok (.aload_n 0, 1) := by decide +kernel
theorem dX6_undo_15 : decode cX6_undo 15 = .ok (.dup, 1) := by decide +kernel
theorem dX6_undo_16 : decode cX6_undo 16 = .ok (.getfield 303, 3) := by decide +kernel
theorem dX6_undo_19 : decode cX6_undo 19 = .ok (.iconst 1, 1) := by decide +kernel
theorem dX6_undo_20 : decode cX6_undo 20 = .ok (.isub, 1) := by decide +kernel
theorem dX6_undo_21 : decode cX6_undo 21 = .ok (.putfield 303, 3) := by decide +kernel
theorem dX6_undo_24 : decode cX6_undo 24 = .ok (.aload_n 0, 1) := by decide +kernel
theorem dX6_undo_25 : decode cX6_undo 25 = .ok (.getfield 28, 3) := by decide +kernel
theorem dX6_undo_28 : decode cX6_undo 28 = .ok (.aload_n 0, 1) := by decide +kernel
theorem dX6_undo_29 : decode cX6_undo 29 = .ok (.getfield 303, 3) := by decide +kernel
theorem dX6_undo_32 : decode cX6_undo 32 = .ok (.aaload, 1) := by decide +kernel
theorem dX6_undo_33 : decode cX6_undo 33 = .ok (.aload_n 0, 1) := by decide +kernel
theorem dX6_undo_34 : decode cX6_undo 34 = .ok (.getfield 17, 3) := by decide +kernel
theorem dX6_undo_37 : decode cX6_undo 37 = .ok (.invokestatic 186, 3) := by decide +kernel
theorem dX6_undo_40 : decode cX6_undo 40 = .ok (.aload_n 0, 1) := by decide +kernel
theorem dX6_undo_41 : decode cX6_undo 41 = .ok (.getfield 303, 3) := by decide +kernel
theorem dX6_undo_44 : decode cX6_undo 44 = .ok (.ireturn, 1) := by decide +kernel
theorem dX6_checksum_0 : decode cX6_checksum 0 = .ok (.aload_n 0, 1) := by decide +kernel
theorem dX6_checksum_1 : decode cX6_checksum 1 = .ok (.iconst 0, 1) := by decide +kernel
theorem dX6_checksum_2 : decode cX6_checksum 2 = .ok (.putfield 51, 3) := by decide +kernel
theorem dX6_checksum_5 : decode cX6_checksum 5 = .ok (.aload_n 0, 1) := by decide +kernel
theorem dX6_checksum_6 : decode cX6_checksum 6 = .ok (.invokevirtual 288, 3) := by decide +kernel
theorem dX6_checksum_9 : decode cX6_checksum 9 = .ok (.i2l, 1) := by decide +kernel
theorem dX6_checksum_10 : decode cX6_checksum 10 = .ok (.lstore_n 1, 1) := by decide +kernel
theorem dX6_checksum_11 : decode cX6_checksum 11 = .ok (.ldc2_w 309, 3) := by decide +kernel
theorem dX6_checksum_14 : decode cX6_checksum 14 = .ok (.lload_n 1, 1) := by decide +kernel
theorem dX6_checksum_15 : decode cX6_checksum 15 = .ok (.lmul, 1) := by decide +kernel
theorem dX6_checksum_16 : decode cX6_checksum 16 = .ok (.aload_n 0, 1) := by decide +kernel
theorem dX6_checksum_17 : decode cX6_checksum 17 = .ok (.invokevirtual 250, 3) := by decide +kernel
theorem dX6_checksum_20 : decode cX6_checksum 20 = .ok (.i2l, 1) := by decide +kernel
theorem dX6_checksum_21 : decode cX6_checksum 21 = .ok (.ladd, 1) := by decide +kernel
theorem dX6_checksum_22 : decode cX6_checksum 22 = .ok (.lstore_n 1, 1) := by decide +kernel
theorem dX6_checksum_23 : decode cX6_checksum 23 = .ok (.iconst 0, 1) := by decide +kernel
theorem dX6_checksum_24 : decode cX6_checksum 24 = .ok (.istore_n 3, 1) := by decide +kernel
theorem dX6_checksum_25 : decode cX6_checksum 25 = .ok (.iload_n 3, 1) := by decide +kernel
theorem dX6_checksum_26 : decode cX6_checksum 26 = .ok (.aload_n 0, 1) := by decide +kernel
theorem dX6_checksum_27 : decode cX6_checksum 27 = .ok (.getfield 17, 3) := by decide +kernel
theorem dX6_checksum_30 : decode cX6_checksum 30 = .ok (.iconst 0, 1) := by decide +kernel
theorem dX6_checksum_31 : decode cX6_checksum 31 = .ok (.iaload, 1) := by decide +kernel
theorem dX6_checksum_32 : decode cX6_checksum 32 = .ok (.if_icmp .ge 59, 3) := by decide +kernel
theorem dX6_checksum_35 : decode cX6_checksum 35 = .ok (.iconst 0, 1) := by decide +kernel
theorem dX6_checksum_36 : decode cX6_checksum 36 = .ok (.istore 4, 2) := by decide +kernel
theorem dX6_checksum_38 : decode cX6_checksum 38 = .ok (.iload 4, 2) := by decide +kernel
theorem dX6_checksum_40 : decode cX6_checksum 40 = .ok (.aload_n 0, 1) := by decide +kernel
theorem dX6_checksum_41 : decode cX6_checksum 41 = .ok (.getfield 17, 3) := by decide +kernel
theorem dX6_checksum_44 : decode cX6_checksum 44 = .ok (.iload_n 3, 1) := by decide +kernel
theorem dX6_checksum_45 : decode cX6_checksum 45 = .ok (.invokestatic 158, 3) := by decide +kernel
theorem dX6_checksum_48 : decode cX6_checksum 48 = .ok (.iconst 2, 1) := by decide +kernel
theorem dX6_checksum_49 : decode cX6_checksum 49 = .ok (.iadd, 1) := by decide +kernel
theorem dX6_checksum_50 : decode cX6_checksum 50 = .ok (.iaload, 1) := by decide +kernel
theorem dX6_checksum_51 : decode cX6_checksum 51 = .ok (.if_icmp .ge 34, 3) := by decide +kernel
theorem dX6_checksum_54 : decode cX6_checksum 54 = .ok (.ldc2_w 309, 3) := by decide +kernel
theorem dX6_checksum_57 : decode cX6_checksum 57 = .ok (.lload_n 1, 1) := by decide +kernel
theorem dX6_checksum_58 : decode cX6_checksum 58 = .ok (.lmul, 1) := by decide +kernel
theorem dX6_checksum_59 : decode cX6_checksum 59 = .ok (.aload_n 0, 1) := by decide +kernel
theorem dX6_checksum_60 : decode cX6_checksum 60 = .ok (.getfield 17, 3) := by decide +kernel
theorem dX6_checksum_63 : decode cX6_checksum 63 = .ok (.iload_n 3, 1) := by decide +kernel
theorem dX6_checksum_64 : decode cX6_checksum 64 = .ok (.invokestatic 158, 3) := by decide +kernel
theorem dX6_checksum_67 : decode cX6_checksum 67 = .ok (.iconst 3, 1) := by decide +kernel
theorem dX6_checksum_68 : decode cX6_checksum 68 = .ok (.iadd, 1) := by decide +kernel
theorem dX6_checksum_69 : decode cX6_checksum 69 = .ok (.iload 4, 2) := by decide +kernel
theorem dX6_checksum_71 : decode cX6_checksum 71 = .ok (.iadd, 1) := by decide +kernel
theorem dX6_checksum_72 : decode cX6_checksum 72 = .ok (.iaload, 1) := by decide +kernel
theorem dX6_checksum_73 : decode cX6_checksum 73 = .ok (.invokestatic 282, 3) := by decide +kernel
theorem dX6_checksum_76 : decode cX6_checksum 76 = .ok (.i2l, 1) := by decide +kernel
theorem dX6_checksum_77 : decode cX6_checksum 77 = .ok (.ladd, 1) := by decide +kernel
theorem dX6_checksum_78 : decode cX6_checksum 78 = .ok (.lstore_n 1, 1) := by decide +kernel
theorem dX6_checksum_79 : decode cX6_checksum 79 = .ok (.iinc 4 1, 3) := by decide +kernel
theorem dX6_checksum_82 : decode cX6_checksum 82 = .ok (.goto (-44), 3) := by decide +kernel
theorem dX6_checksum_85 : decode cX6_checksum 85 = .ok (.iinc 3 1, 3) := by decide +kernel
theorem dX6_checksum_88 : decode cX6_checksum 88 = .ok (.goto (-63), 3) := by decide +kernel
theorem dX6_checksum_91 : decode cX6_checksum 91 = .ok (.iconst 0, 1) := by decide +kernel
theorem dX6_checksum_92 : decode cX6_checksum 92 = .ok (.istore_n 3, 1) := by decide +kernel
theorem dX6_checksum_93 : decode cX6_checksum 93 = .ok (.iload_n 3, 1) := by decide +kernel
theorem dX6_checksum_94 : decode cX6_checksum 94 = .ok (.bipush 36, 2) := by decide +kernel
theorem dX6_checksum_96 : decode cX6_checksum 96 = .ok (.if_icmp .ge 31, 3) := by decide +kernel
theorem dX6_checksum_99 : decode cX6_checksum 99 = .ok (.aload_n 0, 1) := by decide +kernel
theorem dX6_checksum_100 : decode cX6_checksum 100 = .ok (.iload_n 3, 1) := by decide +kernel
theorem dX6_checksum_101 : decode cX6_checksum 101 = .ok (.invokevirtual 211, 3) := by decide +kernel
theorem dX6_checksum_104 : decode cX6_checksum 104 = .ok (.ifCond .eq 17, 3) := by decide +kernel
theorem dX6_checksum_107 : decode cX6_checksum 107 = .ok (.ldc2_w 309, 3) := by decide +kernel
theorem dX6_checksum_110 : decode cX6_checksum 110 = .ok (.lload_n 1, 1) := by decide +kernel
theorem dX6_checksum_111 : decode cX6_checksum 111 = .ok (.lmul, 1) := by decide +kernel
theorem dX6_checksum_112 : decode cX6_checksum 112 = .ok (.aload_n 0, 1) := by decide +kernel
theorem dX6_checksum_113 : decode cX6_checksum 113 = .ok (.getfield 37, 3) := by decide +kernel
theorem dX6_checksum_116 : decode cX6_checksum 116 = .ok (.iload_n 3, 1) := by decide +kernel
theorem dX6_checksum_117 : decode cX6_checksum 117 = .ok (.iaload, 1) := by decide +kernel
theorem dX6_checksum_118 : decode cX6_checksum 118 = .ok (.i2l, 1) := by decide +kernel
theorem dX6_checksum_119 : decode cX6_checksum 119 = .ok (.ladd, 1) := by decide +kernel
theorem dX6_checksum_120 : decode cX6_checksum 120 = .ok (.lstore_n 1, 1) := by decide +kernel
theorem dX6_checksum_121 : decode cX6_checksum 121 = .ok (.iinc 3 1, 3) := by decide +kernel
theorem dX6_checksum_124 : decode cX6_checksum 124 = .ok (.goto (-31), 3) := by decide +kernel
theorem dX6_checksum_127 : decode cX6_checksum 127 = .ok (.lload_n 1, 1) := by decide +kernel
theorem dX6_checksum_128 : decode cX6_checksum 128 = .ok (.lreturn, 1) := by decide +kernel
theorem dJ9_max_7cf53_0 : decode cJ9_max_7cf53 0 = .ok (.iload_n 0, 1) := by decide +kernel
theorem dJ9_max_7cf53_1 : decode cJ9_max_7cf53 1 = .ok (.iload_n 1, 1) := by decide +kernel
theorem dJ9_max_7cf53_2 : decode cJ9_max_7cf53 2 = .ok (.if_icmp .lt 7, 3) := by decide +kernel
theorem dJ9_max_7cf53_5 : decode cJ9_max_7cf53 5 = .ok (.iload_n 0, 1) := by decide +kernel
theorem dJ9_max_7cf53_6 : decode cJ9_max_7cf53 6 = .ok (.goto 4, 3) := by decide +kernel
theorem dJ9_max_7cf53_9 : decode cJ9_max_7cf53 9 = .ok (.iload_n 1, 1) := by decide +kernel
theorem dJ9_max_7cf53_10 : decode cJ9_max_7cf53 10 = .ok (.ireturn, 1) := by decide +kernel
theorem dJ9_min_7cf53_0 : decode cJ9_min_7cf53 0 = .ok (.iload_n 0, 1) := by decide +kernel
theorem dJ9_min_7cf53_1 : decode cJ9_min_7cf53 1 = .ok (.iload_n 1, 1) := by decide +kernel
theorem dJ9_min_7cf53_2 : decode cJ9_min_7cf53 2 = .ok (.if_icmp .gt 7, 3) := by decide +kernel
theorem dJ9_min_7cf53_5 : decode cJ9_min_7cf53 5 = .ok (.iload_n 0, 1) := by decide +kernel
theorem dJ9_min_7cf53_6 : decode cJ9_min_7cf53 6 = .ok (.goto 4, 3) := by decide +kernel
theorem dJ9_min_7cf53_9 : decode cJ9_min_7cf53 9 = .ok (.iload_n 1, 1) := by decide +kernel
theorem dJ9_min_7cf53_10 : decode cJ9_min_7cf53 10 = .ok (.ireturn, 1) := by decide +kernel
theorem dJ0_length_8abf5_0 : decode cJ0_length_8abf5 0 = .ok (.aload_n 0, 1) := by decide +kernel
theorem dJ0_length_8abf5_1 : decode cJ0_length_8abf5 1 = .ok (.getfield 9, 3) := by decide +kernel
theorem dJ0_length_8abf5_4 : decode cJ0_length_8abf5 4 = .ok (.arraylength, 1) := by decide +kernel
theorem dJ0_length_8abf5_5 : decode cJ0_length_8abf5 5 = .ok (.aload_n 0, 1) := by decide +kernel
theorem dJ0_length_8abf5_6 : decode cJ0_length_8abf5 6 = .ok (.invokevirtual 335, 3) := by decide +kernel
theorem dJ0_length_8abf5_9 : decode cJ0_length_8abf5 9 = .ok (.ishr, 1) := by decide +kernel
theorem dJ0_length_8abf5_10 : decode cJ0_length_8abf5 10 = .ok (.ireturn, 1) := by decide +kernel
theorem dJ0_charAt_5068e_0 : decode cJ0_charAt_5068e 0 = .ok (.aload_n 0, 1) := by decide +kernel
theorem dJ0_charAt_5068e_1 : decode cJ0_charAt_5068e 1 = .ok (.invokevirtual 492, 3) := by decide +kernel
theorem dJ0_charAt_5068e_4 : decode cJ0_charAt_5068e 4 = .ok (.ifCond .eq 12, 3) := by decide +kernel
theorem dJ0_charAt_5068e_7 : decode cJ0_charAt_5068e 7 = .ok (.aload_n 0, 1) := by decide +kernel
theorem dJ0_charAt_5068e_8 : decode cJ0_charAt_5068e 8 = .ok (.getfield 9, 3) := by decide +kernel
theorem dJ0_charAt_5068e_11 : decode cJ0_charAt_5068e 11 = .ok (.iload_n 1, 1) := by decide +kernel
theorem dJ0_charAt_5068e_12 : decode cJ0_charAt_5068e 12 = .ok (.invokestatic 495, 3) := by decide +kernel
theorem dJ0_charAt_5068e_15 : decode cJ0_charAt_5068e 15 = .ok (.ireturn, 1) := by decide +kernel
theorem dJ0_charAt_5068e_16 : decode cJ0_charAt_5068e 16 = .ok (.aload_n 0, 1) := by decide +kernel
theorem dJ0_charAt_5068e_17 : decode cJ0_charAt_5068e 17 = .ok (.getfield 9, 3) := by decide +kernel
theorem dJ0_charAt_5068e_20 : decode cJ0_charAt_5068e 20 = .ok (.iload_n 1, 1) := by decide +kernel
theorem dJ0_charAt_5068e_21 : decode cJ0_charAt_5068e 21 = .ok (.invokestatic 498, 3) := by decide +kernel
theorem dJ0_charAt_5068e_24 : decode cJ0_charAt_5068e 24 = .ok (.ireturn, 1) := by decide +kernel
theorem dJ0_coder_7d493_0 : decode cJ0_coder_7d493 0 = .ok (.getstatic 38, 3) := by decide +kernel
theorem dJ0_coder_7d493_3 : decode cJ0_coder_7d493 3 = .ok (.ifCond .eq 10, 3) := by decide +kernel
theorem dJ0_coder_7d493_6 : decode cJ0_coder_7d493 6 = .ok (.aload_n 0, 1) := by decide +kernel
theorem dJ0_coder_7d493_7 : decode cJ0_coder_7d493 7 = .ok (.getfield 15, 3) := by decide +kernel
theorem dJ0_coder_7d493_10 : decode cJ0_coder_7d493 10 = .ok (.goto 4, 3) := by decide +kernel
theorem dJ0_coder_7d493_13 : decode cJ0_coder_7d493 13 = .ok (.iconst 1, 1) := by decide +kernel
theorem dJ0_coder_7d493_14 : decode cJ0_coder_7d493 14 = .ok (.ireturn, 1) := by decide +kernel
theorem dJ0_isLatin1_aae02_0 : decode cJ0_isLatin1_aae02 0 = .ok (.getstatic 38, 3) := by decide +kernel
theorem dJ0_isLatin1_aae02_3 : decode cJ0_isLatin1_aae02 3 = .ok (.ifCond .eq 14, 3) := by decide +kernel
theorem dJ0_isLatin1_aae02_6 : decode cJ0_isLatin1_aae02 6 = .ok (.aload_n 0, 1) := by decide +kernel
theorem dJ0_isLatin1_aae02_7 : decode cJ0_isLatin1_aae02 7 = .ok (.getfield 15, 3) := by decide +kernel
theorem dJ0_isLatin1_aae02_10 : decode cJ0_isLatin1_aae02 10 = .ok (.ifCond .ne 7, 3) := by decide +kernel
theorem dJ0_isLatin1_aae02_13 : decode cJ0_isLatin1_aae02 13 = .ok (.iconst 1, 1) := by decide +kernel
theorem dJ0_isLatin1_aae02_14 : decode cJ0_isLatin1_aae02 14 = .ok (.goto 4, 3) := by decide +kernel
theorem dJ0_isLatin1_aae02_17 : decode cJ0_isLatin1_aae02 17 = .ok (.iconst 0, 1) := by decide +kernel
theorem dJ0_isLatin1_aae02_18 : decode cJ0_isLatin1_aae02 18 = .ok (.ireturn, 1) := by decide +kernel
theorem dJ0_checkIndex_df160_0 : decode cJ0_checkIndex_df160 0 = .ok (.iload_n 0, 1) := by decide +kernel
theorem dJ0_checkIndex_df160_1 : decode cJ0_checkIndex_df160 1 = .ok (.iload_n 1, 1) := by decide +kernel
theorem dJ0_checkIndex_df160_2 : decode cJ0_checkIndex_df160 2 = .ok (.getstatic 1053, 3) := by decide +kernel
theorem dJ0_checkIndex_df160_5 : decode cJ0_checkIndex_df160 5 = .ok (.invokestatic 1059, 3) := by decide +kernel
theorem dJ0_checkIndex_df160_8 : decode cJ0_checkIndex_df160 8 = .ok (.pop, 1) := by decide +kernel
theorem dJ0_checkIndex_df160_9 : decode cJ0_checkIndex_df160 9 = .ok (.return_, 1) := by decide +kernel
theorem dJ1_charAt_3b067_0 : decode cJ1_charAt_3b067 0 = .ok (.iload_n 1, 1) := by decide +kernel
theorem dJ1_charAt_3b067_1 : decode cJ1_charAt_3b067 1 = .ok (.aload_n 0, 1) := by decide +kernel
theorem dJ1_charAt_3b067_2 : decode cJ1_charAt_3b067 2 = .ok (.arraylength, 1) := by decide +kernel
theorem dJ1_charAt_3b067_3 : decode cJ1_charAt_3b067 3 = .ok (.invokestatic 9, 3) := by decide +kernel
theorem dJ1_charAt_3b067_6 : decode cJ1_charAt_3b067 6 = .ok (.aload_n 0, 1) := by decide +kernel
theorem dJ1_charAt_3b067_7 : decode cJ1_charAt_3b067 7 = .ok (.iload_n 1, 1) := by decide +kernel
theorem dJ1_charAt_3b067_8 : decode cJ1_charAt_3b067 8 = .ok (.baload, 1) := by decide +kernel
theorem dJ1_charAt_3b067_9 : decode cJ1_charAt_3b067 9 = .ok (.sipush 255, 3) := by decide +kernel
theorem dJ1_charAt_3b067_12 : decode cJ1_charAt_3b067 12 = .ok (.iand, 1) := by decide +kernel
theorem dJ1_charAt_3b067_13 : decode cJ1_charAt_3b067 13 = .ok (.i2c, 1) := by decide +kernel
theorem dJ1_charAt_3b067_14 : decode cJ1_charAt_3b067 14 = .ok (.ireturn, 1) := by decide +kernel
theorem dJ2_getChar_3b067_0 : decode cJ2_getChar_3b067 0 = .ok (.getstatic 44, 3) := by decide +kernel
theorem dJ2_getChar_3b067_3 : decode cJ2_getChar_3b067 3 = .ok (.ifCond .ne 25, 3) := by decide +kernel
theorem dJ2_getChar_3b067_6 : decode cJ2_getChar_3b067 6 = .ok (.iload_n 1, 1) := by decide +kernel
theorem dJ2_getChar_3b067_7 : decode cJ2_getChar_3b067 7 = .ok (.ifCond .lt 11, 3) := by decide +kernel
theorem dJ2_getChar_3b067_10 : decode cJ2_getChar_3b067 10 = .ok (.iload_n 1, 1) := by decide +kernel
theorem dJ2_getChar_3b067_11 : decode cJ2_getChar_3b067 11 = .ok (.aload_n 0, 1) := by decide +kernel
theorem dJ2_getChar_3b067_12 : decode cJ2_getChar_3b067 12 = .ok (.invokestatic 48, 3) := by decide +kernel
theorem dJ2_getChar_3b067_15 : decode cJ2_getChar_3b067 15 = .ok (.if_icmp .lt 13, 3) := by decide +kernel
theorem dJ2_getChar_3b067_18 : decode cJ2_getChar_3b067 18 = .ok (.new 52, 3) := by decide +kernel
theorem dJ2_getChar_3b067_21 : decode cJ2_getChar_3b067 21 = .ok (.dup, 1) := by decide +kernel
theorem dJ2_getChar_3b067_22 : decode cJ2_getChar_3b067 22 = .ok (.ldc 54, 2) := by decide +kernel
theorem dJ2_getChar_3b067_24 : decode cJ2_getChar_3b067 24 = .ok (.invokespecial 56, 3) := by decide +kernel
theorem dJ2_getChar_3b067_27 : decode cJ2_getChar_3b067 27 = .ok (.athrow, 1) := by decide +kernel
theorem dJ2_getChar_3b067_28 : decode cJ2_getChar_3b067 28 = .ok (.iload_n 1, 1) := by decide +kernel
theorem dJ2_getChar_3b067_29 : decode cJ2_getChar_3b067 29 = .ok (.iconst 1, 1) := by decide +kernel
theorem dJ2_getChar_3b067_30 : decode cJ2_getChar_3b067 30 = .ok (.ishl, 1) := by decide +kernel
theorem dJ2_getChar_3b067_31 : decode cJ2_getChar_3b067 31 = .ok (.istore_n 1, 1) := by decide +kernel
theorem dJ2_getChar_3b067_32 : decode cJ2_getChar_3b067 32 = .ok (.aload_n 0, 1) := by decide +kernel
theorem dJ2_getChar_3b067_33 : decode cJ2_getChar_3b067 33 = .ok (.iload_n 1, 1) := by decide +kernel
theorem dJ2_getChar_3b067_34 : decode cJ2_getChar_3b067 34 = .ok (.iinc 1 1, 3) := by decide +kernel
theorem dJ2_getChar_3b067_37 : decode cJ2_getChar_3b067 37 = .ok (.baload, 1) := by decide +kernel
theorem dJ2_getChar_3b067_38 : decode cJ2_getChar_3b067 38 = .ok (.sipush 255, 3) := by decide +kernel
theorem dJ2_getChar_3b067_41 : decode cJ2_getChar_3b067 41 = .ok (.iand, 1) := by decide +kernel
theorem dJ2_getChar_3b067_42 : decode cJ2_getChar_3b067 42 = .ok (.getstatic 59, 3) := by decide +kernel
theorem dJ2_getChar_3b067_45 : decode cJ2_getChar_3b067 45 = .ok (.ishl, 1) := by decide +kernel
theorem dJ2_getChar_3b067_46 : decode cJ2_getChar_3b067 46 = .ok (.aload_n 0, 1) := by decide +kernel
theorem dJ2_getChar_3b067_47 : decode cJ2_getChar_3b067 47 = .ok (.iload_n 1, 1) := by decide +kernel
theorem dJ2_getChar_3b067_48 : decode cJ2_getChar_3b067 48 = .ok (.baload, 1) := by decide +kernel
theorem dJ2_getChar_3b067_49 : decode cJ2_getChar_3b067 49 = .ok (.sipush 255, 3) := by decide +kernel
theorem dJ2_getChar_3b067_52 : decode cJ2_getChar_3b067 52 = .ok (.iand, 1) := by decide +kernel
theorem dJ2_getChar_3b067_53 : decode cJ2_getChar_3b067 53 = .ok (.getstatic 63, 3) := by decide +kernel
theorem dJ2_getChar_3b067_56 : decode cJ2_getChar_3b067 56 = .ok (.ishl, 1) := by decide +kernel
theorem dJ2_getChar_3b067_57 : decode cJ2_getChar_3b067 57 = .ok (.ior, 1) := by decide +kernel
theorem dJ2_getChar_3b067_58 : decode cJ2_getChar_3b067 58 = .ok (.i2c, 1) := by decide +kernel
theorem dJ2_getChar_3b067_59 : decode cJ2_getChar_3b067 59 = .ok (.ireturn, 1) := by decide +kernel
theorem dJ2_length_9d52b_0 : decode cJ2_length_9d52b 0 = .ok (.aload_n 0, 1) := by decide +kernel
theorem dJ2_length_9d52b_1 : decode cJ2_length_9d52b 1 = .ok (.arraylength, 1) := by decide +kernel
theorem dJ2_length_9d52b_2 : decode cJ2_length_9d52b 2 = .ok (.iconst 1, 1) := by decide +kernel
theorem dJ2_length_9d52b_3 : decode cJ2_length_9d52b 3 = .ok (.ishr, 1) := by decide +kernel
theorem dJ2_length_9d52b_4 : decode cJ2_length_9d52b 4 = .ok (.ireturn, 1) := by decide +kernel
theorem dJ2_charAt_3b067_0 : decode cJ2_charAt_3b067 0 = .ok (.iload_n 1, 1) := by decide +kernel
theorem dJ2_charAt_3b067_1 : decode cJ2_charAt_3b067 1 = .ok (.aload_n 0, 1) := by decide +kernel
theorem dJ2_charAt_3b067_2 : decode cJ2_charAt_3b067 2 = .ok (.invokestatic 67, 3) := by decide +kernel
theorem dJ2_charAt_3b067_5 : decode cJ2_charAt_3b067 5 = .ok (.aload_n 0, 1) := by decide +kernel
theorem dJ2_charAt_3b067_6 : decode cJ2_charAt_3b067 6 = .ok (.iload_n 1, 1) := by decide +kernel
theorem dJ2_charAt_3b067_7 : decode cJ2_charAt_3b067 7 = .ok (.invokestatic 71, 3) := by decide +kernel
theorem dJ2_charAt_3b067_10 : decode cJ2_charAt_3b067 10 = .ok (.ireturn, 1) := by decide +kernel
theorem dJ2_checkIndex_2214a_0 : decode cJ2_checkIndex_2214a 0 = .ok (.iload_n 0, 1) := by decide +kernel
theorem dJ2_checkIndex_2214a_1 : decode cJ2_checkIndex_2214a 1 = .ok (.aload_n 1, 1) := by decide +kernel
theorem dJ2_checkIndex_2214a_2 : decode cJ2_checkIndex_2214a 2 = .ok (.invokestatic 48, 3) := by decide +kernel
theorem dJ2_checkIndex_2214a_5 : decode cJ2_checkIndex_2214a 5 = .ok (.invokestatic 414, 3) := by decide +kernel
theorem dJ2_checkIndex_2214a_8 : decode cJ2_checkIndex_2214a 8 = .ok (.return_, 1) := by decide +kernel
theorem dJ7_copyOf_59c91_0 : decode cJ7_copyOf_59c91 0 = .ok (.iload_n 1, 1) := by decide +kernel
theorem dJ7_copyOf_59c91_1 : decode cJ7_copyOf_59c91 1 = .ok (.aload_n 0, 1) := by decide +kernel
theorem dJ7_copyOf_59c91_2 : decode cJ7_copyOf_59c91 2 = .ok (.arraylength, 1) := by decide +kernel
theorem dJ7_copyOf_59c91_3 : decode cJ7_copyOf_59c91 3 = .ok (.if_icmp .ne 11, 3) := by decide +kernel
theorem dJ7_copyOf_59c91_6 : decode cJ7_copyOf_59c91 6 = .ok (.aload_n 0, 1) := by decide +kernel
theorem dJ7_copyOf_59c91_7 : decode cJ7_copyOf_59c91 7 = .ok (.invokevirtual 316, 3) := by decide +kernel
theorem dJ7_copyOf_59c91_10 : decode cJ7_copyOf_59c91 10 = .ok (.checkcast 317, 3) := by decide +kernel
theorem dJ7_copyOf_59c91_13 : decode cJ7_copyOf_59c91 13 = .ok (.areturn, 1) := by decide +kernel
theorem dJ7_copyOf_59c91_14 : decode cJ7_copyOf_59c91 14 = .ok (.iload_n 1, 1) := by decide +kernel
theorem dJ7_copyOf_59c91_15 : decode cJ7_copyOf_59c91 15 = .ok (.newarray .int, 2) := by decide +kernel
theorem dJ7_copyOf_59c91_17 : decode cJ7_copyOf_59c91 17 = .ok (.astore_n 2, 1) := by decide +kernel
theorem dJ7_copyOf_59c91_18 : decode cJ7_copyOf_59c91 18 = .ok (.aload_n 0, 1) := by decide +kernel
theorem dJ7_copyOf_59c91_19 : decode cJ7_copyOf_59c91 19 = .ok (.iconst 0, 1) := by decide +kernel
theorem dJ7_copyOf_59c91_20 : decode cJ7_copyOf_59c91 20 = .ok (.aload_n 2, 1) := by decide +kernel
theorem dJ7_copyOf_59c91_21 : decode cJ7_copyOf_59c91 21 = .ok (.iconst 0, 1) := by decide +kernel
theorem dJ7_copyOf_59c91_22 : decode cJ7_copyOf_59c91 22 = .ok (.aload_n 0, 1) := by decide +kernel
theorem dJ7_copyOf_59c91_23 : decode cJ7_copyOf_59c91 23 = .ok (.arraylength, 1) := by decide +kernel
theorem dJ7_copyOf_59c91_24 : decode cJ7_copyOf_59c91 24 = .ok (.iload_n 1, 1) := by decide +kernel
theorem dJ7_copyOf_59c91_25 : decode cJ7_copyOf_59c91 25 = .ok (.invokestatic 304, 3) := by decide +kernel
theorem dJ7_copyOf_59c91_28 : decode cJ7_copyOf_59c91 28 = .ok (.invokestatic 150, 3) := by decide +kernel
theorem dJ7_copyOf_59c91_31 : decode cJ7_copyOf_59c91 31 = .ok (.aload_n 2, 1) := by decide +kernel
theorem dJ7_copyOf_59c91_32 : decode cJ7_copyOf_59c91 32 = .ok (.areturn, 1) := by decide +kernel
theorem dJ3_checkIndex_8e157_0 : decode cJ3_checkIndex_8e157 0 = .ok (.iload_n 0, 1) := by decide +kernel
theorem dJ3_checkIndex_8e157_1 : decode cJ3_checkIndex_8e157 1 = .ok (.ifCond .lt 8, 3) := by decide +kernel
theorem dJ3_checkIndex_8e157_4 : decode cJ3_checkIndex_8e157 4 = .ok (.iload_n 0, 1) := by decide +kernel
theorem dJ3_checkIndex_8e157_5 : decode cJ3_checkIndex_8e157 5 = .ok (.iload_n 1, 1) := by decide +kernel
theorem dJ3_checkIndex_8e157_6 : decode cJ3_checkIndex_8e157 6 = .ok (.if_icmp .lt 10, 3) := by decide +kernel
theorem dJ3_checkIndex_8e157_9 : decode cJ3_checkIndex_8e157 9 = .ok (.aload_n 2, 1) := by decide +kernel
theorem dJ3_checkIndex_8e157_10 : decode cJ3_checkIndex_8e157 10 = .ok (.iload_n 0, 1) := by decide +kernel
theorem dJ3_checkIndex_8e157_11 : decode cJ3_checkIndex_8e157 11 = .ok (.iload_n 1, 1) := by decide +kernel
theorem dJ3_checkIndex_8e157_12 : decode cJ3_checkIndex_8e157 12 = .ok (.invokestatic 95, 3) := by decide +kernel
theorem dJ3_checkIndex_8e157_15 : decode cJ3_checkIndex_8e157 15 = .ok (.athrow, 1) := by decide +kernel
theorem dJ3_checkIndex_8e157_16 : decode cJ3_checkIndex_8e157 16 = .ok (.iload_n 0, 1) := by decide +kernel
theorem dJ3_checkIndex_8e157_17 : decode cJ3_checkIndex_8e157 17 = .ok (.ireturn, 1) := by decide +kernel
theorem dL_load_0 : decode cL_load 0 = .ok (.aload_n 2, 1) := by decide +kernel
theorem dL_load_1 : decode cL_load 1 = .ok (.iconst 0, 1) := by decide +kernel
theorem dL_load_2 : decode cL_load 2 = .ok (.aload_n 0, 1) := by decide +kernel
theorem dL_load_3 : decode cL_load 3 = .ok (.iload_n 1, 1) := by decide +kernel
theorem dL_load_4 : decode cL_load 4 = .ok (.invokevirtual 7, 3) := by decide +kernel
theorem dL_load_7 : decode cL_load 7 = .ok (.i2l, 1) := by decide +kernel
theorem dL_load_8 : decode cL_load 8 = .ok (.lastore, 1) := by decide +kernel
theorem dL_load_9 : decode cL_load 9 = .ok (.goto 6, 3) := by decide +kernel
theorem dL_load_12 : decode cL_load 12 = .ok (.astore_n 3, 1) := by decide +kernel
theorem dL_load_13 : decode cL_load 13 = .ok (.iconst 1, 1) := by decide +kernel
theorem dL_load_14 : decode cL_load 14 = .ok (.ireturn, 1) := by decide +kernel
theorem dL_load_15 : decode cL_load 15 = .ok (.iconst 0, 1) := by decide +kernel
theorem dL_load_16 : decode cL_load 16 = .ok (.ireturn, 1) := by decide +kernel
theorem dL_operationCount_0 : decode cL_operationCount 0 = .ok (.aload_n 2, 1) := by decide +kernel
theorem dL_operationCount_1 : decode cL_operationCount 1 = .ok (.iconst 0, 1) := by decide +kernel
theorem dL_operationCount_2 : decode cL_operationCount 2 = .ok (.aload_n 0, 1) := by decide +kernel
theorem dL_operationCount_3 : decode cL_operationCount 3 = .ok (.iload_n 1, 1) := by decide +kernel
theorem dL_operationCount_4 : decode cL_operationCount 4 = .ok (.invokevirtual 15, 3) := by decide +kernel
theorem dL_operationCount_7 : decode cL_operationCount 7 = .ok (.i2l, 1) := by decide +kernel
theorem dL_operationCount_8 : decode cL_operationCount 8 = .ok (.lastore, 1) := by decide +kernel
theorem dL_operationCount_9 : decode cL_operationCount 9 = .ok (.goto 6, 3) := by decide +kernel
theorem dL_operationCount_12 : decode cL_operationCount 12 = .ok (.astore_n 3, 1) := by decide +kernel
theorem dL_operationCount_13 : decode cL_operationCount 13 = .ok (.iconst 1, 1) := by decide +kernel
theorem dL_operationCount_14 : decode cL_operationCount 14 = .ok (.ireturn, 1) := by decide +kernel
theorem dL_operationCount_15 : decode cL_operationCount 15 = .ok (.iconst 0, 1) := by decide +kernel
theorem dL_operationCount_16 : decode cL_operationCount 16 = .ok (.ireturn, 1) := by decide +kernel
theorem dL_operation_0 : decode cL_operation 0 = .ok (.aload 4, 2) := by decide +kernel
theorem dL_operation_2 : decode cL_operation 2 = .ok (.iconst 0, 1) := by decide +kernel
theorem dL_operation_3 : decode cL_operation 3 = .ok (.aload_n 0, 1) := by decide +kernel
theorem dL_operation_4 : decode cL_operation 4 = .ok (.iload_n 1, 1) := by decide +kernel
theorem dL_operation_5 : decode cL_operation 5 = .ok (.iload_n 2, 1) := by decide +kernel
theorem dL_operation_6 : decode cL_operation 6 = .ok (.iload_n 3, 1) := by decide +kernel
theorem dL_operation_7 : decode cL_operation 7 = .ok (.invokevirtual 20, 3) := by decide +kernel
theorem dL_operation_10 : decode cL_operation 10 = .ok (.i2l, 1) := by decide +kernel
theorem dL_operation_11 : decode cL_operation 11 = .ok (.lastore, 1) := by decide +kernel
theorem dL_operation_12 : decode cL_operation 12 = .ok (.goto 11, 3) := by decide +kernel
theorem dL_operation_15 : decode cL_operation 15 = .ok (.astore 5, 2) := by decide +kernel
theorem dL_operation_17 : decode cL_operation 17 = .ok (.iconst 1, 1) := by decide +kernel
theorem dL_operation_18 : decode cL_operation 18 = .ok (.ireturn, 1) := by decide +kernel
theorem dL_operation_19 : decode cL_operation 19 = .ok (.astore 5, 2) := by decide +kernel
theorem dL_operation_21 : decode cL_operation 21 = .ok (.iconst 2, 1) := by decide +kernel
theorem dL_operation_22 : decode cL_operation 22 = .ok (.ireturn, 1) := by decide +kernel
theorem dL_operation_23 : decode cL_operation 23 = .ok (.iconst 0, 1) := by decide +kernel
theorem dL_operation_24 : decode cL_operation 24 = .ok (.ireturn, 1) := by decide +kernel
theorem dL_orderLength_0 : decode cL_orderLength 0 = .ok (.aload_n 2, 1) := by decide +kernel
theorem dL_orderLength_1 : decode cL_orderLength 1 = .ok (.iconst 0, 1) := by decide +kernel
theorem dL_orderLength_2 : decode cL_orderLength 2 = .ok (.aload_n 0, 1) := by decide +kernel
theorem dL_orderLength_3 : decode cL_orderLength 3 = .ok (.iload_n 1, 1) := by decide +kernel
theorem dL_orderLength_4 : decode cL_orderLength 4 = .ok (.invokevirtual 24, 3) := by decide +kernel
theorem dL_orderLength_7 : decode cL_orderLength 7 = .ok (.i2l, 1) := by decide +kernel
theorem dL_orderLength_8 : decode cL_orderLength 8 = .ok (.lastore, 1) := by decide +kernel
theorem dL_orderLength_9 : decode cL_orderLength 9 = .ok (.goto 6, 3) := by decide +kernel
theorem dL_orderLength_12 : decode cL_orderLength 12 = .ok (.astore_n 3, 1) := by decide +kernel
theorem dL_orderLength_13 : decode cL_orderLength 13 = .ok (.iconst 1, 1) := by decide +kernel
theorem dL_orderLength_14 : decode cL_orderLength 14 = .ok (.ireturn, 1) := by decide +kernel
theorem dL_orderLength_15 : decode cL_orderLength 15 = .ok (.iconst 0, 1) := by decide +kernel
theorem dL_orderLength_16 : decode cL_orderLength 16 = .ok (.ireturn, 1) := by decide +kernel
theorem dL_orderAt_0 : decode cL_orderAt 0 = .ok (.aload_n 3, 1) := by decide +kernel
theorem dL_orderAt_1 : decode cL_orderAt 1 = .ok (.iconst 0, 1) := by decide +kernel
theorem dL_orderAt_2 : decode cL_orderAt 2 = .ok (.aload_n 0, 1) := by decide +kernel
theorem dL_orderAt_3 : decode cL_orderAt 3 = .ok (.iload_n 1, 1) := by decide +kernel
theorem dL_orderAt_4 : decode cL_orderAt 4 = .ok (.iload_n 2, 1) := by decide +kernel
theorem dL_orderAt_5 : decode cL_orderAt 5 = .ok (.invokevirtual 27, 3) := by decide +kernel
theorem dL_orderAt_8 : decode cL_orderAt 8 = .ok (.i2l, 1) := by decide +kernel
theorem dL_orderAt_9 : decode cL_orderAt 9 = .ok (.lastore, 1) := by decide +kernel
theorem dL_orderAt_10 : decode cL_orderAt 10 = .ok (.goto 7, 3) := by decide +kernel
theorem dL_orderAt_13 : decode cL_orderAt 13 = .ok (.astore 4, 2) := by decide +kernel
theorem dL_orderAt_15 : decode cL_orderAt 15 = .ok (.iconst 1, 1) := by decide +kernel
theorem dL_orderAt_16 : decode cL_orderAt 16 = .ok (.ireturn, 1) := by decide +kernel
theorem dL_orderAt_17 : decode cL_orderAt 17 = .ok (.iconst 0, 1) := by decide +kernel
theorem dL_orderAt_18 : decode cL_orderAt 18 = .ok (.ireturn, 1) := by decide +kernel
theorem dL_start_0 : decode cL_start 0 = .ok (.aload_n 3, 1) := by decide +kernel
theorem dL_start_1 : decode cL_start 1 = .ok (.iconst 0, 1) := by decide +kernel
theorem dL_start_2 : decode cL_start 2 = .ok (.aload_n 0, 1) := by decide +kernel
theorem dL_start_3 : decode cL_start 3 = .ok (.iload_n 1, 1) := by decide +kernel
theorem dL_start_4 : decode cL_start 4 = .ok (.iload_n 2, 1) := by decide +kernel
theorem dL_start_5 : decode cL_start 5 = .ok (.invokevirtual 31, 3) := by decide +kernel
theorem dL_start_8 : decode cL_start 8 = .ok (.i2l, 1) := by decide +kernel
theorem dL_start_9 : decode cL_start 9 = .ok (.lastore, 1) := by decide +kernel
theorem dL_start_10 : decode cL_start 10 = .ok (.goto 7, 3) := by decide +kernel
theorem dL_start_13 : decode cL_start 13 = .ok (.astore 4, 2) := by decide +kernel
theorem dL_start_15 : decode cL_start 15 = .ok (.iconst 1, 1) := by decide +kernel
theorem dL_start_16 : decode cL_start 16 = .ok (.ireturn, 1) := by decide +kernel
theorem dL_start_17 : decode cL_start 17 = .ok (.iconst 0, 1) := by decide +kernel
theorem dL_start_18 : decode cL_start 18 = .ok (.ireturn, 1) := by decide +kernel
theorem dL_leave_0 : decode cL_leave 0 = .ok (.aload_n 3, 1) := by decide +kernel
theorem dL_leave_1 : decode cL_leave 1 = .ok (.iconst 0, 1) := by decide +kernel
theorem dL_leave_2 : decode cL_leave 2 = .ok (.aload_n 0, 1) := by decide +kernel
theorem dL_leave_3 : decode cL_leave 3 = .ok (.iload_n 1, 1) := by decide +kernel
theorem dL_leave_4 : decode cL_leave 4 = .ok (.iload_n 2, 1) := by decide +kernel
theorem dL_leave_5 : decode cL_leave 5 = .ok (.invokevirtual 34, 3) := by decide +kernel
theorem dL_leave_8 : decode cL_leave 8 = .ok (.i2l, 1) := by decide +kernel
theorem dL_leave_9 : decode cL_leave 9 = .ok (.lastore, 1) := by decide +kernel
theorem dL_leave_10 : decode cL_leave 10 = .ok (.goto 7, 3) := by decide +kernel
theorem dL_leave_13 : decode cL_leave 13 = .ok (.astore 4, 2) := by decide +kernel
theorem dL_leave_15 : decode cL_leave 15 = .ok (.iconst 1, 1) := by decide +kernel
theorem dL_leave_16 : decode cL_leave 16 = .ok (.ireturn, 1) := by decide +kernel
theorem dL_leave_17 : decode cL_leave 17 = .ok (.iconst 0, 1) := by decide +kernel
theorem dL_leave_18 : decode cL_leave 18 = .ok (.ireturn, 1) := by decide +kernel
theorem dL_completion_0 : decode cL_completion 0 = .ok (.aload_n 2, 1) := by decide +kernel
theorem dL_completion_1 : decode cL_completion 1 = .ok (.iconst 0, 1) := by decide +kernel
theorem dL_completion_2 : decode cL_completion 2 = .ok (.aload_n 0, 1) := by decide +kernel
theorem dL_completion_3 : decode cL_completion 3 = .ok (.iload_n 1, 1) := by decide +kernel
theorem dL_completion_4 : decode cL_completion 4 = .ok (.invokevirtual 37, 3) := by decide +kernel
theorem dL_completion_7 : decode cL_completion 7 = .ok (.i2l, 1) := by decide +kernel
theorem dL_completion_8 : decode cL_completion 8 = .ok (.lastore, 1) := by decide +kernel
theorem dL_completion_9 : decode cL_completion 9 = .ok (.goto 6, 3) := by decide +kernel
theorem dL_completion_12 : decode cL_completion 12 = .ok (.astore_n 3, 1) := by decide +kernel
theorem dL_completion_13 : decode cL_completion 13 = .ok (.iconst 1, 1) := by decide +kernel
theorem dL_completion_14 : decode cL_completion 14 = .ok (.ireturn, 1) := by decide +kernel
theorem dL_completion_15 : decode cL_completion 15 = .ok (.iconst 0, 1) := by decide +kernel
theorem dL_completion_16 : decode cL_completion 16 = .ok (.ireturn, 1) := by decide +kernel
theorem dL_jobCost_0 : decode cL_jobCost 0 = .ok (.aload_n 2, 1) := by decide +kernel
theorem dL_jobCost_1 : decode cL_jobCost 1 = .ok (.iconst 0, 1) := by decide +kernel
theorem dL_jobCost_2 : decode cL_jobCost 2 = .ok (.aload_n 0, 1) := by decide +kernel
theorem dL_jobCost_3 : decode cL_jobCost 3 = .ok (.iload_n 1, 1) := by decide +kernel
theorem dL_jobCost_4 : decode cL_jobCost 4 = .ok (.invokevirtual 40, 3) := by decide +kernel
theorem dL_jobCost_7 : decode cL_jobCost 7 = .ok (.i2l, 1) := by decide +kernel
theorem dL_jobCost_8 : decode cL_jobCost 8 = .ok (.lastore, 1) := by decide +kernel
theorem dL_jobCost_9 : decode cL_jobCost 9 = .ok (.goto 6, 3) := by decide +kernel
theorem dL_jobCost_12 : decode cL_jobCost 12 = .ok (.astore_n 3, 1) := by decide +kernel
theorem dL_jobCost_13 : decode cL_jobCost 13 = .ok (.iconst 1, 1) := by decide +kernel
theorem dL_jobCost_14 : decode cL_jobCost 14 = .ok (.ireturn, 1) := by decide +kernel
theorem dL_jobCost_15 : decode cL_jobCost 15 = .ok (.iconst 0, 1) := by decide +kernel
theorem dL_jobCost_16 : decode cL_jobCost 16 = .ok (.ireturn, 1) := by decide +kernel
theorem dL_blockedTime_0 : decode cL_blockedTime 0 = .ok (.aload_n 2, 1) := by decide +kernel
theorem dL_blockedTime_1 : decode cL_blockedTime 1 = .ok (.iconst 0, 1) := by decide +kernel
theorem dL_blockedTime_2 : decode cL_blockedTime 2 = .ok (.aload_n 0, 1) := by decide +kernel
theorem dL_blockedTime_3 : decode cL_blockedTime 3 = .ok (.iload_n 1, 1) := by decide +kernel
theorem dL_blockedTime_4 : decode cL_blockedTime 4 = .ok (.invokevirtual 43, 3) := by decide +kernel
theorem dL_blockedTime_7 : decode cL_blockedTime 7 = .ok (.i2l, 1) := by decide +kernel
theorem dL_blockedTime_8 : decode cL_blockedTime 8 = .ok (.lastore, 1) := by decide +kernel
theorem dL_blockedTime_9 : decode cL_blockedTime 9 = .ok (.goto 6, 3) := by decide +kernel
theorem dL_blockedTime_12 : decode cL_blockedTime 12 = .ok (.astore_n 3, 1) := by decide +kernel
theorem dL_blockedTime_13 : decode cL_blockedTime 13 = .ok (.iconst 1, 1) := by decide +kernel
theorem dL_blockedTime_14 : decode cL_blockedTime 14 = .ok (.ireturn, 1) := by decide +kernel
theorem dL_blockedTime_15 : decode cL_blockedTime 15 = .ok (.iconst 0, 1) := by decide +kernel
theorem dL_blockedTime_16 : decode cL_blockedTime 16 = .ok (.ireturn, 1) := by decide +kernel
theorem dL_critical_0 : decode cL_critical 0 = .ok (.aload_n 2, 1) := by decide +kernel
theorem dL_critical_1 : decode cL_critical 1 = .ok (.iconst 0, 1) := by decide +kernel
theorem dL_critical_2 : decode cL_critical 2 = .ok (.aload_n 0, 1) := by decide +kernel
theorem dL_critical_3 : decode cL_critical 3 = .ok (.iload_n 1, 1) := by decide +kernel
theorem dL_critical_4 : decode cL_critical 4 = .ok (.invokevirtual 46, 3) := by decide +kernel
theorem dL_critical_7 : decode cL_critical 7 = .ok (.i2l, 1) := by decide +kernel
theorem dL_critical_8 : decode cL_critical 8 = .ok (.lastore, 1) := by decide +kernel
theorem dL_critical_9 : decode cL_critical 9 = .ok (.goto 6, 3) := by decide +kernel
theorem dL_critical_12 : decode cL_critical 12 = .ok (.astore_n 3, 1) := by decide +kernel
theorem dL_critical_13 : decode cL_critical 13 = .ok (.iconst 1, 1) := by decide +kernel
theorem dL_critical_14 : decode cL_critical 14 = .ok (.ireturn, 1) := by decide +kernel
theorem dL_critical_15 : decode cL_critical 15 = .ok (.iconst 0, 1) := by decide +kernel
theorem dL_critical_16 : decode cL_critical 16 = .ok (.ireturn, 1) := by decide +kernel
theorem dL_deadlocks_0 : decode cL_deadlocks 0 = .ok (.aload_n 3, 1) := by decide +kernel
theorem dL_deadlocks_1 : decode cL_deadlocks 1 = .ok (.iconst 0, 1) := by decide +kernel
theorem dL_deadlocks_2 : decode cL_deadlocks 2 = .ok (.aload_n 0, 1) := by decide +kernel
theorem dL_deadlocks_3 : decode cL_deadlocks 3 = .ok (.iload_n 1, 1) := by decide +kernel
theorem dL_deadlocks_4 : decode cL_deadlocks 4 = .ok (.iload_n 2, 1) := by decide +kernel
theorem dL_deadlocks_5 : decode cL_deadlocks 5 = .ok (.invokevirtual 51, 3) := by decide +kernel
theorem dL_deadlocks_8 : decode cL_deadlocks 8 = .ok (.ifCond .eq 7, 3) := by decide +kernel
theorem dL_deadlocks_11 : decode cL_deadlocks 11 = .ok (.lconst 1, 1) := by decide +kernel
theorem dL_deadlocks_12 : decode cL_deadlocks 12 = .ok (.goto 4, 3) := by decide +kernel
theorem dL_deadlocks_15 : decode cL_deadlocks 15 = .ok (.lconst 0, 1) := by decide +kernel
theorem dL_deadlocks_16 : decode cL_deadlocks 16 = .ok (.lastore, 1) := by decide +kernel
theorem dL_deadlocks_17 : decode cL_deadlocks 17 = .ok (.goto 7, 3) := by decide +kernel
theorem dL_deadlocks_20 : decode cL_deadlocks 20 = .ok (.astore 4, 2) := by decide +kernel
theorem dL_deadlocks_22 : decode cL_deadlocks 22 = .ok (.iconst 1, 1) := by decide +kernel
theorem dL_deadlocks_23 : decode cL_deadlocks 23 = .ok (.ireturn, 1) := by decide +kernel
theorem dL_deadlocks_24 : decode cL_deadlocks 24 = .ok (.iconst 0, 1) := by decide +kernel
theorem dL_deadlocks_25 : decode cL_deadlocks 25 = .ok (.ireturn, 1) := by decide +kernel
theorem dL_makespanAfter_0 : decode cL_makespanAfter 0 = .ok (.aload_n 3, 1) := by decide +kernel
theorem dL_makespanAfter_1 : decode cL_makespanAfter 1 = .ok (.iconst 0, 1) := by decide +kernel
theorem dL_makespanAfter_2 : decode cL_makespanAfter 2 = .ok (.aload_n 0, 1) := by decide +kernel
theorem dL_makespanAfter_3 : decode cL_makespanAfter 3 = .ok (.iload_n 1, 1) := by decide +kernel
theorem dL_makespanAfter_4 : decode cL_makespanAfter 4 = .ok (.iload_n 2, 1) := by decide +kernel
theorem dL_makespanAfter_5 : decode cL_makespanAfter 5 = .ok (.invokevirtual 55, 3) := by decide +kernel
theorem dL_makespanAfter_8 : decode cL_makespanAfter 8 = .ok (.i2l, 1) := by decide +kernel
theorem dL_makespanAfter_9 : decode cL_makespanAfter 9 = .ok (.lastore, 1) := by decide +kernel
theorem dL_makespanAfter_10 : decode cL_makespanAfter 10 = .ok (.goto 7, 3) := by decide +kernel
theorem dL_makespanAfter_13 : decode cL_makespanAfter 13 = .ok (.astore 4, 2) := by decide +kernel
theorem dL_makespanAfter_15 : decode cL_makespanAfter 15 = .ok (.iconst 1, 1) := by decide +kernel
theorem dL_makespanAfter_16 : decode cL_makespanAfter 16 = .ok (.ireturn, 1) := by decide +kernel
theorem dL_makespanAfter_17 : decode cL_makespanAfter 17 = .ok (.iconst 0, 1) := by decide +kernel
theorem dL_makespanAfter_18 : decode cL_makespanAfter 18 = .ok (.ireturn, 1) := by decide +kernel
theorem dL_swap_0 : decode cL_swap 0 = .ok (.aload_n 3, 1) := by decide +kernel
theorem dL_swap_1 : decode cL_swap 1 = .ok (.iconst 0, 1) := by decide +kernel
theorem dL_swap_2 : decode cL_swap 2 = .ok (.aload_n 0, 1) := by decide +kernel
theorem dL_swap_3 : decode cL_swap 3 = .ok (.iload_n 1, 1) := by decide +kernel
theorem dL_swap_4 : decode cL_swap 4 = .ok (.iload_n 2, 1) := by decide +kernel
theorem dL_swap_5 : decode cL_swap 5 = .ok (.invokevirtual 58, 3) := by decide +kernel
theorem dL_swap_8 : decode cL_swap 8 = .ok (.i2l, 1) := by decide +kernel
theorem dL_swap_9 : decode cL_swap 9 = .ok (.lastore, 1) := by decide +kernel
theorem dL_swap_10 : decode cL_swap 10 = .ok (.goto 11, 3) := by decide +kernel
theorem dL_swap_13 : decode cL_swap 13 = .ok (.astore 4, 2) := by decide +kernel
theorem dL_swap_15 : decode cL_swap 15 = .ok (.iconst 1, 1) := by decide +kernel
theorem dL_swap_16 : decode cL_swap 16 = .ok (.ireturn, 1) := by decide +kernel
theorem dL_swap_17 : decode cL_swap 17 = .ok (.astore 4, 2) := by decide +kernel
theorem dL_swap_19 : decode cL_swap 19 = .ok (.iconst 2, 1) := by decide +kernel
theorem dL_swap_20 : decode cL_swap 20 = .ok (.ireturn, 1) := by decide +kernel
theorem dL_swap_21 : decode cL_swap 21 = .ok (.iconst 0, 1) := by decide +kernel
theorem dL_swap_22 : decode cL_swap 22 = .ok (.ireturn, 1) := by decide +kernel
theorem dL_improve_0 : decode cL_improve 0 = .ok (.aload_n 2, 1) := by decide +kernel
theorem dL_improve_1 : decode cL_improve 1 = .ok (.iconst 0, 1) := by decide +kernel
theorem dL_improve_2 : decode cL_improve 2 = .ok (.aload_n 0, 1) := by decide +kernel
theorem dL_improve_3 : decode cL_improve 3 = .ok (.iload_n 1, 1) := by decide +kernel
theorem dL_improve_4 : decode cL_improve 4 = .ok (.invokevirtual 63, 3) := by decide +kernel
theorem dL_improve_7 : decode cL_improve 7 = .ok (.i2l, 1) := by decide +kernel
theorem dL_improve_8 : decode cL_improve 8 = .ok (.lastore, 1) := by decide +kernel
theorem dL_improve_9 : decode cL_improve 9 = .ok (.goto 6, 3) := by decide +kernel
theorem dL_improve_12 : decode cL_improve 12 = .ok (.astore_n 3, 1) := by decide +kernel
theorem dL_improve_13 : decode cL_improve 13 = .ok (.iconst 1, 1) := by decide +kernel
theorem dL_improve_14 : decode cL_improve 14 = .ok (.ireturn, 1) := by decide +kernel
theorem dL_improve_15 : decode cL_improve 15 = .ok (.iconst 0, 1) := by decide +kernel
theorem dL_improve_16 : decode cL_improve 16 = .ok (.ireturn, 1) := by decide +kernel
theorem dL_place_0 : decode cL_place 0 = .ok (.aload 4, 2) := by decide +kernel
theorem dL_place_2 : decode cL_place 2 = .ok (.iconst 0, 1) := by decide +kernel
theorem dL_place_3 : decode cL_place 3 = .ok (.aload_n 0, 1) := by decide +kernel
theorem dL_place_4 : decode cL_place 4 = .ok (.iload_n 1, 1) := by decide +kernel
theorem dL_place_5 : decode cL_place 5 = .ok (.iload_n 2, 1) := by decide +kernel
theorem dL_place_6 : decode cL_place 6 = .ok (.iload_n 3, 1) := by decide +kernel
theorem dL_place_7 : decode cL_place 7 = .ok (.invokevirtual 66, 3) := by decide +kernel
theorem dL_place_10 : decode cL_place 10 = .ok (.i2l, 1) := by decide +kernel
theorem dL_place_11 : decode cL_place 11 = .ok (.lastore, 1) := by decide +kernel
theorem dL_place_12 : decode cL_place 12 = .ok (.goto 11, 3) := by decide +kernel
theorem dL_place_15 : decode cL_place 15 = .ok (.astore 5, 2) := by decide +kernel
theorem dL_place_17 : decode cL_place 17 = .ok (.iconst 1, 1) := by decide +kernel
theorem dL_place_18 : decode cL_place 18 = .ok (.ireturn, 1) := by decide +kernel
theorem dL_place_19 : decode cL_place 19 = .ok (.astore 5, 2) := by decide +kernel
theorem dL_place_21 : decode cL_place 21 = .ok (.iconst 2, 1) := by decide +kernel
theorem dL_place_22 : decode cL_place 22 = .ok (.ireturn, 1) := by decide +kernel
theorem dL_place_23 : decode cL_place 23 = .ok (.iconst 0, 1) := by decide +kernel
theorem dL_place_24 : decode cL_place 24 = .ok (.ireturn, 1) := by decide +kernel
theorem dL_setDuration_0 : decode cL_setDuration 0 = .ok (.aload 4, 2) := by decide +kernel
theorem dL_setDuration_2 : decode cL_setDuration 2 = .ok (.iconst 0, 1) := by decide +kernel
theorem dL_setDuration_3 : decode cL_setDuration 3 = .ok (.aload_n 0, 1) := by decide +kernel
theorem dL_setDuration_4 : decode cL_setDuration 4 = .ok (.iload_n 1, 1) := by decide +kernel
theorem dL_setDuration_5 : decode cL_setDuration 5 = .ok (.iload_n 2, 1) := by decide +kernel
theorem dL_setDuration_6 : decode cL_setDuration 6 = .ok (.iload_n 3, 1) := by decide +kernel
theorem dL_setDuration_7 : decode cL_setDuration 7 = .ok (.invokevirtual 69, 3) := by decide +kernel
theorem dL_setDuration_10 : decode cL_setDuration 10 = .ok (.i2l, 1) := by decide +kernel
theorem dL_setDuration_11 : decode cL_setDuration 11 = .ok (.lastore, 1) := by decide +kernel
theorem dL_setDuration_12 : decode cL_setDuration 12 = .ok (.goto 11, 3) := by decide +kernel
theorem dL_setDuration_15 : decode cL_setDuration 15 = .ok (.astore 5, 2) := by decide +kernel
theorem dL_setDuration_17 : decode cL_setDuration 17 = .ok (.iconst 1, 1) := by decide +kernel
theorem dL_setDuration_18 : decode cL_setDuration 18 = .ok (.ireturn, 1) := by decide +kernel
theorem dL_setDuration_19 : decode cL_setDuration 19 = .ok (.astore 5, 2) := by decide +kernel
theorem dL_setDuration_21 : decode cL_setDuration 21 = .ok (.iconst 2, 1) := by decide +kernel
theorem dL_setDuration_22 : decode cL_setDuration 22 = .ok (.ireturn, 1) := by decide +kernel
theorem dL_setDuration_23 : decode cL_setDuration 23 = .ok (.iconst 0, 1) := by decide +kernel
theorem dL_setDuration_24 : decode cL_setDuration 24 = .ok (.ireturn, 1) := by decide +kernel
theorem dL_law_0 : decode cL_law 0 = .ok (.new 8, 3) := by decide +kernel
theorem dL_law_3 : decode cL_law 3 = .ok (.dup, 1) := by decide +kernel
theorem dL_law_4 : decode cL_law 4 = .ok (.invokespecial 72, 3) := by decide +kernel
theorem dL_law_7 : decode cL_law 7 = .ok (.astore_n 1, 1) := by decide +kernel
theorem dL_law_8 : decode cL_law 8 = .ok (.new 73, 3) := by decide +kernel
theorem dL_law_11 : decode cL_law 11 = .ok (.dup, 1) := by decide +kernel
theorem dL_law_12 : decode cL_law 12 = .ok (.invokespecial 75, 3) := by decide +kernel
theorem dL_law_15 : decode cL_law 15 = .ok (.astore_n 2, 1) := by decide +kernel
theorem dL_law_16 : decode cL_law 16 = .ok (.iconst 1, 1) := by decide +kernel
theorem dL_law_17 : decode cL_law 17 = .ok (.newarray .long, 2) := by decide +kernel
theorem dL_law_19 : decode cL_law 19 = .ok (.astore_n 3, 1) := by decide +kernel
theorem dL_law_20 : decode cL_law 20 = .ok (.iconst 0, 1) := by decide +kernel
theorem dL_law_21 : decode cL_law 21 = .ok (.istore 4, 2) := by decide +kernel
theorem dL_law_23 : decode cL_law 23 = .ok (.iload 4, 2) := by decide +kernel
theorem dL_law_25 : decode cL_law 25 = .ok (.aload_n 0, 1) := by decide +kernel
theorem dL_law_26 : decode cL_law 26 = .ok (.arraylength, 1) := by decide +kernel
theorem dL_law_27 : decode cL_law 27 = .ok (.bipush 6, 2) := by decide +kernel
theorem dL_law_29 : decode cL_law 29 = .ok (.isub, 1) := by decide +kernel
theorem dL_law_30 : decode cL_law 30 = .ok (.if_icmp .gt 1485, 3) := by decide +kernel
theorem dL_law_33 : decode cL_law 33 = .ok (.aload_n 0, 1) := by decide +kernel
theorem dL_law_34 : decode cL_law 34 = .ok (.iload 4, 2) := by decide +kernel
theorem dL_law_36 : decode cL_law 36 = .ok (.iaload, 1) := by decide +kernel
theorem dL_law_37 : decode cL_law 37 = .ok (.bipush 31, 2) := by decide +kernel
theorem dL_law_39 : decode cL_law 39 = .ok (.iand, 1) := by decide +kernel
theorem dL_law_40 : decode cL_law 40 = .ok (.tableswitch 1469 0 29 #[136, 209, 265, 278, 291, 304, 360, 440, 496, 564, 632, 700, 756, 769, 825, 838, 894, 907, 963, 976, 989, 1064, 1132, 1145, 1213, 1269, 1349, 1429, 1442, 1455], 136) := by decide +kernel
theorem dL_law_176 : decode cL_law 176 = .ok (.aload_n 1, 1) := by decide +kernel
theorem dL_law_177 : decode cL_law 177 = .ok (.aload_n 0, 1) := by decide +kernel
theorem dL_law_178 : decode cL_law 178 = .ok (.iload 4, 2) := by decide +kernel
theorem dL_law_180 : decode cL_law 180 = .ok (.iconst 1, 1) := by decide +kernel
theorem dL_law_181 : decode cL_law 181 = .ok (.iadd, 1) := by decide +kernel
theorem dL_law_182 : decode cL_law 182 = .ok (.iaload, 1) := by decide +kernel
theorem dL_law_183 : decode cL_law 183 = .ok (.aload_n 0, 1) := by decide +kernel
theorem dL_law_184 : decode cL_law 184 = .ok (.iload 4, 2) := by decide +kernel
theorem dL_law_186 : decode cL_law 186 = .ok (.iconst 2, 1) := by decide +kernel
theorem dL_law_187 : decode cL_law 187 = .ok (.iadd, 1) := by decide +kernel
theorem dL_law_188 : decode cL_law 188 = .ok (.iaload, 1) := by decide +kernel
theorem dL_law_189 : decode cL_law 189 = .ok (.aload_n 0, 1) := by decide +kernel
theorem dL_law_190 : decode cL_law 190 = .ok (.iload 4, 2) := by decide +kernel
theorem dL_law_192 : decode cL_law 192 = .ok (.iconst 3, 1) := by decide +kernel
theorem dL_law_193 : decode cL_law 193 = .ok (.iadd, 1) := by decide +kernel
theorem dL_law_194 : decode cL_law 194 = .ok (.iaload, 1) := by decide +kernel
theorem dL_law_195 : decode cL_law 195 = .ok (.aload_n 0, 1) := by decide +kernel
theorem dL_law_196 : decode cL_law 196 = .ok (.iload 4, 2) := by decide +kernel
theorem dL_law_198 : decode cL_law 198 = .ok (.iconst 4, 1) := by decide +kernel
theorem dL_law_199 : decode cL_law 199 = .ok (.iadd, 1) := by decide +kernel
theorem dL_law_200 : decode cL_law 200 = .ok (.iaload, 1) := by decide +kernel
theorem dL_law_201 : decode cL_law 201 = .ok (.aload_n 0, 1) := by decide +kernel
theorem dL_law_202 : decode cL_law 202 = .ok (.iload 4, 2) := by decide +kernel
theorem dL_law_204 : decode cL_law 204 = .ok (.iconst 5, 1) := by decide +kernel
theorem dL_law_205 : decode cL_law 205 = .ok (.iadd, 1) := by decide +kernel
theorem dL_law_206 : decode cL_law 206 = .ok (.iaload, 1) := by decide +kernel
theorem dL_law_207 : decode cL_law 207 = .ok (.invokevirtual 76, 3) := by decide +kernel
theorem dL_law_210 : decode cL_law 210 = .ok (.aload_n 2, 1) := by decide +kernel
theorem dL_law_211 : decode cL_law 211 = .ok (.aload_n 0, 1) := by decide +kernel
theorem dL_law_212 : decode cL_law 212 = .ok (.iload 4, 2) := by decide +kernel
theorem dL_law_214 : decode cL_law 214 = .ok (.iconst 1, 1) := by decide +kernel
theorem dL_law_215 : decode cL_law 215 = .ok (.iadd, 1) := by decide +kernel
theorem dL_law_216 : decode cL_law 216 = .ok (.iaload, 1) := by decide +kernel
theorem dL_law_217 : decode cL_law 217 = .ok (.aload_n 0, 1) := by decide +kernel
theorem dL_law_218 : decode cL_law 218 = .ok (.iload 4, 2) := by decide +kernel
theorem dL_law_220 : decode cL_law 220 = .ok (.iconst 2, 1) := by decide +kernel
theorem dL_law_221 : decode cL_law 221 = .ok (.iadd, 1) := by decide +kernel
theorem dL_law_222 : decode cL_law 222 = .ok (.iaload, 1) := by decide +kernel
theorem dL_law_223 : decode cL_law 223 = .ok (.aload_n 0, 1) := by decide +kernel
theorem dL_law_224 : decode cL_law 224 = .ok (.iload 4, 2) := by decide +kernel
theorem dL_law_226 : decode cL_law 226 = .ok (.iconst 3, 1) := by decide +kernel
theorem dL_law_227 : decode cL_law 227 = .ok (.iadd, 1) := by decide +kernel
theorem dL_law_228 : decode cL_law 228 = .ok (.iaload, 1) := by decide +kernel
theorem dL_law_229 : decode cL_law 229 = .ok (.aload_n 0, 1) := by decide +kernel
theorem dL_law_230 : decode cL_law 230 = .ok (.iload 4, 2) := by decide +kernel
theorem dL_law_232 : decode cL_law 232 = .ok (.iconst 4, 1) := by decide +kernel
theorem dL_law_233 : decode cL_law 233 = .ok (.iadd, 1) := by decide +kernel
theorem dL_law_234 : decode cL_law 234 = .ok (.iaload, 1) := by decide +kernel
theorem dL_law_235 : decode cL_law 235 = .ok (.aload_n 0, 1) := by decide +kernel
theorem dL_law_236 : decode cL_law 236 = .ok (.iload 4, 2) := by decide +kernel
theorem dL_law_238 : decode cL_law 238 = .ok (.iconst 5, 1) := by decide +kernel
theorem dL_law_239 : decode cL_law 239 = .ok (.iadd, 1) := by decide +kernel
theorem dL_law_240 : decode cL_law 240 = .ok (.iaload, 1) := by decide +kernel
theorem dL_law_241 : decode cL_law 241 = .ok (.invokevirtual 80, 3) := by decide +kernel
theorem dL_law_244 : decode cL_law 244 = .ok (.if_icmp .eq 1265, 3) := by decide +kernel
theorem dL_law_247 : decode cL_law 247 = .ok (.iconst 0, 1) := by decide +kernel
theorem dL_law_248 : decode cL_law 248 = .ok (.ireturn, 1) := by decide +kernel
theorem dL_law_249 : decode cL_law 249 = .ok (.aload_n 1, 1) := by decide +kernel
theorem dL_law_250 : decode cL_law 250 = .ok (.aload_n 0, 1) := by decide +kernel
theorem dL_law_251 : decode cL_law 251 = .ok (.iload 4, 2) := by decide +kernel
theorem dL_law_253 : decode cL_law 253 = .ok (.iconst 1, 1) := by decide +kernel
theorem dL_law_254 : decode cL_law 254 = .ok (.iadd, 1) := by decide +kernel
theorem dL_law_255 : decode cL_law 255 = .ok (.iaload, 1) := by decide +kernel
theorem dL_law_256 : decode cL_law 256 = .ok (.aload_n 3, 1) := by decide +kernel
theorem dL_law_257 : decode cL_law 257 = .ok (.invokestatic 81, 3) := by decide +kernel
theorem dL_law_260 : decode cL_law 260 = .ok (.istore 5, 2) := by decide +kernel
theorem dL_law_262 : decode cL_law 262 = .ok (.aload_n 2, 1) := by decide +kernel
theorem dL_law_263 : decode cL_law 263 = .ok (.aload_n 0, 1) := by decide +kernel
theorem dL_law_264 : decode cL_law 264 = .ok (.iload 4, 2) := by decide +kernel
theorem dL_law_266 : decode cL_law 266 = .ok (.iconst 1, 1) := by decide +kernel
theorem dL_law_267 : decode cL_law 267 = .ok (.iadd, 1) := by decide +kernel
theorem dL_law_268 : decode cL_law 268 = .ok (.iaload, 1) := by decide +kernel
theorem dL_law_269 : decode cL_law 269 = .ok (.invokevirtual 86, 3) := by decide +kernel
theorem dL_law_272 : decode cL_law 272 = .ok (.istore 6, 2) := by decide +kernel
theorem dL_law_274 : decode cL_law 274 = .ok (.aload_n 2, 1) := by decide +kernel
theorem dL_law_275 : decode cL_law 275 = .ok (.invokevirtual 87, 3) := by decide +kernel
theorem dL_law_278 : decode cL_law 278 = .ok (.iload 5, 2) := by decide +kernel
theorem dL_law_280 : decode cL_law 280 = .ok (.if_icmp .eq 5, 3) := by decide +kernel
theorem dL_law_283 : decode cL_law 283 = .ok (.iconst 0, 1) := by decide +kernel
theorem dL_law_284 : decode cL_law 284 = .ok (.ireturn, 1) := by decide +kernel
theorem dL_law_285 : decode cL_law 285 = .ok (.iload 5, 2) := by decide +kernel
theorem dL_law_287 : decode cL_law 287 = .ok (.ifCond .ne 15, 3) := by decide +kernel
theorem dL_law_290 : decode cL_law 290 = .ok (.aload_n 3, 1) := by decide +kernel
theorem dL_law_291 : decode cL_law 291 = .ok (.iconst 0, 1) := by decide +kernel
theorem dL_law_292 : decode cL_law 292 = .ok (.laload, 1) := by decide +kernel
theorem dL_law_293 : decode cL_law 293 = .ok (.iload 6, 2) := by decide +kernel
theorem dL_law_295 : decode cL_law 295 = .ok (.i2l, 1) := by decide +kernel
theorem dL_law_296 : decode cL_law 296 = .ok (.lcmp, 1) := by decide +kernel
theorem dL_law_297 : decode cL_law 297 = .ok (.ifCond .eq 5, 3) := by decide +kernel
theorem dL_law_300 : decode cL_law 300 = .ok (.iconst 0, 1) := by decide +kernel
theorem dL_law_301 : decode cL_law 301 = .ok (.ireturn, 1) := by decide +kernel
theorem dL_law_302 : decode cL_law 302 = .ok (.goto 1207, 3) := by decide +kernel
theorem dL_law_305 : decode cL_law 305 = .ok (.aload_n 1, 1) := by decide +kernel
theorem dL_law_306 : decode cL_law 306 = .ok (.invokevirtual 91, 3) := by decide +kernel
theorem dL_law_309 : decode cL_law 309 = .ok (.aload_n 2, 1) := by decide +kernel
theorem dL_law_310 : decode cL_law 310 = .ok (.invokevirtual 94, 3) := by decide +kernel
theorem dL_law_313 : decode cL_law 313 = .ok (.if_icmp .eq 1196, 3) := by decide +kernel
theorem dL_law_316 : decode cL_law 316 = .ok (.iconst 0, 1) := by decide +kernel
theorem dL_law_317 : decode cL_law 317 = .ok (.ireturn, 1) := by decide +kernel
theorem dL_law_318 : decode cL_law 318 = .ok (.aload_n 1, 1) := by decide +kernel
theorem dL_law_319 : decode cL_law 319 = .ok (.invokevirtual 95, 3) := by decide +kernel
theorem dL_law_322 : decode cL_law 322 = .ok (.aload_n 2, 1) := by decide +kernel
theorem dL_law_323 : decode cL_law 323 = .ok (.invokevirtual 98, 3) := by decide +kernel
theorem dL_law_326 : decode cL_law 326 = .ok (.if_icmp .eq 1183, 3) := by decide +kernel
theorem dL_law_329 : decode cL_law 329 = .ok (.iconst 0, 1) := by decide +kernel
theorem dL_law_330 : decode cL_law 330 = .ok (.ireturn, 1) := by decide +kernel
theorem dL_law_331 : decode cL_law 331 = .ok (.aload_n 1, 1) := by decide +kernel
theorem dL_law_332 : decode cL_law 332 = .ok (.invokevirtual 99, 3) := by decide +kernel
theorem dL_law_335 : decode cL_law 335 = .ok (.aload_n 2, 1) := by decide +kernel
theorem dL_law_336 : decode cL_law 336 = .ok (.invokevirtual 102, 3) := by decide +kernel
theorem dL_law_339 : decode cL_law 339 = .ok (.if_icmp .eq 1170, 3) := by decide +kernel
theorem dL_law_342 : decode cL_law 342 = .ok (.iconst 0, 1) := by decide +kernel
theorem dL_law_343 : decode cL_law 343 = .ok (.ireturn, 1) := by decide +kernel
theorem dL_law_344 : decode cL_law 344 = .ok (.aload_n 1, 1) := by decide +kernel
theorem dL_law_345 : decode cL_law 345 = .ok (.aload_n 0, 1) := by decide +kernel
theorem dL_law_346 : decode cL_law 346 = .ok (.iload 4, 2) := by decide +kernel
theorem dL_law_348 : decode cL_law 348 = .ok (.iconst 1, 1) := by decide +kernel
theorem dL_law_349 : decode cL_law 349 = .ok (.iadd, 1) := by decide +kernel
theorem dL_law_350 : decode cL_law 350 = .ok (.iaload, 1) := by decide +kernel
theorem dL_law_351 : decode cL_law 351 = .ok (.aload_n 3, 1) := by decide +kernel
theorem dL_law_352 : decode cL_law 352 = .ok (.invokestatic 103, 3) := by decide +kernel
theorem dL_law_355 : decode cL_law 355 = .ok (.istore 5, 2) := by decide +kernel
theorem dL_law_357 : decode cL_law 357 = .ok (.aload_n 2, 1) := by decide +kernel
theorem dL_law_358 : decode cL_law 358 = .ok (.aload_n 0, 1) := by decide +kernel
theorem dL_law_359 : decode cL_law 359 = .ok (.iload 4, 2) := by decide +kernel
theorem dL_law_361 : decode cL_law 361 = .ok (.iconst 1, 1) := by decide +kernel
theorem dL_law_362 : decode cL_law 362 = .ok (.iadd, 1) := by decide +kernel
theorem dL_law_363 : decode cL_law 363 = .ok (.iaload, 1) := by decide +kernel
theorem dL_law_364 : decode cL_law 364 = .ok (.invokevirtual 105, 3) := by decide +kernel
theorem dL_law_367 : decode cL_law 367 = .ok (.istore 6, 2) := by decide +kernel
theorem dL_law_369 : decode cL_law 369 = .ok (.aload_n 2, 1) := by decide +kernel
theorem dL_law_370 : decode cL_law 370 = .ok (.invokevirtual 87, 3) := by decide +kernel
theorem dL_law_373 : decode cL_law 373 = .ok (.iload 5, 2) := by decide +kernel
theorem dL_law_375 : decode cL_law 375 = .ok (.if_icmp .eq 5, 3) := by decide +kernel
theorem dL_law_378 : decode cL_law 378 = .ok (.iconst 0, 1) := by decide +kernel
theorem dL_law_379 : decode cL_law 379 = .ok (.ireturn, 1) := by decide +kernel
theorem dL_law_380 : decode cL_law 380 = .ok (.iload 5, 2) := by decide +kernel
theorem dL_law_382 : decode cL_law 382 = .ok (.ifCond .ne 15, 3) := by decide +kernel
theorem dL_law_385 : decode cL_law 385 = .ok (.aload_n 3, 1) := by decide +kernel
theorem dL_law_386 : decode cL_law 386 = .ok (.iconst 0, 1) := by decide +kernel
theorem dL_law_387 : decode cL_law 387 = .ok (.laload, 1) := by decide +kernel
theorem dL_law_388 : decode cL_law 388 = .ok (.iload 6, 2) := by decide +kernel
theorem dL_law_390 : decode cL_law 390 = .ok (.i2l, 1) := by decide +kernel
theorem dL_law_391 : decode cL_law 391 = .ok (.lcmp, 1) := by decide +kernel
theorem dL_law_392 : decode cL_law 392 = .ok (.ifCond .eq 5, 3) := by decide +kernel
theorem dL_law_395 : decode cL_law 395 = .ok (.iconst 0, 1) := by decide +kernel
theorem dL_law_396 : decode cL_law 396 = .ok (.ireturn, 1) := by decide +kernel
theorem dL_law_397 : decode cL_law 397 = .ok (.goto 1112, 3) := by decide +kernel
theorem dL_law_400 : decode cL_law 400 = .ok (.aload_n 1, 1) := by decide +kernel
theorem dL_law_401 : decode cL_law 401 = .ok (.aload_n 0, 1) := by decide +kernel
theorem dL_law_402 : decode cL_law 402 = .ok (.iload 4, 2) := by decide +kernel
theorem dL_law_404 : decode cL_law 404 = .ok (.iconst 1, 1) := by decide +kernel
theorem dL_law_405 : decode cL_law 405 = .ok (.iadd, 1) := by decide +kernel
theorem dL_law_406 : decode cL_law 406 = .ok (.iaload, 1) := by decide +kernel
theorem dL_law_407 : decode cL_law 407 = .ok (.aload_n 0, 1) := by decide +kernel
theorem dL_law_408 : decode cL_law 408 = .ok (.iload 4, 2) := by decide +kernel
theorem dL_law_410 : decode cL_law 410 = .ok (.iconst 2, 1) := by decide +kernel
theorem dL_law_411 : decode cL_law 411 = .ok (.iadd, 1) := by decide +kernel
theorem dL_law_412 : decode cL_law 412 = .ok (.iaload, 1) := by decide +kernel
theorem dL_law_413 : decode cL_law 413 = .ok (.aload_n 0, 1) := by decide +kernel
theorem dL_law_414 : decode cL_law 414 = .ok (.iload 4, 2) := by decide +kernel
theorem dL_law_416 : decode cL_law 416 = .ok (.iconst 3, 1) := by decide +kernel
theorem dL_law_417 : decode cL_law 417 = .ok (.iadd, 1) := by decide +kernel
theorem dL_law_418 : decode cL_law 418 = .ok (.iaload, 1) := by decide +kernel
theorem dL_law_419 : decode cL_law 419 = .ok (.aload_n 3, 1) := by decide +kernel
theorem dL_law_420 : decode cL_law 420 = .ok (.invokestatic 106, 3) := by decide +kernel
theorem dL_law_423 : decode cL_law 423 = .ok (.istore 5, 2) := by decide +kernel
theorem dL_law_425 : decode cL_law 425 = .ok (.aload_n 2, 1) := by decide +kernel
theorem dL_law_426 : decode cL_law 426 = .ok (.aload_n 0, 1) := by decide +kernel
theorem dL_law_427 : decode cL_law 427 = .ok (.iload 4, 2) := by decide +kernel
theorem dL_law_429 : decode cL_law 429 = .ok (.iconst 1, 1) := by decide +kernel
theorem dL_law_430 : decode cL_law 430 = .ok (.iadd, 1) := by decide +kernel
theorem dL_law_431 : decode cL_law 431 = .ok (.iaload, 1) := by decide +kernel
theorem dL_law_432 : decode cL_law 432 = .ok (.aload_n 0, 1) := by decide +kernel
theorem dL_law_433 : decode cL_law 433 = .ok (.iload 4, 2) := by decide +kernel
theorem dL_law_435 : decode cL_law 435 = .ok (.iconst 2, 1) := by decide +kernel
theorem dL_law_436 : decode cL_law 436 = .ok (.iadd, 1) := by decide +kernel
theorem dL_law_437 : decode cL_law 437 = .ok (.iaload, 1) := by decide +kernel
theorem dL_law_438 : decode cL_law 438 = .ok (.aload_n 0, 1) := by decide +kernel
theorem dL_law_439 : decode cL_law 439 = .ok (.iload 4, 2) := by decide +kernel
theorem dL_law_441 : decode cL_law 441 = .ok (.iconst 3, 1) := by decide +kernel
theorem dL_law_442 : decode cL_law 442 = .ok (.iadd, 1) := by decide +kernel
theorem dL_law_443 : decode cL_law 443 = .ok (.iaload, 1) := by decide +kernel
theorem dL_law_444 : decode cL_law 444 = .ok (.invokevirtual 109, 3) := by decide +kernel
theorem dL_law_447 : decode cL_law 447 = .ok (.istore 6, 2) := by decide +kernel
theorem dL_law_449 : decode cL_law 449 = .ok (.aload_n 2, 1) := by decide +kernel
theorem dL_law_450 : decode cL_law 450 = .ok (.invokevirtual 87, 3) := by decide +kernel
theorem dL_law_453 : decode cL_law 453 = .ok (.iload 5, 2) := by decide +kernel
theorem dL_law_455 : decode cL_law 455 = .ok (.if_icmp .eq 5, 3) := by decide +kernel
theorem dL_law_458 : decode cL_law 458 = .ok (.iconst 0, 1) := by decide +kernel
theorem dL_law_459 : decode cL_law 459 = .ok (.ireturn, 1) := by decide +kernel
theorem dL_law_460 : decode cL_law 460 = .ok (.iload 5, 2) := by decide +kernel
theorem dL_law_462 : decode cL_law 462 = .ok (.ifCond .ne 15, 3) := by decide +kernel
theorem dL_law_465 : decode cL_law 465 = .ok (.aload_n 3, 1) := by decide +kernel
theorem dL_law_466 : decode cL_law 466 = .ok (.iconst 0, 1) := by decide +kernel
theorem dL_law_467 : decode cL_law 467 = .ok (.laload, 1) := by decide +kernel
theorem dL_law_468 : decode cL_law 468 = .ok (.iload 6, 2) := by decide +kernel
theorem dL_law_470 : decode cL_law 470 = .ok (.i2l, 1) := by decide +kernel
theorem dL_law_471 : decode cL_law 471 = .ok (.lcmp, 1) := by decide +kernel
theorem dL_law_472 : decode cL_law 472 = .ok (.ifCond .eq 5, 3) := by decide +kernel
theorem dL_law_475 : decode cL_law 475 = .ok (.iconst 0, 1) := by decide +kernel
theorem dL_law_476 : decode cL_law 476 = .ok (.ireturn, 1) := by decide +kernel
theorem dL_law_477 : decode cL_law 477 = .ok (.goto 1032, 3) := by decide +kernel
theorem dL_law_480 : decode cL_law 480 = .ok (.aload_n 1, 1) := by decide +kernel
theorem dL_law_481 : decode cL_law 481 = .ok (.aload_n 0, 1) := by decide +kernel
theorem dL_law_482 : decode cL_law 482 = .ok (.iload 4, 2) := by decide +kernel
theorem dL_law_484 : decode cL_law 484 = .ok (.iconst 1, 1) := by decide +kernel
theorem dL_law_485 : decode cL_law 485 = .ok (.iadd, 1) := by decide +kernel
theorem dL_law_486 : decode cL_law 486 = .ok (.iaload, 1) := by decide +kernel
theorem dL_law_487 : decode cL_law 487 = .ok (.aload_n 3, 1) := by decide +kernel
theorem dL_law_488 : decode cL_law 488 = .ok (.invokestatic 110, 3) := by decide +kernel
theorem dL_law_491 : decode cL_law 491 = .ok (.istore 5, 2) := by decide +kernel
theorem dL_law_493 : decode cL_law 493 = .ok (.aload_n 2, 1) := by decide +kernel
theorem dL_law_494 : decode cL_law 494 = .ok (.aload_n 0, 1) := by decide +kernel
theorem dL_law_495 : decode cL_law 495 = .ok (.iload 4, 2) := by decide +kernel
theorem dL_law_497 : decode cL_law 497 = .ok (.iconst 1, 1) := by decide +kernel
theorem dL_law_498 : decode cL_law 498 = .ok (.iadd, 1) := by decide +kernel
theorem dL_law_499 : decode cL_law 499 = .ok (.iaload, 1) := by decide +kernel
theorem dL_law_500 : decode cL_law 500 = .ok (.invokevirtual 112, 3) := by decide +kernel
theorem dL_law_503 : decode cL_law 503 = .ok (.istore 6, 2) := by decide +kernel
theorem dL_law_505 : decode cL_law 505 = .ok (.aload_n 2, 1) := by decide +kernel
theorem dL_law_506 : decode cL_law 506 = .ok (.invokevirtual 87, 3) := by decide +kernel
theorem dL_law_509 : decode cL_law 509 = .ok (.iload 5, 2) := by decide +kernel
theorem dL_law_511 : decode cL_law 511 = .ok (.if_icmp .eq 5, 3) := by decide +kernel
theorem dL_law_514 : decode cL_law 514 = .ok (.iconst 0, 1) := by decide +kernel
theorem dL_law_515 : decode cL_law 515 = .ok (.ireturn, 1) := by decide +kernel
theorem dL_law_516 : decode cL_law 516 = .ok (.iload 5, 2) := by decide +kernel
theorem dL_law_518 : decode cL_law 518 = .ok (.ifCond .ne 15, 3) := by decide +kernel
theorem dL_law_521 : decode cL_law 521 = .ok (.aload_n 3, 1) := by decide +kernel
theorem dL_law_522 : decode cL_law 522 = .ok (.iconst 0, 1) := by decide +kernel
theorem dL_law_523 : decode cL_law 523 = .ok (.laload, 1) := by decide +kernel
theorem dL_law_524 : decode cL_law 524 = .ok (.iload 6, 2) := by decide +kernel
theorem dL_law_526 : decode cL_law 526 = .ok (.i2l, 1) := by decide +kernel
theorem dL_law_527 : decode cL_law 527 = .ok (.lcmp, 1) := by decide +kernel
theorem dL_law_528 : decode cL_law 528 = .ok (.ifCond .eq 5, 3) := by decide +kernel
theorem dL_law_531 : decode cL_law 531 = .ok (.iconst 0, 1) := by decide +kernel
theorem dL_law_532 : decode cL_law 532 = .ok (.ireturn, 1) := by decide +kernel
theorem dL_law_533 : decode cL_law 533 = .ok (.goto 976, 3) := by decide +kernel
theorem dL_law_536 : decode cL_law 536 = .ok (.aload_n 1, 1) := by decide +kernel
theorem dL_law_537 : decode cL_law 537 = .ok (.aload_n 0, 1) := by decide +kernel
theorem dL_law_538 : decode cL_law 538 = .ok (.iload 4, 2) := by decide +kernel
theorem dL_law_540 : decode cL_law 540 = .ok (.iconst 1, 1) := by decide +kernel
theorem dL_law_541 : decode cL_law 541 = .ok (.iadd, 1) := by decide +kernel
theorem dL_law_542 : decode cL_law 542 = .ok (.iaload, 1) := by decide +kernel
theorem dL_law_543 : decode cL_law 543 = .ok (.aload_n 0, 1) := by decide +kernel
theorem dL_law_544 : decode cL_law 544 = .ok (.iload 4, 2) := by decide +kernel
theorem dL_law_546 : decode cL_law 546 = .ok (.iconst 2, 1) := by decide +kernel
theorem dL_law_547 : decode cL_law 547 = .ok (.iadd, 1) := by decide +kernel
theorem dL_law_548 : decode cL_law 548 = .ok (.iaload, 1) := by decide +kernel
theorem dL_law_549 : decode cL_law 549 = .ok (.aload_n 3, 1) := by decide +kernel
theorem dL_law_550 : decode cL_law 550 = .ok (.invokestatic 113, 3) := by decide +kernel
theorem dL_law_553 : decode cL_law 553 = .ok (.istore 5, 2) := by decide +kernel
theorem dL_law_555 : decode cL_law 555 = .ok (.aload_n 2, 1) := by decide +kernel
theorem dL_law_556 : decode cL_law 556 = .ok (.aload_n 0, 1) := by decide +kernel
theorem dL_law_557 : decode cL_law 557 = .ok (.iload 4, 2) := by decide +kernel
theorem dL_law_559 : decode cL_law 559 = .ok (.iconst 1, 1) := by decide +kernel
theorem dL_law_560 : decode cL_law 560 = .ok (.iadd, 1) := by decide +kernel
theorem dL_law_561 : decode cL_law 561 = .ok (.iaload, 1) := by decide +kernel
theorem dL_law_562 : decode cL_law 562 = .ok (.aload_n 0, 1) := by decide +kernel
theorem dL_law_563 : decode cL_law 563 = .ok (.iload 4, 2) := by decide +kernel
theorem dL_law_565 : decode cL_law 565 = .ok (.iconst 2, 1) := by decide +kernel
theorem dL_law_566 : decode cL_law 566 = .ok (.iadd, 1) := by decide +kernel
theorem dL_law_567 : decode cL_law 567 = .ok (.iaload, 1) := by decide +kernel
theorem dL_law_568 : decode cL_law 568 = .ok (.invokevirtual 116, 3) := by decide +kernel
theorem dL_law_571 : decode cL_law 571 = .ok (.istore 6, 2) := by decide +kernel
theorem dL_law_573 : decode cL_law 573 = .ok (.aload_n 2, 1) := by decide +kernel
theorem dL_law_574 : decode cL_law 574 = .ok (.invokevirtual 87, 3) := by decide +kernel
theorem dL_law_577 : decode cL_law 577 = .ok (.iload 5, 2) := by decide +kernel
theorem dL_law_579 : decode cL_law 579 = .ok (.if_icmp .eq 5, 3) := by decide +kernel
theorem dL_law_582 : decode cL_law 582 = .ok (.iconst 0, 1) := by decide +kernel
theorem dL_law_583 : decode cL_law 583 = .ok (.ireturn, 1) := by decide +kernel
theorem dL_law_584 : decode cL_law 584 = .ok (.iload 5, 2) := by decide +kernel
theorem dL_law_586 : decode cL_law 586 = .ok (.ifCond .ne 15, 3) := by decide +kernel
theorem dL_law_589 : decode cL_law 589 = .ok (.aload_n 3, 1) := by decide +kernel
theorem dL_law_590 : decode cL_law 590 = .ok (.iconst 0, 1) := by decide +kernel
theorem dL_law_591 : decode cL_law 591 = .ok (.laload, 1) := by decide +kernel
theorem dL_law_592 : decode cL_law 592 = .ok (.iload 6, 2) := by decide +kernel
theorem dL_law_594 : decode cL_law 594 = .ok (.i2l, 1) := by decide +kernel
theorem dL_law_595 : decode cL_law 595 = .ok (.lcmp, 1) := by decide +kernel
theorem dL_law_596 : decode cL_law 596 = .ok (.ifCond .eq 5, 3) := by decide +kernel
theorem dL_law_599 : decode cL_law 599 = .ok (.iconst 0, 1) := by decide +kernel
theorem dL_law_600 : decode cL_law 600 = .ok (.ireturn, 1) := by decide +kernel
theorem dL_law_601 : decode cL_law 601 = .ok (.goto 908, 3) := by decide +kernel
theorem dL_law_604 : decode cL_law 604 = .ok (.aload_n 1, 1) := by decide +kernel
theorem dL_law_605 : decode cL_law 605 = .ok (.aload_n 0, 1) := by decide +kernel
theorem dL_law_606 : decode cL_law 606 = .ok (.iload 4, 2) := by decide +kernel
theorem dL_law_608 : decode cL_law 608 = .ok (.iconst 1, 1) := by decide +kernel
theorem dL_law_609 : decode cL_law 609 = .ok (.iadd, 1) := by decide +kernel
theorem dL_law_610 : decode cL_law 610 = .ok (.iaload, 1) := by decide +kernel
theorem dL_law_611 : decode cL_law 611 = .ok (.aload_n 0, 1) := by decide +kernel
theorem dL_law_612 : decode cL_law 612 = .ok (.iload 4, 2) := by decide +kernel
theorem dL_law_614 : decode cL_law 614 = .ok (.iconst 2, 1) := by decide +kernel
theorem dL_law_615 : decode cL_law 615 = .ok (.iadd, 1) := by decide +kernel
theorem dL_law_616 : decode cL_law 616 = .ok (.iaload, 1) := by decide +kernel
theorem dL_law_617 : decode cL_law 617 = .ok (.aload_n 3, 1) := by decide +kernel
theorem dL_law_618 : decode cL_law 618 = .ok (.invokestatic 117, 3) := by decide +kernel
theorem dL_law_621 : decode cL_law 621 = .ok (.istore 5, 2) := by decide +kernel
theorem dL_law_623 : decode cL_law 623 = .ok (.aload_n 2, 1) := by decide +kernel
theorem dL_law_624 : decode cL_law 624 = .ok (.aload_n 0, 1) := by decide +kernel
theorem dL_law_625 : decode cL_law 625 = .ok (.iload 4, 2) := by decide +kernel
theorem dL_law_627 : decode cL_law 627 = .ok (.iconst 1, 1) := by decide +kernel
theorem dL_law_628 : decode cL_law 628 = .ok (.iadd, 1) := by decide +kernel
theorem dL_law_629 : decode cL_law 629 = .ok (.iaload, 1) := by decide +kernel
theorem dL_law_630 : decode cL_law 630 = .ok (.aload_n 0, 1) := by decide +kernel
theorem dL_law_631 : decode cL_law 631 = .ok (.iload 4, 2) := by decide +kernel
theorem dL_law_633 : decode cL_law 633 = .ok (.iconst 2, 1) := by decide +kernel
theorem dL_law_634 : decode cL_law 634 = .ok (.iadd, 1) := by decide +kernel
theorem dL_law_635 : decode cL_law 635 = .ok (.iaload, 1) := by decide +kernel
theorem dL_law_636 : decode cL_law 636 = .ok (.invokevirtual 119, 3) := by decide +kernel
theorem dL_law_639 : decode cL_law 639 = .ok (.istore 6, 2) := by decide +kernel
theorem dL_law_641 : decode cL_law 641 = .ok (.aload_n 2, 1) := by decide +kernel
theorem dL_law_642 : decode cL_law 642 = .ok (.invokevirtual 87, 3) := by decide +kernel
theorem dL_law_645 : decode cL_law 645 = .ok (.iload 5, 2) := by decide +kernel
theorem dL_law_647 : decode cL_law 647 = .ok (.if_icmp .eq 5, 3) := by decide +kernel
theorem dL_law_650 : decode cL_law 650 = .ok (.iconst 0, 1) := by decide +kernel
theorem dL_law_651 : decode cL_law 651 = .ok (.ireturn, 1) := by decide +kernel
theorem dL_law_652 : decode cL_law 652 = .ok (.iload 5, 2) := by decide +kernel
theorem dL_law_654 : decode cL_law 654 = .ok (.ifCond .ne 15, 3) := by decide +kernel
theorem dL_law_657 : decode cL_law 657 = .ok (.aload_n 3, 1) := by decide +kernel
theorem dL_law_658 : decode cL_law 658 = .ok (.iconst 0, 1) := by decide +kernel
theorem dL_law_659 : decode cL_law 659 = .ok (.laload, 1) := by decide +kernel
theorem dL_law_660 : decode cL_law 660 = .ok (.iload 6, 2) := by decide +kernel
theorem dL_law_662 : decode cL_law 662 = .ok (.i2l, 1) := by decide +kernel
theorem dL_law_663 : decode cL_law 663 = .ok (.lcmp, 1) := by decide +kernel
theorem dL_law_664 : decode cL_law 664 = .ok (.ifCond .eq 5, 3) := by decide +kernel
theorem dL_law_667 : decode cL_law 667 = .ok (.iconst 0, 1) := by decide +kernel
theorem dL_law_668 : decode cL_law 668 = .ok (.ireturn, 1) := by decide +kernel
theorem dL_law_669 : decode cL_law 669 = .ok (.goto 840, 3) := by decide +kernel
theorem dL_law_672 : decode cL_law 672 = .ok (.aload_n 1, 1) := by decide +kernel
theorem dL_law_673 : decode cL_law 673 = .ok (.aload_n 0, 1) := by decide +kernel
theorem dL_law_674 : decode cL_law 674 = .ok (.iload 4, 2) := by decide +kernel
theorem dL_law_676 : decode cL_law 676 = .ok (.iconst 1, 1) := by decide +kernel
theorem dL_law_677 : decode cL_law 677 = .ok (.iadd, 1) := by decide +kernel
theorem dL_law_678 : decode cL_law 678 = .ok (.iaload, 1) := by decide +kernel
theorem dL_law_679 : decode cL_law 679 = .ok (.aload_n 0, 1) := by decide +kernel
theorem dL_law_680 : decode cL_law 680 = .ok (.iload 4, 2) := by decide +kernel
theorem dL_law_682 : decode cL_law 682 = .ok (.iconst 2, 1) := by decide +kernel
theorem dL_law_683 : decode cL_law 683 = .ok (.iadd, 1) := by decide +kernel
theorem dL_law_684 : decode cL_law 684 = .ok (.iaload, 1) := by decide +kernel
theorem dL_law_685 : decode cL_law 685 = .ok (.aload_n 3, 1) := by decide +kernel
theorem dL_law_686 : decode cL_law 686 = .ok (.invokestatic 120, 3) := by decide +kernel
theorem dL_law_689 : decode cL_law 689 = .ok (.istore 5, 2) := by decide +kernel
theorem dL_law_691 : decode cL_law 691 = .ok (.aload_n 2, 1) := by decide +kernel
theorem dL_law_692 : decode cL_law 692 = .ok (.aload_n 0, 1) := by decide +kernel
theorem dL_law_693 : decode cL_law 693 = .ok (.iload 4, 2) := by decide +kernel
theorem dL_law_695 : decode cL_law 695 = .ok (.iconst 1, 1) := by decide +kernel
theorem dL_law_696 : decode cL_law 696 = .ok (.iadd, 1) := by decide +kernel
theorem dL_law_697 : decode cL_law 697 = .ok (.iaload, 1) := by decide +kernel
theorem dL_law_698 : decode cL_law 698 = .ok (.aload_n 0, 1) := by decide +kernel
theorem dL_law_699 : decode cL_law 699 = .ok (.iload 4, 2) := by decide +kernel
theorem dL_law_701 : decode cL_law 701 = .ok (.iconst 2, 1) := by decide +kernel
theorem dL_law_702 : decode cL_law 702 = .ok (.iadd, 1) := by decide +kernel
theorem dL_law_703 : decode cL_law 703 = .ok (.iaload, 1) := by decide +kernel
theorem dL_law_704 : decode cL_law 704 = .ok (.invokevirtual 122, 3) := by decide +kernel
theorem dL_law_707 : decode cL_law 707 = .ok (.istore 6, 2) := by decide +kernel
theorem dL_law_709 : decode cL_law 709 = .ok (.aload_n 2, 1) := by decide +kernel
theorem dL_law_710 : decode cL_law 710 = .ok (.invokevirtual 87, 3) := by decide +kernel
theorem dL_law_713 : decode cL_law 713 = .ok (.iload 5, 2) := by decide +kernel
theorem dL_law_715 : decode cL_law 715 = .ok (.if_icmp .eq 5, 3) := by decide +kernel
theorem dL_law_718 : decode cL_law 718 = .ok (.iconst 0, 1) := by decide +kernel
theorem dL_law_719 : decode cL_law 719 = .ok (.ireturn, 1) := by decide +kernel
theorem dL_law_720 : decode cL_law 720 = .ok (.iload 5, 2) := by decide +kernel
theorem dL_law_722 : decode cL_law 722 = .ok (.ifCond .ne 15, 3) := by decide +kernel
theorem dL_law_725 : decode cL_law 725 = .ok (.aload_n 3, 1) := by decide +kernel
theorem dL_law_726 : decode cL_law 726 = .ok (.iconst 0, 1) := by decide +kernel
theorem dL_law_727 : decode cL_law 727 = .ok (.laload, 1) := by decide +kernel
theorem dL_law_728 : decode cL_law 728 = .ok (.iload 6, 2) := by decide +kernel
theorem dL_law_730 : decode cL_law 730 = .ok (.i2l, 1) := by decide +kernel
theorem dL_law_731 : decode cL_law 731 = .ok (.lcmp, 1) := by decide +kernel
theorem dL_law_732 : decode cL_law 732 = .ok (.ifCond .eq 5, 3) := by decide +kernel
theorem dL_law_735 : decode cL_law 735 = .ok (.iconst 0, 1) := by decide +kernel
theorem dL_law_736 : decode cL_law 736 = .ok (.ireturn, 1) := by decide +kernel
theorem dL_law_737 : decode cL_law 737 = .ok (.goto 772, 3) := by decide +kernel
theorem dL_law_740 : decode cL_law 740 = .ok (.aload_n 1, 1) := by decide +kernel
theorem dL_law_741 : decode cL_law 741 = .ok (.aload_n 0, 1) := by decide +kernel
theorem dL_law_742 : decode cL_law 742 = .ok (.iload 4, 2) := by decide +kernel
theorem dL_law_744 : decode cL_law 744 = .ok (.iconst 1, 1) := by decide +kernel
theorem dL_law_745 : decode cL_law 745 = .ok (.iadd, 1) := by decide +kernel
theorem dL_law_746 : decode cL_law 746 = .ok (.iaload, 1) := by decide +kernel
theorem dL_law_747 : decode cL_law 747 = .ok (.aload_n 3, 1) := by decide +kernel
theorem dL_law_748 : decode cL_law 748 = .ok (.invokestatic 123, 3) := by decide +kernel
theorem dL_law_751 : decode cL_law 751 = .ok (.istore 5, 2) := by decide +kernel
theorem dL_law_753 : decode cL_law 753 = .ok (.aload_n 2, 1) := by decide +kernel
theorem dL_law_754 : decode cL_law 754 = .ok (.aload_n 0, 1) := by decide +kernel
theorem dL_law_755 : decode cL_law 755 = .ok (.iload 4, 2) := by decide +kernel
theorem dL_law_757 : decode cL_law 757 = .ok (.iconst 1, 1) := by decide +kernel
theorem dL_law_758 : decode cL_law 758 = .ok (.iadd, 1) := by decide +kernel
theorem dL_law_759 : decode cL_law 759 = .ok (.iaload, 1) := by decide +kernel
theorem dL_law_760 : decode cL_law 760 = .ok (.invokevirtual 125, 3) := by decide +kernel
theorem dL_law_763 : decode cL_law 763 = .ok (.istore 6, 2) := by decide +kernel
theorem dL_law_765 : decode cL_law 765 = .ok (.aload_n 2, 1) := by decide +kernel
theorem dL_law_766 : decode cL_law 766 = .ok (.invokevirtual 87, 3) := by decide +kernel
theorem dL_law_769 : decode cL_law 769 = .ok (.iload 5, 2) := by decide +kernel
theorem dL_law_771 : decode cL_law 771 = .ok (.if_icmp .eq 5, 3) := by decide +kernel
theorem dL_law_774 : decode cL_law 774 = .ok (.iconst 0, 1) := by decide +kernel
theorem dL_law_775 : decode cL_law 775 = .ok (.ireturn, 1) := by decide +kernel
theorem dL_law_776 : decode cL_law 776 = .ok (.iload 5, 2) := by decide +kernel
theorem dL_law_778 : decode cL_law 778 = .ok (.ifCond .ne 15, 3) := by decide +kernel
theorem dL_law_781 : decode cL_law 781 = .ok (.aload_n 3, 1) := by decide +kernel
theorem dL_law_782 : decode cL_law 782 = .ok (.iconst 0, 1) := by decide +kernel
theorem dL_law_783 : decode cL_law 783 = .ok (.laload, 1) := by decide +kernel
theorem dL_law_784 : decode cL_law 784 = .ok (.iload 6, 2) := by decide +kernel
theorem dL_law_786 : decode cL_law 786 = .ok (.i2l, 1) := by decide +kernel
theorem dL_law_787 : decode cL_law 787 = .ok (.lcmp, 1) := by decide +kernel
theorem dL_law_788 : decode cL_law 788 = .ok (.ifCond .eq 5, 3) := by decide +kernel
theorem dL_law_791 : decode cL_law 791 = .ok (.iconst 0, 1) := by decide +kernel
theorem dL_law_792 : decode cL_law 792 = .ok (.ireturn, 1) := by decide +kernel
theorem dL_law_793 : decode cL_law 793 = .ok (.goto 716, 3) := by decide +kernel
theorem dL_law_796 : decode cL_law 796 = .ok (.aload_n 1, 1) := by decide +kernel
theorem dL_law_797 : decode cL_law 797 = .ok (.invokevirtual 126, 3) := by decide +kernel
theorem dL_law_800 : decode cL_law 800 = .ok (.aload_n 2, 1) := by decide +kernel
theorem dL_law_801 : decode cL_law 801 = .ok (.invokevirtual 129, 3) := by decide +kernel
theorem dL_law_804 : decode cL_law 804 = .ok (.if_icmp .eq 705, 3) := by decide +kernel
theorem dL_law_807 : decode cL_law 807 = .ok (.iconst 0, 1) := by decide +kernel
theorem dL_law_808 : decode cL_law 808 = .ok (.ireturn, 1) := by decide +kernel
theorem dL_law_809 : decode cL_law 809 = .ok (.aload_n 1, 1) := by decide +kernel
theorem dL_law_810 : decode cL_law 810 = .ok (.aload_n 0, 1) := by decide +kernel
theorem dL_law_811 : decode cL_law 811 = .ok (.iload 4, 2) := by decide +kernel
theorem dL_law_813 : decode cL_law 813 = .ok (.iconst 1, 1) := by decide +kernel
theorem dL_law_814 : decode cL_law 814 = .ok (.iadd, 1) := by decide +kernel
theorem dL_law_815 : decode cL_law 815 = .ok (.iaload, 1) := by decide +kernel
theorem dL_law_816 : decode cL_law 816 = .ok (.aload_n 3, 1) := by decide +kernel
theorem dL_law_817 : decode cL_law 817 = .ok (.invokestatic 130, 3) := by decide +kernel
theorem dL_law_820 : decode cL_law 820 = .ok (.istore 5, 2) := by decide +kernel
theorem dL_law_822 : decode cL_law 822 = .ok (.aload_n 2, 1) := by decide +kernel
theorem dL_law_823 : decode cL_law 823 = .ok (.aload_n 0, 1) := by decide +kernel
theorem dL_law_824 : decode cL_law 824 = .ok (.iload 4, 2) := by decide +kernel
theorem dL_law_826 : decode cL_law 826 = .ok (.iconst 1, 1) := by decide +kernel
theorem dL_law_827 : decode cL_law 827 = .ok (.iadd, 1) := by decide +kernel
theorem dL_law_828 : decode cL_law 828 = .ok (.iaload, 1) := by decide +kernel
theorem dL_law_829 : decode cL_law 829 = .ok (.invokevirtual 132, 3) := by decide +kernel
theorem dL_law_832 : decode cL_law 832 = .ok (.istore 6, 2) := by decide +kernel
theorem dL_law_834 : decode cL_law 834 = .ok (.aload_n 2, 1) := by decide +kernel
theorem dL_law_835 : decode cL_law 835 = .ok (.invokevirtual 87, 3) := by decide +kernel
theorem dL_law_838 : decode cL_law 838 = .ok (.iload 5, 2) := by decide +kernel
theorem dL_law_840 : decode cL_law 840 = .ok (.if_icmp .eq 5, 3) := by decide +kernel
theorem dL_law_843 : decode cL_law 843 = .ok (.iconst 0, 1) := by decide +kernel
theorem dL_law_844 : decode cL_law 844 = .ok (.ireturn, 1) := by decide +kernel
theorem dL_law_845 : decode cL_law 845 = .ok (.iload 5, 2) := by decide +kernel
theorem dL_law_847 : decode cL_law 847 = .ok (.ifCond .ne 15, 3) := by decide +kernel
theorem dL_law_850 : decode cL_law 850 = .ok (.aload_n 3, 1) := by decide +kernel
theorem dL_law_851 : decode cL_law 851 = .ok (.iconst 0, 1) := by decide +kernel
theorem dL_law_852 : decode cL_law 852 = .ok (.laload, 1) := by decide +kernel
theorem dL_law_853 : decode cL_law 853 = .ok (.iload 6, 2) := by decide +kernel
theorem dL_law_855 : decode cL_law 855 = .ok (.i2l, 1) := by decide +kernel
theorem dL_law_856 : decode cL_law 856 = .ok (.lcmp, 1) := by decide +kernel
theorem dL_law_857 : decode cL_law 857 = .ok (.ifCond .eq 5, 3) := by decide +kernel
theorem dL_law_860 : decode cL_law 860 = .ok (.iconst 0, 1) := by decide +kernel
theorem dL_law_861 : decode cL_law 861 = .ok (.ireturn, 1) := by decide +kernel
theorem dL_law_862 : decode cL_law 862 = .ok (.goto 647, 3) := by decide +kernel
theorem dL_law_865 : decode cL_law 865 = .ok (.aload_n 1, 1) := by decide +kernel
theorem dL_law_866 : decode cL_law 866 = .ok (.invokevirtual 133, 3) := by decide +kernel
theorem dL_law_869 : decode cL_law 869 = .ok (.aload_n 2, 1) := by decide +kernel
theorem dL_law_870 : decode cL_law 870 = .ok (.invokevirtual 136, 3) := by decide +kernel
theorem dL_law_873 : decode cL_law 873 = .ok (.if_icmp .eq 636, 3) := by decide +kernel
theorem dL_law_876 : decode cL_law 876 = .ok (.iconst 0, 1) := by decide +kernel
theorem dL_law_877 : decode cL_law 877 = .ok (.ireturn, 1) := by decide +kernel
theorem dL_law_878 : decode cL_law 878 = .ok (.aload_n 1, 1) := by decide +kernel
theorem dL_law_879 : decode cL_law 879 = .ok (.aload_n 0, 1) := by decide +kernel
theorem dL_law_880 : decode cL_law 880 = .ok (.iload 4, 2) := by decide +kernel
theorem dL_law_882 : decode cL_law 882 = .ok (.iconst 1, 1) := by decide +kernel
theorem dL_law_883 : decode cL_law 883 = .ok (.iadd, 1) := by decide +kernel
theorem dL_law_884 : decode cL_law 884 = .ok (.iaload, 1) := by decide +kernel
theorem dL_law_885 : decode cL_law 885 = .ok (.aload_n 3, 1) := by decide +kernel
theorem dL_law_886 : decode cL_law 886 = .ok (.invokestatic 137, 3) := by decide +kernel
theorem dL_law_889 : decode cL_law 889 = .ok (.istore 5, 2) := by decide +kernel
theorem dL_law_891 : decode cL_law 891 = .ok (.aload_n 2, 1) := by decide +kernel
theorem dL_law_892 : decode cL_law 892 = .ok (.aload_n 0, 1) := by decide +kernel
theorem dL_law_893 : decode cL_law 893 = .ok (.iload 4, 2) := by decide +kernel
theorem dL_law_895 : decode cL_law 895 = .ok (.iconst 1, 1) := by decide +kernel
theorem dL_law_896 : decode cL_law 896 = .ok (.iadd, 1) := by decide +kernel
theorem dL_law_897 : decode cL_law 897 = .ok (.iaload, 1) := by decide +kernel
theorem dL_law_898 : decode cL_law 898 = .ok (.invokevirtual 139, 3) := by decide +kernel
theorem dL_law_901 : decode cL_law 901 = .ok (.istore 6, 2) := by decide +kernel
theorem dL_law_903 : decode cL_law 903 = .ok (.aload_n 2, 1) := by decide +kernel
theorem dL_law_904 : decode cL_law 904 = .ok (.invokevirtual 87, 3) := by decide +kernel
theorem dL_law_907 : decode cL_law 907 = .ok (.iload 5, 2) := by decide +kernel
theorem dL_law_909 : decode cL_law 909 = .ok (.if_icmp .eq 5, 3) := by decide +kernel
theorem dL_law_912 : decode cL_law 912 = .ok (.iconst 0, 1) := by decide +kernel
theorem dL_law_913 : decode cL_law 913 = .ok (.ireturn, 1) := by decide +kernel
theorem dL_law_914 : decode cL_law 914 = .ok (.iload 5, 2) := by decide +kernel
theorem dL_law_916 : decode cL_law 916 = .ok (.ifCond .ne 15, 3) := by decide +kernel
theorem dL_law_919 : decode cL_law 919 = .ok (.aload_n 3, 1) := by decide +kernel
theorem dL_law_920 : decode cL_law 920 = .ok (.iconst 0, 1) := by decide +kernel
theorem dL_law_921 : decode cL_law 921 = .ok (.laload, 1) := by decide +kernel
theorem dL_law_922 : decode cL_law 922 = .ok (.iload 6, 2) := by decide +kernel
theorem dL_law_924 : decode cL_law 924 = .ok (.i2l, 1) := by decide +kernel
theorem dL_law_925 : decode cL_law 925 = .ok (.lcmp, 1) := by decide +kernel
theorem dL_law_926 : decode cL_law 926 = .ok (.ifCond .eq 5, 3) := by decide +kernel
theorem dL_law_929 : decode cL_law 929 = .ok (.iconst 0, 1) := by decide +kernel
theorem dL_law_930 : decode cL_law 930 = .ok (.ireturn, 1) := by decide +kernel
theorem dL_law_931 : decode cL_law 931 = .ok (.goto 578, 3) := by decide +kernel
theorem dL_law_934 : decode cL_law 934 = .ok (.aload_n 1, 1) := by decide +kernel
theorem dL_law_935 : decode cL_law 935 = .ok (.invokevirtual 140, 3) := by decide +kernel
theorem dL_law_938 : decode cL_law 938 = .ok (.aload_n 2, 1) := by decide +kernel
theorem dL_law_939 : decode cL_law 939 = .ok (.invokevirtual 143, 3) := by decide +kernel
theorem dL_law_942 : decode cL_law 942 = .ok (.if_icmp .eq 567, 3) := by decide +kernel
theorem dL_law_945 : decode cL_law 945 = .ok (.iconst 0, 1) := by decide +kernel
theorem dL_law_946 : decode cL_law 946 = .ok (.ireturn, 1) := by decide +kernel
theorem dL_law_947 : decode cL_law 947 = .ok (.aload_n 1, 1) := by decide +kernel
theorem dL_law_948 : decode cL_law 948 = .ok (.aload_n 0, 1) := by decide +kernel
theorem dL_law_949 : decode cL_law 949 = .ok (.iload 4, 2) := by decide +kernel
theorem dL_law_951 : decode cL_law 951 = .ok (.iconst 1, 1) := by decide +kernel
theorem dL_law_952 : decode cL_law 952 = .ok (.iadd, 1) := by decide +kernel
theorem dL_law_953 : decode cL_law 953 = .ok (.iaload, 1) := by decide +kernel
theorem dL_law_954 : decode cL_law 954 = .ok (.aload_n 3, 1) := by decide +kernel
theorem dL_law_955 : decode cL_law 955 = .ok (.invokestatic 144, 3) := by decide +kernel
theorem dL_law_958 : decode cL_law 958 = .ok (.istore 5, 2) := by decide +kernel
theorem dL_law_960 : decode cL_law 960 = .ok (.aload_n 2, 1) := by decide +kernel
theorem dL_law_961 : decode cL_law 961 = .ok (.aload_n 0, 1) := by decide +kernel
theorem dL_law_962 : decode cL_law 962 = .ok (.iload 4, 2) := by decide +kernel
theorem dL_law_964 : decode cL_law 964 = .ok (.iconst 1, 1) := by decide +kernel
theorem dL_law_965 : decode cL_law 965 = .ok (.iadd, 1) := by decide +kernel
theorem dL_law_966 : decode cL_law 966 = .ok (.iaload, 1) := by decide +kernel
theorem dL_law_967 : decode cL_law 967 = .ok (.invokevirtual 146, 3) := by decide +kernel
theorem dL_law_970 : decode cL_law 970 = .ok (.istore 6, 2) := by decide +kernel
theorem dL_law_972 : decode cL_law 972 = .ok (.aload_n 2, 1) := by decide +kernel
theorem dL_law_973 : decode cL_law 973 = .ok (.invokevirtual 87, 3) := by decide +kernel
theorem dL_law_976 : decode cL_law 976 = .ok (.iload 5, 2) := by decide +kernel
theorem dL_law_978 : decode cL_law 978 = .ok (.if_icmp .eq 5, 3) := by decide +kernel
theorem dL_law_981 : decode cL_law 981 = .ok (.iconst 0, 1) := by decide +kernel
theorem dL_law_982 : decode cL_law 982 = .ok (.ireturn, 1) := by decide +kernel
theorem dL_law_983 : decode cL_law 983 = .ok (.iload 5, 2) := by decide +kernel
theorem dL_law_985 : decode cL_law 985 = .ok (.ifCond .ne 15, 3) := by decide +kernel
theorem dL_law_988 : decode cL_law 988 = .ok (.aload_n 3, 1) := by decide +kernel
theorem dL_law_989 : decode cL_law 989 = .ok (.iconst 0, 1) := by decide +kernel
theorem dL_law_990 : decode cL_law 990 = .ok (.laload, 1) := by decide +kernel
theorem dL_law_991 : decode cL_law 991 = .ok (.iload 6, 2) := by decide +kernel
theorem dL_law_993 : decode cL_law 993 = .ok (.i2l, 1) := by decide +kernel
theorem dL_law_994 : decode cL_law 994 = .ok (.lcmp, 1) := by decide +kernel
theorem dL_law_995 : decode cL_law 995 = .ok (.ifCond .eq 5, 3) := by decide +kernel
theorem dL_law_998 : decode cL_law 998 = .ok (.iconst 0, 1) := by decide +kernel
theorem dL_law_999 : decode cL_law 999 = .ok (.ireturn, 1) := by decide +kernel
theorem dL_law_1000 : decode cL_law 1000 = .ok (.goto 509, 3) := by decide +kernel
theorem dL_law_1003 : decode cL_law 1003 = .ok (.aload_n 1, 1) := by decide +kernel
theorem dL_law_1004 : decode cL_law 1004 = .ok (.invokevirtual 147, 3) := by decide +kernel
theorem dL_law_1007 : decode cL_law 1007 = .ok (.aload_n 2, 1) := by decide +kernel
theorem dL_law_1008 : decode cL_law 1008 = .ok (.invokevirtual 150, 3) := by decide +kernel
theorem dL_law_1011 : decode cL_law 1011 = .ok (.if_icmp .eq 498, 3) := by decide +kernel
theorem dL_law_1014 : decode cL_law 1014 = .ok (.iconst 0, 1) := by decide +kernel
theorem dL_law_1015 : decode cL_law 1015 = .ok (.ireturn, 1) := by decide +kernel
theorem dL_law_1016 : decode cL_law 1016 = .ok (.aload_n 1, 1) := by decide +kernel
theorem dL_law_1017 : decode cL_law 1017 = .ok (.invokevirtual 151, 3) := by decide +kernel
theorem dL_law_1020 : decode cL_law 1020 = .ok (.aload_n 2, 1) := by decide +kernel
theorem dL_law_1021 : decode cL_law 1021 = .ok (.invokevirtual 154, 3) := by decide +kernel
theorem dL_law_1024 : decode cL_law 1024 = .ok (.if_icmp .eq 485, 3) := by decide +kernel
theorem dL_law_1027 : decode cL_law 1027 = .ok (.iconst 0, 1) := by decide +kernel
theorem dL_law_1028 : decode cL_law 1028 = .ok (.ireturn, 1) := by decide +kernel
theorem dL_law_1029 : decode cL_law 1029 = .ok (.aload_n 1, 1) := by decide +kernel
theorem dL_law_1030 : decode cL_law 1030 = .ok (.aload_n 0, 1) := by decide +kernel
theorem dL_law_1031 : decode cL_law 1031 = .ok (.iload 4, 2) := by decide +kernel
theorem dL_law_1033 : decode cL_law 1033 = .ok (.iconst 1, 1) := by decide +kernel
theorem dL_law_1034 : decode cL_law 1034 = .ok (.iadd, 1) := by decide +kernel
theorem dL_law_1035 : decode cL_law 1035 = .ok (.iaload, 1) := by decide +kernel
theorem dL_law_1036 : decode cL_law 1036 = .ok (.aload_n 0, 1) := by decide +kernel
theorem dL_law_1037 : decode cL_law 1037 = .ok (.iload 4, 2) := by decide +kernel
theorem dL_law_1039 : decode cL_law 1039 = .ok (.iconst 2, 1) := by decide +kernel
theorem dL_law_1040 : decode cL_law 1040 = .ok (.iadd, 1) := by decide +kernel
theorem dL_law_1041 : decode cL_law 1041 = .ok (.iaload, 1) := by decide +kernel
theorem dL_law_1042 : decode cL_law 1042 = .ok (.aload_n 3, 1) := by decide +kernel
theorem dL_law_1043 : decode cL_law 1043 = .ok (.invokestatic 155, 3) := by decide +kernel
theorem dL_law_1046 : decode cL_law 1046 = .ok (.istore 5, 2) := by decide +kernel
theorem dL_law_1048 : decode cL_law 1048 = .ok (.aload_n 2, 1) := by decide +kernel
theorem dL_law_1049 : decode cL_law 1049 = .ok (.aload_n 0, 1) := by decide +kernel
theorem dL_law_1050 : decode cL_law 1050 = .ok (.iload 4, 2) := by decide +kernel
theorem dL_law_1052 : decode cL_law 1052 = .ok (.iconst 1, 1) := by decide +kernel
theorem dL_law_1053 : decode cL_law 1053 = .ok (.iadd, 1) := by decide +kernel
theorem dL_law_1054 : decode cL_law 1054 = .ok (.iaload, 1) := by decide +kernel
theorem dL_law_1055 : decode cL_law 1055 = .ok (.aload_n 0, 1) := by decide +kernel
theorem dL_law_1056 : decode cL_law 1056 = .ok (.iload 4, 2) := by decide +kernel
theorem dL_law_1058 : decode cL_law 1058 = .ok (.iconst 2, 1) := by decide +kernel
theorem dL_law_1059 : decode cL_law 1059 = .ok (.iadd, 1) := by decide +kernel
theorem dL_law_1060 : decode cL_law 1060 = .ok (.iaload, 1) := by decide +kernel
theorem dL_law_1061 : decode cL_law 1061 = .ok (.invokevirtual 157, 3) := by decide +kernel
theorem dL_law_1064 : decode cL_law 1064 = .ok (.istore 6, 2) := by decide +kernel
theorem dL_law_1066 : decode cL_law 1066 = .ok (.aload_n 2, 1) := by decide +kernel
theorem dL_law_1067 : decode cL_law 1067 = .ok (.invokevirtual 87, 3) := by decide +kernel
theorem dL_law_1070 : decode cL_law 1070 = .ok (.iload 5, 2) := by decide +kernel
theorem dL_law_1072 : decode cL_law 1072 = .ok (.if_icmp .eq 5, 3) := by decide +kernel
theorem dL_law_1075 : decode cL_law 1075 = .ok (.iconst 0, 1) := by decide +kernel
theorem dL_law_1076 : decode cL_law 1076 = .ok (.ireturn, 1) := by decide +kernel
theorem dL_law_1077 : decode cL_law 1077 = .ok (.iload 5, 2) := by decide +kernel
theorem dL_law_1079 : decode cL_law 1079 = .ok (.ifCond .ne 22, 3) := by decide +kernel
theorem dL_law_1082 : decode cL_law 1082 = .ok (.aload_n 3, 1) := by decide +kernel
theorem dL_law_1083 : decode cL_law 1083 = .ok (.iconst 0, 1) := by decide +kernel
theorem dL_law_1084 : decode cL_law 1084 = .ok (.laload, 1) := by decide +kernel
theorem dL_law_1085 : decode cL_law 1085 = .ok (.iload 6, 2) := by decide +kernel
theorem dL_law_1087 : decode cL_law 1087 = .ok (.ifCond .eq 7, 3) := by decide +kernel
theorem dL_law_1090 : decode cL_law 1090 = .ok (.lconst 1, 1) := by decide +kernel
theorem dL_law_1091 : decode cL_law 1091 = .ok (.goto 4, 3) := by decide +kernel
theorem dL_law_1094 : decode cL_law 1094 = .ok (.lconst 0, 1) := by decide +kernel
theorem dL_law_1095 : decode cL_law 1095 = .ok (.lcmp, 1) := by decide +kernel
theorem dL_law_1096 : decode cL_law 1096 = .ok (.ifCond .eq 5, 3) := by decide +kernel
theorem dL_law_1099 : decode cL_law 1099 = .ok (.iconst 0, 1) := by decide +kernel
theorem dL_law_1100 : decode cL_law 1100 = .ok (.ireturn, 1) := by decide +kernel
theorem dL_law_1101 : decode cL_law 1101 = .ok (.goto 408, 3) := by decide +kernel
theorem dL_law_1104 : decode cL_law 1104 = .ok (.aload_n 1, 1) := by decide +kernel
theorem dL_law_1105 : decode cL_law 1105 = .ok (.aload_n 0, 1) := by decide +kernel
theorem dL_law_1106 : decode cL_law 1106 = .ok (.iload 4, 2) := by decide +kernel
theorem dL_law_1108 : decode cL_law 1108 = .ok (.iconst 1, 1) := by decide +kernel
theorem dL_law_1109 : decode cL_law 1109 = .ok (.iadd, 1) := by decide +kernel
theorem dL_law_1110 : decode cL_law 1110 = .ok (.iaload, 1) := by decide +kernel
theorem dL_law_1111 : decode cL_law 1111 = .ok (.aload_n 0, 1) := by decide +kernel
theorem dL_law_1112 : decode cL_law 1112 = .ok (.iload 4, 2) := by decide +kernel
theorem dL_law_1114 : decode cL_law 1114 = .ok (.iconst 2, 1) := by decide +kernel
theorem dL_law_1115 : decode cL_law 1115 = .ok (.iadd, 1) := by decide +kernel
theorem dL_law_1116 : decode cL_law 1116 = .ok (.iaload, 1) := by decide +kernel
theorem dL_law_1117 : decode cL_law 1117 = .ok (.aload_n 3, 1) := by decide +kernel
theorem dL_law_1118 : decode cL_law 1118 = .ok (.invokestatic 158, 3) := by decide +kernel
theorem dL_law_1121 : decode cL_law 1121 = .ok (.istore 5, 2) := by decide +kernel
theorem dL_law_1123 : decode cL_law 1123 = .ok (.aload_n 2, 1) := by decide +kernel
theorem dL_law_1124 : decode cL_law 1124 = .ok (.aload_n 0, 1) := by decide +kernel
theorem dL_law_1125 : decode cL_law 1125 = .ok (.iload 4, 2) := by decide +kernel
theorem dL_law_1127 : decode cL_law 1127 = .ok (.iconst 1, 1) := by decide +kernel
theorem dL_law_1128 : decode cL_law 1128 = .ok (.iadd, 1) := by decide +kernel
theorem dL_law_1129 : decode cL_law 1129 = .ok (.iaload, 1) := by decide +kernel
theorem dL_law_1130 : decode cL_law 1130 = .ok (.aload_n 0, 1) := by decide +kernel
theorem dL_law_1131 : decode cL_law 1131 = .ok (.iload 4, 2) := by decide +kernel
theorem dL_law_1133 : decode cL_law 1133 = .ok (.iconst 2, 1) := by decide +kernel
theorem dL_law_1134 : decode cL_law 1134 = .ok (.iadd, 1) := by decide +kernel
theorem dL_law_1135 : decode cL_law 1135 = .ok (.iaload, 1) := by decide +kernel
theorem dL_law_1136 : decode cL_law 1136 = .ok (.invokevirtual 160, 3) := by decide +kernel
theorem dL_law_1139 : decode cL_law 1139 = .ok (.istore 6, 2) := by decide +kernel
theorem dL_law_1141 : decode cL_law 1141 = .ok (.aload_n 2, 1) := by decide +kernel
theorem dL_law_1142 : decode cL_law 1142 = .ok (.invokevirtual 87, 3) := by decide +kernel
theorem dL_law_1145 : decode cL_law 1145 = .ok (.iload 5, 2) := by decide +kernel
theorem dL_law_1147 : decode cL_law 1147 = .ok (.if_icmp .eq 5, 3) := by decide +kernel
theorem dL_law_1150 : decode cL_law 1150 = .ok (.iconst 0, 1) := by decide +kernel
theorem dL_law_1151 : decode cL_law 1151 = .ok (.ireturn, 1) := by decide +kernel
theorem dL_law_1152 : decode cL_law 1152 = .ok (.iload 5, 2) := by decide +kernel
theorem dL_law_1154 : decode cL_law 1154 = .ok (.ifCond .ne 15, 3) := by decide +kernel
theorem dL_law_1157 : decode cL_law 1157 = .ok (.aload_n 3, 1) := by decide +kernel
theorem dL_law_1158 : decode cL_law 1158 = .ok (.iconst 0, 1) := by decide +kernel
theorem dL_law_1159 : decode cL_law 1159 = .ok (.laload, 1) := by decide +kernel
theorem dL_law_1160 : decode cL_law 1160 = .ok (.iload 6, 2) := by decide +kernel
theorem dL_law_1162 : decode cL_law 1162 = .ok (.i2l, 1) := by decide +kernel
theorem dL_law_1163 : decode cL_law 1163 = .ok (.lcmp, 1) := by decide +kernel
theorem dL_law_1164 : decode cL_law 1164 = .ok (.ifCond .eq 5, 3) := by decide +kernel
theorem dL_law_1167 : decode cL_law 1167 = .ok (.iconst 0, 1) := by decide +kernel
theorem dL_law_1168 : decode cL_law 1168 = .ok (.ireturn, 1) := by decide +kernel
theorem dL_law_1169 : decode cL_law 1169 = .ok (.goto 340, 3) := by decide +kernel
theorem dL_law_1172 : decode cL_law 1172 = .ok (.aload_n 1, 1) := by decide +kernel
theorem dL_law_1173 : decode cL_law 1173 = .ok (.invokevirtual 161, 3) := by decide +kernel
theorem dL_law_1176 : decode cL_law 1176 = .ok (.aload_n 2, 1) := by decide +kernel
theorem dL_law_1177 : decode cL_law 1177 = .ok (.invokevirtual 164, 3) := by decide +kernel
theorem dL_law_1180 : decode cL_law 1180 = .ok (.if_icmp .eq 329, 3) := by decide +kernel
theorem dL_law_1183 : decode cL_law 1183 = .ok (.iconst 0, 1) := by decide +kernel
theorem dL_law_1184 : decode cL_law 1184 = .ok (.ireturn, 1) := by decide +kernel
theorem dL_law_1185 : decode cL_law 1185 = .ok (.aload_n 1, 1) := by decide +kernel
theorem dL_law_1186 : decode cL_law 1186 = .ok (.aload_n 0, 1) := by decide +kernel
theorem dL_law_1187 : decode cL_law 1187 = .ok (.iload 4, 2) := by decide +kernel
theorem dL_law_1189 : decode cL_law 1189 = .ok (.iconst 1, 1) := by decide +kernel
theorem dL_law_1190 : decode cL_law 1190 = .ok (.iadd, 1) := by decide +kernel
theorem dL_law_1191 : decode cL_law 1191 = .ok (.iaload, 1) := by decide +kernel
theorem dL_law_1192 : decode cL_law 1192 = .ok (.aload_n 0, 1) := by decide +kernel
theorem dL_law_1193 : decode cL_law 1193 = .ok (.iload 4, 2) := by decide +kernel
theorem dL_law_1195 : decode cL_law 1195 = .ok (.iconst 2, 1) := by decide +kernel
theorem dL_law_1196 : decode cL_law 1196 = .ok (.iadd, 1) := by decide +kernel
theorem dL_law_1197 : decode cL_law 1197 = .ok (.iaload, 1) := by decide +kernel
theorem dL_law_1198 : decode cL_law 1198 = .ok (.aload_n 3, 1) := by decide +kernel
theorem dL_law_1199 : decode cL_law 1199 = .ok (.invokestatic 165, 3) := by decide +kernel
theorem dL_law_1202 : decode cL_law 1202 = .ok (.istore 5, 2) := by decide +kernel
theorem dL_law_1204 : decode cL_law 1204 = .ok (.aload_n 2, 1) := by decide +kernel
theorem dL_law_1205 : decode cL_law 1205 = .ok (.aload_n 0, 1) := by decide +kernel
theorem dL_law_1206 : decode cL_law 1206 = .ok (.iload 4, 2) := by decide +kernel
theorem dL_law_1208 : decode cL_law 1208 = .ok (.iconst 1, 1) := by decide +kernel
theorem dL_law_1209 : decode cL_law 1209 = .ok (.iadd, 1) := by decide +kernel
theorem dL_law_1210 : decode cL_law 1210 = .ok (.iaload, 1) := by decide +kernel
theorem dL_law_1211 : decode cL_law 1211 = .ok (.aload_n 0, 1) := by decide +kernel
theorem dL_law_1212 : decode cL_law 1212 = .ok (.iload 4, 2) := by decide +kernel
theorem dL_law_1214 : decode cL_law 1214 = .ok (.iconst 2, 1) := by decide +kernel
theorem dL_law_1215 : decode cL_law 1215 = .ok (.iadd, 1) := by decide +kernel
theorem dL_law_1216 : decode cL_law 1216 = .ok (.iaload, 1) := by decide +kernel
theorem dL_law_1217 : decode cL_law 1217 = .ok (.invokevirtual 167, 3) := by decide +kernel
theorem dL_law_1220 : decode cL_law 1220 = .ok (.istore 6, 2) := by decide +kernel
theorem dL_law_1222 : decode cL_law 1222 = .ok (.aload_n 2, 1) := by decide +kernel
theorem dL_law_1223 : decode cL_law 1223 = .ok (.invokevirtual 87, 3) := by decide +kernel
theorem dL_law_1226 : decode cL_law 1226 = .ok (.iload 5, 2) := by decide +kernel
theorem dL_law_1228 : decode cL_law 1228 = .ok (.if_icmp .eq 5, 3) := by decide +kernel
theorem dL_law_1231 : decode cL_law 1231 = .ok (.iconst 0, 1) := by decide +kernel
theorem dL_law_1232 : decode cL_law 1232 = .ok (.ireturn, 1) := by decide +kernel
theorem dL_law_1233 : decode cL_law 1233 = .ok (.iload 5, 2) := by decide +kernel
theorem dL_law_1235 : decode cL_law 1235 = .ok (.ifCond .ne 15, 3) := by decide +kernel
theorem dL_law_1238 : decode cL_law 1238 = .ok (.aload_n 3, 1) := by decide +kernel
theorem dL_law_1239 : decode cL_law 1239 = .ok (.iconst 0, 1) := by decide +kernel
theorem dL_law_1240 : decode cL_law 1240 = .ok (.laload, 1) := by decide +kernel
theorem dL_law_1241 : decode cL_law 1241 = .ok (.iload 6, 2) := by decide +kernel
theorem dL_law_1243 : decode cL_law 1243 = .ok (.i2l, 1) := by decide +kernel
theorem dL_law_1244 : decode cL_law 1244 = .ok (.lcmp, 1) := by decide +kernel
theorem dL_law_1245 : decode cL_law 1245 = .ok (.ifCond .eq 5, 3) := by decide +kernel
theorem dL_law_1248 : decode cL_law 1248 = .ok (.iconst 0, 1) := by decide +kernel
theorem dL_law_1249 : decode cL_law 1249 = .ok (.ireturn, 1) := by decide +kernel
theorem dL_law_1250 : decode cL_law 1250 = .ok (.goto 259, 3) := by decide +kernel
theorem dL_law_1253 : decode cL_law 1253 = .ok (.aload_n 1, 1) := by decide +kernel
theorem dL_law_1254 : decode cL_law 1254 = .ok (.aload_n 0, 1) := by decide +kernel
theorem dL_law_1255 : decode cL_law 1255 = .ok (.iload 4, 2) := by decide +kernel
theorem dL_law_1257 : decode cL_law 1257 = .ok (.iconst 1, 1) := by decide +kernel
theorem dL_law_1258 : decode cL_law 1258 = .ok (.iadd, 1) := by decide +kernel
theorem dL_law_1259 : decode cL_law 1259 = .ok (.iaload, 1) := by decide +kernel
theorem dL_law_1260 : decode cL_law 1260 = .ok (.aload_n 3, 1) := by decide +kernel
theorem dL_law_1261 : decode cL_law 1261 = .ok (.invokestatic 168, 3) := by decide +kernel
theorem dL_law_1264 : decode cL_law 1264 = .ok (.istore 5, 2) := by decide +kernel
theorem dL_law_1266 : decode cL_law 1266 = .ok (.aload_n 2, 1) := by decide +kernel
theorem dL_law_1267 : decode cL_law 1267 = .ok (.aload_n 0, 1) := by decide +kernel
theorem dL_law_1268 : decode cL_law 1268 = .ok (.iload 4, 2) := by decide +kernel
theorem dL_law_1270 : decode cL_law 1270 = .ok (.iconst 1, 1) := by decide +kernel
theorem dL_law_1271 : decode cL_law 1271 = .ok (.iadd, 1) := by decide +kernel
theorem dL_law_1272 : decode cL_law 1272 = .ok (.iaload, 1) := by decide +kernel
theorem dL_law_1273 : decode cL_law 1273 = .ok (.invokevirtual 170, 3) := by decide +kernel
theorem dL_law_1276 : decode cL_law 1276 = .ok (.istore 6, 2) := by decide +kernel
theorem dL_law_1278 : decode cL_law 1278 = .ok (.aload_n 2, 1) := by decide +kernel
theorem dL_law_1279 : decode cL_law 1279 = .ok (.invokevirtual 87, 3) := by decide +kernel
theorem dL_law_1282 : decode cL_law 1282 = .ok (.iload 5, 2) := by decide +kernel
theorem dL_law_1284 : decode cL_law 1284 = .ok (.if_icmp .eq 5, 3) := by decide +kernel
theorem dL_law_1287 : decode cL_law 1287 = .ok (.iconst 0, 1) := by decide +kernel
theorem dL_law_1288 : decode cL_law 1288 = .ok (.ireturn, 1) := by decide +kernel
theorem dL_law_1289 : decode cL_law 1289 = .ok (.iload 5, 2) := by decide +kernel
theorem dL_law_1291 : decode cL_law 1291 = .ok (.ifCond .ne 15, 3) := by decide +kernel
theorem dL_law_1294 : decode cL_law 1294 = .ok (.aload_n 3, 1) := by decide +kernel
theorem dL_law_1295 : decode cL_law 1295 = .ok (.iconst 0, 1) := by decide +kernel
theorem dL_law_1296 : decode cL_law 1296 = .ok (.laload, 1) := by decide +kernel
theorem dL_law_1297 : decode cL_law 1297 = .ok (.iload 6, 2) := by decide +kernel
theorem dL_law_1299 : decode cL_law 1299 = .ok (.i2l, 1) := by decide +kernel
theorem dL_law_1300 : decode cL_law 1300 = .ok (.lcmp, 1) := by decide +kernel
theorem dL_law_1301 : decode cL_law 1301 = .ok (.ifCond .eq 5, 3) := by decide +kernel
theorem dL_law_1304 : decode cL_law 1304 = .ok (.iconst 0, 1) := by decide +kernel
theorem dL_law_1305 : decode cL_law 1305 = .ok (.ireturn, 1) := by decide +kernel
theorem dL_law_1306 : decode cL_law 1306 = .ok (.goto 203, 3) := by decide +kernel
theorem dL_law_1309 : decode cL_law 1309 = .ok (.aload_n 1, 1) := by decide +kernel
theorem dL_law_1310 : decode cL_law 1310 = .ok (.aload_n 0, 1) := by decide +kernel
theorem dL_law_1311 : decode cL_law 1311 = .ok (.iload 4, 2) := by decide +kernel
theorem dL_law_1313 : decode cL_law 1313 = .ok (.iconst 1, 1) := by decide +kernel
theorem dL_law_1314 : decode cL_law 1314 = .ok (.iadd, 1) := by decide +kernel
theorem dL_law_1315 : decode cL_law 1315 = .ok (.iaload, 1) := by decide +kernel
theorem dL_law_1316 : decode cL_law 1316 = .ok (.aload_n 0, 1) := by decide +kernel
theorem dL_law_1317 : decode cL_law 1317 = .ok (.iload 4, 2) := by decide +kernel
theorem dL_law_1319 : decode cL_law 1319 = .ok (.iconst 2, 1) := by decide +kernel
theorem dL_law_1320 : decode cL_law 1320 = .ok (.iadd, 1) := by decide +kernel
theorem dL_law_1321 : decode cL_law 1321 = .ok (.iaload, 1) := by decide +kernel
theorem dL_law_1322 : decode cL_law 1322 = .ok (.aload_n 0, 1) := by decide +kernel
theorem dL_law_1323 : decode cL_law 1323 = .ok (.iload 4, 2) := by decide +kernel
theorem dL_law_1325 : decode cL_law 1325 = .ok (.iconst 3, 1) := by decide +kernel
theorem dL_law_1326 : decode cL_law 1326 = .ok (.iadd, 1) := by decide +kernel
theorem dL_law_1327 : decode cL_law 1327 = .ok (.iaload, 1) := by decide +kernel
theorem dL_law_1328 : decode cL_law 1328 = .ok (.aload_n 3, 1) := by decide +kernel
theorem dL_law_1329 : decode cL_law 1329 = .ok (.invokestatic 171, 3) := by decide +kernel
theorem dL_law_1332 : decode cL_law 1332 = .ok (.istore 5, 2) := by decide +kernel
theorem dL_law_1334 : decode cL_law 1334 = .ok (.aload_n 2, 1) := by decide +kernel
theorem dL_law_1335 : decode cL_law 1335 = .ok (.aload_n 0, 1) := by decide +kernel
theorem dL_law_1336 : decode cL_law 1336 = .ok (.iload 4, 2) := by decide +kernel
theorem dL_law_1338 : decode cL_law 1338 = .ok (.iconst 1, 1) := by decide +kernel
theorem dL_law_1339 : decode cL_law 1339 = .ok (.iadd, 1) := by decide +kernel
theorem dL_law_1340 : decode cL_law 1340 = .ok (.iaload, 1) := by decide +kernel
theorem dL_law_1341 : decode cL_law 1341 = .ok (.aload_n 0, 1) := by decide +kernel
theorem dL_law_1342 : decode cL_law 1342 = .ok (.iload 4, 2) := by decide +kernel
theorem dL_law_1344 : decode cL_law 1344 = .ok (.iconst 2, 1) := by decide +kernel
theorem dL_law_1345 : decode cL_law 1345 = .ok (.iadd, 1) := by decide +kernel
theorem dL_law_1346 : decode cL_law 1346 = .ok (.iaload, 1) := by decide +kernel
theorem dL_law_1347 : decode cL_law 1347 = .ok (.aload_n 0, 1) := by decide +kernel
theorem dL_law_1348 : decode cL_law 1348 = .ok (.iload 4, 2) := by decide +kernel
theorem dL_law_1350 : decode cL_law 1350 = .ok (.iconst 3, 1) := by decide +kernel
theorem dL_law_1351 : decode cL_law 1351 = .ok (.iadd, 1) := by decide +kernel
theorem dL_law_1352 : decode cL_law 1352 = .ok (.iaload, 1) := by decide +kernel
theorem dL_law_1353 : decode cL_law 1353 = .ok (.invokevirtual 173, 3) := by decide +kernel
theorem dL_law_1356 : decode cL_law 1356 = .ok (.istore 6, 2) := by decide +kernel
theorem dL_law_1358 : decode cL_law 1358 = .ok (.aload_n 2, 1) := by decide +kernel
theorem dL_law_1359 : decode cL_law 1359 = .ok (.invokevirtual 87, 3) := by decide +kernel
theorem dL_law_1362 : decode cL_law 1362 = .ok (.iload 5, 2) := by decide +kernel
theorem dL_law_1364 : decode cL_law 1364 = .ok (.if_icmp .eq 5, 3) := by decide +kernel
theorem dL_law_1367 : decode cL_law 1367 = .ok (.iconst 0, 1) := by decide +kernel
theorem dL_law_1368 : decode cL_law 1368 = .ok (.ireturn, 1) := by decide +kernel
theorem dL_law_1369 : decode cL_law 1369 = .ok (.iload 5, 2) := by decide +kernel
theorem dL_law_1371 : decode cL_law 1371 = .ok (.ifCond .ne 15, 3) := by decide +kernel
theorem dL_law_1374 : decode cL_law 1374 = .ok (.aload_n 3, 1) := by decide +kernel
theorem dL_law_1375 : decode cL_law 1375 = .ok (.iconst 0, 1) := by decide +kernel
theorem dL_law_1376 : decode cL_law 1376 = .ok (.laload, 1) := by decide +kernel
theorem dL_law_1377 : decode cL_law 1377 = .ok (.iload 6, 2) := by decide +kernel
theorem dL_law_1379 : decode cL_law 1379 = .ok (.i2l, 1) := by decide +kernel
theorem dL_law_1380 : decode cL_law 1380 = .ok (.lcmp, 1) := by decide +kernel
theorem dL_law_1381 : decode cL_law 1381 = .ok (.ifCond .eq 5, 3) := by decide +kernel
theorem dL_law_1384 : decode cL_law 1384 = .ok (.iconst 0, 1) := by decide +kernel
theorem dL_law_1385 : decode cL_law 1385 = .ok (.ireturn, 1) := by decide +kernel
theorem dL_law_1386 : decode cL_law 1386 = .ok (.goto 123, 3) := by decide +kernel
theorem dL_law_1389 : decode cL_law 1389 = .ok (.aload_n 1, 1) := by decide +kernel
theorem dL_law_1390 : decode cL_law 1390 = .ok (.aload_n 0, 1) := by decide +kernel
theorem dL_law_1391 : decode cL_law 1391 = .ok (.iload 4, 2) := by decide +kernel
theorem dL_law_1393 : decode cL_law 1393 = .ok (.iconst 1, 1) := by decide +kernel
theorem dL_law_1394 : decode cL_law 1394 = .ok (.iadd, 1) := by decide +kernel
theorem dL_law_1395 : decode cL_law 1395 = .ok (.iaload, 1) := by decide +kernel
theorem dL_law_1396 : decode cL_law 1396 = .ok (.aload_n 0, 1) := by decide +kernel
theorem dL_law_1397 : decode cL_law 1397 = .ok (.iload 4, 2) := by decide +kernel
theorem dL_law_1399 : decode cL_law 1399 = .ok (.iconst 2, 1) := by decide +kernel
theorem dL_law_1400 : decode cL_law 1400 = .ok (.iadd, 1) := by decide +kernel
theorem dL_law_1401 : decode cL_law 1401 = .ok (.iaload, 1) := by decide +kernel
theorem dL_law_1402 : decode cL_law 1402 = .ok (.aload_n 0, 1) := by decide +kernel
theorem dL_law_1403 : decode cL_law 1403 = .ok (.iload 4, 2) := by decide +kernel
theorem dL_law_1405 : decode cL_law 1405 = .ok (.iconst 3, 1) := by decide +kernel
theorem dL_law_1406 : decode cL_law 1406 = .ok (.iadd, 1) := by decide +kernel
theorem dL_law_1407 : decode cL_law 1407 = .ok (.iaload, 1) := by decide +kernel
theorem dL_law_1408 : decode cL_law 1408 = .ok (.aload_n 3, 1) := by decide +kernel
theorem dL_law_1409 : decode cL_law 1409 = .ok (.invokestatic 174, 3) := by decide +kernel
theorem dL_law_1412 : decode cL_law 1412 = .ok (.istore 5, 2) := by decide +kernel
theorem dL_law_1414 : decode cL_law 1414 = .ok (.aload_n 2, 1) := by decide +kernel
theorem dL_law_1415 : decode cL_law 1415 = .ok (.aload_n 0, 1) := by decide +kernel
theorem dL_law_1416 : decode cL_law 1416 = .ok (.iload 4, 2) := by decide +kernel
theorem dL_law_1418 : decode cL_law 1418 = .ok (.iconst 1, 1) := by decide +kernel
theorem dL_law_1419 : decode cL_law 1419 = .ok (.iadd, 1) := by decide +kernel
theorem dL_law_1420 : decode cL_law 1420 = .ok (.iaload, 1) := by decide +kernel
theorem dL_law_1421 : decode cL_law 1421 = .ok (.aload_n 0, 1) := by decide +kernel
theorem dL_law_1422 : decode cL_law 1422 = .ok (.iload 4, 2) := by decide +kernel
theorem dL_law_1424 : decode cL_law 1424 = .ok (.iconst 2, 1) := by decide +kernel
theorem dL_law_1425 : decode cL_law 1425 = .ok (.iadd, 1) := by decide +kernel
theorem dL_law_1426 : decode cL_law 1426 = .ok (.iaload, 1) := by decide +kernel
theorem dL_law_1427 : decode cL_law 1427 = .ok (.aload_n 0, 1) := by decide +kernel
theorem dL_law_1428 : decode cL_law 1428 = .ok (.iload 4, 2) := by decide +kernel
theorem dL_law_1430 : decode cL_law 1430 = .ok (.iconst 3, 1) := by decide +kernel
theorem dL_law_1431 : decode cL_law 1431 = .ok (.iadd, 1) := by decide +kernel
theorem dL_law_1432 : decode cL_law 1432 = .ok (.iaload, 1) := by decide +kernel
theorem dL_law_1433 : decode cL_law 1433 = .ok (.invokevirtual 176, 3) := by decide +kernel
theorem dL_law_1436 : decode cL_law 1436 = .ok (.istore 6, 2) := by decide +kernel
theorem dL_law_1438 : decode cL_law 1438 = .ok (.aload_n 2, 1) := by decide +kernel
theorem dL_law_1439 : decode cL_law 1439 = .ok (.invokevirtual 87, 3) := by decide +kernel
theorem dL_law_1442 : decode cL_law 1442 = .ok (.iload 5, 2) := by decide +kernel
theorem dL_law_1444 : decode cL_law 1444 = .ok (.if_icmp .eq 5, 3) := by decide +kernel
theorem dL_law_1447 : decode cL_law 1447 = .ok (.iconst 0, 1) := by decide +kernel
theorem dL_law_1448 : decode cL_law 1448 = .ok (.ireturn, 1) := by decide +kernel
theorem dL_law_1449 : decode cL_law 1449 = .ok (.iload 5, 2) := by decide +kernel
theorem dL_law_1451 : decode cL_law 1451 = .ok (.ifCond .ne 15, 3) := by decide +kernel
theorem dL_law_1454 : decode cL_law 1454 = .ok (.aload_n 3, 1) := by decide +kernel
theorem dL_law_1455 : decode cL_law 1455 = .ok (.iconst 0, 1) := by decide +kernel
theorem dL_law_1456 : decode cL_law 1456 = .ok (.laload, 1) := by decide +kernel
theorem dL_law_1457 : decode cL_law 1457 = .ok (.iload 6, 2) := by decide +kernel
theorem dL_law_1459 : decode cL_law 1459 = .ok (.i2l, 1) := by decide +kernel
theorem dL_law_1460 : decode cL_law 1460 = .ok (.lcmp, 1) := by decide +kernel
theorem dL_law_1461 : decode cL_law 1461 = .ok (.ifCond .eq 5, 3) := by decide +kernel
theorem dL_law_1464 : decode cL_law 1464 = .ok (.iconst 0, 1) := by decide +kernel
theorem dL_law_1465 : decode cL_law 1465 = .ok (.ireturn, 1) := by decide +kernel
theorem dL_law_1466 : decode cL_law 1466 = .ok (.goto 43, 3) := by decide +kernel
theorem dL_law_1469 : decode cL_law 1469 = .ok (.aload_n 1, 1) := by decide +kernel
theorem dL_law_1470 : decode cL_law 1470 = .ok (.invokevirtual 177, 3) := by decide +kernel
theorem dL_law_1473 : decode cL_law 1473 = .ok (.aload_n 2, 1) := by decide +kernel
theorem dL_law_1474 : decode cL_law 1474 = .ok (.invokevirtual 180, 3) := by decide +kernel
theorem dL_law_1477 : decode cL_law 1477 = .ok (.if_icmp .eq 32, 3) := by decide +kernel
theorem dL_law_1480 : decode cL_law 1480 = .ok (.iconst 0, 1) := by decide +kernel
theorem dL_law_1481 : decode cL_law 1481 = .ok (.ireturn, 1) := by decide +kernel
theorem dL_law_1482 : decode cL_law 1482 = .ok (.aload_n 1, 1) := by decide +kernel
theorem dL_law_1483 : decode cL_law 1483 = .ok (.invokevirtual 181, 3) := by decide +kernel
theorem dL_law_1486 : decode cL_law 1486 = .ok (.aload_n 2, 1) := by decide +kernel
theorem dL_law_1487 : decode cL_law 1487 = .ok (.invokevirtual 184, 3) := by decide +kernel
theorem dL_law_1490 : decode cL_law 1490 = .ok (.if_icmp .eq 19, 3) := by decide +kernel
theorem dL_law_1493 : decode cL_law 1493 = .ok (.iconst 0, 1) := by decide +kernel
theorem dL_law_1494 : decode cL_law 1494 = .ok (.ireturn, 1) := by decide +kernel
theorem dL_law_1495 : decode cL_law 1495 = .ok (.aload_n 1, 1) := by decide +kernel
theorem dL_law_1496 : decode cL_law 1496 = .ok (.invokevirtual 185, 3) := by decide +kernel
theorem dL_law_1499 : decode cL_law 1499 = .ok (.aload_n 2, 1) := by decide +kernel
theorem dL_law_1500 : decode cL_law 1500 = .ok (.invokevirtual 189, 3) := by decide +kernel
theorem dL_law_1503 : decode cL_law 1503 = .ok (.lcmp, 1) := by decide +kernel
theorem dL_law_1504 : decode cL_law 1504 = .ok (.ifCond .eq 5, 3) := by decide +kernel
theorem dL_law_1507 : decode cL_law 1507 = .ok (.iconst 0, 1) := by decide +kernel
theorem dL_law_1508 : decode cL_law 1508 = .ok (.ireturn, 1) := by decide +kernel
theorem dL_law_1509 : decode cL_law 1509 = .ok (.iinc 4 6, 3) := by decide +kernel
theorem dL_law_1512 : decode cL_law 1512 = .ok (.goto (-1489), 3) := by decide +kernel
theorem dL_law_1515 : decode cL_law 1515 = .ok (.iconst 1, 1) := by decide +kernel
theorem dL_law_1516 : decode cL_law 1516 = .ok (.ireturn, 1) := by decide +kernel
end
section
/-! THE ABSTRACT MEMORY. Values as integers and numbers of objects; the memory as two functions (numbers, references) of an object's number and a place in it. -/
abbrev AV : Type := Int ⊕ Int ⊕ Option Nat
abbrev vI (z : Int) : AV := Sum.inl z
abbrev vL (z : Int) : AV := Sum.inr (Sum.inl z)
abbrev vR (i : Nat) : AV := Sum.inr (Sum.inr (some i))
abbrev vN : AV := Sum.inr (Sum.inr none)
def cv (ρ : Nat → Nat) : AV → Value := fun v => match v with
  | Sum.inl z => .int (Int32.ofInt z)
  | Sum.inr (Sum.inl z) => .long (Int64.ofInt z)
  | Sum.inr (Sum.inr (some i)) => .ref (ρ i)
  | Sum.inr (Sum.inr none) => .null
def cvl (ρ : Nat → Nat) (al : List (Nat × AV)) : List (Nat × Value) := al.map (fun q => (q.1, cv ρ q.2))
/-- an object's class (by its place in vwCl), or an array's kind and length -/
abbrev CT : Type := Nat ⊕ (Nat × Nat)
abbrev MP : Type := Nat → Nat → Option Nat
abbrev MM : Type := Nat → Nat → Int
def up2 {α : Type} (f : Nat → Nat → α) (a i : Nat) (v : α) : Nat → Nat → α := fun b j => if b = a then (if j = i then v else f b j) else f b j
theorem up2_ne {α : Type} {f : Nat → Nat → α} {a i b : Nat} {v : α} (h : b ≠ a) : up2 f a i v b = f b := by
  funext j; simp [up2, h]
theorem up2_eq {α : Type} {f : Nat → Nat → α} {a i : Nat} {v : α} : up2 f a i v a i = v := by simp [up2]
theorem up2_nj {α : Type} {f : Nat → Nat → α} {a i b j : Nat} {v : α} (h : j ≠ i) : up2 f a i v b j = f b j := by simp [up2, h]
def inR (z : Int) : Prop := -2147483648 ≤ z ∧ z < 2147483648
def inL (z : Int) : Prop := -9223372036854775808 ≤ z ∧ z < 9223372036854775808
def isRefT (ty : FieldType) : Bool := match ty with
  | .object _ => true
  | .array _ => true
  | _ => false
def tyC : Nat → Nat → FieldType := fun c => match c with
  | 0 => tyX0
  | 1 => tyX1
  | 2 => tyX2
  | 3 => tyX3
  | 4 => tyX4
  | 5 => tyX5
  | _ => tyX6
def nFC : Nat → Nat := fun c => match c with
  | 0 => 1
  | 1 => 3
  | 2 => 8
  | 3 => 10
  | 4 => 13
  | 5 => 10
  | _ => 25
def ekT : Nat → FieldType := fun k => match k with
  | 0 => .int
  | 1 => .byte
  | 2 => .boolean
  | 3 => .long
  | 4 => .object "BlockingShop$Plan"
  | _ => .array .int
def fv (ρ : Nat → Nat) (P : MP) (I : MM) (i c k : Nat) : Value := if isRefT (tyC c k) then va_rf ((P i k).map ρ) else .int (Int32.ofInt (I i k))
def ar (ρ : Nat → Nat) (P : MP) (I : MM) (i ek : Nat) : (Nat → Int32) ⊕ (Nat → Int64) ⊕ (Nat → UInt32) ⊕ (Nat → UInt64) ⊕ (Nat → Option Nat) := match ek with
  | 0 => .inl (fun j => Int32.ofInt (I i j))
  | 1 => .inl (fun j => Int32.ofInt (I i j))
  | 2 => .inl (fun j => Int32.ofInt (I i j))
  | 3 => .inr (.inl (fun j => Int64.ofInt (I i j)))
  | _ => .inr (.inr (.inr (.inr (fun j => (P i j).map ρ))))
def fvs (ρ : Nat → Nat) (P : MP) (I : MM) (i c : Nat) : List Value := (List.range (nFC c)).map (fun k => fv ρ P I i c k)
def cw (κ : Nat → ClassId) (ρ : Nat → Nat) (ty : Nat → CT) (P : MP) (I : MM) (i : Nat) : va_E := match ty i with
  | .inl c => .inr (c, fvs ρ P I i c)
  | .inr (ek, n) => .inl (κ ek, n, ar ρ P I i ek)
def wl (κ : Nat → ClassId) (ρ : Nat → Nat) (ids : List Nat) (ty : Nat → CT) (P : MP) (I : MM) : va_W := ids.map (fun i => (ρ i, cw κ ρ ty P I i))
def tysK (κ : Nat → ClassId) : List (ClassId × FieldType) := [(κ 0, ekT 0), (κ 1, ekT 1), (κ 2, ekT 2), (κ 3, ekT 3), (κ 4, ekT 4), (κ 5, ekT 5)]
theorem wl_at {κ : Nat → ClassId} {ρ : Nat → Nat} {ids : List Nat} {ty : Nat → CT} {P : MP} {I : MM} {i : Nat} (h : i ∈ ids) : ∃ k : Nat, ids[k]? = some i ∧ (wl κ ρ ids ty P I)[k]? = some (ρ i, cw κ ρ ty P I i) := by
  obtain ⟨k, hk⟩ := List.getElem?_of_mem h
  exact ⟨k, hk, by simp [wl, hk]⟩
theorem wl_nd {κ : Nat → ClassId} {ρ : Nat → Nat} {ids : List Nat} {ty : Nat → CT} {P : MP} {I : MM} {A : Nat → Prop} (hD : va_D A (wl κ ρ ids ty P I)) {k j i : Nat} (hk : ids[k]? = some i) (hj : ids[j]? = some i) : k = j :=
  hD.1 k j (ρ i, cw κ ρ ty P I i) (ρ i, cw κ ρ ty P I i) (by simp [wl, hk]) (by simp [wl, hj]) rfl
theorem wl_set {κ : Nat → ClassId} {ρ : Nat → Nat} {ids : List Nat} {ty : Nat → CT} {P P' : MP} {I I' : MM} {A : Nat → Prop} (hD : va_D A (wl κ ρ ids ty P I)) {k i : Nat} {e : va_E} (hk : ids[k]? = some i) (he : cw κ ρ ty P' I' i = e) (hne : ∀ j, j ≠ i → cw κ ρ ty P' I' j = cw κ ρ ty P I j) : (wl κ ρ ids ty P I).set k (ρ i, e) = wl κ ρ ids ty P' I' := by
  apply List.ext_getElem?
  intro n
  by_cases hn : n = k
  · subst hn
    have hl : n < (wl κ ρ ids ty P I).length := by
      have := (List.getElem?_eq_some_iff.mp hk).1
      simpa [wl] using this
    rw [List.getElem?_set_self hl]
    simp [wl, hk, he]
  · rw [List.getElem?_set_ne (Ne.symm hn)]
    simp only [wl, List.getElem?_map]
    cases hj : ids[n]? with
    | none => rfl
    | some j =>
      have : j ≠ i := fun q => hn (wl_nd hD (by rw [hj, q]) hk)
      simp [hne j this]
theorem cw_neI {κ : Nat → ClassId} {ρ : Nat → Nat} {ty : Nat → CT} {P : MP} {I : MM} {i k : Nat} {v : Int} : ∀ j, j ≠ i → cw κ ρ ty P (up2 I i k v) j = cw κ ρ ty P I j := by
  intro j hj
  have h : up2 I i k v j = I j := up2_ne hj
  have h1 : ∀ c, fvs ρ P (up2 I i k v) j c = fvs ρ P I j c := fun c => by simp only [fvs, fv, h]
  have h2 : ∀ ek, ar ρ P (up2 I i k v) j ek = ar ρ P I j ek := fun ek => by
    unfold ar; split <;> simp only [h]
  unfold cw
  split <;> simp only [h1, h2]
theorem cw_neP {κ : Nat → ClassId} {ρ : Nat → Nat} {ty : Nat → CT} {P : MP} {I : MM} {i k : Nat} {v : Option Nat} : ∀ j, j ≠ i → cw κ ρ ty (up2 P i k v) I j = cw κ ρ ty P I j := by
  intro j hj
  have h : up2 P i k v j = P j := up2_ne hj
  have h1 : ∀ c, fvs ρ (up2 P i k v) I j c = fvs ρ P I j c := fun c => by simp only [fvs, fv, h]
  have h2 : ∀ ek, ar ρ (up2 P i k v) I j ek = ar ρ P I j ek := fun ek => by
    unfold ar; split <;> simp only [h]
  unfold cw
  split <;> simp only [h1, h2]
theorem fvs_at {ρ : Nat → Nat} {P : MP} {I : MM} {i c k : Nat} (h : k < nFC c) : (fvs ρ P I i c)[k]? = some (fv ρ P I i c k) := by
  simp [fvs, h]
theorem fvs_setI {ρ : Nat → Nat} {P : MP} {I : MM} {i c k : Nat} {v : Int} (hr : isRefT (tyC c k) = false) : (fvs ρ P I i c).set k (.int (Int32.ofInt v)) = fvs ρ P (up2 I i k v) i c := by
  apply List.ext_getElem?
  intro n
  by_cases hn : n < nFC c
  · by_cases hk : n = k
    · subst hk
      rw [List.getElem?_set_self (by simpa [fvs] using hn), fvs_at hn]
      simp [fv, hr, up2]
    · rw [List.getElem?_set_ne (Ne.symm hk), fvs_at hn, fvs_at hn]
      simp [fv, up2, hk]
  · rw [List.getElem?_eq_none (by simp [fvs]; omega), List.getElem?_eq_none (by simp [fvs]; omega)]
theorem fvs_setP {ρ : Nat → Nat} {P : MP} {I : MM} {i c k : Nat} {v : Option Nat} (hr : isRefT (tyC c k) = true) : (fvs ρ P I i c).set k (va_rf (v.map ρ)) = fvs ρ (up2 P i k v) I i c := by
  apply List.ext_getElem?
  intro n
  by_cases hn : n < nFC c
  · by_cases hk : n = k
    · subst hk
      rw [List.getElem?_set_self (by simpa [fvs] using hn), fvs_at hn]
      simp [fv, hr, up2]
    · rw [List.getElem?_set_ne (Ne.symm hk), fvs_at hn, fvs_at hn]
      simp [fv, up2, hk]
  · rw [List.getElem?_eq_none (by simp [fvs]; omega), List.getElem?_eq_none (by simp [fvs]; omega)]
/-! numbers -/
theorem zi_add (a b : Int) : Int32.ofInt a + Int32.ofInt b = Int32.ofInt (a + b) := by rw [Int32.ofInt_add]
theorem zi_sub (a b : Int) : Int32.ofInt a - Int32.ofInt b = Int32.ofInt (a - b) := by rw [Int32.ofInt_sub]
theorem zi_mul (a b : Int) : Int32.ofInt a * Int32.ofInt b = Int32.ofInt (a * b) := by rw [Int32.ofInt_mul]
theorem zl_add (a b : Int) : Int64.ofInt a + Int64.ofInt b = Int64.ofInt (a + b) := by rw [Int64.ofInt_add]
theorem zl_sub (a b : Int) : Int64.ofInt a - Int64.ofInt b = Int64.ofInt (a - b) := by rw [Int64.ofInt_sub]
theorem zl_mul (a b : Int) : Int64.ofInt a * Int64.ofInt b = Int64.ofInt (a * b) := by rw [Int64.ofInt_mul]
theorem zi_toInt {z : Int} (h : inR z) : (Int32.ofInt z).toInt = z := Int32.toInt_ofInt_of_le (by have := h.1; omega) (by have := h.2; omega)
theorem zl_toInt {z : Int} (h : inL z) : (Int64.ofInt z).toInt = z := Int64.toInt_ofInt_of_le (by have := h.1; omega) (by have := h.2; omega)
theorem zi_lt {a b : Int} (ha : inR a) (hb : inR b) : Int32.ofInt a < Int32.ofInt b ↔ a < b := by rw [Int32.lt_iff_toInt_lt, zi_toInt ha, zi_toInt hb]
theorem zi_le {a b : Int} (ha : inR a) (hb : inR b) : Int32.ofInt a ≤ Int32.ofInt b ↔ a ≤ b := by rw [Int32.le_iff_toInt_le, zi_toInt ha, zi_toInt hb]
theorem zi_eq {a b : Int} (ha : inR a) (hb : inR b) : Int32.ofInt a = Int32.ofInt b ↔ a = b := by rw [← Int32.toInt_inj, zi_toInt ha, zi_toInt hb]
theorem zl_lt {a b : Int} (ha : inL a) (hb : inL b) : Int64.ofInt a < Int64.ofInt b ↔ a < b := by rw [Int64.lt_iff_toInt_lt, zl_toInt ha, zl_toInt hb]
theorem zl_eq {a b : Int} (ha : inL a) (hb : inL b) : Int64.ofInt a = Int64.ofInt b ↔ a = b := by rw [← Int64.toInt_inj, zl_toInt ha, zl_toInt hb]
theorem inR0 : inR 0 := ⟨by decide, by decide⟩
theorem zi_lt0 {a : Int} (ha : inR a) : Int32.ofInt a < 0 ↔ a < 0 := zi_lt ha inR0
theorem zi_le0 {a : Int} (ha : inR a) : Int32.ofInt a ≤ 0 ↔ a ≤ 0 := zi_le ha inR0
theorem zi_ge0 {a : Int} (ha : inR a) : 0 ≤ Int32.ofInt a ↔ 0 ≤ a := zi_le inR0 ha
theorem zi_gt0 {a : Int} (ha : inR a) : 0 < Int32.ofInt a ↔ 0 < a := zi_lt inR0 ha
theorem zi_eq0 {a : Int} (ha : inR a) : Int32.ofInt a = 0 ↔ a = 0 := zi_eq ha inR0
theorem zi_nat {a : Int} (h0 : 0 ≤ a) (h1 : a < 2147483648) : (Int32.ofInt a).toNatClampNeg = a.toNat := Int32.toNatClampNeg_ofInt_of_le (by omega) (by omega)
theorem zi_in {a : Int} {n : Nat} (h0 : 0 ≤ a) (h1 : a < n) (hn : n < 2147483648) : vp_in (Int32.ofInt a) n := by
  have hr : inR a := ⟨by omega, by omega⟩
  rw [vp_in_iff, zi_toInt hr]
  exact ⟨h0, h1⟩
theorem zi_l {z : Int} (h : inR z) : (Int32.ofInt z).toInt64 = Int64.ofInt z := by
  rw [← Int64.ofInt_int32ToInt, zi_toInt h]
theorem zl_i (z : Int) : (Int64.ofInt z).toInt32 = Int32.ofInt z := by
  first | rw [Int64.toInt32_ofInt] | simp
theorem zi_0 : (0 : Int32) = Int32.ofInt 0 := rfl
end
section
/-! WHAT STAYS as it is from the start: String constants (their places 500 and on, their bytes 600 and on), statics of the JDK, pairs of classes that are not castable -/
def lenS : List Nat := [10, 4, 3, 3, 7, 2, 7, 4, 6]
def bytS : List (List Int32) := [[99, 111, 109, 112, 108, 101, 116, 105, 111, 110], [99, 111, 115, 116], [100, 117, 101], [106, 111, 98], [109, 97, 99, 104, 105, 110, 101], [111, 112], [114, 101, 108, 101, 97, 115, 101], [115, 104, 111, 112], [119, 101, 105, 103, 104, 116]]
def occS : List (String × Nat × String × Nat) := [("BlockingShop$SetupReader", 173, "completion", 0), ("BlockingShopModel", 120, "completion", 0), ("BlockingShop$SetupReader", 75, "cost", 1), ("BlockingShopModel", 169, "cost", 1), ("BlockingShop$SetupReader", 175, "due", 2), ("BlockingShopModel", 126, "due", 2), ("BlockingShop", 220, "its machine has no such position", 20), ("BlockingShop$SetupReader", 61, "job", 3), ("BlockingShopModel", 161, "job", 3), ("BlockingShop$SetupReader", 70, "machine", 4), ("BlockingShopModel", 165, "machine", 4), ("BlockingShop", 209, "most is not 1 to 20", 21), ("BlockingShop", 241, "no such job", 22), ("BlockingShop", 239, "no such machine", 23), ("BlockingShop", 243, "no such operation", 24), ("BlockingShop", 137, "no such position", 25), ("BlockingShop", 245, "no such two positions", 26), ("BlockingShop$SetupReader", 127, "op", 5), ("BlockingShopModel", 150, "op", 5), ("BlockingShop$SetupReader", 177, "release", 6), ("BlockingShopModel", 130, "release", 6), ("BlockingShop$SetupReader", 99, "shop", 7), ("BlockingShopModel", 178, "shop", 7), ("BlockingShop", 69, "the buffer has no such length", 27), ("BlockingShop", 176, "the critical path has no such index", 28), ("BlockingShop", 232, "the duration is not 1 to 99", 29), ("BlockingShop", 230, "the plan would be deadlocked", 30), ("BlockingShop", 203, "the swap would deadlock the plan", 31), ("BlockingShop$SetupReader", 176, "weight", 8), ("BlockingShopModel", 128, "weight", 8), ("BlockingShop", 127, "what is not 0 to 2", 32)]
def ncS : List (String × String) := [("BlockingShop", "java/lang/IllegalArgumentException"), ("BlockingShop", "java/lang/IllegalStateException"), ("BlockingShop", "java/lang/IndexOutOfBoundsException"), ("BlockingShop", "java/util/NoSuchElementException"), ("BlockingShop$CostRule", "java/lang/IllegalArgumentException"), ("BlockingShop$CostRule", "java/lang/IllegalStateException"), ("BlockingShop$CostRule", "java/lang/IndexOutOfBoundsException"), ("BlockingShop$CostRule", "java/util/NoSuchElementException"), ("BlockingShop$Plan", "java/lang/IllegalArgumentException"), ("BlockingShop$Plan", "java/lang/IllegalStateException"), ("BlockingShop$Plan", "java/lang/IndexOutOfBoundsException"), ("BlockingShop$Plan", "java/util/NoSuchElementException"), ("BlockingShop$Schedule", "java/lang/IllegalArgumentException"), ("BlockingShop$Schedule", "java/lang/IllegalStateException"), ("BlockingShop$Schedule", "java/lang/IndexOutOfBoundsException"), ("BlockingShop$Schedule", "java/util/NoSuchElementException"), ("BlockingShop$SetupReader", "java/lang/IllegalArgumentException"), ("BlockingShop$SetupReader", "java/lang/IllegalStateException"), ("BlockingShop$SetupReader", "java/lang/IndexOutOfBoundsException"), ("BlockingShop$SetupReader", "java/util/NoSuchElementException"), ("BlockingShop$Shop", "java/lang/IllegalArgumentException"), ("BlockingShop$Shop", "java/lang/IllegalStateException"), ("BlockingShop$Shop", "java/lang/IndexOutOfBoundsException"), ("BlockingShop$Shop", "java/util/NoSuchElementException"), ("BlockingShopModel", "java/lang/IllegalArgumentException"), ("BlockingShopModel", "java/lang/IllegalStateException"), ("BlockingShopModel", "java/lang/IndexOutOfBoundsException"), ("BlockingShopModel", "java/util/NoSuchElementException"), ("java/lang/IllegalArgumentException", "java/lang/IllegalStateException"), ("java/lang/IllegalArgumentException", "java/lang/IndexOutOfBoundsException"), ("java/lang/IllegalArgumentException", "java/util/NoSuchElementException"), ("java/lang/IllegalStateException", "java/lang/IllegalArgumentException"), ("java/lang/IllegalStateException", "java/lang/IndexOutOfBoundsException"), ("java/lang/IllegalStateException", "java/util/NoSuchElementException"), ("java/lang/IndexOutOfBoundsException", "java/lang/IllegalArgumentException"), ("java/lang/IndexOutOfBoundsException", "java/lang/IllegalStateException"), ("java/lang/IndexOutOfBoundsException", "java/util/NoSuchElementException"), ("java/util/NoSuchElementException", "java/lang/IllegalArgumentException"), ("java/util/NoSuchElementException", "java/lang/IllegalStateException"), ("java/util/NoSuchElementException", "java/lang/IndexOutOfBoundsException")]
def RO (ρ : Nat → Nat) (A : Nat → Prop) (U : State) (H : Heap) : Prop :=
  (∀ i : Nat, i < 9 → va_O "java/lang/String" (ρ (500 + i)) A U H ∧ va_OF "java/lang/String" "coder" "B" (.int 0) (ρ (500 + i)) A U H ∧ va_OF "java/lang/String" "value" "[B" (.ref (ρ (600 + i))) (ρ (500 + i)) A U H ∧ va_T .byte (ρ (600 + i)) (lenS.getD i 0) (fun j => .int ((bytS.getD i []).getD j 0)) A U H) ∧
  (∀ q ∈ occS, vk_R q.1 q.2.1 q.2.2.1 (ρ (500 + q.2.2.2)) U) ∧
  va_Z "java/lang/String" "COMPACT_STRINGS" "Z" (.int 1) A U H ∧
  (va_Z "jdk/internal/util/Preconditions" "SIOOBE_FORMATTER" "Ljava/util/function/BiFunction;" .null A U H ∨ va_Z "jdk/internal/util/Preconditions" "SIOOBE_FORMATTER" "Ljava/util/function/BiFunction;" (.ref (ρ 700)) A U H) ∧
  vx_Zq Bundle.tN "UNASSIGNED_STACK" Bundle.steD A U H ∧ vx_Zq Bundle.tN "SUPPRESSED_SENTINEL" Bundle.listD A U H ∧
  (∀ q ∈ ncS, va_Nc q.1 q.2 U)
theorem RO.warm {ρ : Nat → Nat} {A : Nat → Prop} {s U : State} {H : Heap} (hW : s.WarmedH U.vm) (h : RO ρ A s H) : RO ρ A U H := by
  obtain ⟨h1, h2, h3, h4, h5, h6, h7⟩ := h
  have ha := hW.alike
  exact ⟨fun i hi => ⟨va_O.moved ha (h1 i hi).1, va_OF.moved ha (h1 i hi).2.1, va_OF.moved ha (h1 i hi).2.2.1, va_T.moved ha (h1 i hi).2.2.2⟩, fun q hq => (h2 q hq).warm hW, va_Z.moved ha h3, h4.imp (va_Z.moved ha) (va_Z.moved ha), vx_Zq.moved ha h5, vx_Zq.moved ha h6, fun q hq => (h7 q hq).moved ha⟩
theorem RO.kept {ρ : Nat → Nat} {A : Nat → Prop} {U : State} {H H1 : Heap} (h : RO ρ A U H) (hq : ∀ a : Nat, a < H.size → ¬ A a → H1[a]? = H[a]?) : RO ρ A U H1 := by
  obtain ⟨h1, h2, h3, h4, h5, h6, h7⟩ := h
  exact ⟨fun i hi => ⟨(h1 i hi).1.kept hq, (h1 i hi).2.1.kept hq, (h1 i hi).2.2.1.kept hq, (h1 i hi).2.2.2.kept hq⟩, h2, h3.kept hq, h4.imp (fun z => z.kept hq) (fun z => z.kept hq), h5.kept hq, h6.kept hq, h7⟩
theorem RO.narrow {ρ : Nat → Nat} {A B : Nat → Prop} {U : State} {H : Heap} (h : RO ρ A U H) (hAB : ∀ q, B q → A q) : RO ρ B U H := by
  obtain ⟨h1, h2, h3, h4, h5, h6, h7⟩ := h
  exact ⟨fun i hi => ⟨(h1 i hi).1.narrow hAB, (h1 i hi).2.1.narrow hAB, (h1 i hi).2.2.1.narrow hAB, (h1 i hi).2.2.2.narrow hAB⟩, h2, h3.narrow hAB, h4.imp (fun z => z.narrow hAB) (fun z => z.narrow hAB), h5.narrow hAB, h6.narrow hAB, h7⟩
theorem RO.ren {ρ ρ' : Nat → Nat} {A : Nat → Prop} {U : State} {H : Heap} (h : RO ρ A U H) (hr : ∀ i, 500 ≤ i → i < 701 → ρ' i = ρ i) : RO ρ' A U H := by
  obtain ⟨h1, h2, h3, h4, h5⟩ := h
  refine ⟨fun i hi => ?_, fun q hq => ?_, h3, by rw [hr 700 (by omega) (by omega)]; exact h4, h5⟩
  · rw [hr (500 + i) (by omega) (by omega), hr (600 + i) (by omega) (by omega)]
    exact h1 i hi
  · have hb : ∀ q ∈ occS, q.2.2.2 < 100 := by decide +kernel
    have := hb q hq
    rw [hr (500 + q.2.2.2) (by omega) (by omega)]
    exact h2 q hq
end
section
/-! ROWS: an instruction of a method over the abstract memory -/
/-- a method: name, class, code, locals, what it returns, its room -/
abbrev MI : Type := MethodName × String × ByteArray × Nat × Option FieldType × Room
/-- the launch, the classes, the arrays' classes, the addresses of the numbers, the numbers in use, what each is -/
abbrev GG : Type := Launch × va_G × (Nat → ClassId) × (Nat → Nat) × List Nat × (Nat → CT)
abbrev gl (Γ : GG) : Launch := Γ.1
abbrev gD (Γ : GG) : va_G := Γ.2.1
abbrev gk (Γ : GG) : Nat → ClassId := Γ.2.2.1
abbrev gr (Γ : GG) : Nat → Nat := Γ.2.2.2.1
abbrev gi (Γ : GG) : List Nat := Γ.2.2.2.2.1
abbrev gt (Γ : GG) : Nat → CT := Γ.2.2.2.2.2
abbrev gw (Γ : GG) (P : MP) (I : MM) : va_W := wl (gk Γ) (gr Γ) (gi Γ) (gt Γ) P I
def lwU : List Cond := lw_tbl.filter goodWord
def RG (Γ : GG) (sz : Nat) : Nat → Prop := fun q => (∃ i, i ∈ gi Γ ∧ gr Γ i = q) ∨ sz ≤ q
def Bd (p : Program) (s : State) (m : MethodId) (args : Array Value) (meth : Method) (c : Code) (μ : MI) : Prop :=
  p.tables.exec = Jvm.exec ∧ c.code = μ.2.2.1 ∧ c.maxLocals = μ.2.2.2.1 ∧ s.vm.findClass μ.2.1 = some m.cls ∧ (∀ w ∈ lwU, w.before args s = true) ∧ meth.sig.returnType = μ.2.2.2.2.1 ∧ meth.locks = false
abbrev QT : Type := Option AV → MP → MM → Prop
def PQ (Γ : GG) (Q : QT) : Array Value → State → Outcome → State → Prop := fun _ st o t =>
  (∃ (v : Option AV) (P' : MP) (I' : MM), o = .returned (v.map (cv (gr Γ))) ∧ Q v P' I' ∧ va_K (gD Γ) vwCl (tysK (gk Γ)) t ∧ va_P (gD Γ) vwCl (gw Γ P' I') t.heap) ∧ va_F (RG Γ st.heap.size) st t
/-- from the instruction at pc, with the locals al, the stack st, the memory P, I: the method ends as Q says -/
def XM (Γ : GG) (μ : MI) (cells slots pc : Nat) (al : List (Nat × AV)) (st : List AV) (P : MP) (I : MM) (Q : QT) : Prop :=
  ∀ (p : Program) (e : Env) (s : State) (m : MethodId) (args : Array Value) (below : List Frame) (meth : Method) (c : Code), Bd p s m args meth c μ → ∀ (H : Heap) (locs : List Loc) (ls : Array Slot), lv_has ls μ.2.2.2.1 (cvl (gr Γ) al) → va_K (gD Γ) vwCl (tysK (gk Γ)) s → va_P (gD Γ) vwCl (gw Γ P I) H → va_D (RG Γ s.heap.size) (gw Γ P I) → va_S (RG Γ s.heap.size) s.heap H locs → RO (gr Γ) (RG Γ s.heap.size) s s.heap →
    W p (gl Γ) e μ.2.2.2.2.2 s m args below meth c H locs cells slots (MQ below (PQ Γ Q) args s μ.2.2.2.2.2.cells μ.2.2.2.2.2.slots (RG Γ s.heap.size)) (F0 m pc ls (st.map (cv (gr Γ))))
theorem gw_D {Γ : GG} {P P' : MP} {I I' : MM} {A : Nat → Prop} (h : va_D A (gw Γ P I)) : va_D A (gw Γ P' I') := by
  have key : ∀ (P P' : MP) (I I' : MM) (k : Nat) (q : Nat × va_E), (gw Γ P' I')[k]? = some q → ∃ q0 : Nat × va_E, (gw Γ P I)[k]? = some q0 ∧ q0.1 = q.1 := by
    intro P P' I I' k q h
    simp only [gw, wl, List.getElem?_map] at h ⊢
    cases hi : (gi Γ)[k]? with
    | none => rw [hi] at h; cases h
    | some i => rw [hi] at h; cases h; exact ⟨_, rfl, rfl⟩
  refine ⟨fun i j x y hi hj hxy => ?_, fun k q hk => ?_⟩
  · obtain ⟨x0, h1, h2⟩ := key P P' I I' i x hi
    obtain ⟨y0, h3, h4⟩ := key P P' I I' j y hj
    exact h.1 i j x0 y0 h1 h3 (h2.trans (hxy.trans h4.symm))
  · obtain ⟨q0, h1, h2⟩ := key P P' I I' k q hk
    rw [← h2]
    exact h.2 k q0 h1
/-! locals -/
def isLv : AV → Bool := fun v => match v with
  | Sum.inr (Sum.inl _) => true
  | _ => false
def noL (i : Nat) (l : List (Nat × AV)) : Bool := l.all (fun q => !(Nat.beq (q.1 + 1) i && isLv q.2))
def noK (i : Nat) (l : List (Nat × AV)) : Bool := l.all (fun q => !(Nat.beq q.1 i))
def stL (i : Nat) (v : AV) (l : List (Nat × AV)) : List (Nat × AV) := cond (l.any (fun q => Nat.beq q.1 i)) (l.map (fun q => cond (Nat.beq q.1 i) (i, v) q)) (l ++ [(i, v)])
def pkL (l : List (Nat × AV)) (ks : List Nat) : List (Nat × AV) := ks.filterMap (fun k => l[k]?)
theorem cvl_at {ρ : Nat → Nat} {al : List (Nat × AV)} {n i : Nat} {v : AV} (h : al[n]? = some (i, v)) : (cvl ρ al)[n]? = some (i, cv ρ v) := by simp [cvl, h]
theorem cv_cat (ρ : Nat → Nat) (v : AV) : (cv ρ v).category = if isLv v then 2 else 1 := by
  rcases v with z | z | (_ | i) <;> rfl
theorem stL_mem {i : Nat} {v : AV} {l : List (Nat × AV)} {q : Nat × AV} (h : q ∈ stL i v l) : q = (i, v) ∨ (q ∈ l ∧ q.1 ≠ i) := by
  unfold stL at h
  cases hc : l.any (fun q => Nat.beq q.1 i) with
  | true =>
    rw [hc] at h
    simp only [cond_true, List.mem_map] at h
    obtain ⟨r, hr, he⟩ := h
    cases hb : Nat.beq r.1 i with
    | true => rw [hb] at he; exact Or.inl he.symm
    | false => rw [hb] at he; simp only [cond_false] at he; subst he; exact Or.inr ⟨hr, fun z => by rw [z, Nat.beq_refl] at hb; cases hb⟩
  | false =>
    rw [hc] at h
    simp only [cond_false, List.mem_append, List.mem_singleton] at h
    rcases h with h | h
    · refine Or.inr ⟨h, fun z => ?_⟩
      have := List.any_eq_false.mp hc q h
      rw [z, Nat.beq_refl] at this
      exact this rfl
    · exact Or.inl h
theorem st_has {ρ : Nat → Nat} {ls : Array Slot} {nL i : Nat} {v : AV} {al : List (Nat × AV)} (h : lv_has ls nL ((i, cv ρ v) :: (cvl ρ al).filter (fun q => !(q.1 == i) && !(q.1 + 1 == i && q.2.category == 2)))) (hn : noL i al = true) : lv_has ls nL (cvl ρ (stL i v al)) := by
  refine ⟨h.1, h.2.1, fun q hq => ?_⟩
  obtain ⟨r, hr, he⟩ := List.mem_map.mp hq
  subst he
  rcases stL_mem hr with rfl | ⟨h1, h2⟩
  · exact h.2.2 _ List.mem_cons_self
  · refine h.2.2 _ (List.mem_cons_of_mem _ (List.mem_filter.mpr ⟨List.mem_map.mpr ⟨r, h1, rfl⟩, ?_⟩))
    have h3 := List.all_eq_true.mp hn r h1
    simp only [cv_cat]
    have h4 : (r.1 == i) = false := by simpa using h2
    rw [h4]
    cases hl : isLv r.2 with
    | false => simp
    | true =>
      rw [hl] at h3
      have : ¬ r.1 + 1 = i := fun z => by rw [z, Nat.beq_refl] at h3; simp at h3
      simp [this]
theorem st2_has {ρ : Nat → Nat} {ls : Array Slot} {nL i : Nat} {v : AV} {al : List (Nat × AV)} (h : lv_has ls nL ((i, cv ρ v) :: (cvl ρ al).filter (fun q => !(q.1 == i) && (!(q.1 == i + 1) && !(q.1 + 1 == i && q.2.category == 2))))) (hn : noL i al = true) (hk : noK (i + 1) al = true) : lv_has ls nL (cvl ρ (stL i v al)) := by
  refine ⟨h.1, h.2.1, fun q hq => ?_⟩
  obtain ⟨r, hr, he⟩ := List.mem_map.mp hq
  subst he
  rcases stL_mem hr with rfl | ⟨h1, h2⟩
  · exact h.2.2 _ List.mem_cons_self
  · refine h.2.2 _ (List.mem_cons_of_mem _ (List.mem_filter.mpr ⟨List.mem_map.mpr ⟨r, h1, rfl⟩, ?_⟩))
    have h3 := List.all_eq_true.mp hn r h1
    have h5 := List.all_eq_true.mp hk r h1
    simp only [cv_cat]
    have h4 : (r.1 == i) = false := by simpa using h2
    have h6 : (r.1 == i + 1) = false := by
      by_cases z : r.1 = i + 1
      · rw [z, Nat.beq_refl] at h5; cases h5
      · simpa using z
    rw [h4, h6]
    cases hl : isLv r.2 with
    | false => simp
    | true =>
      rw [hl] at h3
      have : ¬ r.1 + 1 = i := fun z => by rw [z, Nat.beq_refl] at h3; simp at h3
      simp [this]
theorem pk_has {ρ : Nat → Nat} {ls : Array Slot} {nL : Nat} {al al' : List (Nat × AV)} (h : lv_has ls nL (cvl ρ al)) (ks : List Nat) (hl : pkL al ks = al') : lv_has ls nL (cvl ρ al') := by
  refine ⟨h.1, h.2.1, fun q hq => ?_⟩
  obtain ⟨r, hr, he⟩ := List.mem_map.mp hq
  subst he
  rw [← hl] at hr
  obtain ⟨k, -, hk⟩ := List.mem_filterMap.mp hr
  exact h.2.2 _ (List.mem_map.mpr ⟨r, List.mem_of_getElem? hk, rfl⟩)
section XR
variable {Γ : GG} {μ : MI} {cells slots pc : Nat} {al al' : List (Nat × AV)} {st : List AV} {P : MP} {I : MM} {Q : QT}
theorem x_sub (ks : List Nat) (hl : pkL al ks = al') (k : XM Γ μ cells slots pc al' st P I Q) : XM Γ μ cells slots pc al st P I Q := fun p e s m args below meth c B H locs ls hl2 hK hP hD hS hX => k p e s m args below meth c B H locs ls (pk_has hl2 ks hl) hK hP hD hS hX
theorem x_iconst {n : Int} (hd : decode μ.2.2.1 pc = .ok (.iconst n, 1))  (k : XM Γ μ cells slots (pc + 1) al (vI n :: st) P I Q) : XM Γ μ cells slots pc al (st) P I Q := by
  intro p e s m args below meth c B H locs ls hl hK hP hD hS hX
  exact lv_iconst B.1 B.2.1 hd rfl (k p e s m args below meth c B H locs ls hl hK hP hD hS hX)
theorem x_bipush {n : Int} (hd : decode μ.2.2.1 pc = .ok (.bipush n, 2)) (hn : (Int8.ofInt n).toInt32 = Int32.ofInt n) (k : XM Γ μ cells slots (pc + 2) al (vI n :: st) P I Q) : XM Γ μ cells slots pc al (st) P I Q := by
  intro p e s m args below meth c B H locs ls hl hK hP hD hS hX
  exact lv_bipush B.1 B.2.1 hd hn (k p e s m args below meth c B H locs ls hl hK hP hD hS hX)
theorem x_sipush {n : Int} (hd : decode μ.2.2.1 pc = .ok (.sipush n, 3)) (hn : (Int16.ofInt n).toInt32 = Int32.ofInt n) (k : XM Γ μ cells slots (pc + 3) al (vI n :: st) P I Q) : XM Γ μ cells slots pc al (st) P I Q := by
  intro p e s m args below meth c B H locs ls hl hK hP hD hS hX
  exact lv_sipush B.1 B.2.1 hd hn (k p e s m args below meth c B H locs ls hl hK hP hD hS hX)
theorem x_lconst {n : Fin 2} (z : Int) (hd : decode μ.2.2.1 pc = .ok (.lconst n, 1)) (hn : Int64.ofNat (n : Nat) = Int64.ofInt z) (k : XM Γ μ cells slots (pc + 1) al (vL z :: st) P I Q) : XM Γ μ cells slots pc al (st) P I Q := by
  intro p e s m args below meth c B H locs ls hl hK hP hD hS hX
  exact lv_lconst B.1 B.2.1 hd hn (k p e s m args below meth c B H locs ls hl hK hP hD hS hX)
theorem x_ldc {n : Nat} (z : Int) (hd : decode μ.2.2.1 pc = .ok (.ldc n, 2)) (hc : Cond.constant μ.2.1 n (Int32.ofInt z) ∈ lwU) (k : XM Γ μ cells slots (pc + 2) al (vI z :: st) P I Q) : XM Γ μ cells slots pc al (st) P I Q := by
  intro p e s m args below meth c B H locs ls hl hK hP hD hS hX
  exact lv_ldc B.1 B.2.1 B.2.2.2.1 (B.2.2.2.2.1 _ hc) hd (k p e s m args below meth c B H locs ls hl hK hP hD hS hX)
theorem x_ldc2 {n : Nat} (z : Int) (hd : decode μ.2.2.1 pc = .ok (.ldc2_w n, 3)) (hc : Cond.constantLong μ.2.1 n (Int64.ofInt z) ∈ lwU) (k : XM Γ μ cells slots (pc + 3) al (vL z :: st) P I Q) : XM Γ μ cells slots pc al (st) P I Q := by
  intro p e s m args below meth c B H locs ls hl hK hP hD hS hX
  exact lv_ldc2 B.1 B.2.1 B.2.2.2.1 (B.2.2.2.2.1 _ hc) hd (k p e s m args below meth c B H locs ls hl hK hP hD hS hX)
theorem x_iload_n {i : Fin 4} {z : Int} (n : Nat) (hd : decode μ.2.2.1 pc = .ok (.iload_n i, 1)) (hv : al[n]? = some ((i : Nat), vI z)) (k : XM Γ μ cells slots (pc + 1) al (vI z :: st) P I Q) : XM Γ μ cells slots pc al (st) P I Q := by
  intro p e s m args below meth c B H locs ls hl hK hP hD hS hX
  exact lv_iload_n B.1 B.2.1 hd rfl (lv_at hl n (cvl_at hv)) (k p e s m args below meth c B H locs ls hl hK hP hD hS hX)
theorem x_iload {i : Nat} {z : Int} (n : Nat) (hd : decode μ.2.2.1 pc = .ok (.iload i, 2)) (hv : al[n]? = some (i, vI z)) (k : XM Γ μ cells slots (pc + 2) al (vI z :: st) P I Q) : XM Γ μ cells slots pc al (st) P I Q := by
  intro p e s m args below meth c B H locs ls hl hK hP hD hS hX
  exact lv_iload B.1 B.2.1 hd (lv_at hl n (cvl_at hv)) (k p e s m args below meth c B H locs ls hl hK hP hD hS hX)
theorem x_lload_n {i : Fin 4} {z : Int} (n : Nat) (hd : decode μ.2.2.1 pc = .ok (.lload_n i, 1)) (hv : al[n]? = some ((i : Nat), vL z)) (k : XM Γ μ cells slots (pc + 1) al (vL z :: st) P I Q) : XM Γ μ cells slots pc al (st) P I Q := by
  intro p e s m args below meth c B H locs ls hl hK hP hD hS hX
  exact lv_lload_n B.1 B.2.1 hd rfl (lv_at hl n (cvl_at hv)) (k p e s m args below meth c B H locs ls hl hK hP hD hS hX)
theorem x_aload_n {i : Fin 4} {z : Nat} (n : Nat) (hd : decode μ.2.2.1 pc = .ok (.aload_n i, 1)) (hv : al[n]? = some ((i : Nat), vR z)) (k : XM Γ μ cells slots (pc + 1) al (vR z :: st) P I Q) : XM Γ μ cells slots pc al (st) P I Q := by
  intro p e s m args below meth c B H locs ls hl hK hP hD hS hX
  exact lv_aload_n B.1 B.2.1 hd rfl (lv_at hl n (cvl_at hv)) (k p e s m args below meth c B H locs ls hl hK hP hD hS hX)
theorem x_aload {i : Nat} {z : Nat} (n : Nat) (hd : decode μ.2.2.1 pc = .ok (.aload i, 2)) (hv : al[n]? = some (i, vR z)) (k : XM Γ μ cells slots (pc + 2) al (vR z :: st) P I Q) : XM Γ μ cells slots pc al (st) P I Q := by
  intro p e s m args below meth c B H locs ls hl hK hP hD hS hX
  exact lv_aload B.1 B.2.1 hd (lv_at hl n (cvl_at hv)) (k p e s m args below meth c B H locs ls hl hK hP hD hS hX)
theorem x_istore_n {i : Fin 4} {z : Int} (hd : decode μ.2.2.1 pc = .ok (.istore_n i, 1)) (ha : stL (i : Nat) (vI z) al = al') (hn : noL (i : Nat) al = true) (hL : (i : Nat) < μ.2.2.2.1) (k : XM Γ μ cells slots (pc + 1) al' st P I Q) : XM Γ μ cells slots pc al (vI z :: st) P I Q := by
  intro p e s m args below meth c B H locs ls hl hK hP hD hS hX
  subst ha
  exact lv_istore_n B.1 B.2.1 hd rfl hl hL rfl (fun ls hl2 => k p e s m args below meth c B H locs ls (st_has hl2 hn) hK hP hD hS hX)
theorem x_istore {i : Nat} {z : Int} (hd : decode μ.2.2.1 pc = .ok (.istore i, 2)) (ha : stL i (vI z) al = al') (hn : noL i al = true) (hL : i < μ.2.2.2.1) (k : XM Γ μ cells slots (pc + 2) al' st P I Q) : XM Γ μ cells slots pc al (vI z :: st) P I Q := by
  intro p e s m args below meth c B H locs ls hl hK hP hD hS hX
  subst ha
  exact lv_istore B.1 B.2.1 hd hl hL rfl (fun ls hl2 => k p e s m args below meth c B H locs ls (st_has hl2 hn) hK hP hD hS hX)
theorem x_astore_n {i : Fin 4} {z : Nat} (hd : decode μ.2.2.1 pc = .ok (.astore_n i, 1)) (ha : stL (i : Nat) (vR z) al = al') (hn : noL (i : Nat) al = true) (hL : (i : Nat) < μ.2.2.2.1) (k : XM Γ μ cells slots (pc + 1) al' st P I Q) : XM Γ μ cells slots pc al (vR z :: st) P I Q := by
  intro p e s m args below meth c B H locs ls hl hK hP hD hS hX
  subst ha
  exact lv_astore_n B.1 B.2.1 hd rfl hl hL rfl (fun ls hl2 => k p e s m args below meth c B H locs ls (st_has hl2 hn) hK hP hD hS hX)
theorem x_astore {i : Nat} {z : Nat} (hd : decode μ.2.2.1 pc = .ok (.astore i, 2)) (ha : stL i (vR z) al = al') (hn : noL i al = true) (hL : i < μ.2.2.2.1) (k : XM Γ μ cells slots (pc + 2) al' st P I Q) : XM Γ μ cells slots pc al (vR z :: st) P I Q := by
  intro p e s m args below meth c B H locs ls hl hK hP hD hS hX
  subst ha
  exact lv_astore B.1 B.2.1 hd hl hL rfl (fun ls hl2 => k p e s m args below meth c B H locs ls (st_has hl2 hn) hK hP hD hS hX)
theorem x_lstore_n {i : Fin 4} {z : Int} (hd : decode μ.2.2.1 pc = .ok (.lstore_n i, 1)) (ha : stL (i : Nat) (vL z) al = al') (hn : noL (i : Nat) al = true) (hk : noK ((i : Nat) + 1) al = true) (hL : (i : Nat) + 1 < μ.2.2.2.1) (k : XM Γ μ cells slots (pc + 1) al' st P I Q) : XM Γ μ cells slots pc al (vL z :: st) P I Q := by
  intro p e s m args below meth c B H locs ls hl hK hP hD hS hX
  subst ha
  exact lv_lstore_n B.1 B.2.1 hd rfl hl hL rfl (fun ls hl2 => k p e s m args below meth c B H locs ls (st2_has hl2 hn hk) hK hP hD hS hX)
theorem x_iinc {i : Nat} {c0 z : Int} (n : Nat) (hd : decode μ.2.2.1 pc = .ok (.iinc i c0, 3)) (hv : al[n]? = some (i, vI z)) (ha : stL i (vI (z + c0)) al = al') (hn : noL i al = true) (hL : i < μ.2.2.2.1) (k : XM Γ μ cells slots (pc + 3) al' st P I Q) : XM Γ μ cells slots pc al st P I Q := by
  intro p e s m args below meth c B H locs ls hl hK hP hD hS hX
  subst ha
  exact lv_iinc B.1 B.2.1 hd hl (cvl_at hv) (zi_add z c0) hL rfl (fun ls hl2 => k p e s m args below meth c B H locs ls (st_has hl2 hn) hK hP hD hS hX)
theorem x_iadd {a b : Int} (hd : decode μ.2.2.1 pc = .ok (.iadd, 1))  (k : XM Γ μ cells slots (pc + 1) al (vI (a + b) :: st) P I Q) : XM Γ μ cells slots pc al (vI b :: vI a :: st) P I Q := by
  intro p e s m args below meth c B H locs ls hl hK hP hD hS hX
  refine lv_iadd B.1 B.2.1 hd ?_
  rw [zi_add]
  exact k p e s m args below meth c B H locs ls hl hK hP hD hS hX
theorem x_isub {a b : Int} (hd : decode μ.2.2.1 pc = .ok (.isub, 1))  (k : XM Γ μ cells slots (pc + 1) al (vI (a - b) :: st) P I Q) : XM Γ μ cells slots pc al (vI b :: vI a :: st) P I Q := by
  intro p e s m args below meth c B H locs ls hl hK hP hD hS hX
  refine lv_isub B.1 B.2.1 hd ?_
  rw [zi_sub]
  exact k p e s m args below meth c B H locs ls hl hK hP hD hS hX
theorem x_imul {a b : Int} (hd : decode μ.2.2.1 pc = .ok (.imul, 1))  (k : XM Γ μ cells slots (pc + 1) al (vI (a * b) :: st) P I Q) : XM Γ μ cells slots pc al (vI b :: vI a :: st) P I Q := by
  intro p e s m args below meth c B H locs ls hl hK hP hD hS hX
  refine lv_imul B.1 B.2.1 hd ?_
  rw [zi_mul]
  exact k p e s m args below meth c B H locs ls hl hK hP hD hS hX
theorem x_ladd {a b : Int} (hd : decode μ.2.2.1 pc = .ok (.ladd, 1))  (k : XM Γ μ cells slots (pc + 1) al (vL (a + b) :: st) P I Q) : XM Γ μ cells slots pc al (vL b :: vL a :: st) P I Q := by
  intro p e s m args below meth c B H locs ls hl hK hP hD hS hX
  refine lv_ladd B.1 B.2.1 hd ?_
  rw [zl_add]
  exact k p e s m args below meth c B H locs ls hl hK hP hD hS hX
theorem x_lsub {a b : Int} (hd : decode μ.2.2.1 pc = .ok (.lsub, 1))  (k : XM Γ μ cells slots (pc + 1) al (vL (a - b) :: st) P I Q) : XM Γ μ cells slots pc al (vL b :: vL a :: st) P I Q := by
  intro p e s m args below meth c B H locs ls hl hK hP hD hS hX
  refine lv_lsub B.1 B.2.1 hd ?_
  rw [zl_sub]
  exact k p e s m args below meth c B H locs ls hl hK hP hD hS hX
theorem x_lmul {a b : Int} (hd : decode μ.2.2.1 pc = .ok (.lmul, 1))  (k : XM Γ μ cells slots (pc + 1) al (vL (a * b) :: st) P I Q) : XM Γ μ cells slots pc al (vL b :: vL a :: st) P I Q := by
  intro p e s m args below meth c B H locs ls hl hK hP hD hS hX
  refine lv_lmul B.1 B.2.1 hd ?_
  rw [zl_mul]
  exact k p e s m args below meth c B H locs ls hl hK hP hD hS hX
theorem x_i2l {a : Int} (hd : decode μ.2.2.1 pc = .ok (.i2l, 1)) (h : inR a) (k : XM Γ μ cells slots (pc + 1) al (vL a :: st) P I Q) : XM Γ μ cells slots pc al (vI a :: st) P I Q := by
  intro p e s m args below meth c B H locs ls hl hK hP hD hS hX
  exact lv_i2l B.1 B.2.1 hd (zi_l h) (k p e s m args below meth c B H locs ls hl hK hP hD hS hX)
theorem x_l2i {a : Int} (hd : decode μ.2.2.1 pc = .ok (.l2i, 1))  (k : XM Γ μ cells slots (pc + 1) al (vI a :: st) P I Q) : XM Γ μ cells slots pc al (vL a :: st) P I Q := by
  intro p e s m args below meth c B H locs ls hl hK hP hD hS hX
  exact lv_l2i B.1 B.2.1 hd (zl_i a) (k p e s m args below meth c B H locs ls hl hK hP hD hS hX)
theorem x_dup {v : AV} (hd : decode μ.2.2.1 pc = .ok (.dup, 1)) (h : isLv v = false) (k : XM Γ μ cells slots (pc + 1) al (v :: v :: st) P I Q) : XM Γ μ cells slots pc al (v :: st) P I Q := by
  intro p e s m args below meth c B H locs ls hl hK hP hD hS hX
  exact lv_dup B.1 B.2.1 hd (by rw [cv_cat, h]; rfl) (k p e s m args below meth c B H locs ls hl hK hP hD hS hX)
theorem x_pop {v : AV} (hd : decode μ.2.2.1 pc = .ok (.pop, 1)) (h : isLv v = false) (k : XM Γ μ cells slots (pc + 1) al (st) P I Q) : XM Γ μ cells slots pc al (v :: st) P I Q := by
  intro p e s m args below meth c B H locs ls hl hK hP hD hS hX
  exact lv_pop B.1 B.2.1 hd (by rw [cv_cat, h]; rfl) (k p e s m args below meth c B H locs ls hl hK hP hD hS hX)
theorem x_dup2 {v u : AV} (hd : decode μ.2.2.1 pc = .ok (.dup2, 1)) (h : isLv v = false) (h2 : isLv u = false) (k : XM Γ μ cells slots (pc + 1) al (v :: u :: v :: u :: st) P I Q) : XM Γ μ cells slots pc al (v :: u :: st) P I Q := by
  intro p e s m args below meth c B H locs ls hl hK hP hD hS hX
  exact lv_dup2_11 B.1 B.2.1 hd (by rw [cv_cat, h]; rfl) (by rw [cv_cat, h2]; rfl) (k p e s m args below meth c B H locs ls hl hK hP hD hS hX)
theorem x_icmp_eq {a b : Int} {off : Int} (tgt : Nat) (hd : decode μ.2.2.1 pc = .ok (.if_icmp .eq off, 3)) (ht : (pc : Int) + off = (tgt : Int)) (ha : inR a) (hb : inR b) (kt : a = b → XM Γ μ cells slots tgt al st P I Q) (kf : ¬ a = b → XM Γ μ cells slots (pc + 3) al st P I Q) : XM Γ μ cells slots pc al (vI b :: vI a :: st) P I Q := by
  intro p e s m args below meth c B H locs ls hl hK hP hD hS hX
  exact lv_icmp_eq B.1 B.2.1 hd ht (fun h => kt ((zi_eq ha hb).mp h) p e s m args below meth c B H locs ls hl hK hP hD hS hX) (fun h => kf (fun q => h ((zi_eq ha hb).mpr q)) p e s m args below meth c B H locs ls hl hK hP hD hS hX)
theorem x_icmp_lt {a b : Int} {off : Int} (tgt : Nat) (hd : decode μ.2.2.1 pc = .ok (.if_icmp .lt off, 3)) (ht : (pc : Int) + off = (tgt : Int)) (ha : inR a) (hb : inR b) (kt : a < b → XM Γ μ cells slots tgt al st P I Q) (kf : ¬ a < b → XM Γ μ cells slots (pc + 3) al st P I Q) : XM Γ μ cells slots pc al (vI b :: vI a :: st) P I Q := by
  intro p e s m args below meth c B H locs ls hl hK hP hD hS hX
  exact lv_icmp_lt B.1 B.2.1 hd ht (fun h => kt ((zi_lt ha hb).mp h) p e s m args below meth c B H locs ls hl hK hP hD hS hX) (fun h => kf (fun q => h ((zi_lt ha hb).mpr q)) p e s m args below meth c B H locs ls hl hK hP hD hS hX)
theorem x_icmp_le {a b : Int} {off : Int} (tgt : Nat) (hd : decode μ.2.2.1 pc = .ok (.if_icmp .le off, 3)) (ht : (pc : Int) + off = (tgt : Int)) (ha : inR a) (hb : inR b) (kt : a ≤ b → XM Γ μ cells slots tgt al st P I Q) (kf : ¬ a ≤ b → XM Γ μ cells slots (pc + 3) al st P I Q) : XM Γ μ cells slots pc al (vI b :: vI a :: st) P I Q := by
  intro p e s m args below meth c B H locs ls hl hK hP hD hS hX
  exact lv_icmp_le B.1 B.2.1 hd ht (fun h => kt ((zi_le ha hb).mp h) p e s m args below meth c B H locs ls hl hK hP hD hS hX) (fun h => kf (fun q => h ((zi_le ha hb).mpr q)) p e s m args below meth c B H locs ls hl hK hP hD hS hX)
theorem x_icmp_ne {a b : Int} {off : Int} (tgt : Nat) (hd : decode μ.2.2.1 pc = .ok (.if_icmp .ne off, 3)) (ht : (pc : Int) + off = (tgt : Int)) (ha : inR a) (hb : inR b) (kt : a ≠ b → XM Γ μ cells slots tgt al st P I Q) (kf : a = b → XM Γ μ cells slots (pc + 3) al st P I Q) : XM Γ μ cells slots pc al (vI b :: vI a :: st) P I Q := by
  intro p e s m args below meth c B H locs ls hl hK hP hD hS hX
  exact lv_icmp_ne B.1 B.2.1 hd ht (fun h => kt (fun q => h ((zi_eq ha hb).mpr q)) p e s m args below meth c B H locs ls hl hK hP hD hS hX) (fun h => kf ((zi_eq ha hb).mp h) p e s m args below meth c B H locs ls hl hK hP hD hS hX)
theorem x_icmp_ge {a b : Int} {off : Int} (tgt : Nat) (hd : decode μ.2.2.1 pc = .ok (.if_icmp .ge off, 3)) (ht : (pc : Int) + off = (tgt : Int)) (ha : inR a) (hb : inR b) (kt : b ≤ a → XM Γ μ cells slots tgt al st P I Q) (kf : ¬ b ≤ a → XM Γ μ cells slots (pc + 3) al st P I Q) : XM Γ μ cells slots pc al (vI b :: vI a :: st) P I Q := by
  intro p e s m args below meth c B H locs ls hl hK hP hD hS hX
  exact lv_icmp_ge B.1 B.2.1 hd ht (fun h => kt ((zi_le hb ha).mp h) p e s m args below meth c B H locs ls hl hK hP hD hS hX) (fun h => kf (fun q => h ((zi_le hb ha).mpr q)) p e s m args below meth c B H locs ls hl hK hP hD hS hX)
theorem x_icmp_gt {a b : Int} {off : Int} (tgt : Nat) (hd : decode μ.2.2.1 pc = .ok (.if_icmp .gt off, 3)) (ht : (pc : Int) + off = (tgt : Int)) (ha : inR a) (hb : inR b) (kt : b < a → XM Γ μ cells slots tgt al st P I Q) (kf : ¬ b < a → XM Γ μ cells slots (pc + 3) al st P I Q) : XM Γ μ cells slots pc al (vI b :: vI a :: st) P I Q := by
  intro p e s m args below meth c B H locs ls hl hK hP hD hS hX
  exact lv_icmp_gt B.1 B.2.1 hd ht (fun h => kt ((zi_lt hb ha).mp h) p e s m args below meth c B H locs ls hl hK hP hD hS hX) (fun h => kf (fun q => h ((zi_lt hb ha).mpr q)) p e s m args below meth c B H locs ls hl hK hP hD hS hX)
theorem x_if_eq {a : Int} {off : Int} (tgt : Nat) (hd : decode μ.2.2.1 pc = .ok (.ifCond .eq off, 3)) (ht : (pc : Int) + off = (tgt : Int)) (ha : inR a) (kt : a = 0 → XM Γ μ cells slots tgt al st P I Q) (kf : ¬ a = 0 → XM Γ μ cells slots (pc + 3) al st P I Q) : XM Γ μ cells slots pc al (vI a :: st) P I Q := by
  intro p e s m args below meth c B H locs ls hl hK hP hD hS hX
  exact lv_if_eq B.1 B.2.1 hd ht (fun h => kt ((zi_eq0 ha).mp h) p e s m args below meth c B H locs ls hl hK hP hD hS hX) (fun h => kf (fun q => h ((zi_eq0 ha).mpr q)) p e s m args below meth c B H locs ls hl hK hP hD hS hX)
theorem x_if_ne {a : Int} {off : Int} (tgt : Nat) (hd : decode μ.2.2.1 pc = .ok (.ifCond .ne off, 3)) (ht : (pc : Int) + off = (tgt : Int)) (ha : inR a) (kt : a ≠ 0 → XM Γ μ cells slots tgt al st P I Q) (kf : a = 0 → XM Γ μ cells slots (pc + 3) al st P I Q) : XM Γ μ cells slots pc al (vI a :: st) P I Q := by
  intro p e s m args below meth c B H locs ls hl hK hP hD hS hX
  exact lv_if_ne B.1 B.2.1 hd ht (fun h => kt (fun q => h ((zi_eq0 ha).mpr q)) p e s m args below meth c B H locs ls hl hK hP hD hS hX) (fun h => kf ((zi_eq0 ha).mp h) p e s m args below meth c B H locs ls hl hK hP hD hS hX)
theorem x_if_lt {a : Int} {off : Int} (tgt : Nat) (hd : decode μ.2.2.1 pc = .ok (.ifCond .lt off, 3)) (ht : (pc : Int) + off = (tgt : Int)) (ha : inR a) (kt : a < 0 → XM Γ μ cells slots tgt al st P I Q) (kf : ¬ a < 0 → XM Γ μ cells slots (pc + 3) al st P I Q) : XM Γ μ cells slots pc al (vI a :: st) P I Q := by
  intro p e s m args below meth c B H locs ls hl hK hP hD hS hX
  exact lv_if_lt B.1 B.2.1 hd ht (fun h => kt ((zi_lt0 ha).mp h) p e s m args below meth c B H locs ls hl hK hP hD hS hX) (fun h => kf (fun q => h ((zi_lt0 ha).mpr q)) p e s m args below meth c B H locs ls hl hK hP hD hS hX)
theorem x_if_ge {a : Int} {off : Int} (tgt : Nat) (hd : decode μ.2.2.1 pc = .ok (.ifCond .ge off, 3)) (ht : (pc : Int) + off = (tgt : Int)) (ha : inR a) (kt : 0 ≤ a → XM Γ μ cells slots tgt al st P I Q) (kf : ¬ 0 ≤ a → XM Γ μ cells slots (pc + 3) al st P I Q) : XM Γ μ cells slots pc al (vI a :: st) P I Q := by
  intro p e s m args below meth c B H locs ls hl hK hP hD hS hX
  exact lv_if_ge B.1 B.2.1 hd ht (fun h => kt ((zi_ge0 ha).mp h) p e s m args below meth c B H locs ls hl hK hP hD hS hX) (fun h => kf (fun q => h ((zi_ge0 ha).mpr q)) p e s m args below meth c B H locs ls hl hK hP hD hS hX)
theorem x_if_gt {a : Int} {off : Int} (tgt : Nat) (hd : decode μ.2.2.1 pc = .ok (.ifCond .gt off, 3)) (ht : (pc : Int) + off = (tgt : Int)) (ha : inR a) (kt : 0 < a → XM Γ μ cells slots tgt al st P I Q) (kf : ¬ 0 < a → XM Γ μ cells slots (pc + 3) al st P I Q) : XM Γ μ cells slots pc al (vI a :: st) P I Q := by
  intro p e s m args below meth c B H locs ls hl hK hP hD hS hX
  exact lv_if_gt B.1 B.2.1 hd ht (fun h => kt ((zi_gt0 ha).mp h) p e s m args below meth c B H locs ls hl hK hP hD hS hX) (fun h => kf (fun q => h ((zi_gt0 ha).mpr q)) p e s m args below meth c B H locs ls hl hK hP hD hS hX)
theorem x_if_le {a : Int} {off : Int} (tgt : Nat) (hd : decode μ.2.2.1 pc = .ok (.ifCond .le off, 3)) (ht : (pc : Int) + off = (tgt : Int)) (ha : inR a) (kt : a ≤ 0 → XM Γ μ cells slots tgt al st P I Q) (kf : ¬ a ≤ 0 → XM Γ μ cells slots (pc + 3) al st P I Q) : XM Γ μ cells slots pc al (vI a :: st) P I Q := by
  intro p e s m args below meth c B H locs ls hl hK hP hD hS hX
  exact lv_if_le B.1 B.2.1 hd ht (fun h => kt ((zi_le0 ha).mp h) p e s m args below meth c B H locs ls hl hK hP hD hS hX) (fun h => kf (fun q => h ((zi_le0 ha).mpr q)) p e s m args below meth c B H locs ls hl hK hP hD hS hX)
theorem x_goto {off : Int} (tgt : Nat) (hd : decode μ.2.2.1 pc = .ok (.goto off, 3)) (ht : (pc : Int) + off = (tgt : Int)) (k : XM Γ μ cells slots tgt al st P I Q) : XM Γ μ cells slots pc al st P I Q := by
  intro p e s m args below meth c B H locs ls hl hK hP hD hS hX
  exact lv_goto B.1 B.2.1 hd ht (k p e s m args below meth c B H locs ls hl hK hP hD hS hX)
theorem x_ifnull {off : Int} {i : Nat} (hd : decode μ.2.2.1 pc = .ok (.ifnull off, 3)) (k : XM Γ μ cells slots (pc + 3) al st P I Q) : XM Γ μ cells slots pc al (vR i :: st) P I Q := by
  intro p e s m args below meth c B H locs ls hl hK hP hD hS hX
  exact lv_ifnull B.1 B.2.1 hd (k p e s m args below meth c B H locs ls hl hK hP hD hS hX)
theorem x_tableOut {dflt lo hi a : Int} {offs : Array Int} {len : Nat} (tgt : Nat) (hd : decode μ.2.2.1 pc = .ok (.tableswitch dflt lo hi offs, len)) (ha : inR a) (h : a < lo ∨ hi < a) (ht : (pc : Int) + dflt = (tgt : Int)) (k : XM Γ μ cells slots tgt al st P I Q) : XM Γ μ cells slots pc al (vI a :: st) P I Q := by
  intro p e s m args below meth c B H locs ls hl hK hP hD hS hX
  exact lv_tableOut B.1 B.2.1 hd (by rw [zi_toInt ha]; exact h) ht (k p e s m args below meth c B H locs ls hl hK hP hD hS hX)
theorem x_tableIn {dflt lo hi a off : Int} {offs : Array Int} {len : Nat} (tgt : Nat) (hd : decode μ.2.2.1 pc = .ok (.tableswitch dflt lo hi offs, len)) (ha : inR a) (h1 : ¬ a < lo) (h2 : ¬ hi < a) (ho : offs[(a - lo).toNat]? = some off) (ht : (pc : Int) + off = (tgt : Int)) (k : XM Γ μ cells slots tgt al st P I Q) : XM Γ μ cells slots pc al (vI a :: st) P I Q := by
  intro p e s m args below meth c B H locs ls hl hK hP hD hS hX
  exact lv_tableIn B.1 B.2.1 hd (by rw [zi_toInt ha]; exact h1) (by rw [zi_toInt ha]; exact h2) (by rw [zi_toInt ha]; exact ho) ht (k p e s m args below meth c B H locs ls hl hK hP hD hS hX)
end XR
end
section
/-! ROWS of the memory, returns and calls -/
theorem inU {w : Cond} (i : Nat) (h : tables_1[i]? = some w) (g : goodWord w = true) : w ∈ lwU := List.mem_filter.mpr ⟨List.mem_append_right _ (List.mem_of_getElem? h), g⟩
theorem inUp {w : Cond} (i : Nat) (h : (k2_sels lw_privs)[i]? = some w) (g : goodWord w = true) : w ∈ lwU := List.mem_filter.mpr ⟨List.mem_append_left _ (List.mem_of_getElem? h), g⟩
theorem inUf {w : Cond} (h : w ∈ lw_tbl) (g : goodWord w = true) : w ∈ lwU := List.mem_filter.mpr ⟨h, g⟩
theorem goodU : ∀ w ∈ lwU, (w.onTables && w.keeps) = true ∨ ∃ ty, w = .arrayClass ty := fun w h => good_of_word (List.mem_filter.mp h).2
/-- a class by its place -/
def FCok (ci : Nat) (C : String) (T : u_T) (N : Nat) : Prop := vwCl[ci]? = some (C, T, N) ∧ N = nFC ci ∧ (∀ w ∈ u_ws C T N, w ∈ lwU) ∧ (∀ k, k < N → parseFieldDescriptor (T k).2.2.1 = some (tyC ci k)) ∧ (∀ a, a < N → ∀ b, b < N → a ≠ b → (T a).2.1 ≠ (T b).2.1)
theorem FC0 : FCok 0 RX0 TX0 1 := ⟨rfl, rfl, fun w h => inUf (inX0 w h) (List.all_eq_true.mp (by decide +kernel : (u_ws RX0 TX0 1).all goodWord = true) w h), tyX0_ok, nmX0⟩
theorem FC1 : FCok 1 RX1 TX1 3 := ⟨rfl, rfl, fun w h => inUf (inX1 w h) (List.all_eq_true.mp (by decide +kernel : (u_ws RX1 TX1 3).all goodWord = true) w h), tyX1_ok, nmX1⟩
theorem FC2 : FCok 2 RX2 TX2 8 := ⟨rfl, rfl, fun w h => inUf (inX2 w h) (List.all_eq_true.mp (by decide +kernel : (u_ws RX2 TX2 8).all goodWord = true) w h), tyX2_ok, nmX2⟩
theorem FC3 : FCok 3 RX3 TX3 10 := ⟨rfl, rfl, fun w h => inUf (inX3 w h) (List.all_eq_true.mp (by decide +kernel : (u_ws RX3 TX3 10).all goodWord = true) w h), tyX3_ok, nmX3⟩
theorem FC4 : FCok 4 RX4 TX4 13 := ⟨rfl, rfl, fun w h => inUf (inX4 w h) (List.all_eq_true.mp (by decide +kernel : (u_ws RX4 TX4 13).all goodWord = true) w h), tyX4_ok, nmX4⟩
theorem FC5 : FCok 5 RX5 TX5 10 := ⟨rfl, rfl, fun w h => inUf (inX5 w h) (List.all_eq_true.mp (by decide +kernel : (u_ws RX5 TX5 10).all goodWord = true) w h), tyX5_ok, nmX5⟩
theorem FC6 : FCok 6 RX6 TX6 25 := ⟨rfl, rfl, fun w h => inUf (inX6 w h) (List.all_eq_true.mp (by decide +kernel : (u_ws RX6 TX6 25).all goodWord = true) w h), tyX6_ok, nmX6⟩
/-- the number i is in use, and is a t -/
def Ob (Γ : GG) (i : Nat) (t : CT) : Prop := i ∈ gi Γ ∧ gt Γ i = t
theorem Ob.obj {Γ : GG} {i ci : Nat} (h : Ob Γ i (.inl ci)) (P : MP) (I : MM) : ∃ k : Nat, (gi Γ)[k]? = some i ∧ (gw Γ P I)[k]? = some (gr Γ i, .inr (ci, fvs (gr Γ) P I i ci)) := by
  obtain ⟨k, h1, h2⟩ := wl_at (κ := gk Γ) (ρ := gr Γ) (ty := gt Γ) (P := P) (I := I) h.1
  refine ⟨k, h1, h2.trans ?_⟩
  simp only [cw, h.2]
theorem Ob.arr {Γ : GG} {i ek n : Nat} (h : Ob Γ i (.inr (ek, n))) (P : MP) (I : MM) : ∃ k : Nat, (gi Γ)[k]? = some i ∧ (gw Γ P I)[k]? = some (gr Γ i, .inl (gk Γ ek, n, ar (gr Γ) P I i ek)) := by
  obtain ⟨k, h1, h2⟩ := wl_at (κ := gk Γ) (ρ := gr Γ) (ty := gt Γ) (P := P) (I := I) h.1
  refine ⟨k, h1, h2.trans ?_⟩
  simp only [cw, h.2]
section XR
variable {Γ : GG} {μ : MI} {cells slots pc : Nat} {al al' : List (Nat × AV)} {st : List AV} {P : MP} {I : MM} {Q : QT}
theorem x_getI {ci i index : Nat} {C : String} {T : u_T} {N : Nat} (hd : decode μ.2.2.1 pc = .ok (.getfield index, 3)) (F : FCok ci C T N) (k : Nat) (hk : k < N) (hr : isRefT (tyC ci k) = false) (hf : Cond.fieldLink μ.2.1 index (T k).1 (T k).2.1 (T k).2.2.1 ∈ lwU) (ho : Ob Γ i (.inl ci)) (kk : XM Γ μ cells slots (pc + 3) al (vI (I i k) :: st) P I Q) : XM Γ μ cells slots pc al (vR i :: st) P I Q := by
  intro p e s m args below meth c B H locs ls hl hK hP hD hS hX
  obtain ⟨q0, hq, he⟩ := ho.obj P I
  refine va_get B.1 B.2.1 B.2.2.2.2.1 F.2.2.1 B.2.2.2.1 hK hP q0 he F.1 k hk (B.2.2.2.2.1 _ hf) (fun _ h => h) (v := .int (Int32.ofInt (I i k))) ?_ hd (kk p e s m args below meth c B H locs ls hl hK hP hD hS hX)
  rw [fvs_at (by rw [← F.2.1]; exact hk)]
  simp [fv, hr]
theorem x_getP {ci i r index : Nat} {C : String} {T : u_T} {N : Nat} (hd : decode μ.2.2.1 pc = .ok (.getfield index, 3)) (F : FCok ci C T N) (k : Nat) (hk : k < N) (hr : isRefT (tyC ci k) = true) (hf : Cond.fieldLink μ.2.1 index (T k).1 (T k).2.1 (T k).2.2.1 ∈ lwU) (ho : Ob Γ i (.inl ci)) (hp : P i k = some r) (kk : XM Γ μ cells slots (pc + 3) al (vR r :: st) P I Q) : XM Γ μ cells slots pc al (vR i :: st) P I Q := by
  intro p e s m args below meth c B H locs ls hl hK hP hD hS hX
  obtain ⟨q0, hq, he⟩ := ho.obj P I
  refine va_get B.1 B.2.1 B.2.2.2.2.1 F.2.2.1 B.2.2.2.1 hK hP q0 he F.1 k hk (B.2.2.2.2.1 _ hf) (fun _ h => h) (v := .ref (gr Γ r)) ?_ hd (kk p e s m args below meth c B H locs ls hl hK hP hD hS hX)
  rw [fvs_at (by rw [← F.2.1]; exact hk)]
  simp [fv, hr, hp, va_rf]
theorem x_putI0 {ci i index : Nat} {z : Int} {C : String} {T : u_T} {N : Nat} (hd : decode μ.2.2.1 pc = .ok (.putfield index, 3)) (F : FCok ci C T N) (k : Nat) (hk : k < N) (hr : isRefT (tyC ci k) = false) (hfin : (T k).2.2.2 = false) (hn : narrow (tyC ci k) (.int (Int32.ofInt z)) = .int (Int32.ofInt z)) (hfit : fits (tyC ci k) (.int (Int32.ofInt z)) = true) (hf : Cond.fieldLink μ.2.1 index (T k).1 (T k).2.1 (T k).2.2.1 ∈ lwU) (ho : Ob Γ i (.inl ci)) (kk : XM Γ μ cells slots (pc + 3) al st P (up2 I i k z) Q) : XM Γ μ cells slots pc al (vI z :: vR i :: st) P I Q := by
  intro p e s m args below meth c B H locs ls hl hK hP hD hS hX
  obtain ⟨q0, hq, he⟩ := ho.obj P I
  refine va_put B.1 B.2.1 B.2.2.2.2.1 F.2.2.1 (tyC ci) F.2.2.2.1 F.2.2.2.2 B.2.2.2.1 hK hP hD hS q0 he F.1 k hk (B.2.2.2.2.1 _ hf) (fun _ h => h) hfin (F.2.2.2.1 k hk) hn hfit (by simp only [fvs, List.length_map, List.length_range]; rw [← F.2.1]; exact hk) hd (fun H1 locs1 hP1 hD1 hS1 => ?_)
  have hP1 : va_P (gD Γ) vwCl ((gw Γ P I).set q0 (gr Γ i, .inr (ci, (fvs (gr Γ) P I i ci).set k (.int (Int32.ofInt z))))) H1 := hP1
  have hset : (gw Γ P I).set q0 (gr Γ i, .inr (ci, (fvs (gr Γ) P I i ci).set k (.int (Int32.ofInt z)))) = gw Γ P (up2 I i k z) := wl_set hD hq (by simp only [cw, ho.2]; rw [fvs_setI hr]) cw_neI
  rw [hset] at hP1
  exact kk p e s m args below meth c B H1 locs1 ls hl hK hP1 (gw_D hD) hS1 hX
theorem x_putI {ci i index : Nat} {z : Int} {C : String} {T : u_T} {N : Nat} (hd : decode μ.2.2.1 pc = .ok (.putfield index, 3)) (F : FCok ci C T N) (k : Nat) (hk : k < N) (hr : tyC ci k = .int) (hfin : (T k).2.2.2 = false) (hf : Cond.fieldLink μ.2.1 index (T k).1 (T k).2.1 (T k).2.2.1 ∈ lwU) (ho : Ob Γ i (.inl ci)) (kk : XM Γ μ cells slots (pc + 3) al st P (up2 I i k z) Q) : XM Γ μ cells slots pc al (vI z :: vR i :: st) P I Q :=
  x_putI0 hd F k hk (by rw [hr]; rfl) hfin (by rw [hr]; rfl) (by rw [hr]; rfl) hf ho kk
theorem x_putZ {ci i index : Nat} {z : Int} {C : String} {T : u_T} {N : Nat} (hd : decode μ.2.2.1 pc = .ok (.putfield index, 3)) (F : FCok ci C T N) (k : Nat) (hk : k < N) (hr : tyC ci k = .boolean) (hfin : (T k).2.2.2 = false) (hz : z = 0 ∨ z = 1) (hf : Cond.fieldLink μ.2.1 index (T k).1 (T k).2.1 (T k).2.2.1 ∈ lwU) (ho : Ob Γ i (.inl ci)) (kk : XM Γ μ cells slots (pc + 3) al st P (up2 I i k z) Q) : XM Γ μ cells slots pc al (vI z :: vR i :: st) P I Q :=
  x_putI0 hd F k hk (by rw [hr]; rfl) hfin (by rw [hr]; rcases hz with rfl | rfl <;> rfl) (by rw [hr]; rcases hz with rfl | rfl <;> rfl) hf ho kk
theorem x_putP {ci i r index : Nat} {C : String} {T : u_T} {N : Nat} (hd : decode μ.2.2.1 pc = .ok (.putfield index, 3)) (F : FCok ci C T N) (k : Nat) (hk : k < N) (hr : isRefT (tyC ci k) = true) (hfin : (T k).2.2.2 = false) (hf : Cond.fieldLink μ.2.1 index (T k).1 (T k).2.1 (T k).2.2.1 ∈ lwU) (ho : Ob Γ i (.inl ci)) (kk : XM Γ μ cells slots (pc + 3) al st (up2 P i k (some r)) I Q) : XM Γ μ cells slots pc al (vR r :: vR i :: st) P I Q := by
  intro p e s m args below meth c B H locs ls hl hK hP hD hS hX
  obtain ⟨q0, hq, he⟩ := ho.obj P I
  have hnf : narrow (tyC ci k) (.ref (gr Γ r)) = .ref (gr Γ r) ∧ fits (tyC ci k) (.ref (gr Γ r)) = true := by
    generalize tyC ci k = t at hr
    cases t <;> first | (simp [isRefT] at hr; done) | exact ⟨rfl, rfl⟩
  refine va_put B.1 B.2.1 B.2.2.2.2.1 F.2.2.1 (tyC ci) F.2.2.2.1 F.2.2.2.2 B.2.2.2.1 hK hP hD hS q0 he F.1 k hk (B.2.2.2.2.1 _ hf) (fun _ h => h) hfin (F.2.2.2.1 k hk) hnf.1 hnf.2 (by simp only [fvs, List.length_map, List.length_range]; rw [← F.2.1]; exact hk) hd (fun H1 locs1 hP1 hD1 hS1 => ?_)
  have hP1 : va_P (gD Γ) vwCl ((gw Γ P I).set q0 (gr Γ i, .inr (ci, (fvs (gr Γ) P I i ci).set k (.ref (gr Γ r))))) H1 := hP1
  have hset : (gw Γ P I).set q0 (gr Γ i, .inr (ci, (fvs (gr Γ) P I i ci).set k (.ref (gr Γ r)))) = gw Γ (up2 P i k (some r)) I := wl_set hD hq (by simp only [cw, ho.2]; rw [← fvs_setP hr]; rfl) cw_neP
  rw [hset] at hP1
  exact kk p e s m args below meth c B H1 locs1 ls hl hK hP1 (gw_D hD) hS1 hX
/-! arrays -/
theorem x_iald {i n : Nat} {j : Int} (hd : decode μ.2.2.1 pc = .ok (.iaload, 1)) (ho : Ob Γ i (.inr (0, n))) (h0 : 0 ≤ j) (h1 : j < n) (hn : n < 2147483648) (kk : XM Γ μ cells slots (pc + 1) al (vI (I i j.toNat) :: st) P I Q) : XM Γ μ cells slots pc al (vI j :: vR i :: st) P I Q := by
  intro p e s m args below meth c B H locs ls hl hK hP hD hS hX
  obtain ⟨q0, hq, he⟩ := ho.arr P I
  refine va_iald B.1 B.2.1 hK hP q0 0 he rfl (zi_in h0 h1 hn) hd ?_
  rw [zi_nat h0 (by omega)]
  exact kk p e s m args below meth c B H locs ls hl hK hP hD hS hX
theorem x_bald {i n : Nat} {j : Int} (hd : decode μ.2.2.1 pc = .ok (.baload, 1)) (ho : Ob Γ i (.inr (1, n))) (h0 : 0 ≤ j) (h1 : j < n) (hn : n < 2147483648) (kk : XM Γ μ cells slots (pc + 1) al (vI (I i j.toNat) :: st) P I Q) : XM Γ μ cells slots pc al (vI j :: vR i :: st) P I Q := by
  intro p e s m args below meth c B H locs ls hl hK hP hD hS hX
  obtain ⟨q0, hq, he⟩ := ho.arr P I
  refine va_bald B.1 B.2.1 hK hP q0 1 he rfl (zi_in h0 h1 hn) hd ?_
  rw [zi_nat h0 (by omega)]
  exact kk p e s m args below meth c B H locs ls hl hK hP hD hS hX
theorem x_zald {i n : Nat} {j : Int} (hd : decode μ.2.2.1 pc = .ok (.baload, 1)) (ho : Ob Γ i (.inr (2, n))) (h0 : 0 ≤ j) (h1 : j < n) (hn : n < 2147483648) (kk : XM Γ μ cells slots (pc + 1) al (vI (I i j.toNat) :: st) P I Q) : XM Γ μ cells slots pc al (vI j :: vR i :: st) P I Q := by
  intro p e s m args below meth c B H locs ls hl hK hP hD hS hX
  obtain ⟨q0, hq, he⟩ := ho.arr P I
  refine va_zald B.1 B.2.1 hK hP q0 2 he rfl (zi_in h0 h1 hn) hd ?_
  rw [zi_nat h0 (by omega)]
  exact kk p e s m args below meth c B H locs ls hl hK hP hD hS hX
theorem x_lald {i n : Nat} {j : Int} (hd : decode μ.2.2.1 pc = .ok (.laload, 1)) (ho : Ob Γ i (.inr (3, n))) (h0 : 0 ≤ j) (h1 : j < n) (hn : n < 2147483648) (kk : XM Γ μ cells slots (pc + 1) al (vL (I i j.toNat) :: st) P I Q) : XM Γ μ cells slots pc al (vI j :: vR i :: st) P I Q := by
  intro p e s m args below meth c B H locs ls hl hK hP hD hS hX
  obtain ⟨q0, hq, he⟩ := ho.arr P I
  refine va_lald B.1 B.2.1 hK hP q0 3 he rfl (zi_in h0 h1 hn) hd ?_
  rw [zi_nat h0 (by omega)]
  exact kk p e s m args below meth c B H locs ls hl hK hP hD hS hX
theorem x_aald {i n r : Nat} {j : Int} (hd : decode μ.2.2.1 pc = .ok (.aaload, 1)) (ek : Nat) (ho : Ob Γ i (.inr (ek, n))) (hek : ek = 4 ∨ ek = 5) (h0 : 0 ≤ j) (h1 : j < n) (hn : n < 2147483648) (hp : P i j.toNat = some r) (kk : XM Γ μ cells slots (pc + 1) al (vR r :: st) P I Q) : XM Γ μ cells slots pc al (vI j :: vR i :: st) P I Q := by
  intro p e s m args below meth c B H locs ls hl hK hP hD hS hX
  obtain ⟨q0, hq, he⟩ := ho.arr P I
  have hin := zi_in h0 h1 hn
  have hlt : j.toNat < n := by omega
  have hc : H[gr Γ i]? = some (arrV (gk Γ ek) n (fun j => va_rf ((P i j).map (gr Γ)))) := by
    have := hP q0 _ he
    rcases hek with rfl | rfl <;> exact this
  have hty : s.isArrayOf (arrV (gk Γ ek) n (fun j => va_rf ((P i j).map (gr Γ)))) (ekT ek) := by
    rcases hek with rfl | rfl
    · exact (hK.2 4 _ rfl).1 n _
    · exact (hK.2 5 _ rfl).1 n _
  refine W.aald (v := .ref (gr Γ r)) (ty := ekT ek) B.1 B.2.1 hc hty (by rcases hek with rfl | rfl <;> rfl) (fun q => by cases q) (by show ¬ (Int32.ofInt j < 0 ∨ (arrV _ _ _).slots.size ≤ _); rw [arrV_size]; exact hin) (by rw [zi_nat h0 (by omega), arrV_read _ _ hlt, hp]; rfl) rfl rfl hd (kk p e s m args below meth c B H locs ls hl hK hP hD hS hX)
theorem ar_up {ρ : Nat → Nat} {P : MP} {I : MM} {i ek j : Nat} {z : Int} (h : ek = 0 ∨ ek = 1 ∨ ek = 2) : ar ρ P (up2 I i j z) i ek = .inl (upd (fun k => Int32.ofInt (I i k)) j (Int32.ofInt z)) := by
  have e : (fun k => Int32.ofInt (up2 I i j z i k)) = upd (fun k => Int32.ofInt (I i k)) j (Int32.ofInt z) := by
    funext k
    by_cases hk : k = j
    · simp [up2, upd, hk]
    · simp [up2, upd, hk]
  rcases h with rfl | rfl | rfl <;> simp only [ar, e]
theorem ar_upL {ρ : Nat → Nat} {P : MP} {I : MM} {i j : Nat} {z : Int} : ar ρ P (up2 I i j z) i 3 = .inr (.inl (vp_updL (fun k => Int64.ofInt (I i k)) j (Int64.ofInt z))) := by
  have e : (fun k => Int64.ofInt (up2 I i j z i k)) = vp_updL (fun k => Int64.ofInt (I i k)) j (Int64.ofInt z) := by
    funext k
    by_cases hk : k = j
    · simp [up2, vp_updL, hk]
    · simp [up2, vp_updL, hk]
  simp only [ar, e]
theorem x_iast {i n : Nat} {j z : Int} (hd : decode μ.2.2.1 pc = .ok (.iastore, 1)) (ho : Ob Γ i (.inr (0, n))) (h0 : 0 ≤ j) (h1 : j < n) (hn : n < 2147483648) (kk : XM Γ μ cells slots (pc + 1) al st P (up2 I i j.toNat z) Q) : XM Γ μ cells slots pc al (vI z :: vI j :: vR i :: st) P I Q := by
  intro p e s m args below meth c B H locs ls hl hK hP hD hS hX
  obtain ⟨q0, hq, he⟩ := ho.arr P I
  refine va_iast B.1 B.2.1 hK hP hD hS q0 0 he rfl (zi_in h0 h1 hn) hd (fun H1 locs1 hP1 hD1 hS1 => ?_)
  rw [zi_nat h0 (by omega)] at hP1
  have hset : (gw Γ P I).set q0 (gr Γ i, .inl (gk Γ 0, n, .inl (upd (fun k => Int32.ofInt (I i k)) j.toNat (Int32.ofInt z)))) = gw Γ P (up2 I i j.toNat z) := wl_set hD hq (by simp only [cw, ho.2]; rw [ar_up (Or.inl rfl)]) cw_neI
  rw [hset] at hP1
  exact kk p e s m args below meth c B H1 locs1 ls hl hK hP1 (gw_D hD) hS1 hX
theorem x_zast {i n : Nat} {j z : Int} (hd : decode μ.2.2.1 pc = .ok (.bastore, 1)) (ho : Ob Γ i (.inr (2, n))) (h0 : 0 ≤ j) (h1 : j < n) (hn : n < 2147483648) (hz : z = 0 ∨ z = 1) (kk : XM Γ μ cells slots (pc + 1) al st P (up2 I i j.toNat z) Q) : XM Γ μ cells slots pc al (vI z :: vI j :: vR i :: st) P I Q := by
  intro p e s m args below meth c B H locs ls hl hK hP hD hS hX
  obtain ⟨q0, hq, he⟩ := ho.arr P I
  refine va_zast B.1 B.2.1 hK hP hD hS q0 2 he rfl (zi_in h0 h1 hn) hd (fun H1 locs1 hP1 hD1 hS1 => ?_)
  have hz2 : vp_nar .boolean (Int32.ofInt z) = Int32.ofInt z := by rcases hz with rfl | rfl <;> rfl
  rw [zi_nat h0 (by omega), hz2] at hP1
  have hset : (gw Γ P I).set q0 (gr Γ i, .inl (gk Γ 2, n, .inl (upd (fun k => Int32.ofInt (I i k)) j.toNat (Int32.ofInt z)))) = gw Γ P (up2 I i j.toNat z) := wl_set hD hq (by simp only [cw, ho.2]; rw [ar_up (Or.inr (Or.inr rfl))]) cw_neI
  rw [hset] at hP1
  exact kk p e s m args below meth c B H1 locs1 ls hl hK hP1 (gw_D hD) hS1 hX
theorem zi_b8 {z : Int} (h0 : -128 ≤ z) (h1 : z < 128) : (Int32.ofInt z).toInt8.toInt32 = Int32.ofInt z := by
  rw [← Int32.toInt_inj, zi_toInt ⟨by omega, by omega⟩, Int32.toInt8_ofInt, Int8.toInt_toInt32, Int8.toInt_ofInt_of_le (by omega) (by omega)]
theorem x_bast {i n : Nat} {j z : Int} (hd : decode μ.2.2.1 pc = .ok (.bastore, 1)) (ho : Ob Γ i (.inr (1, n))) (h0 : 0 ≤ j) (h1 : j < n) (hn : n < 2147483648) (hz0 : -128 ≤ z) (hz1 : z < 128) (kk : XM Γ μ cells slots (pc + 1) al st P (up2 I i j.toNat z) Q) : XM Γ μ cells slots pc al (vI z :: vI j :: vR i :: st) P I Q := by
  intro p e s m args below meth c B H locs ls hl hK hP hD hS hX
  obtain ⟨q0, hq, he⟩ := ho.arr P I
  refine va_bast B.1 B.2.1 hK hP hD hS q0 1 he rfl (zi_in h0 h1 hn) hd (fun H1 locs1 hP1 hD1 hS1 => ?_)
  have hz2 : vp_nar .byte (Int32.ofInt z) = Int32.ofInt z := by rw [vp_nar_byte, zi_b8 hz0 hz1]
  rw [zi_nat h0 (by omega), hz2] at hP1
  have hset : (gw Γ P I).set q0 (gr Γ i, .inl (gk Γ 1, n, .inl (upd (fun k => Int32.ofInt (I i k)) j.toNat (Int32.ofInt z)))) = gw Γ P (up2 I i j.toNat z) := wl_set hD hq (by simp only [cw, ho.2]; rw [ar_up (Or.inr (Or.inl rfl))]) cw_neI
  rw [hset] at hP1
  exact kk p e s m args below meth c B H1 locs1 ls hl hK hP1 (gw_D hD) hS1 hX
theorem x_last {i n : Nat} {j z : Int} (hd : decode μ.2.2.1 pc = .ok (.lastore, 1)) (ho : Ob Γ i (.inr (3, n))) (h0 : 0 ≤ j) (h1 : j < n) (hn : n < 2147483648) (kk : XM Γ μ cells slots (pc + 1) al st P (up2 I i j.toNat z) Q) : XM Γ μ cells slots pc al (vL z :: vI j :: vR i :: st) P I Q := by
  intro p e s m args below meth c B H locs ls hl hK hP hD hS hX
  obtain ⟨q0, hq, he⟩ := ho.arr P I
  refine va_last B.1 B.2.1 hK hP hD hS q0 3 he rfl (zi_in h0 h1 hn) hd (fun H1 locs1 hP1 hD1 hS1 => ?_)
  rw [zi_nat h0 (by omega)] at hP1
  have hset : (gw Γ P I).set q0 (gr Γ i, .inl (gk Γ 3, n, .inr (.inl (vp_updL (fun k => Int64.ofInt (I i k)) j.toNat (Int64.ofInt z))))) = gw Γ P (up2 I i j.toNat z) := wl_set hD hq (by simp only [cw, ho.2]; rw [ar_upL]) cw_neI
  rw [hset] at hP1
  exact kk p e s m args below meth c B H1 locs1 ls hl hK hP1 (gw_D hD) hS1 hX
theorem x_alen {i ek n : Nat} (hd : decode μ.2.2.1 pc = .ok (.arraylength, 1)) (ho : Ob Γ i (.inr (ek, n))) (hek : ek < 6) (kk : XM Γ μ cells slots (pc + 1) al (vI n :: st) P I Q) : XM Γ μ cells slots pc al (vR i :: st) P I Q := by
  intro p e s m args below meth c B H locs ls hl hK hP hD hS hX
  obtain ⟨q0, hq, he⟩ := ho.arr P I
  refine va_alen B.1 B.2.1 hK hP q0 ek he (ty := ekT ek) ?_ (v := Int32.ofInt n) (Int32.ofInt_eq_ofNat).symm hd (kk p e s m args below meth c B H locs ls hl hK hP hD hS hX)
  match ek, hek with
  | 0, _ => rfl
  | 1, _ => rfl
  | 2, _ => rfl
  | 3, _ => rfl
  | 4, _ => rfl
  | 5, _ => rfl
/-! returns -/
theorem pq_of {p : Program} {e : Env} {R : Room} {s t : State} {args : Array Value} {H : Heap} {locs : List Loc} {v : Option AV} (hq : Q v P I) (ht : t.heap = H) (hW : s.WarmedH t.vm) (hK : va_K (gD Γ) vwCl (tysK (gk Γ)) s) (hP : va_P (gD Γ) vwCl (gw Γ P I) H) (hS : va_S (RG Γ s.heap.size) s.heap H locs) : PQ Γ Q args s (.returned (v.map (cv (gr Γ)))) t :=
  ⟨⟨v, P, I, rfl, hq, va_K.moved hW.alike hK, by rw [ht]; exact hP⟩, hS.F ht⟩
theorem x_iret {z : Int} (hd : decode μ.2.2.1 pc = .ok (.ireturn, 1)) (hr : μ.2.2.2.2.1 = some .int) (hc : cells ≤ μ.2.2.2.2.2.cells) (hs : slots ≤ μ.2.2.2.2.2.slots) (hq : Q (some (vI z)) P I) : XM Γ μ cells slots pc al [vI z] P I Q := by
  intro p e s m args below meth c B H locs ls hl hK hP hD hS hX
  refine W.widen hc hs ?_
  exact W.iret (v := Int32.ofInt z) B.1 B.2.1 (B.2.2.2.2.2.1.trans hr) (fun t ht hW => pq_of (p := p) (e := e) (R := μ.2.2.2.2.2) (v := some (vI z)) hq ht hW hK hP hS) hS.2.2 hd B.2.2.2.2.2.2
theorem x_zret {z : Int} (hd : decode μ.2.2.1 pc = .ok (.ireturn, 1)) (hr : μ.2.2.2.2.1 = some .boolean) (hz : z = 0 ∨ z = 1) (hc : cells ≤ μ.2.2.2.2.2.cells) (hs : slots ≤ μ.2.2.2.2.2.slots) (hq : Q (some (vI z)) P I) : XM Γ μ cells slots pc al [vI z] P I Q := by
  intro p e s m args below meth c B H locs ls hl hK hP hD hS hX
  refine W.widen hc hs ?_
  exact W.zret (v := Int32.ofInt z) (ty := .boolean) B.1 B.2.1 (B.2.2.2.2.2.1.trans hr) (by rcases hz with rfl | rfl <;> rfl) (fun t ht hW => pq_of (p := p) (e := e) (R := μ.2.2.2.2.2) (v := some (vI z)) hq ht hW hK hP hS) hS.2.2 hd B.2.2.2.2.2.2
theorem x_vret (hd : decode μ.2.2.1 pc = .ok (.return_, 1)) (hr : μ.2.2.2.2.1 = none) (hc : cells ≤ μ.2.2.2.2.2.cells) (hs : slots ≤ μ.2.2.2.2.2.slots) (hq : Q none P I) : XM Γ μ cells slots pc al [] P I Q := by
  intro p e s m args below meth c B H locs ls hl hK hP hD hS hX
  refine W.widen hc hs ?_
  exact W.vret B.1 B.2.1 (B.2.2.2.2.2.1.trans hr) (fun t ht hW => pq_of (p := p) (e := e) (R := μ.2.2.2.2.2) (v := none) hq ht hW hK hP hS) hS.2.2 hd B.2.2.2.2.2.2
theorem x_lret {z : Int} (hd : decode μ.2.2.1 pc = .ok (.lreturn, 1)) (hr : μ.2.2.2.2.1 = some .long) (hc : cells ≤ μ.2.2.2.2.2.cells) (hs : slots ≤ μ.2.2.2.2.2.slots) (hq : Q (some (vL z)) P I) : XM Γ μ cells slots pc al [vL z] P I Q := by
  intro p e s m args below meth c B H locs ls hl hK hP hD hS hX
  refine W.widen hc hs ?_
  exact W.lret (v := Int64.ofInt z) B.1 B.2.1 (B.2.2.2.2.2.1.trans hr) (fun t ht hW => pq_of (p := p) (e := e) (R := μ.2.2.2.2.2) (v := some (vL z)) hq ht hW hK hP hS) hS.2.2 hd B.2.2.2.2.2.2
end XR
end
section
/-! CALLS: a method's contract over the abstract memory, its entry, and its calls -/
def wsM (μ : MI) : List Cond := .code μ.1 μ.2.2.1 μ.2.2.2.1 μ.2.2.2.2.1 :: lwU
def Pq (Γ : GG) (P : MP) (I : MM) (sz : Nat) : State → Prop := fun U => U.heap.size = sz ∧ va_K (gD Γ) vwCl (tysK (gk Γ)) U ∧ va_P (gD Γ) vwCl (gw Γ P I) U.heap ∧ va_D (RG Γ sz) (gw Γ P I) ∧ RO (gr Γ) (RG Γ sz) U U.heap
/-- the method μ, called with args over the memory P, I, returns as Q says -/
def Cl (Γ : GG) (μ : MI) (args : List AV) (P : MP) (I : MM) (Q : QT) : Prop :=
  ∀ sz : Nat, Met (gl Γ) μ.1 (wsM μ) μ.2.2.2.2.2 (va_Pc (args.map (cv (gr Γ))) (Pq Γ P I sz)) (PQ Γ Q) μ.2.2.2.2.2.cells μ.2.2.2.2.2.slots (RG Γ sz)
def avArgs : Nat → List AV → List (Nat × AV)
  | _, [] => []
  | i, v :: vs => (i, v) :: avArgs (if isLv v then i + 2 else i + 1) vs
def avLen : List AV → Nat
  | [] => 0
  | v :: vs => (if isLv v then 2 else 1) + avLen vs
theorem av_args (ρ : Nat → Nat) : ∀ (vs : List AV) (i : Nat), lv_args i (vs.map (cv ρ)) = cvl ρ (avArgs i vs)
  | [], i => rfl
  | v :: vs, i => by
    simp only [List.map_cons, lv_args, avArgs, cvl, cv_cat]
    cases hl : isLv v with
    | true => simp only [if_true]; rw [av_args ρ vs (i + 2)]; rfl
    | false => simp only [Bool.false_eq_true, if_false]; rw [if_neg (by decide), av_args ρ vs (i + 1)]; rfl
theorem av_len (ρ : Nat → Nat) : ∀ (vs : List AV), (lg_sl (vs.map (cv ρ))).length = avLen vs
  | [] => rfl
  | v :: vs => by
    have h := av_len ρ vs
    simp only [lg_sl, List.map_cons, List.flatMap_cons, List.length_append, avLen, cv_cat] at h ⊢
    rw [h]
    cases hl : isLv v with
    | true => simp
    | false => simp
/-- what a method's name must be -/
def Nm (μ : MI) : Prop := plainName μ.1.cls = true ∧ μ.1.cls = μ.2.1
theorem cl_of {Γ : GG} {μ : MI} {args : List AV} {P : MP} {I : MM} {Q : QT} (hn : Nm μ) (hL : avLen args ≤ μ.2.2.2.1) (h : XM Γ μ 0 0 0 (avArgs 0 args) [] P I Q) : Cl Γ μ args P I Q := by
  intro sz
  refine Met.ofW (cc := μ.2.2.1) (maxL := μ.2.2.2.1) (ret := μ.2.2.2.2.1) hn.1 rfl ?_
  intro p e s m args2 below meth c s₁ B hml hv
  obtain ⟨rfl, hsz, hK, hP, hD, hX⟩ := hv
  have hown : s.vm.findClass μ.2.1 = some m.cls := by rw [← hn.2]; exact findClass_of_methodNamed B.named
  have hts := atoms_spec (ws := wsM μ) B.pre
  have hl := lv_entry (args.map (cv (gr Γ))) (n := μ.2.2.2.1) (by rw [av_len]; exact hL)
  rw [av_args] at hl
  rw [lg_entry_eq]
  subst hsz
  exact h p e s m _ below meth c ⟨B.exec, B.bytes, hml, hown, fun w hw => hts w (List.mem_cons_of_mem _ hw), B.returns, B.notSynchronized⟩ s.heap [] _ hl hK hP hD va_S.rf hX
/-- the words and the room of a call -/
def LkR (μ ν : MI) : Prop := ν.2.2.2.2.2.frames + 1 ≤ μ.2.2.2.2.2.frames ∧ 8 + (ν.2.2.2.1 + 11) + ν.2.2.2.2.2.locals ≤ μ.2.2.2.2.2.locals
def LkN (ν : MI) (n : Nat) : Prop := ν.1.cls ≠ "java/lang/invoke/MethodHandle" ∧ ν.1.cls ≠ "java/lang/invoke/VarHandle" ∧ (parseMethodDescriptor ν.1.desc).map (fun d => d.parameters.length) = some n
def LkV (ν : MI) (n : Nat) : Prop := Cond.instanceMethod ν.1 ∈ lwU ∧ Cond.selects ν.1.cls ν.1 ν.1 ∈ lwU ∧ Cond.initialized ν.1.cls ∈ lwU ∧ Cond.code ν.1 ν.2.2.1 ν.2.2.2.1 ν.2.2.2.2.1 ∈ lwU ∧ LkN ν n
def LkS (ν : MI) (n : Nat) : Prop := Cond.static ν.1 ∈ lwU ∧ Cond.initialized ν.1.cls ∈ lwU ∧ Cond.code ν.1 ν.2.2.1 ν.2.2.2.1 ν.2.2.2.2.1 ∈ lwU ∧ LkN ν n
theorem goodV {μ ν : MI} {n index : Nat} (h : LkV ν n) (hm : Cond.methodLink μ.2.1 index ν.1 ∈ lwU) : GoodIn lwU (wsV μ.2.1 index ν.1.cls ν.1 (wsM ν)) := by
  intro w hw
  have key : w ∈ lwU := by
    simp only [wsV, wsM, List.mem_append, List.mem_cons, List.not_mem_nil, or_false] at hw
    rcases hw with (rfl | rfl | rfl | rfl) | rfl | hw
    · exact hm
    · exact h.1
    · exact h.2.1
    · exact h.2.2.1
    · exact h.2.2.2.1
    · exact hw
  exact ⟨key, goodU w key⟩
theorem goodS {μ ν : MI} {n index : Nat} (h : LkS ν n) (hm : Cond.methodLink μ.2.1 index ν.1 ∈ lwU) : GoodIn lwU (va_wsS μ.2.1 index ν.1 (wsM ν)) := by
  intro w hw
  have key : w ∈ lwU := by
    simp only [va_wsS, wsM, List.mem_append, List.mem_cons, List.not_mem_nil, or_false] at hw
    rcases hw with (rfl | rfl | rfl) | rfl | hw
    · exact hm
    · exact h.1
    · exact h.2.1
    · exact h.2.2.1
    · exact hw
  exact ⟨key, goodU w key⟩
theorem pq_blind {Γ : GG} {P : MP} {I : MM} {sz : Nat} {as : List Value} : FrameBlind (va_Pc as (Pq Γ P I sz)) := fun a U g mk q => ⟨q.1, q.2.1, va_K.moved (u := U) (U := U.calling g mk a) (Vm.Alike.refl U.vm) q.2.2.1, q.2.2.2.1, q.2.2.2.2.1, RO.warm (s := U) (U := U.calling g mk a) (State.WarmedH.refl U) q.2.2.2.2.2⟩
theorem rg_sz {Γ : GG} {a b : Nat} (h : a ≤ b) : ∀ q, RG Γ b q → RG Γ a q := fun q hq => hq.elim Or.inl (fun z => Or.inr (Nat.le_trans h z))
theorem gw_DR {Γ : GG} {P : MP} {I : MM} {A : Nat → Prop} (sz : Nat) (h : va_D A (gw Γ P I)) : va_D (RG Γ sz) (gw Γ P I) := by
  refine ⟨h.1, fun k q hk => ?_⟩
  simp only [gw, wl, List.getElem?_map] at hk
  cases hi : (gi Γ)[k]? with
  | none => rw [hi] at hk; cases hk
  | some i => rw [hi] at hk; cases hk; exact Or.inl ⟨i, List.mem_of_getElem? hi, rfl⟩
theorem ro_call {Γ : GG} {s U : State} {H : Heap} {locs : List Loc} (hU : U.heap = H) (hW : s.WarmedH U.vm) (hS : va_S (RG Γ s.heap.size) s.heap H locs) (hX : RO (gr Γ) (RG Γ s.heap.size) s s.heap) : RO (gr Γ) (RG Γ H.size) U U.heap := by
  rw [hU]
  exact RO.warm hW ((hX.kept (fun a h1 h2 => hS.2.1 a h1 h2)).narrow (rg_sz hS.1))
section XR
variable {Γ : GG} {μ ν : MI} {cells slots pc : Nat} {al al' : List (Nat × AV)} {st as : List AV} {P : MP} {I : MM} {Q R : QT}
theorem cat_sum (ρ : Nat → Nat) : ∀ (st : List AV), ((st.map (cv ρ)).map fun v => v.category).sum = avLen st
  | [] => rfl
  | v :: vs => by
    simp only [List.map_cons, List.sum_cons, avLen, cv_cat]
    rw [cat_sum ρ vs]
/-- behind a call -/
theorem x_run {p : Program} {e : Env} {s : State} {m : MethodId} {args : Array Value} {below : List Frame} {meth : Method} {c : Code} {Rm : Room} {Qw : State → Prop} {H : Heap} {locs : List Loc} {ls : Array Slot} {st0 : List Value} {a : Array Value} {mc ms : Nat}
    (hr : va_Run p (gl Γ) e Rm s m args below meth c H locs cells slots mc ms (F0 m pc ls st0) (st.map (cv (gr Γ))) (PQ Γ R a) (RG Γ H.size)) (hS : va_S (RG Γ s.heap.size) s.heap H locs)
    (kk : ∀ (v : Option AV) (P' : MP) (I' : MM) (H1 : Heap) (locs1 : List Loc), R v P' I' → va_P (gD Γ) vwCl (gw Γ P' I') H1 → va_S (RG Γ s.heap.size) s.heap H1 locs1 → W p (gl Γ) e Rm s m args below meth c H1 locs1 (cells + mc) (slots + ms) Qw (F0 m (pc + 3) ls ((v.toList ++ st).map (cv (gr Γ))))) :
    W p (gl Γ) e Rm s m args below meth c H locs cells slots Qw (F0 m pc ls st0) := by
  intro T hT X
  obtain ⟨v, st₀, t, T', L, h0, X', hL, e1, e2, ⟨⟨v', P', I', hv, hR, hK', hP'⟩, hz, hk⟩, hst⟩ := hr T hT X
  cases hv
  rw [h0] at hz hk
  have hA : ∀ q, RG Γ H.size q → RG Γ s.heap.size q := rg_sz hS.1
  obtain ⟨t2, a1, b1⟩ := kk v' P' I' T'.heap (locs ++ L) hR (by rw [e1]; exact hP')
    ⟨Nat.le_trans hS.1 (by rw [e1]; exact hz), fun q h1 h2 => by rw [e1, hk q (Nat.lt_of_lt_of_le h1 hS.1) (fun z => h2 (hA q z))]; exact hS.2.1 q h1 h2, fun q hq => by
      rcases List.mem_append.mp hq with h | h
      · exact hS.2.2 q h
      · exact hA _ (hL q h)⟩ T' rfl X'
  have e : (v'.map (cv (gr Γ))).toList ++ st.map (cv (gr Γ)) = (v'.toList ++ st).map (cv (gr Γ)) := by cases v' <;> rfl
  rw [e] at hst
  exact ⟨t2, hst t2 a1, b1⟩
theorem x_callV {i ci index n : Nat} (hd : decode μ.2.2.1 pc = .ok (.invokevirtual index, 3)) (hC : Cl Γ ν (vR i :: as) P I R) (hk : LkV ν n) (hm : Cond.methodLink μ.2.1 index ν.1 ∈ lwU) (hR : LkR μ ν) (hc : (vwCl[ci]?).map (fun q => q.1) = some ν.1.cls) (ho : Ob Γ i (.inl ci)) (hn : as.length = n) (hs : avLen st ≤ 8) (hf : cells + ν.2.2.2.2.2.cells ≤ μ.2.2.2.2.2.cells ∧ slots + ν.2.2.2.2.2.slots ≤ μ.2.2.2.2.2.slots)
    (k : ∀ v P' I', R v P' I' → XM Γ μ (cells + ν.2.2.2.2.2.cells) (slots + ν.2.2.2.2.2.slots) (pc + 3) al (v.toList ++ st) P' I' Q) (ast : List AV) (hst : ast = as.reverse ++ vR i :: st) : XM Γ μ cells slots pc al ast P I Q := by
  subst hst
  intro p e s m args below meth c B H locs ls hl hK hP hD hS hX
  obtain ⟨q0, hq, he⟩ := ho.obj P I
  obtain ⟨r, hr1, hr2⟩ : ∃ r : vw_C, vwCl[ci]? = some r ∧ r.1 = ν.1.cls := by
    cases h : vwCl[ci]? with
    | none => rw [h] at hc; cases hc
    | some r => rw [h] at hc; exact ⟨r, rfl, Option.some.inj hc⟩
  have hrecv : ∃ cell : Cell, H[gr Γ i]? = some cell ∧ cell.vm.isStatics = false ∧ s.vm.findClass ν.1.cls = some cell.cls := by
    rw [← hr2]
    exact va_recv hK hP hr1 he
  have hrun := va_runV (C := ν.1.cls) (b := gr Γ i) (As := as.map (cv (gr Γ))) (rest := st.map (cv (gr Γ))) (g := F0 m pc ls ((as.reverse ++ vR i :: st).map (cv (gr Γ)))) (cells := cells) (slots := slots) (locs := locs)
    (⟨B.1, B.2.1, B.2.2.1, B.2.2.2.1, B.2.2.2.2.1⟩ : CallFix p m c μ.2.2.1 μ.2.2.2.1 s args lwU μ.2.1) (hC H.size) (cwV n B.2.2.2.2.1 (goodV hk hm) rfl rfl rfl ⟨rfl, hk.2.2.2.2⟩ hR)
    ⟨pq_blind, hrecv, fun U hU hW => ⟨rfl, by rw [hU], va_K.moved hW.alike hK, by rw [hU]; exact hP, gw_DR _ hD, ro_call hU hW hS hX⟩⟩ rfl (by rw [List.length_map]; exact hn) hl.1 (by simp [cv]) (lv_room (by rw [cat_sum]; exact hs)) hd hf (below := below) (meth := meth) (e := e)
  exact x_run hrun hS (fun v P' I' H1 locs1 hR' hP' hS' => k v P' I' hR' p e s m args below meth c B H1 locs1 ls hl hK hP' (gw_D hD) hS' hX)
theorem x_callS {index n : Nat} (hd : decode μ.2.2.1 pc = .ok (.invokestatic index, 3)) (hC : Cl Γ ν as P I R) (hk : LkS ν n) (hm : Cond.methodLink μ.2.1 index ν.1 ∈ lwU) (hR : LkR μ ν) (hn : as.length = n) (hs : avLen st ≤ 8) (hf : cells + ν.2.2.2.2.2.cells ≤ μ.2.2.2.2.2.cells ∧ slots + ν.2.2.2.2.2.slots ≤ μ.2.2.2.2.2.slots)
    (k : ∀ v P' I', R v P' I' → XM Γ μ (cells + ν.2.2.2.2.2.cells) (slots + ν.2.2.2.2.2.slots) (pc + 3) al (v.toList ++ st) P' I' Q) (ast : List AV) (hst : ast = as.reverse ++ st) : XM Γ μ cells slots pc al ast P I Q := by
  subst hst
  intro p e s m args below meth c B H locs ls hl hK hP hD hS hX
  have hrun := va_runS (As := as.map (cv (gr Γ))) (rest := st.map (cv (gr Γ))) (g := F0 m pc ls ((as.reverse ++ st).map (cv (gr Γ)))) (cells := cells) (slots := slots) (locs := locs)
    (⟨B.1, B.2.1, B.2.2.1, B.2.2.2.1, B.2.2.2.2.1⟩ : CallFix p m c μ.2.2.1 μ.2.2.2.1 s args lwU μ.2.1) (hC H.size) (va_cwS n B.2.2.2.2.1 (goodS hk hm) rfl rfl rfl hk.2.2.2 hR)
    ⟨pq_blind, fun U hU hW => ⟨rfl, by rw [hU], va_K.moved hW.alike hK, by rw [hU]; exact hP, gw_DR _ hD, ro_call hU hW hS hX⟩⟩ rfl (by rw [List.length_map]; exact hn) hl.1 (by simp) (lv_room (by rw [cat_sum]; exact hs)) hd hf (below := below) (meth := meth) (e := e)
  exact x_run hrun hS (fun v P' I' H1 locs1 hR' hP' hS' => k v P' I' hR' p e s m args below meth c B H1 locs1 ls hl hK hP' (gw_D hD) hS' hX)
end XR
end
section
/-! CALLS by what they return, of methods that make nothing -/
def ri (P : MP) (R : Int → MM → Prop) : QT := fun v P1 I1 => ∃ z : Int, v = some (vI z) ∧ P1 = P ∧ R z I1
def rl (P : MP) (R : Int → MM → Prop) : QT := fun v P1 I1 => ∃ z : Int, v = some (vL z) ∧ P1 = P ∧ R z I1
def rv (P : MP) (R : MM → Prop) : QT := fun v P1 I1 => v = none ∧ P1 = P ∧ R I1
/-- a void method that may change references -/
def rp (R : MP → MM → Prop) : QT := fun v P1 I1 => v = none ∧ R P1 I1
def rpi (R : Int → MP → MM → Prop) : QT := fun v P1 I1 => ∃ z : Int, v = some (vI z) ∧ R z P1 I1
theorem Cl.mono {Γ : GG} {μ : MI} {args : List AV} {P : MP} {I : MM} {Q Q' : QT} (h : Cl Γ μ args P I Q) (hq : ∀ v P1 I1, Q v P1 I1 → Q' v P1 I1) : Cl Γ μ args P I Q' := by
  intro sz p e ha hc hk s m a below hf happ hp hr
  obtain ⟨t, o, h1, h2, h3, ⟨⟨v, P', I', a1, a2, a3, a4⟩, a5⟩, h4⟩ := h sz p e ha hc hk s m a below hf happ hp hr
  exact ⟨t, o, h1, h2, h3, ⟨⟨v, P', I', a1, hq _ _ _ a2, a3, a4⟩, a5⟩, h4⟩
theorem XM.mono {Γ : GG} {μ : MI} {cells slots pc : Nat} {al : List (Nat × AV)} {st : List AV} {P : MP} {I : MM} {Q Q' : QT} (h : XM Γ μ cells slots pc al st P I Q) (hq : ∀ v P1 I1, Q v P1 I1 → Q' v P1 I1) : XM Γ μ cells slots pc al st P I Q' := by
  intro p e s m args below meth c B H locs ls hl hK hP hD hS hX T hT X
  obtain ⟨t, a1, o, b1, b2, ⟨⟨v, P', I', c1, c2, c3, c4⟩, c5⟩, b3⟩ := h p e s m args below meth c B H locs ls hl hK hP hD hS hX T hT X
  exact ⟨t, a1, o, b1, b2, ⟨⟨v, P', I', c1, hq _ _ _ c2, c3, c4⟩, c5⟩, b3⟩
/-- a method that makes nothing -/
def Mk0 (ν : MI) : Prop := ν.2.2.2.2.2.cells = 0 ∧ ν.2.2.2.2.2.slots = 0
section XR
variable {Γ : GG} {μ ν : MI} {cells slots pc : Nat} {al al' : List (Nat × AV)} {st as : List AV} {P : MP} {I : MM} {Q : QT}
theorem x_V0 {R : QT} {i ci index n : Nat} (hd : decode μ.2.2.1 pc = .ok (.invokevirtual index, 3)) (hC : Cl Γ ν (vR i :: as) P I R) (hk : LkV ν n) (hm : Cond.methodLink μ.2.1 index ν.1 ∈ lwU) (hR : LkR μ ν) (h0 : Mk0 ν) (hf : cells ≤ μ.2.2.2.2.2.cells ∧ slots ≤ μ.2.2.2.2.2.slots) (hc : (vwCl[ci]?).map (fun q => q.1) = some ν.1.cls) (ho : Ob Γ i (.inl ci)) (hn : as.length = n) (hs : avLen st ≤ 8)
    (ast : List AV) (hst : ast = as.reverse ++ vR i :: st) (k : ∀ v P' I', R v P' I' → XM Γ μ cells slots (pc + 3) al (v.toList ++ st) P' I' Q) : XM Γ μ cells slots pc al ast P I Q :=
  x_callV hd hC hk hm hR hc ho hn hs (by rw [h0.1, h0.2]; exact hf) (fun v P' I' h => by rw [h0.1, h0.2]; exact k v P' I' h) ast hst
theorem x_S0 {R : QT} {index n : Nat} (hd : decode μ.2.2.1 pc = .ok (.invokestatic index, 3)) (hC : Cl Γ ν as P I R) (hk : LkS ν n) (hm : Cond.methodLink μ.2.1 index ν.1 ∈ lwU) (hR : LkR μ ν) (h0 : Mk0 ν) (hf : cells ≤ μ.2.2.2.2.2.cells ∧ slots ≤ μ.2.2.2.2.2.slots) (hn : as.length = n) (hs : avLen st ≤ 8)
    (ast : List AV) (hst : ast = as.reverse ++ st) (k : ∀ v P' I', R v P' I' → XM Γ μ cells slots (pc + 3) al (v.toList ++ st) P' I' Q) : XM Γ μ cells slots pc al ast P I Q :=
  x_callS hd hC hk hm hR hn hs (by rw [h0.1, h0.2]; exact hf) (fun v P' I' h => by rw [h0.1, h0.2]; exact k v P' I' h) ast hst
theorem x_Vi {R : Int → MM → Prop} {i ci index n : Nat} (hd : decode μ.2.2.1 pc = .ok (.invokevirtual index, 3)) (hC : Cl Γ ν (vR i :: as) P I (ri P R)) (hk : LkV ν n) (hm : Cond.methodLink μ.2.1 index ν.1 ∈ lwU) (hR : LkR μ ν) (h0 : Mk0 ν) (hf : cells ≤ μ.2.2.2.2.2.cells ∧ slots ≤ μ.2.2.2.2.2.slots) (hc : (vwCl[ci]?).map (fun q => q.1) = some ν.1.cls) (ho : Ob Γ i (.inl ci)) (hn : as.length = n) (hs : avLen st ≤ 8)
    (ast : List AV) (hst : ast = as.reverse ++ vR i :: st) (k : ∀ z I', R z I' → XM Γ μ cells slots (pc + 3) al (vI z :: st) P I' Q) : XM Γ μ cells slots pc al ast P I Q :=
  x_V0 hd hC hk hm hR h0 hf hc ho hn hs ast hst (fun v P' I' h => by obtain ⟨z, rfl, rfl, h⟩ := h; exact k z I' h)
theorem x_Vl {R : Int → MM → Prop} {i ci index n : Nat} (hd : decode μ.2.2.1 pc = .ok (.invokevirtual index, 3)) (hC : Cl Γ ν (vR i :: as) P I (rl P R)) (hk : LkV ν n) (hm : Cond.methodLink μ.2.1 index ν.1 ∈ lwU) (hR : LkR μ ν) (h0 : Mk0 ν) (hf : cells ≤ μ.2.2.2.2.2.cells ∧ slots ≤ μ.2.2.2.2.2.slots) (hc : (vwCl[ci]?).map (fun q => q.1) = some ν.1.cls) (ho : Ob Γ i (.inl ci)) (hn : as.length = n) (hs : avLen st ≤ 8)
    (ast : List AV) (hst : ast = as.reverse ++ vR i :: st) (k : ∀ z I', R z I' → XM Γ μ cells slots (pc + 3) al (vL z :: st) P I' Q) : XM Γ μ cells slots pc al ast P I Q :=
  x_V0 hd hC hk hm hR h0 hf hc ho hn hs ast hst (fun v P' I' h => by obtain ⟨z, rfl, rfl, h⟩ := h; exact k z I' h)
theorem x_Vv {R : MM → Prop} {i ci index n : Nat} (hd : decode μ.2.2.1 pc = .ok (.invokevirtual index, 3)) (hC : Cl Γ ν (vR i :: as) P I (rv P R)) (hk : LkV ν n) (hm : Cond.methodLink μ.2.1 index ν.1 ∈ lwU) (hR : LkR μ ν) (h0 : Mk0 ν) (hf : cells ≤ μ.2.2.2.2.2.cells ∧ slots ≤ μ.2.2.2.2.2.slots) (hc : (vwCl[ci]?).map (fun q => q.1) = some ν.1.cls) (ho : Ob Γ i (.inl ci)) (hn : as.length = n) (hs : avLen st ≤ 8)
    (ast : List AV) (hst : ast = as.reverse ++ vR i :: st) (k : ∀ I', R I' → XM Γ μ cells slots (pc + 3) al st P I' Q) : XM Γ μ cells slots pc al ast P I Q :=
  x_V0 hd hC hk hm hR h0 hf hc ho hn hs ast hst (fun v P' I' h => by obtain ⟨rfl, rfl, h⟩ := h; exact k I' h)
theorem x_Vp {R : MP → MM → Prop} {i ci index n : Nat} (hd : decode μ.2.2.1 pc = .ok (.invokevirtual index, 3)) (hC : Cl Γ ν (vR i :: as) P I (rp R)) (hk : LkV ν n) (hm : Cond.methodLink μ.2.1 index ν.1 ∈ lwU) (hR : LkR μ ν) (h0 : Mk0 ν) (hf : cells ≤ μ.2.2.2.2.2.cells ∧ slots ≤ μ.2.2.2.2.2.slots) (hc : (vwCl[ci]?).map (fun q => q.1) = some ν.1.cls) (ho : Ob Γ i (.inl ci)) (hn : as.length = n) (hs : avLen st ≤ 8)
    (ast : List AV) (hst : ast = as.reverse ++ vR i :: st) (k : ∀ P' I', R P' I' → XM Γ μ cells slots (pc + 3) al st P' I' Q) : XM Γ μ cells slots pc al ast P I Q :=
  x_V0 hd hC hk hm hR h0 hf hc ho hn hs ast hst (fun v P' I' h => by obtain ⟨rfl, h⟩ := h; exact k P' I' h)
theorem x_Vpi {R : Int → MP → MM → Prop} {i ci index n : Nat} (hd : decode μ.2.2.1 pc = .ok (.invokevirtual index, 3)) (hC : Cl Γ ν (vR i :: as) P I (rpi R)) (hk : LkV ν n) (hm : Cond.methodLink μ.2.1 index ν.1 ∈ lwU) (hR : LkR μ ν) (h0 : Mk0 ν) (hf : cells ≤ μ.2.2.2.2.2.cells ∧ slots ≤ μ.2.2.2.2.2.slots) (hc : (vwCl[ci]?).map (fun q => q.1) = some ν.1.cls) (ho : Ob Γ i (.inl ci)) (hn : as.length = n) (hs : avLen st ≤ 8)
    (ast : List AV) (hst : ast = as.reverse ++ vR i :: st) (k : ∀ z P' I', R z P' I' → XM Γ μ cells slots (pc + 3) al (vI z :: st) P' I' Q) : XM Γ μ cells slots pc al ast P I Q :=
  x_V0 hd hC hk hm hR h0 hf hc ho hn hs ast hst (fun v P' I' h => by obtain ⟨z, rfl, h⟩ := h; exact k z P' I' h)
theorem x_Si {R : Int → MM → Prop} {index n : Nat} (hd : decode μ.2.2.1 pc = .ok (.invokestatic index, 3)) (hC : Cl Γ ν as P I (ri P R)) (hk : LkS ν n) (hm : Cond.methodLink μ.2.1 index ν.1 ∈ lwU) (hR : LkR μ ν) (h0 : Mk0 ν) (hf : cells ≤ μ.2.2.2.2.2.cells ∧ slots ≤ μ.2.2.2.2.2.slots) (hn : as.length = n) (hs : avLen st ≤ 8)
    (ast : List AV) (hst : ast = as.reverse ++ st) (k : ∀ z I', R z I' → XM Γ μ cells slots (pc + 3) al (vI z :: st) P I' Q) : XM Γ μ cells slots pc al ast P I Q :=
  x_S0 hd hC hk hm hR h0 hf hn hs ast hst (fun v P' I' h => by obtain ⟨z, rfl, rfl, h⟩ := h; exact k z I' h)
theorem x_Sl {R : Int → MM → Prop} {index n : Nat} (hd : decode μ.2.2.1 pc = .ok (.invokestatic index, 3)) (hC : Cl Γ ν as P I (rl P R)) (hk : LkS ν n) (hm : Cond.methodLink μ.2.1 index ν.1 ∈ lwU) (hR : LkR μ ν) (h0 : Mk0 ν) (hf : cells ≤ μ.2.2.2.2.2.cells ∧ slots ≤ μ.2.2.2.2.2.slots) (hn : as.length = n) (hs : avLen st ≤ 8)
    (ast : List AV) (hst : ast = as.reverse ++ st) (k : ∀ z I', R z I' → XM Γ μ cells slots (pc + 3) al (vL z :: st) P I' Q) : XM Γ μ cells slots pc al ast P I Q :=
  x_S0 hd hC hk hm hR h0 hf hn hs ast hst (fun v P' I' h => by obtain ⟨z, rfl, rfl, h⟩ := h; exact k z I' h)
theorem x_Sv {R : MM → Prop} {index n : Nat} (hd : decode μ.2.2.1 pc = .ok (.invokestatic index, 3)) (hC : Cl Γ ν as P I (rv P R)) (hk : LkS ν n) (hm : Cond.methodLink μ.2.1 index ν.1 ∈ lwU) (hR : LkR μ ν) (h0 : Mk0 ν) (hf : cells ≤ μ.2.2.2.2.2.cells ∧ slots ≤ μ.2.2.2.2.2.slots) (hn : as.length = n) (hs : avLen st ≤ 8)
    (ast : List AV) (hst : ast = as.reverse ++ st) (k : ∀ I', R I' → XM Γ μ cells slots (pc + 3) al st P I' Q) : XM Γ μ cells slots pc al ast P I Q :=
  x_S0 hd hC hk hm hR h0 hf hn hs ast hst (fun v P' I' h => by obtain ⟨rfl, rfl, h⟩ := h; exact k I' h)
/-! names for what was computed -/
theorem x_nmI (k : ∀ I' : MM, I' = I → XM Γ μ cells slots pc al st P I' Q) : XM Γ μ cells slots pc al st P I Q := k I rfl
theorem x_nmP (k : ∀ P' : MP, P' = P → XM Γ μ cells slots pc al st P' I Q) : XM Γ μ cells slots pc al st P I Q := k P rfl
theorem x_nmT {z : Int} (k : ∀ x : Int, x = z → XM Γ μ cells slots pc al (vI x :: st) P I Q) : XM Γ μ cells slots pc al (vI z :: st) P I Q := k z rfl
theorem x_nmL {z : Int} (k : ∀ x : Int, x = z → XM Γ μ cells slots pc al (vL x :: st) P I Q) : XM Γ μ cells slots pc al (vL z :: st) P I Q := k z rfl
/-! further rows -/
def lc (a b : Int) : Int := if b < a then 1 else if a = b then 0 else -1
theorem inR_lc {a b : Int} : inR (lc a b) := by
  unfold lc
  split
  · exact ⟨by decide, by decide⟩
  · split <;> exact ⟨by decide, by decide⟩
theorem x_lcmp {a b : Int} (hd : decode μ.2.2.1 pc = .ok (.lcmp, 1)) (ha : inL a) (hb : inL b) (k : XM Γ μ cells slots (pc + 1) al (vI (lc a b) :: st) P I Q) : XM Γ μ cells slots pc al (vL b :: vL a :: st) P I Q := by
  intro p e s m args below meth c B H locs ls hl hK hP hD hS hX
  have h := k p e s m args below meth c B H locs ls hl hK hP hD hS hX
  refine W.lcmp B.1 B.2.1 hd ?_
  have e1 : lg_cmp (Int64.ofInt a) (Int64.ofInt b) = Int32.ofInt (lc a b) := by
    unfold lg_cmp lc
    by_cases h1 : b < a
    · rw [if_pos ((zl_lt hb ha).mpr h1), if_pos h1]; rfl
    · rw [if_neg (fun q => h1 ((zl_lt hb ha).mp q)), if_neg h1]
      by_cases h2 : a = b
      · rw [if_pos ((zl_eq ha hb).mpr h2), if_pos h2]; rfl
      · rw [if_neg (fun q => h2 ((zl_eq ha hb).mp q)), if_neg h2]; rfl
  rw [e1]
  exact h
theorem zi_div {a b : Int} (ha : inR a) (hb : inR b) (h0 : 0 ≤ a) (h1 : 0 < b) : Int32.ofInt a / Int32.ofInt b = Int32.ofInt (a / b) := by
  have hle : a / b ≤ a := Int.ediv_le_self b h0
  have h3 : 0 ≤ a / b := Int.ediv_nonneg h0 (Int.le_of_lt h1)
  rw [← Int32.toInt_inj, Int32.toInt_div, zi_toInt ha, zi_toInt hb, zi_toInt ⟨by omega, by have := ha.2; omega⟩, Int.tdiv_eq_ediv_of_nonneg h0]
  exact Int.bmod_eq_of_le (by omega) (by have := ha.2; omega)
theorem x_idiv {a b : Int} (hd : decode μ.2.2.1 pc = .ok (.idiv, 1)) (ha : inR a) (hb : inR b) (h0 : 0 ≤ a) (h1 : 0 < b) (k : XM Γ μ cells slots (pc + 1) al (vI (a / b) :: st) P I Q) : XM Γ μ cells slots pc al (vI b :: vI a :: st) P I Q := by
  intro p e s m args below meth c B H locs ls hl hK hP hD hS hX
  refine lv_idiv B.1 B.2.1 hd (fun q => by have := (zi_eq0 hb).mp q; omega) ?_
  rw [zi_div ha hb h0 h1]
  exact k p e s m args below meth c B H locs ls hl hK hP hD hS hX
theorem x_irem {a b : Int} (hd : decode μ.2.2.1 pc = .ok (.irem, 1)) (ha : inR a) (hb : inR b) (h0 : 0 ≤ a) (h1 : 0 < b) (k : XM Γ μ cells slots (pc + 1) al (vI (a % b) :: st) P I Q) : XM Γ μ cells slots pc al (vI b :: vI a :: st) P I Q := by
  intro p e s m args below meth c B H locs ls hl hK hP hD hS hX
  refine lv_irem B.1 B.2.1 hd (fun q => by have := (zi_eq0 hb).mp q; omega) ?_
  have e1 : Int32.ofInt a - Int32.ofInt a / Int32.ofInt b * Int32.ofInt b = Int32.ofInt (a % b) := by
    rw [zi_div ha hb h0 h1, zi_mul, zi_sub, Int.emod_def, Int.mul_comm]
  rw [e1]
  exact k p e s m args below meth c B H locs ls hl hK hP hD hS hX
end XR
end
section
/-! MORE ROWS: Math.max and min, shifts and masks, String constants -/
section XR
variable {Γ : GG} {μ ν : MI} {cells slots pc : Nat} {al al' : List (Nat × AV)} {st as : List AV} {P : MP} {I : MM} {Q : QT}
theorem x_mmax {index : Nat} {a b : Int} (hd : decode μ.2.2.1 pc = .ok (.invokestatic index, 3)) (hm : Cond.methodLink μ.2.1 index Lib.Math.max.name ∈ lwU) (h1 : Cond.static Lib.Math.max.name ∈ lwU) (h2 : Cond.initialized "java/lang/Math" ∈ lwU) (h3 : Cond.code Lib.Math.max.name Lib.Math.max.code 2 (some .int) ∈ lwU) (hR : 1 ≤ μ.2.2.2.2.2.frames ∧ avLen st + 13 ≤ μ.2.2.2.2.2.locals) (hf : cells ≤ μ.2.2.2.2.2.cells ∧ slots ≤ μ.2.2.2.2.2.slots) (ha : inR a) (hb : inR b) (k : XM Γ μ cells slots (pc + 3) al (vI (max a b) :: st) P I Q) : XM Γ μ cells slots pc al (vI b :: vI a :: st) P I Q := by
  intro p e s m args below meth c B H locs ls hl hK hP hD hS hX
  refine va_mmax B.1 B.2.1 (B.2.2.1.trans hl.1.symm) B.2.2.2.1 (B.2.2.2.2.1 _ hm) (B.2.2.2.2.1 _ h1) (B.2.2.2.2.1 _ h2) (B.2.2.2.2.1 _ h3) hR.1 (by rw [cat_sum]; exact hR.2) hf.1 hf.2 hd ?_
  have e1 : (if Int32.ofInt a < Int32.ofInt b then Int32.ofInt b else Int32.ofInt a) = Int32.ofInt (max a b) := by
    by_cases h : a < b
    · rw [if_pos ((zi_lt ha hb).mpr h), show max a b = b by omega]
    · rw [if_neg (fun q => h ((zi_lt ha hb).mp q)), show max a b = a by omega]
  rw [e1]
  exact k p e s m args below meth c B H locs ls hl hK hP hD hS hX
theorem x_mmin {index : Nat} {a b : Int} (hd : decode μ.2.2.1 pc = .ok (.invokestatic index, 3)) (hm : Cond.methodLink μ.2.1 index Lib.Math.min.name ∈ lwU) (h1 : Cond.static Lib.Math.min.name ∈ lwU) (h2 : Cond.initialized "java/lang/Math" ∈ lwU) (h3 : Cond.code Lib.Math.min.name Lib.Math.min.code 2 (some .int) ∈ lwU) (hR : 1 ≤ μ.2.2.2.2.2.frames ∧ avLen st + 13 ≤ μ.2.2.2.2.2.locals) (hf : cells ≤ μ.2.2.2.2.2.cells ∧ slots ≤ μ.2.2.2.2.2.slots) (ha : inR a) (hb : inR b) (k : XM Γ μ cells slots (pc + 3) al (vI (min a b) :: st) P I Q) : XM Γ μ cells slots pc al (vI b :: vI a :: st) P I Q := by
  intro p e s m args below meth c B H locs ls hl hK hP hD hS hX
  refine va_mmin B.1 B.2.1 (B.2.2.1.trans hl.1.symm) B.2.2.2.1 (B.2.2.2.2.1 _ hm) (B.2.2.2.2.1 _ h1) (B.2.2.2.2.1 _ h2) (B.2.2.2.2.1 _ h3) hR.1 (by rw [cat_sum]; exact hR.2) hf.1 hf.2 hd ?_
  have h := k p e s m args below meth c B H locs ls hl hK hP hD hS hX
  by_cases hlt : a < b
  · rw [show min a b = a by omega] at h
    first
      | (rw [if_pos ((zi_lt ha hb).mpr hlt)]; exact h)
      | (rw [if_neg (fun q => by have := (zi_lt hb ha).mp q; omega)]; exact h)
      | (rw [if_pos ((zi_le ha hb).mpr (by omega))]; exact h)
  · by_cases he : a = b
    · subst he
      rw [show min a a = a by omega] at h
      rw [ite_self]
      exact h
    · rw [show min a b = b by omega] at h
      first
        | (rw [if_neg (fun q => hlt ((zi_lt ha hb).mp q))]; exact h)
        | (rw [if_pos ((zi_lt hb ha).mpr (by omega))]; exact h)
        | (rw [if_neg (fun q => by have := (zi_le ha hb).mp q; omega)]; exact h)
theorem zi_bits (a : Int) : (Int32.ofInt a).toBitVec.toNat = (a % 4294967296).toNat := by
  rw [Int32.toBitVec_ofInt, BitVec.toNat_ofInt]; rfl
theorem x_iandM {a b : Int} (hd : decode μ.2.2.1 pc = .ok (.iand, 1)) (j : Nat) (hj : (Int32.ofInt b).toBitVec.toNat = 2 ^ j - 1) (hj2 : j ≤ 31) (k : XM Γ μ cells slots (pc + 1) al (vI (a % (2 ^ j : Nat)) :: st) P I Q) : XM Γ μ cells slots pc al (vI b :: vI a :: st) P I Q := by
  intro p e s m args below meth c B H locs ls hl hK hP hD hS hX
  refine lv_iand B.1 B.2.1 hd ?_
  have e1 : Int32.ofInt a &&& Int32.ofInt b = Int32.ofInt (a % (2 ^ j : Nat)) := by
    rw [pk_and _ j hj, zi_bits, nI, ← Int32.ofInt_eq_ofNat]
    congr 1
    have h2 : (4294967296 : Int) = ((2 ^ j : Nat) : Int) * ((2 ^ (32 - j) : Nat) : Int) := by
      rw [← Int.natCast_mul, ← Nat.pow_add, show j + (32 - j) = 32 by omega]; rfl
    have h0 : 0 ≤ a % 4294967296 := Int.emod_nonneg _ (by decide)
    rw [Int.natCast_emod, Int.toNat_of_nonneg h0]
    rw [h2]
    exact Int.emod_emod_of_dvd a (Int.dvd_mul_right _ _)
  rw [e1]
  exact k p e s m args below meth c B H locs ls hl hK hP hD hS hX
theorem zi_sh (s : Int) (h0 : 0 ≤ s) (h1 : s < 32) : ((Int32.ofInt s).toBitVec.smod 32).toNat = s.toNat := by
  obtain ⟨n, rfl⟩ := Int.eq_ofNat_of_zero_le h0
  have hn : n < 32 := by omega
  have key : ∀ n : Nat, n < 32 → ((Int32.ofInt (n : Int)).toBitVec.smod 32).toNat = n := by decide +kernel
  exact key n hn
theorem zi_31 (s : Int) (h0 : 0 ≤ s) (h1 : s < 32) : Int32.ofInt s &&& 31 = Int32.ofInt s := by
  obtain ⟨n, rfl⟩ := Int.eq_ofNat_of_zero_le h0
  have hn : n < 32 := by omega
  have key : ∀ n : Nat, n < 32 → Int32.ofInt (n : Int) &&& 31 = Int32.ofInt (n : Int) := by decide +kernel
  exact key n hn
theorem x_ishr {a s : Int} (hd : decode μ.2.2.1 pc = .ok (.ishr, 1)) (ha : inR a) (h0 : 0 ≤ s) (h1 : s < 32) (k : XM Γ μ cells slots (pc + 1) al (vI (a / (2 ^ s.toNat : Nat)) :: st) P I Q) : XM Γ μ cells slots pc al (vI s :: vI a :: st) P I Q := by
  intro p e s' m args below meth c B H locs ls hl hK hP hD hS hX
  refine lv_ishr B.1 B.2.1 hd ?_
  have e1 : Int32.ofInt a >>> Int32.ofInt s = Int32.ofInt (a / (2 ^ s.toNat : Nat)) := by
    rw [← Int32.ofInt_toInt (Int32.ofInt a >>> Int32.ofInt s), pk_shr _ _ _ (zi_sh s h0 h1), zi_toInt ha, Int.shiftRight_eq_div_pow]
  rw [zi_31 s h0 h1, e1]
  exact k p e s' m args below meth c B H locs ls hl hK hP hD hS hX
theorem x_iushr {a s : Int} (hd : decode μ.2.2.1 pc = .ok (.iushr, 1)) (j : Nat) (hj : ((( Int32.ofInt s).toUInt32 &&& Int32.toUInt32 31).toBitVec % 32).toNat = j) (k : XM Γ μ cells slots (pc + 1) al (vI (a % 4294967296 / (2 ^ j : Nat)) :: st) P I Q) : XM Γ μ cells slots pc al (vI s :: vI a :: st) P I Q := by
  intro p e s' m args below meth c B H locs ls hl hK hP hD hS hX
  refine lv_iushr B.1 B.2.1 hd (v := Int32.ofInt (a % 4294967296 / (2 ^ j : Nat))) ?_ (k p e s' m args below meth c B H locs ls hl hK hP hD hS hX)
  have h1 := pk_ushr (Int32.ofInt a) (Int32.ofInt s) j hj
  rw [zi_bits] at h1
  have h0 : 0 ≤ a % 4294967296 := Int.emod_nonneg _ (by decide)
  have h2 : a % 4294967296 < 4294967296 := Int.emod_lt_of_pos _ (by decide)
  have h3 : 0 ≤ a % 4294967296 / (2 ^ j : Nat) := Int.ediv_nonneg h0 (by first | exact Int.natCast_nonneg _ | exact Int.ofNat_nonneg _)
  have h4 : a % 4294967296 / (2 ^ j : Nat) ≤ a % 4294967296 := Int.ediv_le_self _ h0
  refine Int32.toBitVec.inj (BitVec.eq_of_toNat_eq ?_)
  rw [h1, zi_bits, Int.emod_eq_of_lt h3 (by omega)]
  obtain ⟨n, hn⟩ := Int.eq_ofNat_of_zero_le h0
  rw [hn]
  norm_cast
def b8 (a : Int) : Int := (a + 128) % 256 - 128
theorem x_i2b {a : Int} (hd : decode μ.2.2.1 pc = .ok (.i2b, 1)) (k : XM Γ μ cells slots (pc + 1) al (vI (b8 a) :: st) P I Q) : XM Γ μ cells slots pc al (vI a :: st) P I Q := by
  intro p e s' m args below meth c B H locs ls hl hK hP hD hS hX
  refine lv_i2b B.1 B.2.1 hd (v := Int32.ofInt (b8 a)) ?_ (k p e s' m args below meth c B H locs ls hl hK hP hD hS hX)
  have hb : inR (b8 a) := by unfold b8; constructor <;> omega
  rw [← Int32.toInt_inj, zi_toInt hb, Int32.toInt8_ofInt, Int8.toInt_toInt32, Int8.toInt_ofInt]
  unfold b8
  show Int.bmod a 256 = _
  rw [Int.bmod_def]
  split <;> omega
theorem x_ishl1 {a : Int} (hd : decode μ.2.2.1 pc = .ok (.ishl, 1)) (k : XM Γ μ cells slots (pc + 1) al (vI a :: st) P I Q) : XM Γ μ cells slots pc al (vI 0 :: vI a :: st) P I Q := by
  intro p e s' m args below meth c B H locs ls hl hK hP hD hS hX
  refine lv_ishl B.1 B.2.1 hd ?_
  have e1 : Int32.ofInt a <<< Int32.ofInt 0 = Int32.ofInt a := by
    refine Int32.toBitVec.inj (BitVec.eq_of_toNat_eq ?_)
    rw [pk_shl _ _ 0 (by decide +kernel)]
    have := (Int32.ofInt a).toBitVec.isLt
    omega
  rw [zi_31 0 (by decide) (by decide), e1]
  exact k p e s' m args below meth c B H locs ls hl hK hP hD hS hX
theorem x_ior {a b : Int} (hd : decode μ.2.2.1 pc = .ok (.ior, 1)) (ha : a = 0 ∨ a = 1) (hb : b = 0 ∨ b = 1) (k : XM Γ μ cells slots (pc + 1) al (vI (max a b) :: st) P I Q) : XM Γ μ cells slots pc al (vI b :: vI a :: st) P I Q := by
  intro p e s' m args below meth c B H locs ls hl hK hP hD hS hX
  refine lv_ior B.1 B.2.1 hd ?_
  have e1 : Int32.ofInt a ||| Int32.ofInt b = Int32.ofInt (max a b) := by
    rcases ha with rfl | rfl <;> rcases hb with rfl | rfl <;> rfl
  rw [e1]
  exact k p e s' m args below meth c B H locs ls hl hK hP hD hS hX
theorem x_ldiv {a b : Int} (hd : decode μ.2.2.1 pc = .ok (.ldiv, 1)) (ha : inR a) (hb : inL b) (h1 : b ≠ 0) (k : XM Γ μ cells slots (pc + 1) al (vL (a.tdiv b) :: st) P I Q) : XM Γ μ cells slots pc al (vL b :: vL a :: st) P I Q := by
  intro p e s' m args below meth c B H locs ls hl hK hP hD hS hX
  have ha2 : inL a := ⟨by have := ha.1; omega, by have := ha.2; omega⟩
  refine lv_ldiv B.1 B.2.1 hd (fun q => h1 ?_) ?_
  · have h := congrArg Int64.toInt q
    rw [zl_toInt hb] at h
    exact h
  have e1 : Int64.ofInt a / Int64.ofInt b = Int64.ofInt (a.tdiv b) := by
    have hn : (a.tdiv b).natAbs ≤ a.natAbs := by rw [Int.natAbs_tdiv]; exact Nat.div_le_self _ _
    have hr : inL (a.tdiv b) := ⟨by have := ha.1; have := ha.2; omega, by have := ha.1; have := ha.2; omega⟩
    rw [← Int64.toInt_inj, Int64.toInt_div, zl_toInt ha2, zl_toInt hb, zl_toInt hr]
    exact Int.bmod_eq_of_le (by have := hr.1; omega) (by have := hr.2; omega)
  rw [e1]
  exact k p e s' m args below meth c B H locs ls hl hK hP hD hS hX
end XR
end
section
/-! ROWS of String constants (the constant i is the number 500 + i, its bytes 600 + i) -/
section XR
variable {Γ : GG} {μ ν : MI} {cells slots pc : Nat} {al al' : List (Nat × AV)} {st as : List AV} {P : MP} {I : MM} {Q R : QT}
theorem x_ldcS {index : Nat} (tx : String) (i : Nat) (hd : decode μ.2.2.1 pc = .ok (.ldc index, 2)) (ho : (μ.2.1, index, tx, i) ∈ occS) (k : XM Γ μ cells slots (pc + 2) al (vR (500 + i) :: st) P I Q) : XM Γ μ cells slots pc al st P I Q := by
  intro p e s m args below meth c B H locs ls hl hK hP hD hS hX
  exact va_ldcS B.1 B.2.1 B.2.2.2.1 (hX.2.1 _ ho) hd (k p e s m args below meth c B H locs ls hl hK hP hD hS hX)
theorem x_getSv {index i : Nat} (hd : decode μ.2.2.1 pc = .ok (.getfield index, 3)) (hi : i < 9) (hf : Cond.fieldLink μ.2.1 index "java/lang/String" "value" "[B" ∈ lwU) (k : XM Γ μ cells slots (pc + 3) al (vR (600 + i) :: st) P I Q) : XM Γ μ cells slots pc al (vR (500 + i) :: st) P I Q := by
  intro p e s m args below meth c B H locs ls hl hK hP hD hS hX
  exact vk_getf B.1 B.2.1 (hX.1 i hi).2.2.1 hS B.2.2.2.1 (B.2.2.2.2.1 _ hf) (fun _ h => h) hd (k p e s m args below meth c B H locs ls hl hK hP hD hS hX)
theorem x_getSc {index i : Nat} (hd : decode μ.2.2.1 pc = .ok (.getfield index, 3)) (hi : i < 9) (hf : Cond.fieldLink μ.2.1 index "java/lang/String" "coder" "B" ∈ lwU) (k : XM Γ μ cells slots (pc + 3) al (vI 0 :: st) P I Q) : XM Γ μ cells slots pc al (vR (500 + i) :: st) P I Q := by
  intro p e s m args below meth c B H locs ls hl hK hP hD hS hX
  exact vk_getf B.1 B.2.1 (hX.1 i hi).2.1 hS B.2.2.2.1 (B.2.2.2.2.1 _ hf) (fun _ h => h) hd (k p e s m args below meth c B H locs ls hl hK hP hD hS hX)
theorem x_alenS {i : Nat} (hd : decode μ.2.2.1 pc = .ok (.arraylength, 1)) (hi : i < 9) (k : XM Γ μ cells slots (pc + 1) al (vI (lenS.getD i 0) :: st) P I Q) : XM Γ μ cells slots pc al (vR (600 + i) :: st) P I Q := by
  intro p e s m args below meth c B H locs ls hl hK hP hD hS hX
  exact va_tlen B.1 B.2.1 (hX.1 i hi).2.2.2 hS (v := Int32.ofInt (lenS.getD i 0)) (Int32.ofInt_eq_ofNat).symm hd (k p e s m args below meth c B H locs ls hl hK hP hD hS hX)
/-- the byte j of the constant i -/
def chS (i j : Nat) : Int := ((bytS.getD i []).getD j 0).toInt
theorem x_baldS {i : Nat} {j : Int} (hd : decode μ.2.2.1 pc = .ok (.baload, 1)) (hi : i < 9) (h0 : 0 ≤ j) (h1 : j < lenS.getD i 0) (hL : lenS.getD i 0 < 100) (k : XM Γ μ cells slots (pc + 1) al (vI (chS i j.toNat) :: st) P I Q) : XM Γ μ cells slots pc al (vI j :: vR (600 + i) :: st) P I Q := by
  intro p e s m args below meth c B H locs ls hl hK hP hD hS hX
  refine va_tb B.1 B.2.1 (hX.1 i hi).2.2.2 hS (zi_in h0 h1 (by omega)) (v := .int (Int32.ofInt (chS i j.toNat))) ?_ hd (k p e s m args below meth c B H locs ls hl hK hP hD hS hX)
  rw [zi_nat h0 (by omega)]
  simp only [chS, Int32.ofInt_toInt]
theorem x_getsC {index : Nat} (hd : decode μ.2.2.1 pc = .ok (.getstatic index, 3)) (hf : Cond.fieldLink μ.2.1 index "java/lang/String" "COMPACT_STRINGS" "Z" ∈ lwU) (k : XM Γ μ cells slots (pc + 3) al (vI 1 :: st) P I Q) : XM Γ μ cells slots pc al st P I Q := by
  intro p e s m args below meth c B H locs ls hl hK hP hD hS hX
  exact va_gets B.1 B.2.1 hX.2.2.1 hS B.2.2.2.1 (B.2.2.2.2.1 _ hf) (fun _ h => h) hd (k p e s m args below meth c B H locs ls hl hK hP hD hS hX)
theorem x_getsF {index : Nat} (hd : decode μ.2.2.1 pc = .ok (.getstatic index, 3)) (hf : Cond.fieldLink μ.2.1 index "jdk/internal/util/Preconditions" "SIOOBE_FORMATTER" "Ljava/util/function/BiFunction;" ∈ lwU) (k : ∀ v, isLv v = false → XM Γ μ cells slots (pc + 3) al (v :: st) P I Q) : XM Γ μ cells slots pc al st P I Q := by
  intro p e s m args below meth c B H locs ls hl hK hP hD hS hX
  rcases hX.2.2.2.1 with h | h
  · exact va_gets B.1 B.2.1 h hS B.2.2.2.1 (B.2.2.2.2.1 _ hf) (fun _ h => h) hd (k vN rfl p e s m args below meth c B H locs ls hl hK hP hD hS hX)
  · exact va_gets B.1 B.2.1 h hS B.2.2.2.1 (B.2.2.2.2.1 _ hf) (fun _ h => h) hd (k (vR 700) rfl p e s m args below meth c B H locs ls hl hK hP hD hS hX)
theorem x_i2c {a : Int} (hd : decode μ.2.2.1 pc = .ok (.i2c, 1)) (h0 : 0 ≤ a) (h1 : a < 65536) (k : XM Γ μ cells slots (pc + 1) al (vI a :: st) P I Q) : XM Γ μ cells slots pc al (vI a :: st) P I Q := by
  intro p e s' m args below meth c B H locs ls hl hK hP hD hS hX
  refine lv_i2c B.1 B.2.1 hd (v := Int32.ofInt a) ?_ (k p e s' m args below meth c B H locs ls hl hK hP hD hS hX)
  rw [pk_char, zi_bits, nI, ← Int32.ofInt_eq_ofNat]
  congr 1
  omega
theorem x_nret {z : Int} (ty : FieldType) (hd : decode μ.2.2.1 pc = .ok (.ireturn, 1)) (hr : μ.2.2.2.2.1 = some ty) (hz : narrow ty (.int (Int32.ofInt z)) = .int (Int32.ofInt z)) (hc : cells ≤ μ.2.2.2.2.2.cells) (hs : slots ≤ μ.2.2.2.2.2.slots) (hq : Q (some (vI z)) P I) : XM Γ μ cells slots pc al [vI z] P I Q := by
  intro p e s m args below meth c B H locs ls hl hK hP hD hS hX
  refine W.widen hc hs ?_
  exact W.zret (v := Int32.ofInt z) (ty := ty) B.1 B.2.1 (B.2.2.2.2.2.1.trans hr) hz (fun t ht hW => pq_of (p := p) (e := e) (R := μ.2.2.2.2.2) (v := some (vI z)) hq ht hW hK hP hS) hS.2.2 hd B.2.2.2.2.2.2
theorem x_Vs {R : Int → MM → Prop} {i index n : Nat} (hd : decode μ.2.2.1 pc = .ok (.invokevirtual index, 3)) (hi : i < 9) (hC : Cl Γ ν (vR (500 + i) :: as) P I (ri P R)) (hk : LkV ν n) (hm : Cond.methodLink μ.2.1 index ν.1 ∈ lwU) (hR : LkR μ ν) (h0 : Mk0 ν) (hf : cells ≤ μ.2.2.2.2.2.cells ∧ slots ≤ μ.2.2.2.2.2.slots) (hc : ν.1.cls = "java/lang/String") (hn : as.length = n) (hs : avLen st ≤ 8)
    (ast : List AV) (hst : ast = as.reverse ++ vR (500 + i) :: st) (k : ∀ z I', R z I' → XM Γ μ cells slots (pc + 3) al (vI z :: st) P I' Q) : XM Γ μ cells slots pc al ast P I Q := by
  subst hst
  intro p e s m args below meth c B H locs ls hl hK hP hD hS hX
  have hrecv : ∃ cell : Cell, H[gr Γ (500 + i)]? = some cell ∧ cell.vm.isStatics = false ∧ s.vm.findClass ν.1.cls = some cell.cls := by
    rw [hc]
    obtain ⟨cell, h1, h2, h3, -⟩ := (hX.1 i hi).1.kept hS.2.1
    exact ⟨cell, h1, h2, h3⟩
  have hrun := va_runV (C := ν.1.cls) (b := gr Γ (500 + i)) (As := as.map (cv (gr Γ))) (rest := st.map (cv (gr Γ))) (g := F0 m pc ls ((as.reverse ++ vR (500 + i) :: st).map (cv (gr Γ)))) (cells := cells) (slots := slots) (locs := locs)
    (⟨B.1, B.2.1, B.2.2.1, B.2.2.2.1, B.2.2.2.2.1⟩ : CallFix p m c μ.2.2.1 μ.2.2.2.1 s args lwU μ.2.1) (hC H.size) (cwV n B.2.2.2.2.1 (goodV hk hm) rfl rfl rfl ⟨rfl, hk.2.2.2.2⟩ hR)
    ⟨pq_blind, hrecv, fun U hU hW => ⟨rfl, by rw [hU], va_K.moved hW.alike hK, by rw [hU]; exact hP, gw_DR _ hD, ro_call hU hW hS hX⟩⟩ rfl (by rw [List.length_map]; exact hn) hl.1 (by simp [cv]) (lv_room (by rw [cat_sum]; exact hs)) hd (by rw [h0.1, h0.2]; exact hf) (below := below) (meth := meth) (e := e)
  exact x_run hrun hS (fun v P' I' H1 locs1 hR' hP' hS' => by
    obtain ⟨z, rfl, rfl, h⟩ := hR'
    rw [h0.1, h0.2]
    exact k z I' h p e s m args below meth c B H1 locs1 ls hl hK hP' (gw_D hD) hS' hX)
theorem avl_v {v : AV} (h : isLv v = false) (st : List AV) : avLen (v :: st) = 1 + avLen st := by
  simp [avLen, h]
end XR
end
