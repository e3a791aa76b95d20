section
-- ===== PART A: goes FIRST, ahead of the names: the tables' words, and 'selects' of the private methods out of them =====
/-- a private method of a class that the tables say can be made, by its rows of tables_1 -/
def lw_okq (q : MethodName × Nat) : Prop := (q.1.cls ≠ "java/lang/invoke/MethodHandle" ∧ q.1.cls ≠ "java/lang/invoke/VarHandle") ∧ Cond.instantiable q.1.cls q.2 ∈ tables_1 ∧ Cond.privateMethod q.1 ∈ tables_1 ∧ Cond.instanceMethod q.1 ∈ tables_1
theorem lw_p0 : lw_okq (⟨"ErrorNames", "step", "()V"⟩, 11) := ⟨⟨by decide +kernel, by decide +kernel⟩, List.mem_of_getElem? (i := 16) (by decide +kernel), List.mem_of_getElem? (i := 255) (by decide +kernel), List.mem_of_getElem? (i := 256) (by decide +kernel)⟩
theorem lw_p1 : lw_okq (⟨"ErrorNames", "goOn", "()V"⟩, 11) := ⟨⟨by decide +kernel, by decide +kernel⟩, List.mem_of_getElem? (i := 16) (by decide +kernel), List.mem_of_getElem? (i := 263) (by decide +kernel), List.mem_of_getElem? (i := 264) (by decide +kernel)⟩
theorem lw_p2 : lw_okq (⟨"ErrorNames$Procedures", "hasToken", "(II)Z"⟩, 3) := ⟨⟨by decide +kernel, by decide +kernel⟩, List.mem_of_getElem? (i := 24) (by decide +kernel), List.mem_of_getElem? (i := 287) (by decide +kernel), List.mem_of_getElem? (i := 288) (by decide +kernel)⟩
theorem lw_p3 : lw_okq (⟨"ErrorNames", "operate", "(I)I"⟩, 11) := ⟨⟨by decide +kernel, by decide +kernel⟩, List.mem_of_getElem? (i := 16) (by decide +kernel), List.mem_of_getElem? (i := 295) (by decide +kernel), List.mem_of_getElem? (i := 296) (by decide +kernel)⟩
theorem lw_p4 : lw_okq (⟨"ErrorNames", "misfit", "(I)I"⟩, 11) := ⟨⟨by decide +kernel, by decide +kernel⟩, List.mem_of_getElem? (i := 16) (by decide +kernel), List.mem_of_getElem? (i := 299) (by decide +kernel), List.mem_of_getElem? (i := 300) (by decide +kernel)⟩
theorem lw_p5 : lw_okq (⟨"ErrorNames", "execute", "()I"⟩, 11) := ⟨⟨by decide +kernel, by decide +kernel⟩, List.mem_of_getElem? (i := 16) (by decide +kernel), List.mem_of_getElem? (i := 309) (by decide +kernel), List.mem_of_getElem? (i := 310) (by decide +kernel)⟩
theorem lw_p6 : lw_okq (⟨"ErrorNames", "begin", "(II)I"⟩, 11) := ⟨⟨by decide +kernel, by decide +kernel⟩, List.mem_of_getElem? (i := 16) (by decide +kernel), List.mem_of_getElem? (i := 317) (by decide +kernel), List.mem_of_getElem? (i := 318) (by decide +kernel)⟩
theorem lw_p7 : lw_okq (⟨"ErrorNames", "beginIf", "()I"⟩, 11) := ⟨⟨by decide +kernel, by decide +kernel⟩, List.mem_of_getElem? (i := 16) (by decide +kernel), List.mem_of_getElem? (i := 344) (by decide +kernel), List.mem_of_getElem? (i := 345) (by decide +kernel)⟩
theorem lw_p8 : lw_okq (⟨"ErrorNames", "repeat", "(I)I"⟩, 11) := ⟨⟨by decide +kernel, by decide +kernel⟩, List.mem_of_getElem? (i := 16) (by decide +kernel), List.mem_of_getElem? (i := 348) (by decide +kernel), List.mem_of_getElem? (i := 349) (by decide +kernel)⟩
theorem lw_p9 : lw_okq (⟨"ErrorNames", "beginLoop", "(IIIII)I"⟩, 11) := ⟨⟨by decide +kernel, by decide +kernel⟩, List.mem_of_getElem? (i := 16) (by decide +kernel), List.mem_of_getElem? (i := 352) (by decide +kernel), List.mem_of_getElem? (i := 353) (by decide +kernel)⟩
theorem lw_p10 : lw_okq (⟨"ErrorNames", "countThrough", "(III)I"⟩, 11) := ⟨⟨by decide +kernel, by decide +kernel⟩, List.mem_of_getElem? (i := 16) (by decide +kernel), List.mem_of_getElem? (i := 360) (by decide +kernel), List.mem_of_getElem? (i := 361) (by decide +kernel)⟩
theorem lw_p11 : lw_okq (⟨"ErrorNames", "exitLoop", "()I"⟩, 11) := ⟨⟨by decide +kernel, by decide +kernel⟩, List.mem_of_getElem? (i := 16) (by decide +kernel), List.mem_of_getElem? (i := 364) (by decide +kernel), List.mem_of_getElem? (i := 365) (by decide +kernel)⟩
theorem lw_p12 : lw_okq (⟨"ErrorNames", "stopBy", "(I)V"⟩, 11) := ⟨⟨by decide +kernel, by decide +kernel⟩, List.mem_of_getElem? (i := 16) (by decide +kernel), List.mem_of_getElem? (i := 376) (by decide +kernel), List.mem_of_getElem? (i := 377) (by decide +kernel)⟩
theorem lw_p13 : lw_okq (⟨"ErrorNames", "guard", "()I"⟩, 11) := ⟨⟨by decide +kernel, by decide +kernel⟩, List.mem_of_getElem? (i := 16) (by decide +kernel), List.mem_of_getElem? (i := 388) (by decide +kernel), List.mem_of_getElem? (i := 389) (by decide +kernel)⟩
theorem lw_p14 : lw_okq (⟨"ErrorNames", "setHandler", "()I"⟩, 11) := ⟨⟨by decide +kernel, by decide +kernel⟩, List.mem_of_getElem? (i := 16) (by decide +kernel), List.mem_of_getElem? (i := 392) (by decide +kernel), List.mem_of_getElem? (i := 393) (by decide +kernel)⟩
theorem lw_p15 : lw_okq (⟨"ErrorNames", "raise", "(I)I"⟩, 11) := ⟨⟨by decide +kernel, by decide +kernel⟩, List.mem_of_getElem? (i := 16) (by decide +kernel), List.mem_of_getElem? (i := 405) (by decide +kernel), List.mem_of_getElem? (i := 406) (by decide +kernel)⟩
def lw_privs_1 : List (MethodName × Nat) := [(⟨"ErrorNames", "step", "()V"⟩, 11), (⟨"ErrorNames", "goOn", "()V"⟩, 11), (⟨"ErrorNames$Procedures", "hasToken", "(II)Z"⟩, 3), (⟨"ErrorNames", "operate", "(I)I"⟩, 11), (⟨"ErrorNames", "misfit", "(I)I"⟩, 11), (⟨"ErrorNames", "execute", "()I"⟩, 11), (⟨"ErrorNames", "begin", "(II)I"⟩, 11), (⟨"ErrorNames", "beginIf", "()I"⟩, 11), (⟨"ErrorNames", "repeat", "(I)I"⟩, 11), (⟨"ErrorNames", "beginLoop", "(IIIII)I"⟩, 11), (⟨"ErrorNames", "countThrough", "(III)I"⟩, 11), (⟨"ErrorNames", "exitLoop", "()I"⟩, 11), (⟨"ErrorNames", "stopBy", "(I)V"⟩, 11), (⟨"ErrorNames", "guard", "()I"⟩, 11), (⟨"ErrorNames", "setHandler", "()I"⟩, 11), (⟨"ErrorNames", "raise", "(I)I"⟩, 11)]
theorem lw_r1 : ∀ q ∈ lw_privs_1, lw_okq q := List.forall_mem_cons.mpr ⟨lw_p0, List.forall_mem_cons.mpr ⟨lw_p1, List.forall_mem_cons.mpr ⟨lw_p2, List.forall_mem_cons.mpr ⟨lw_p3, List.forall_mem_cons.mpr ⟨lw_p4, List.forall_mem_cons.mpr ⟨lw_p5, List.forall_mem_cons.mpr ⟨lw_p6, List.forall_mem_cons.mpr ⟨lw_p7, List.forall_mem_cons.mpr ⟨lw_p8, List.forall_mem_cons.mpr ⟨lw_p9, List.forall_mem_cons.mpr ⟨lw_p10, List.forall_mem_cons.mpr ⟨lw_p11, List.forall_mem_cons.mpr ⟨lw_p12, List.forall_mem_cons.mpr ⟨lw_p13, List.forall_mem_cons.mpr ⟨lw_p14, List.forall_mem_cons.mpr ⟨lw_p15, fun _ h => absurd h List.not_mem_nil⟩⟩⟩⟩⟩⟩⟩⟩⟩⟩⟩⟩⟩⟩⟩⟩
theorem lw_p16 : lw_okq (⟨"ErrorNames", "tell", "(I)I"⟩, 11) := ⟨⟨by decide +kernel, by decide +kernel⟩, List.mem_of_getElem? (i := 16) (by decide +kernel), List.mem_of_getElem? (i := 409) (by decide +kernel), List.mem_of_getElem? (i := 410) (by decide +kernel)⟩
theorem lw_p17 : lw_okq (⟨"ErrorNames$PileOperators", "reckoned", "(II)I"⟩, 2) := ⟨⟨by decide +kernel, by decide +kernel⟩, List.mem_of_getElem? (i := 143) (by decide +kernel), List.mem_of_getElem? (i := 432) (by decide +kernel), List.mem_of_getElem? (i := 433) (by decide +kernel)⟩
theorem lw_p18 : lw_okq (⟨"ErrorNames$PileOperators", "divide", "(II)I"⟩, 2) := ⟨⟨by decide +kernel, by decide +kernel⟩, List.mem_of_getElem? (i := 143) (by decide +kernel), List.mem_of_getElem? (i := 436) (by decide +kernel), List.mem_of_getElem? (i := 437) (by decide +kernel)⟩
theorem lw_p19 : lw_okq (⟨"ErrorNames$PileOperators", "topTwoAreTheSame", "()Z"⟩, 2) := ⟨⟨by decide +kernel, by decide +kernel⟩, List.mem_of_getElem? (i := 143) (by decide +kernel), List.mem_of_getElem? (i := 440) (by decide +kernel), List.mem_of_getElem? (i := 441) (by decide +kernel)⟩
theorem lw_p20 : lw_okq (⟨"ErrorNames$PileOperators", "more", "(II)I"⟩, 2) := ⟨⟨by decide +kernel, by decide +kernel⟩, List.mem_of_getElem? (i := 143) (by decide +kernel), List.mem_of_getElem? (i := 446) (by decide +kernel), List.mem_of_getElem? (i := 447) (by decide +kernel)⟩
theorem lw_p21 : lw_okq (⟨"ErrorNames$PileOperators", "swap", "()I"⟩, 2) := ⟨⟨by decide +kernel, by decide +kernel⟩, List.mem_of_getElem? (i := 143) (by decide +kernel), List.mem_of_getElem? (i := 451) (by decide +kernel), List.mem_of_getElem? (i := 452) (by decide +kernel)⟩
theorem lw_p22 : lw_okq (⟨"ErrorNames$PileOperators", "pick", "(I)I"⟩, 2) := ⟨⟨by decide +kernel, by decide +kernel⟩, List.mem_of_getElem? (i := 143) (by decide +kernel), List.mem_of_getElem? (i := 455) (by decide +kernel), List.mem_of_getElem? (i := 456) (by decide +kernel)⟩
theorem lw_p23 : lw_okq (⟨"ErrorNames$PileOperators", "countToMark", "()I"⟩, 2) := ⟨⟨by decide +kernel, by decide +kernel⟩, List.mem_of_getElem? (i := 143) (by decide +kernel), List.mem_of_getElem? (i := 460) (by decide +kernel), List.mem_of_getElem? (i := 461) (by decide +kernel)⟩
theorem lw_p24 : lw_okq (⟨"ErrorNames$PileOperators", "clearToMark", "()I"⟩, 2) := ⟨⟨by decide +kernel, by decide +kernel⟩, List.mem_of_getElem? (i := 143) (by decide +kernel), List.mem_of_getElem? (i := 468) (by decide +kernel), List.mem_of_getElem? (i := 469) (by decide +kernel)⟩
theorem lw_p25 : lw_okq (⟨"ErrorNames$PileOperators", "define", "()I"⟩, 2) := ⟨⟨by decide +kernel, by decide +kernel⟩, List.mem_of_getElem? (i := 143) (by decide +kernel), List.mem_of_getElem? (i := 472) (by decide +kernel), List.mem_of_getElem? (i := 473) (by decide +kernel)⟩
theorem lw_p26 : lw_okq (⟨"ErrorNames", "arise", "(II)V"⟩, 11) := ⟨⟨by decide +kernel, by decide +kernel⟩, List.mem_of_getElem? (i := 16) (by decide +kernel), List.mem_of_getElem? (i := 481) (by decide +kernel), List.mem_of_getElem? (i := 482) (by decide +kernel)⟩
theorem lw_p27 : lw_okq (⟨"ErrorNames", "turn", "()V"⟩, 11) := ⟨⟨by decide +kernel, by decide +kernel⟩, List.mem_of_getElem? (i := 16) (by decide +kernel), List.mem_of_getElem? (i := 501) (by decide +kernel), List.mem_of_getElem? (i := 502) (by decide +kernel)⟩
theorem lw_p28 : lw_okq (⟨"ErrorNames", "endStopped", "()V"⟩, 11) := ⟨⟨by decide +kernel, by decide +kernel⟩, List.mem_of_getElem? (i := 16) (by decide +kernel), List.mem_of_getElem? (i := 517) (by decide +kernel), List.mem_of_getElem? (i := 518) (by decide +kernel)⟩
theorem lw_p29 : lw_okq (⟨"java/lang/Throwable", "fillInStackTrace", "(I)Ljava/lang/Throwable;"⟩, 6) := ⟨⟨by decide +kernel, by decide +kernel⟩, List.mem_of_getElem? (i := 597) (by decide +kernel), List.mem_of_getElem? (i := 595) (by decide +kernel), List.mem_of_getElem? (i := 596) (by decide +kernel)⟩
theorem lw_p30 : lw_okq (⟨"ErrorNamesModel", "clearAll", "()V"⟩, 30) := ⟨⟨by decide +kernel, by decide +kernel⟩, List.mem_of_getElem? (i := 683) (by decide +kernel), List.mem_of_getElem? (i := 689) (by decide +kernel), List.mem_of_getElem? (i := 690) (by decide +kernel)⟩
theorem lw_p31 : lw_okq (⟨"ErrorNamesModel", "lay", "(II)V"⟩, 30) := ⟨⟨by decide +kernel, by decide +kernel⟩, List.mem_of_getElem? (i := 683) (by decide +kernel), List.mem_of_getElem? (i := 806) (by decide +kernel), List.mem_of_getElem? (i := 807) (by decide +kernel)⟩
def lw_privs_2 : List (MethodName × Nat) := [(⟨"ErrorNames", "tell", "(I)I"⟩, 11), (⟨"ErrorNames$PileOperators", "reckoned", "(II)I"⟩, 2), (⟨"ErrorNames$PileOperators", "divide", "(II)I"⟩, 2), (⟨"ErrorNames$PileOperators", "topTwoAreTheSame", "()Z"⟩, 2), (⟨"ErrorNames$PileOperators", "more", "(II)I"⟩, 2), (⟨"ErrorNames$PileOperators", "swap", "()I"⟩, 2), (⟨"ErrorNames$PileOperators", "pick", "(I)I"⟩, 2), (⟨"ErrorNames$PileOperators", "countToMark", "()I"⟩, 2), (⟨"ErrorNames$PileOperators", "clearToMark", "()I"⟩, 2), (⟨"ErrorNames$PileOperators", "define", "()I"⟩, 2), (⟨"ErrorNames", "arise", "(II)V"⟩, 11), (⟨"ErrorNames", "turn", "()V"⟩, 11), (⟨"ErrorNames", "endStopped", "()V"⟩, 11), (⟨"java/lang/Throwable", "fillInStackTrace", "(I)Ljava/lang/Throwable;"⟩, 6), (⟨"ErrorNamesModel", "clearAll", "()V"⟩, 30), (⟨"ErrorNamesModel", "lay", "(II)V"⟩, 30)]
theorem lw_r2 : ∀ q ∈ lw_privs_2, lw_okq q := List.forall_mem_cons.mpr ⟨lw_p16, List.forall_mem_cons.mpr ⟨lw_p17, List.forall_mem_cons.mpr ⟨lw_p18, List.forall_mem_cons.mpr ⟨lw_p19, List.forall_mem_cons.mpr ⟨lw_p20, List.forall_mem_cons.mpr ⟨lw_p21, List.forall_mem_cons.mpr ⟨lw_p22, List.forall_mem_cons.mpr ⟨lw_p23, List.forall_mem_cons.mpr ⟨lw_p24, List.forall_mem_cons.mpr ⟨lw_p25, List.forall_mem_cons.mpr ⟨lw_p26, List.forall_mem_cons.mpr ⟨lw_p27, List.forall_mem_cons.mpr ⟨lw_p28, List.forall_mem_cons.mpr ⟨lw_p29, List.forall_mem_cons.mpr ⟨lw_p30, List.forall_mem_cons.mpr ⟨lw_p31, fun _ h => absurd h List.not_mem_nil⟩⟩⟩⟩⟩⟩⟩⟩⟩⟩⟩⟩⟩⟩⟩⟩
theorem lw_p32 : lw_okq (⟨"ErrorNamesModel", "come", "(II)V"⟩, 30) := ⟨⟨by decide +kernel, by decide +kernel⟩, List.mem_of_getElem? (i := 683) (by decide +kernel), List.mem_of_getElem? (i := 822) (by decide +kernel), List.mem_of_getElem? (i := 823) (by decide +kernel)⟩
theorem lw_p33 : lw_okq (⟨"ErrorNamesModel", "step", "()V"⟩, 30) := ⟨⟨by decide +kernel, by decide +kernel⟩, List.mem_of_getElem? (i := 683) (by decide +kernel), List.mem_of_getElem? (i := 826) (by decide +kernel), List.mem_of_getElem? (i := 827) (by decide +kernel)⟩
theorem lw_p34 : lw_okq (⟨"ErrorNamesModel", "isSpent", "()Z"⟩, 30) := ⟨⟨by decide +kernel, by decide +kernel⟩, List.mem_of_getElem? (i := 683) (by decide +kernel), List.mem_of_getElem? (i := 830) (by decide +kernel), List.mem_of_getElem? (i := 831) (by decide +kernel)⟩
theorem lw_p35 : lw_okq (⟨"ErrorNamesModel", "token", "(I)V"⟩, 30) := ⟨⟨by decide +kernel, by decide +kernel⟩, List.mem_of_getElem? (i := 683) (by decide +kernel), List.mem_of_getElem? (i := 834) (by decide +kernel), List.mem_of_getElem? (i := 835) (by decide +kernel)⟩
theorem lw_p36 : lw_okq (⟨"ErrorNamesModel", "wrong", "(I)I"⟩, 30) := ⟨⟨by decide +kernel, by decide +kernel⟩, List.mem_of_getElem? (i := 683) (by decide +kernel), List.mem_of_getElem? (i := 838) (by decide +kernel), List.mem_of_getElem? (i := 839) (by decide +kernel)⟩
theorem lw_p37 : lw_okq (⟨"ErrorNamesModel", "kind", "(I)I"⟩, 30) := ⟨⟨by decide +kernel, by decide +kernel⟩, List.mem_of_getElem? (i := 683) (by decide +kernel), List.mem_of_getElem? (i := 845) (by decide +kernel), List.mem_of_getElem? (i := 846) (by decide +kernel)⟩
theorem lw_p38 : lw_okq (⟨"ErrorNamesModel", "number", "(I)I"⟩, 30) := ⟨⟨by decide +kernel, by decide +kernel⟩, List.mem_of_getElem? (i := 683) (by decide +kernel), List.mem_of_getElem? (i := 849) (by decide +kernel), List.mem_of_getElem? (i := 850) (by decide +kernel)⟩
theorem lw_p39 : lw_okq (⟨"ErrorNamesModel", "areKinds", "(I)Z"⟩, 30) := ⟨⟨by decide +kernel, by decide +kernel⟩, List.mem_of_getElem? (i := 683) (by decide +kernel), List.mem_of_getElem? (i := 853) (by decide +kernel), List.mem_of_getElem? (i := 854) (by decide +kernel)⟩
theorem lw_p40 : lw_okq (⟨"ErrorNamesModel", "mark", "()I"⟩, 30) := ⟨⟨by decide +kernel, by decide +kernel⟩, List.mem_of_getElem? (i := 683) (by decide +kernel), List.mem_of_getElem? (i := 857) (by decide +kernel), List.mem_of_getElem? (i := 858) (by decide +kernel)⟩
theorem lw_p41 : lw_okq (⟨"ErrorNamesModel", "isInRange", "(I)Z"⟩, 30) := ⟨⟨by decide +kernel, by decide +kernel⟩, List.mem_of_getElem? (i := 683) (by decide +kernel), List.mem_of_getElem? (i := 861) (by decide +kernel), List.mem_of_getElem? (i := 862) (by decide +kernel)⟩
theorem lw_p42 : lw_okq (⟨"ErrorNamesModel", "loop", "()I"⟩, 30) := ⟨⟨by decide +kernel, by decide +kernel⟩, List.mem_of_getElem? (i := 683) (by decide +kernel), List.mem_of_getElem? (i := 868) (by decide +kernel), List.mem_of_getElem? (i := 869) (by decide +kernel)⟩
theorem lw_p43 : lw_okq (⟨"ErrorNamesModel", "hasFrames", "(I)Z"⟩, 30) := ⟨⟨by decide +kernel, by decide +kernel⟩, List.mem_of_getElem? (i := 683) (by decide +kernel), List.mem_of_getElem? (i := 872) (by decide +kernel), List.mem_of_getElem? (i := 873) (by decide +kernel)⟩
theorem lw_p44 : lw_okq (⟨"ErrorNamesModel", "procedureOf", "(I)I"⟩, 30) := ⟨⟨by decide +kernel, by decide +kernel⟩, List.mem_of_getElem? (i := 683) (by decide +kernel), List.mem_of_getElem? (i := 876) (by decide +kernel), List.mem_of_getElem? (i := 877) (by decide +kernel)⟩
theorem lw_p45 : lw_okq (⟨"ErrorNamesModel", "mayBegin", "()Z"⟩, 30) := ⟨⟨by decide +kernel, by decide +kernel⟩, List.mem_of_getElem? (i := 683) (by decide +kernel), List.mem_of_getElem? (i := 880) (by decide +kernel), List.mem_of_getElem? (i := 881) (by decide +kernel)⟩
theorem lw_p46 : lw_okq (⟨"ErrorNamesModel", "arise", "(II)V"⟩, 30) := ⟨⟨by decide +kernel, by decide +kernel⟩, List.mem_of_getElem? (i := 683) (by decide +kernel), List.mem_of_getElem? (i := 884) (by decide +kernel), List.mem_of_getElem? (i := 885) (by decide +kernel)⟩
theorem lw_p47 : lw_okq (⟨"ErrorNamesModel", "stop", "(I)V"⟩, 30) := ⟨⟨by decide +kernel, by decide +kernel⟩, List.mem_of_getElem? (i := 683) (by decide +kernel), List.mem_of_getElem? (i := 888) (by decide +kernel), List.mem_of_getElem? (i := 889) (by decide +kernel)⟩
def lw_privs_3 : List (MethodName × Nat) := [(⟨"ErrorNamesModel", "come", "(II)V"⟩, 30), (⟨"ErrorNamesModel", "step", "()V"⟩, 30), (⟨"ErrorNamesModel", "isSpent", "()Z"⟩, 30), (⟨"ErrorNamesModel", "token", "(I)V"⟩, 30), (⟨"ErrorNamesModel", "wrong", "(I)I"⟩, 30), (⟨"ErrorNamesModel", "kind", "(I)I"⟩, 30), (⟨"ErrorNamesModel", "number", "(I)I"⟩, 30), (⟨"ErrorNamesModel", "areKinds", "(I)Z"⟩, 30), (⟨"ErrorNamesModel", "mark", "()I"⟩, 30), (⟨"ErrorNamesModel", "isInRange", "(I)Z"⟩, 30), (⟨"ErrorNamesModel", "loop", "()I"⟩, 30), (⟨"ErrorNamesModel", "hasFrames", "(I)Z"⟩, 30), (⟨"ErrorNamesModel", "procedureOf", "(I)I"⟩, 30), (⟨"ErrorNamesModel", "mayBegin", "()Z"⟩, 30), (⟨"ErrorNamesModel", "arise", "(II)V"⟩, 30), (⟨"ErrorNamesModel", "stop", "(I)V"⟩, 30)]
theorem lw_r3 : ∀ q ∈ lw_privs_3, lw_okq q := List.forall_mem_cons.mpr ⟨lw_p32, List.forall_mem_cons.mpr ⟨lw_p33, List.forall_mem_cons.mpr ⟨lw_p34, List.forall_mem_cons.mpr ⟨lw_p35, List.forall_mem_cons.mpr ⟨lw_p36, List.forall_mem_cons.mpr ⟨lw_p37, List.forall_mem_cons.mpr ⟨lw_p38, List.forall_mem_cons.mpr ⟨lw_p39, List.forall_mem_cons.mpr ⟨lw_p40, List.forall_mem_cons.mpr ⟨lw_p41, List.forall_mem_cons.mpr ⟨lw_p42, List.forall_mem_cons.mpr ⟨lw_p43, List.forall_mem_cons.mpr ⟨lw_p44, List.forall_mem_cons.mpr ⟨lw_p45, List.forall_mem_cons.mpr ⟨lw_p46, List.forall_mem_cons.mpr ⟨lw_p47, fun _ h => absurd h List.not_mem_nil⟩⟩⟩⟩⟩⟩⟩⟩⟩⟩⟩⟩⟩⟩⟩⟩
theorem lw_p48 : lw_okq (⟨"ErrorNamesModel", "work", "(I)V"⟩, 30) := ⟨⟨by decide +kernel, by decide +kernel⟩, List.mem_of_getElem? (i := 683) (by decide +kernel), List.mem_of_getElem? (i := 892) (by decide +kernel), List.mem_of_getElem? (i := 893) (by decide +kernel)⟩
theorem lw_p49 : lw_okq (⟨"ErrorNamesModel", "reckon", "(I)V"⟩, 30) := ⟨⟨by decide +kernel, by decide +kernel⟩, List.mem_of_getElem? (i := 683) (by decide +kernel), List.mem_of_getElem? (i := 896) (by decide +kernel), List.mem_of_getElem? (i := 897) (by decide +kernel)⟩
theorem lw_p50 : lw_okq (⟨"ErrorNamesModel", "handle", "(I)V"⟩, 30) := ⟨⟨by decide +kernel, by decide +kernel⟩, List.mem_of_getElem? (i := 683) (by decide +kernel), List.mem_of_getElem? (i := 900) (by decide +kernel), List.mem_of_getElem? (i := 901) (by decide +kernel)⟩
theorem lw_p51 : lw_okq (⟨"ErrorNamesModel", "perform", "(I)V"⟩, 30) := ⟨⟨by decide +kernel, by decide +kernel⟩, List.mem_of_getElem? (i := 683) (by decide +kernel), List.mem_of_getElem? (i := 904) (by decide +kernel), List.mem_of_getElem? (i := 905) (by decide +kernel)⟩
theorem lw_p52 : lw_okq (⟨"ErrorNamesModel", "begin", "(I)V"⟩, 30) := ⟨⟨by decide +kernel, by decide +kernel⟩, List.mem_of_getElem? (i := 683) (by decide +kernel), List.mem_of_getElem? (i := 908) (by decide +kernel), List.mem_of_getElem? (i := 909) (by decide +kernel)⟩
theorem lw_p53 : lw_okq (⟨"ErrorNamesModel", "loopOf", "(I)V"⟩, 30) := ⟨⟨by decide +kernel, by decide +kernel⟩, List.mem_of_getElem? (i := 683) (by decide +kernel), List.mem_of_getElem? (i := 912) (by decide +kernel), List.mem_of_getElem? (i := 913) (by decide +kernel)⟩
theorem lw_p54 : lw_okq (⟨"ErrorNamesModel", "govern", "(I)V"⟩, 30) := ⟨⟨by decide +kernel, by decide +kernel⟩, List.mem_of_getElem? (i := 683) (by decide +kernel), List.mem_of_getElem? (i := 916) (by decide +kernel), List.mem_of_getElem? (i := 917) (by decide +kernel)⟩
theorem lw_p55 : lw_okq (⟨"ErrorNamesModel", "number0", "()I"⟩, 30) := ⟨⟨by decide +kernel, by decide +kernel⟩, List.mem_of_getElem? (i := 683) (by decide +kernel), List.mem_of_getElem? (i := 920) (by decide +kernel), List.mem_of_getElem? (i := 921) (by decide +kernel)⟩
theorem lw_p56 : lw_okq (⟨"ErrorNamesModel", "told", "(I)I"⟩, 30) := ⟨⟨by decide +kernel, by decide +kernel⟩, List.mem_of_getElem? (i := 683) (by decide +kernel), List.mem_of_getElem? (i := 924) (by decide +kernel), List.mem_of_getElem? (i := 925) (by decide +kernel)⟩
theorem lw_p57 : lw_okq (⟨"ErrorNamesModel", "turn", "(I)V"⟩, 30) := ⟨⟨by decide +kernel, by decide +kernel⟩, List.mem_of_getElem? (i := 683) (by decide +kernel), List.mem_of_getElem? (i := 928) (by decide +kernel), List.mem_of_getElem? (i := 929) (by decide +kernel)⟩
def lw_privs_4 : List (MethodName × Nat) := [(⟨"ErrorNamesModel", "work", "(I)V"⟩, 30), (⟨"ErrorNamesModel", "reckon", "(I)V"⟩, 30), (⟨"ErrorNamesModel", "handle", "(I)V"⟩, 30), (⟨"ErrorNamesModel", "perform", "(I)V"⟩, 30), (⟨"ErrorNamesModel", "begin", "(I)V"⟩, 30), (⟨"ErrorNamesModel", "loopOf", "(I)V"⟩, 30), (⟨"ErrorNamesModel", "govern", "(I)V"⟩, 30), (⟨"ErrorNamesModel", "number0", "()I"⟩, 30), (⟨"ErrorNamesModel", "told", "(I)I"⟩, 30), (⟨"ErrorNamesModel", "turn", "(I)V"⟩, 30)]
theorem lw_r4 : ∀ q ∈ lw_privs_4, lw_okq q := List.forall_mem_cons.mpr ⟨lw_p48, List.forall_mem_cons.mpr ⟨lw_p49, List.forall_mem_cons.mpr ⟨lw_p50, List.forall_mem_cons.mpr ⟨lw_p51, List.forall_mem_cons.mpr ⟨lw_p52, List.forall_mem_cons.mpr ⟨lw_p53, List.forall_mem_cons.mpr ⟨lw_p54, List.forall_mem_cons.mpr ⟨lw_p55, List.forall_mem_cons.mpr ⟨lw_p56, List.forall_mem_cons.mpr ⟨lw_p57, fun _ h => absurd h List.not_mem_nil⟩⟩⟩⟩⟩⟩⟩⟩⟩⟩
def lw_privs : List (MethodName × Nat) := lw_privs_1 ++ (lw_privs_2 ++ (lw_privs_3 ++ (lw_privs_4)))
def lw_tbl : List Cond := k2_sels lw_privs ++ tables_1
theorem lw_privs_ok : ∀ q ∈ lw_privs, lw_okq q := by
  show ∀ q ∈ lw_privs_1 ++ (lw_privs_2 ++ (lw_privs_3 ++ (lw_privs_4))), lw_okq q
  exact List.forall_mem_append.mpr ⟨lw_r1, List.forall_mem_append.mpr ⟨lw_r2, List.forall_mem_append.mpr ⟨lw_r3, lw_r4⟩⟩⟩
def RX0 : String := "ErrorNames$Frames"
def TX0 : u_T := fun k => match k with
  | 0 => ("ErrorNames$Frames", "sorts", "[I", true)
  | 1 => ("ErrorNames$Frames", "subjects", "[I", true)
  | 2 => ("ErrorNames$Frames", "places", "[I", true)
  | 3 => ("ErrorNames$Frames", "nexts", "[J", true)
  | 4 => ("ErrorNames$Frames", "bys", "[I", true)
  | 5 => ("ErrorNames$Frames", "lasts", "[I", true)
  | 6 => ("ErrorNames$Frames", "count", "I", false)
  | _ => ("ErrorNames$Frames", "most", "I", false)
def tyX0 : Nat → FieldType := fun k => match k with
  | 0 => .array .int
  | 1 => .array .int
  | 2 => .array .int
  | 3 => .array .long
  | 4 => .array .int
  | 5 => .array .int
  | 6 => .int
  | _ => .int
abbrev wsX00 : List Cond := u_ws RX0 TX0 8
theorem nmX0 : ∀ a, a < 8 → ∀ b, b < 8 → a ≠ b → (TX0 a).2.1 ≠ (TX0 b).2.1 := by decide +kernel
theorem tyX0_ok : ∀ k, k < 8 → parseFieldDescriptor (TX0 k).2.2.1 = some (tyX0 k) := by decide +kernel
abbrev cX0_init : ByteArray := prog_2_method_1_code
def yX0_init : MethodName := ⟨RX0, "<init>", "()V"⟩
abbrev cX0_count : ByteArray := prog_2_method_2_code
def yX0_count : MethodName := ⟨RX0, "count", "()I"⟩
abbrev cX0_most : ByteArray := prog_2_method_3_code
def yX0_most : MethodName := ⟨RX0, "most", "()I"⟩
abbrev cX0_roomFor : ByteArray := prog_2_method_4_code
def yX0_roomFor : MethodName := ⟨RX0, "roomFor", "(I)Z"⟩
abbrev cX0_startWith : ByteArray := prog_2_method_5_code
def yX0_startWith : MethodName := ⟨RX0, "startWith", "(I)V"⟩
abbrev cX0_cutTo : ByteArray := prog_2_method_6_code
def yX0_cutTo : MethodName := ⟨RX0, "cutTo", "(I)V"⟩
abbrev cX0_takeTop : ByteArray := prog_2_method_7_code
def yX0_takeTop : MethodName := ⟨RX0, "takeTop", "()V"⟩
abbrev cX0_topSort : ByteArray := prog_2_method_8_code
def yX0_topSort : MethodName := ⟨RX0, "topSort", "()I"⟩
abbrev cX0_topSubject : ByteArray := prog_2_method_9_code
def yX0_topSubject : MethodName := ⟨RX0, "topSubject", "()I"⟩
abbrev cX0_topPlace : ByteArray := prog_2_method_10_code
def yX0_topPlace : MethodName := ⟨RX0, "topPlace", "()I"⟩
abbrev cX0_goBy : ByteArray := prog_2_method_11_code
def yX0_goBy : MethodName := ⟨RX0, "goBy", "()V"⟩
abbrev cX0_loopIsOver : ByteArray := prog_2_method_12_code
def yX0_loopIsOver : MethodName := ⟨RX0, "loopIsOver", "()Z"⟩
abbrev cX0_loopNumber : ByteArray := prog_2_method_13_code
def yX0_loopNumber : MethodName := ⟨RX0, "loopNumber", "()I"⟩
abbrev cX0_turnLoop : ByteArray := prog_2_method_14_code
def yX0_turnLoop : MethodName := ⟨RX0, "turnLoop", "()V"⟩
abbrev cX0_add : ByteArray := prog_2_method_15_code
def yX0_add : MethodName := ⟨RX0, "add", "(II)V"⟩
abbrev cX0_countBy : ByteArray := prog_2_method_16_code
def yX0_countBy : MethodName := ⟨RX0, "countBy", "(III)V"⟩
abbrev cX0_topmostStopped : ByteArray := prog_2_method_17_code
def yX0_topmostStopped : MethodName := ⟨RX0, "topmostStopped", "()I"⟩
abbrev cX0_errorHandled : ByteArray := prog_2_method_18_code
def yX0_errorHandled : MethodName := ⟨RX0, "errorHandled", "()I"⟩
abbrev cX0_loopToExit : ByteArray := prog_2_method_19_code
def yX0_loopToExit : MethodName := ⟨RX0, "loopToExit", "()I"⟩
def RX1 : String := "ErrorNames$Handlers"
def TX1 : u_T := fun k => match k with
  | _ => ("ErrorNames$Handlers", "procedures", "[I", true)
def tyX1 : Nat → FieldType := fun k => match k with
  | _ => .array .int
abbrev wsX10 : List Cond := u_ws RX1 TX1 1
theorem nmX1 : ∀ a, a < 1 → ∀ b, b < 1 → a ≠ b → (TX1 a).2.1 ≠ (TX1 b).2.1 := by decide +kernel
theorem tyX1_ok : ∀ k, k < 1 → parseFieldDescriptor (TX1 k).2.2.1 = some (tyX1 k) := by decide +kernel
abbrev cX1_init : ByteArray := prog_3_method_1_code
def yX1_init : MethodName := ⟨RX1, "<init>", "()V"⟩
abbrev cX1_has : ByteArray := prog_3_method_2_code
def yX1_has : MethodName := ⟨RX1, "has", "(I)Z"⟩
abbrev cX1_takes : ByteArray := prog_3_method_3_code
def yX1_takes : MethodName := ⟨RX1, "takes", "(I)Z"⟩
abbrev cX1_of : ByteArray := prog_3_method_4_code
def yX1_of : MethodName := ⟨RX1, "of", "(I)I"⟩
abbrev cX1_set : ByteArray := prog_3_method_5_code
def yX1_set : MethodName := ⟨RX1, "set", "(II)V"⟩
abbrev cX1_wipe : ByteArray := prog_3_method_6_code
def yX1_wipe : MethodName := ⟨RX1, "wipe", "()V"⟩
def RX2 : String := "ErrorNames$Pile"
def TX2 : u_T := fun k => match k with
  | 0 => ("ErrorNames$Pile", "kinds", "[I", true)
  | 1 => ("ErrorNames$Pile", "numbers", "[I", true)
  | _ => ("ErrorNames$Pile", "count", "I", false)
def tyX2 : Nat → FieldType := fun k => match k with
  | 0 => .array .int
  | 1 => .array .int
  | _ => .int
abbrev wsX20 : List Cond := u_ws RX2 TX2 3
theorem nmX2 : ∀ a, a < 3 → ∀ b, b < 3 → a ≠ b → (TX2 a).2.1 ≠ (TX2 b).2.1 := by decide +kernel
theorem tyX2_ok : ∀ k, k < 3 → parseFieldDescriptor (TX2 k).2.2.1 = some (tyX2 k) := by decide +kernel
abbrev cX2_init : ByteArray := prog_4_method_1_code
def yX2_init : MethodName := ⟨RX2, "<init>", "()V"⟩
abbrev cX2_count : ByteArray := prog_4_method_2_code
def yX2_count : MethodName := ⟨RX2, "count", "()I"⟩
abbrev cX2_full : ByteArray := prog_4_method_3_code
def yX2_full : MethodName := ⟨RX2, "full", "()Z"⟩
abbrev cX2_has : ByteArray := prog_4_method_4_code
def yX2_has : MethodName := ⟨RX2, "has", "(I)Z"⟩
abbrev cX2_kindAt : ByteArray := prog_4_method_5_code
def yX2_kindAt : MethodName := ⟨RX2, "kindAt", "(I)I"⟩
abbrev cX2_numberAt : ByteArray := prog_4_method_6_code
def yX2_numberAt : MethodName := ⟨RX2, "numberAt", "(I)I"⟩
abbrev cX2_kindUnder : ByteArray := prog_4_method_7_code
def yX2_kindUnder : MethodName := ⟨RX2, "kindUnder", "(I)I"⟩
abbrev cX2_numberUnder : ByteArray := prog_4_method_8_code
def yX2_numberUnder : MethodName := ⟨RX2, "numberUnder", "(I)I"⟩
abbrev cX2_put : ByteArray := prog_4_method_9_code
def yX2_put : MethodName := ⟨RX2, "put", "(II)Z"⟩
abbrev cX2_replace : ByteArray := prog_4_method_10_code
def yX2_replace : MethodName := ⟨RX2, "replace", "(III)V"⟩
abbrev cX2_takeOff : ByteArray := prog_4_method_11_code
def yX2_takeOff : MethodName := ⟨RX2, "takeOff", "(I)V"⟩
abbrev cX2_topmostMark : ByteArray := prog_4_method_12_code
def yX2_topmostMark : MethodName := ⟨RX2, "topmostMark", "()I"⟩
abbrev cX2_copy : ByteArray := prog_4_method_13_code
def yX2_copy : MethodName := ⟨RX2, "copy", "(LErrorNames$Pile;)V"⟩
def RX3 : String := "ErrorNames$PileOperators"
def TX3 : u_T := fun k => match k with
  | 0 => ("ErrorNames$PileOperators", "pile", "LErrorNames$Pile;", true)
  | _ => ("ErrorNames$PileOperators", "table", "LErrorNames$Table;", true)
def tyX3 : Nat → FieldType := fun k => match k with
  | 0 => .object "ErrorNames$Pile"
  | _ => .object "ErrorNames$Table"
abbrev wsX30 : List Cond := u_ws RX3 TX3 2
theorem nmX3 : ∀ a, a < 2 → ∀ b, b < 2 → a ≠ b → (TX3 a).2.1 ≠ (TX3 b).2.1 := by decide +kernel
theorem tyX3_ok : ∀ k, k < 2 → parseFieldDescriptor (TX3 k).2.2.1 = some (tyX3 k) := by decide +kernel
abbrev cX3_init : ByteArray := prog_5_method_1_code
def yX3_init : MethodName := ⟨RX3, "<init>", "(LErrorNames$Pile;LErrorNames$Table;)V"⟩
abbrev cX3_operate : ByteArray := prog_5_method_2_code
def yX3_operate : MethodName := ⟨RX3, "operate", "(I)I"⟩
abbrev cX3_lookUp : ByteArray := prog_5_method_3_code
def yX3_lookUp : MethodName := ⟨RX3, "lookUp", "(I)I"⟩
abbrev cX3_reckoned : ByteArray := prog_5_method_4_code
def yX3_reckoned : MethodName := ⟨RX3, "reckoned", "(II)I"⟩
abbrev cX3_divide : ByteArray := prog_5_method_5_code
def yX3_divide : MethodName := ⟨RX3, "divide", "(II)I"⟩
abbrev cX3_more : ByteArray := prog_5_method_6_code
def yX3_more : MethodName := ⟨RX3, "more", "(II)I"⟩
abbrev cX3_topTwoAreTheSame : ByteArray := prog_5_method_7_code
def yX3_topTwoAreTheSame : MethodName := ⟨RX3, "topTwoAreTheSame", "()Z"⟩
abbrev cX3_swap : ByteArray := prog_5_method_8_code
def yX3_swap : MethodName := ⟨RX3, "swap", "()I"⟩
abbrev cX3_pick : ByteArray := prog_5_method_9_code
def yX3_pick : MethodName := ⟨RX3, "pick", "(I)I"⟩
abbrev cX3_countToMark : ByteArray := prog_5_method_10_code
def yX3_countToMark : MethodName := ⟨RX3, "countToMark", "()I"⟩
abbrev cX3_clearToMark : ByteArray := prog_5_method_11_code
def yX3_clearToMark : MethodName := ⟨RX3, "clearToMark", "()I"⟩
abbrev cX3_define : ByteArray := prog_5_method_12_code
def yX3_define : MethodName := ⟨RX3, "define", "()I"⟩
def RX4 : String := "ErrorNames$Procedures"
def TX4 : u_T := fun k => match k with
  | 0 => ("ErrorNames$Procedures", "kinds", "[I", true)
  | 1 => ("ErrorNames$Procedures", "numbers", "[I", true)
  | _ => ("ErrorNames$Procedures", "lengths", "[I", true)
def tyX4 : Nat → FieldType := fun k => match k with
  | 0 => .array .int
  | 1 => .array .int
  | _ => .array .int
abbrev wsX40 : List Cond := u_ws RX4 TX4 3
theorem nmX4 : ∀ a, a < 3 → ∀ b, b < 3 → a ≠ b → (TX4 a).2.1 ≠ (TX4 b).2.1 := by decide +kernel
theorem tyX4_ok : ∀ k, k < 3 → parseFieldDescriptor (TX4 k).2.2.1 = some (tyX4 k) := by decide +kernel
abbrev cX4_init : ByteArray := prog_6_method_1_code
def yX4_init : MethodName := ⟨RX4, "<init>", "()V"⟩
abbrev cX4_has : ByteArray := prog_6_method_2_code
def yX4_has : MethodName := ⟨RX4, "has", "(I)Z"⟩
abbrev cX4_length : ByteArray := prog_6_method_3_code
def yX4_length : MethodName := ⟨RX4, "length", "(I)I"⟩
abbrev cX4_append : ByteArray := prog_6_method_4_code
def yX4_append : MethodName := ⟨RX4, "append", "(III)I"⟩
abbrev cX4_wipe : ByteArray := prog_6_method_5_code
def yX4_wipe : MethodName := ⟨RX4, "wipe", "(I)I"⟩
abbrev cX4_kindAt : ByteArray := prog_6_method_6_code
def yX4_kindAt : MethodName := ⟨RX4, "kindAt", "(II)I"⟩
abbrev cX4_numberAt : ByteArray := prog_6_method_7_code
def yX4_numberAt : MethodName := ⟨RX4, "numberAt", "(II)I"⟩
abbrev cX4_hasToken : ByteArray := prog_6_method_8_code
def yX4_hasToken : MethodName := ⟨RX4, "hasToken", "(II)Z"⟩
def RX5 : String := "ErrorNames$Report"
def TX5 : u_T := fun k => match k with
  | 0 => ("ErrorNames$Report", "pile", "LErrorNames$Pile;", true)
  | 1 => ("ErrorNames$Report", "error", "I", false)
  | 2 => ("ErrorNames$Report", "command", "I", false)
  | 3 => ("ErrorNames$Report", "within", "I", false)
  | 4 => ("ErrorNames$Report", "inAll", "I", false)
  | _ => ("ErrorNames$Report", "isNew", "Z", false)
def tyX5 : Nat → FieldType := fun k => match k with
  | 0 => .object "ErrorNames$Pile"
  | 1 => .int
  | 2 => .int
  | 3 => .int
  | 4 => .int
  | _ => .boolean
abbrev wsX50 : List Cond := u_ws RX5 TX5 6
theorem nmX5 : ∀ a, a < 6 → ∀ b, b < 6 → a ≠ b → (TX5 a).2.1 ≠ (TX5 b).2.1 := by decide +kernel
theorem tyX5_ok : ∀ k, k < 6 → parseFieldDescriptor (TX5 k).2.2.1 = some (tyX5 k) := by decide +kernel
abbrev cX5_init : ByteArray := prog_7_method_1_code
def yX5_init : MethodName := ⟨RX5, "<init>", "()V"⟩
abbrev cX5_pile : ByteArray := prog_7_method_2_code
def yX5_pile : MethodName := ⟨RX5, "pile", "()LErrorNames$Pile;"⟩
abbrev cX5_has : ByteArray := prog_7_method_3_code
def yX5_has : MethodName := ⟨RX5, "has", "(I)Z"⟩
abbrev cX5_told : ByteArray := prog_7_method_4_code
def yX5_told : MethodName := ⟨RX5, "told", "(I)I"⟩
abbrev cX5_tell : ByteArray := prog_7_method_5_code
def yX5_tell : MethodName := ⟨RX5, "tell", "(IIILErrorNames$Pile;)V"⟩
abbrev cX5_noMoreNew : ByteArray := prog_7_method_6_code
def yX5_noMoreNew : MethodName := ⟨RX5, "noMoreNew", "()V"⟩
abbrev cX5_wipe : ByteArray := prog_7_method_7_code
def yX5_wipe : MethodName := ⟨RX5, "wipe", "()V"⟩
def RX6 : String := "ErrorNames$Table"
def TX6 : u_T := fun k => match k with
  | 0 => ("ErrorNames$Table", "kinds", "[I", true)
  | _ => ("ErrorNames$Table", "numbers", "[I", true)
def tyX6 : Nat → FieldType := fun k => match k with
  | 0 => .array .int
  | _ => .array .int
abbrev wsX60 : List Cond := u_ws RX6 TX6 2
theorem nmX6 : ∀ a, a < 2 → ∀ b, b < 2 → a ≠ b → (TX6 a).2.1 ≠ (TX6 b).2.1 := by decide +kernel
theorem tyX6_ok : ∀ k, k < 2 → parseFieldDescriptor (TX6 k).2.2.1 = some (tyX6 k) := by decide +kernel
abbrev cX6_init : ByteArray := prog_8_method_1_code
def yX6_init : MethodName := ⟨RX6, "<init>", "()V"⟩
abbrev cX6_has : ByteArray := prog_8_method_2_code
def yX6_has : MethodName := ⟨RX6, "has", "(I)Z"⟩
abbrev cX6_kindOf : ByteArray := prog_8_method_3_code
def yX6_kindOf : MethodName := ⟨RX6, "kindOf", "(I)I"⟩
abbrev cX6_numberOf : ByteArray := prog_8_method_4_code
def yX6_numberOf : MethodName := ⟨RX6, "numberOf", "(I)I"⟩
abbrev cX6_give : ByteArray := prog_8_method_5_code
def yX6_give : MethodName := ⟨RX6, "give", "(III)V"⟩
abbrev cX6_wipe : ByteArray := prog_8_method_6_code
def yX6_wipe : MethodName := ⟨RX6, "wipe", "()I"⟩
def RX7 : String := "ErrorNames"
def TX7 : u_T := fun k => match k with
  | 0 => ("ErrorNames", "procedures", "LErrorNames$Procedures;", true)
  | 1 => ("ErrorNames", "pile", "LErrorNames$Pile;", true)
  | 2 => ("ErrorNames", "table", "LErrorNames$Table;", true)
  | 3 => ("ErrorNames", "handlers", "LErrorNames$Handlers;", true)
  | 4 => ("ErrorNames", "frames", "LErrorNames$Frames;", true)
  | 5 => ("ErrorNames", "report", "LErrorNames$Report;", true)
  | 6 => ("ErrorNames", "pileOperators", "LErrorNames$PileOperators;", true)
  | 7 => ("ErrorNames", "interrupted", "Z", false)
  | 8 => ("ErrorNames", "endedBy", "I", false)
  | 9 => ("ErrorNames", "stepsDone", "I", false)
  | _ => ("ErrorNames", "handlersBegun", "I", false)
def tyX7 : Nat → FieldType := fun k => match k with
  | 0 => .object "ErrorNames$Procedures"
  | 1 => .object "ErrorNames$Pile"
  | 2 => .object "ErrorNames$Table"
  | 3 => .object "ErrorNames$Handlers"
  | 4 => .object "ErrorNames$Frames"
  | 5 => .object "ErrorNames$Report"
  | 6 => .object "ErrorNames$PileOperators"
  | 7 => .boolean
  | 8 => .int
  | 9 => .int
  | _ => .int
abbrev wsX70 : List Cond := u_ws RX7 TX7 11
theorem nmX7 : ∀ a, a < 11 → ∀ b, b < 11 → a ≠ b → (TX7 a).2.1 ≠ (TX7 b).2.1 := by decide +kernel
theorem tyX7_ok : ∀ k, k < 11 → parseFieldDescriptor (TX7 k).2.2.1 = some (tyX7 k) := by decide +kernel
abbrev cX7_init : ByteArray := prog_1_method_1_code
def yX7_init : MethodName := ⟨RX7, "<init>", "()V"⟩
abbrev cX7_token : ByteArray := prog_1_method_2_code
def yX7_token : MethodName := ⟨RX7, "token", "(III)I"⟩
abbrev cX7_clear : ByteArray := prog_1_method_3_code
def yX7_clear : MethodName := ⟨RX7, "clear", "(I)I"⟩
abbrev cX7_push : ByteArray := prog_1_method_4_code
def yX7_push : MethodName := ⟨RX7, "push", "(II)I"⟩
abbrev cX7_drop : ByteArray := prog_1_method_5_code
def yX7_drop : MethodName := ⟨RX7, "drop", "()I"⟩
abbrev cX7_run : ByteArray := prog_1_method_6_code
def yX7_run : MethodName := ⟨RX7, "run", "(II)I"⟩
abbrev cX7_interrupt : ByteArray := prog_1_method_7_code
def yX7_interrupt : MethodName := ⟨RX7, "interrupt", "()I"⟩
abbrev cX7_size : ByteArray := prog_1_method_8_code
def yX7_size : MethodName := ⟨RX7, "size", "()I"⟩
abbrev cX7_value : ByteArray := prog_1_method_9_code
def yX7_value : MethodName := ⟨RX7, "value", "(II)I"⟩
abbrev cX7_record : ByteArray := prog_1_method_10_code
def yX7_record : MethodName := ⟨RX7, "record", "(I)I"⟩
abbrev cX7_kept : ByteArray := prog_1_method_11_code
def yX7_kept : MethodName := ⟨RX7, "kept", "(II)I"⟩
abbrev cX7_handler : ByteArray := prog_1_method_12_code
def yX7_handler : MethodName := ⟨RX7, "handler", "(I)I"⟩
abbrev cX7_named : ByteArray := prog_1_method_13_code
def yX7_named : MethodName := ⟨RX7, "named", "(II)I"⟩
abbrev cX7_forget : ByteArray := prog_1_method_14_code
def yX7_forget : MethodName := ⟨RX7, "forget", "()I"⟩
abbrev cX7_isKindOrNumber : ByteArray := prog_1_method_15_code
def yX7_isKindOrNumber : MethodName := ⟨RX7, "isKindOrNumber", "(I)Z"⟩
abbrev cX7_isOfKind : ByteArray := prog_1_method_16_code
def yX7_isOfKind : MethodName := ⟨RX7, "isOfKind", "(II)Z"⟩
abbrev cX7_step : ByteArray := prog_1_method_17_code
def yX7_step : MethodName := ⟨RX7, "step", "()V"⟩
abbrev cX7_goOn : ByteArray := prog_1_method_18_code
def yX7_goOn : MethodName := ⟨RX7, "goOn", "()V"⟩
abbrev cX7_turn : ByteArray := prog_1_method_19_code
def yX7_turn : MethodName := ⟨RX7, "turn", "()V"⟩
abbrev cX7_endStopped : ByteArray := prog_1_method_20_code
def yX7_endStopped : MethodName := ⟨RX7, "endStopped", "()V"⟩
abbrev cX7_arise : ByteArray := prog_1_method_21_code
def yX7_arise : MethodName := ⟨RX7, "arise", "(II)V"⟩
abbrev cX7_stopBy : ByteArray := prog_1_method_22_code
def yX7_stopBy : MethodName := ⟨RX7, "stopBy", "(I)V"⟩
abbrev cX7_misfit : ByteArray := prog_1_method_23_code
def yX7_misfit : MethodName := ⟨RX7, "misfit", "(I)I"⟩
abbrev cX7_operate : ByteArray := prog_1_method_24_code
def yX7_operate : MethodName := ⟨RX7, "operate", "(I)I"⟩
abbrev cX7_execute : ByteArray := prog_1_method_25_code
def yX7_execute : MethodName := ⟨RX7, "execute", "()I"⟩
abbrev cX7_beginIf : ByteArray := prog_1_method_26_code
def yX7_beginIf : MethodName := ⟨RX7, "beginIf", "()I"⟩
abbrev cX7_begin : ByteArray := prog_1_method_27_code
def yX7_begin : MethodName := ⟨RX7, "begin", "(II)I"⟩
abbrev cX7_repeat : ByteArray := prog_1_method_28_code
def yX7_repeat : MethodName := ⟨RX7, "repeat", "(I)I"⟩
abbrev cX7_countThrough : ByteArray := prog_1_method_29_code
def yX7_countThrough : MethodName := ⟨RX7, "countThrough", "(III)I"⟩
abbrev cX7_beginLoop : ByteArray := prog_1_method_30_code
def yX7_beginLoop : MethodName := ⟨RX7, "beginLoop", "(IIIII)I"⟩
abbrev cX7_exitLoop : ByteArray := prog_1_method_31_code
def yX7_exitLoop : MethodName := ⟨RX7, "exitLoop", "()I"⟩
abbrev cX7_guard : ByteArray := prog_1_method_32_code
def yX7_guard : MethodName := ⟨RX7, "guard", "()I"⟩
abbrev cX7_setHandler : ByteArray := prog_1_method_33_code
def yX7_setHandler : MethodName := ⟨RX7, "setHandler", "()I"⟩
abbrev cX7_raise : ByteArray := prog_1_method_34_code
def yX7_raise : MethodName := ⟨RX7, "raise", "(I)I"⟩
abbrev cX7_tell : ByteArray := prog_1_method_35_code
def yX7_tell : MethodName := ⟨RX7, "tell", "(I)I"⟩
def RX8 : String := "ErrorNamesModel"
def TX8 : u_T := fun k => match k with
  | 0 => ("ErrorNamesModel", "thrown", "I", false)
  | 1 => ("ErrorNamesModel", "tokenKinds", "[I", true)
  | 2 => ("ErrorNamesModel", "tokenNumbers", "[I", true)
  | 3 => ("ErrorNamesModel", "tokens", "[I", true)
  | 4 => ("ErrorNamesModel", "kinds", "[I", true)
  | 5 => ("ErrorNamesModel", "numbers", "[I", true)
  | 6 => ("ErrorNamesModel", "size", "I", false)
  | 7 => ("ErrorNamesModel", "tableKinds", "[I", true)
  | 8 => ("ErrorNamesModel", "tableNumbers", "[I", true)
  | 9 => ("ErrorNamesModel", "handlers", "[I", true)
  | 10 => ("ErrorNamesModel", "error", "I", false)
  | 11 => ("ErrorNamesModel", "command", "I", false)
  | 12 => ("ErrorNamesModel", "isNew", "Z", false)
  | 13 => ("ErrorNamesModel", "within", "I", false)
  | 14 => ("ErrorNamesModel", "keptKinds", "[I", true)
  | 15 => ("ErrorNamesModel", "keptNumbers", "[I", true)
  | 16 => ("ErrorNamesModel", "keptSize", "I", false)
  | 17 => ("ErrorNamesModel", "errors", "I", false)
  | 18 => ("ErrorNamesModel", "interrupted", "Z", false)
  | 19 => ("ErrorNamesModel", "frames", "I", false)
  | 20 => ("ErrorNamesModel", "sorts", "[I", true)
  | 21 => ("ErrorNamesModel", "who", "[I", true)
  | 22 => ("ErrorNamesModel", "places", "[I", true)
  | 23 => ("ErrorNamesModel", "nexts", "[J", true)
  | 24 => ("ErrorNamesModel", "bys", "[I", true)
  | 25 => ("ErrorNamesModel", "limits", "[I", true)
  | 26 => ("ErrorNamesModel", "steps", "I", false)
  | 27 => ("ErrorNamesModel", "most", "I", false)
  | 28 => ("ErrorNamesModel", "handled", "I", false)
  | _ => ("ErrorNamesModel", "ended", "I", false)
def tyX8 : Nat → FieldType := fun k => match k with
  | 0 => .int
  | 1 => .array .int
  | 2 => .array .int
  | 3 => .array .int
  | 4 => .array .int
  | 5 => .array .int
  | 6 => .int
  | 7 => .array .int
  | 8 => .array .int
  | 9 => .array .int
  | 10 => .int
  | 11 => .int
  | 12 => .boolean
  | 13 => .int
  | 14 => .array .int
  | 15 => .array .int
  | 16 => .int
  | 17 => .int
  | 18 => .boolean
  | 19 => .int
  | 20 => .array .int
  | 21 => .array .int
  | 22 => .array .int
  | 23 => .array .long
  | 24 => .array .int
  | 25 => .array .int
  | 26 => .int
  | 27 => .int
  | 28 => .int
  | _ => .int
abbrev wsX80 : List Cond := u_ws RX8 TX8 30
theorem nmX8 : ∀ a, a < 30 → ∀ b, b < 30 → a ≠ b → (TX8 a).2.1 ≠ (TX8 b).2.1 := by decide +kernel
theorem tyX8_ok : ∀ k, k < 30 → parseFieldDescriptor (TX8 k).2.2.1 = some (tyX8 k) := by decide +kernel
abbrev cX8_init : ByteArray := prog_10_method_1_code
def yX8_init : MethodName := ⟨RX8, "<init>", "()V"⟩
abbrev cX8_thrown : ByteArray := prog_10_method_2_code
def yX8_thrown : MethodName := ⟨RX8, "thrown", "()I"⟩
abbrev cX8_clearAll : ByteArray := prog_10_method_3_code
def yX8_clearAll : MethodName := ⟨RX8, "clearAll", "()V"⟩
abbrev cX8_in : ByteArray := prog_10_method_4_code
def yX8_in : MethodName := ⟨RX8, "in", "(III)Z"⟩
abbrev cX8_fits : ByteArray := prog_10_method_5_code
def yX8_fits : MethodName := ⟨RX8, "fits", "(II)Z"⟩
abbrev cX8_token : ByteArray := prog_10_method_6_code
def yX8_token : MethodName := ⟨RX8, "token", "(III)I"⟩
abbrev cX8_clear : ByteArray := prog_10_method_7_code
def yX8_clear : MethodName := ⟨RX8, "clear", "(I)I"⟩
abbrev cX8_lay : ByteArray := prog_10_method_8_code
def yX8_lay : MethodName := ⟨RX8, "lay", "(II)V"⟩
abbrev cX8_push : ByteArray := prog_10_method_9_code
def yX8_push : MethodName := ⟨RX8, "push", "(II)I"⟩
abbrev cX8_drop : ByteArray := prog_10_method_10_code
def yX8_drop : MethodName := ⟨RX8, "drop", "()I"⟩
abbrev cX8_interrupt : ByteArray := prog_10_method_11_code
def yX8_interrupt : MethodName := ⟨RX8, "interrupt", "()I"⟩
abbrev cX8_come : ByteArray := prog_10_method_12_code
def yX8_come : MethodName := ⟨RX8, "come", "(II)V"⟩
abbrev cX8_isSpent : ByteArray := prog_10_method_13_code
def yX8_isSpent : MethodName := ⟨RX8, "isSpent", "()Z"⟩
abbrev cX8_mayBegin : ByteArray := prog_10_method_14_code
def yX8_mayBegin : MethodName := ⟨RX8, "mayBegin", "()Z"⟩
abbrev cX8_begin : ByteArray := prog_10_method_15_code
def yX8_begin : MethodName := ⟨RX8, "begin", "(I)V"⟩
abbrev cX8_stop : ByteArray := prog_10_method_16_code
def yX8_stop : MethodName := ⟨RX8, "stop", "(I)V"⟩
abbrev cX8_arise : ByteArray := prog_10_method_17_code
def yX8_arise : MethodName := ⟨RX8, "arise", "(II)V"⟩
abbrev cX8_run : ByteArray := prog_10_method_18_code
def yX8_run : MethodName := ⟨RX8, "run", "(II)I"⟩
abbrev cX8_step : ByteArray := prog_10_method_19_code
def yX8_step : MethodName := ⟨RX8, "step", "()V"⟩
abbrev cX8_token_ : ByteArray := prog_10_method_20_code
def yX8_token_ : MethodName := ⟨RX8, "token", "(I)V"⟩
abbrev cX8_turn : ByteArray := prog_10_method_21_code
def yX8_turn : MethodName := ⟨RX8, "turn", "(I)V"⟩
abbrev cX8_takes : ByteArray := prog_10_method_22_code
def yX8_takes : MethodName := ⟨RX8, "takes", "(I)I"⟩
abbrev cX8_kind : ByteArray := prog_10_method_23_code
def yX8_kind : MethodName := ⟨RX8, "kind", "(I)I"⟩
abbrev cX8_number : ByteArray := prog_10_method_24_code
def yX8_number : MethodName := ⟨RX8, "number", "(I)I"⟩
abbrev cX8_areKinds : ByteArray := prog_10_method_25_code
def yX8_areKinds : MethodName := ⟨RX8, "areKinds", "(I)Z"⟩
abbrev cX8_isError : ByteArray := prog_10_method_26_code
def yX8_isError : MethodName := ⟨RX8, "isError", "(I)Z"⟩
abbrev cX8_isInRange : ByteArray := prog_10_method_27_code
def yX8_isInRange : MethodName := ⟨RX8, "isInRange", "(I)Z"⟩
abbrev cX8_mark : ByteArray := prog_10_method_28_code
def yX8_mark : MethodName := ⟨RX8, "mark", "()I"⟩
abbrev cX8_loop : ByteArray := prog_10_method_29_code
def yX8_loop : MethodName := ⟨RX8, "loop", "()I"⟩
abbrev cX8_wrong : ByteArray := prog_10_method_30_code
def yX8_wrong : MethodName := ⟨RX8, "wrong", "(I)I"⟩
abbrev cX8_procedureOf : ByteArray := prog_10_method_31_code
def yX8_procedureOf : MethodName := ⟨RX8, "procedureOf", "(I)I"⟩
abbrev cX8_hasFrames : ByteArray := prog_10_method_32_code
def yX8_hasFrames : MethodName := ⟨RX8, "hasFrames", "(I)Z"⟩
abbrev cX8_work : ByteArray := prog_10_method_33_code
def yX8_work : MethodName := ⟨RX8, "work", "(I)V"⟩
abbrev cX8_reckon : ByteArray := prog_10_method_34_code
def yX8_reckon : MethodName := ⟨RX8, "reckon", "(I)V"⟩
abbrev cX8_handle : ByteArray := prog_10_method_35_code
def yX8_handle : MethodName := ⟨RX8, "handle", "(I)V"⟩
abbrev cX8_perform : ByteArray := prog_10_method_36_code
def yX8_perform : MethodName := ⟨RX8, "perform", "(I)V"⟩
abbrev cX8_loopOf : ByteArray := prog_10_method_37_code
def yX8_loopOf : MethodName := ⟨RX8, "loopOf", "(I)V"⟩
abbrev cX8_govern : ByteArray := prog_10_method_38_code
def yX8_govern : MethodName := ⟨RX8, "govern", "(I)V"⟩
abbrev cX8_number0 : ByteArray := prog_10_method_39_code
def yX8_number0 : MethodName := ⟨RX8, "number0", "()I"⟩
abbrev cX8_told : ByteArray := prog_10_method_40_code
def yX8_told : MethodName := ⟨RX8, "told", "(I)I"⟩
abbrev cX8_size : ByteArray := prog_10_method_41_code
def yX8_size : MethodName := ⟨RX8, "size", "()I"⟩
abbrev cX8_value : ByteArray := prog_10_method_42_code
def yX8_value : MethodName := ⟨RX8, "value", "(II)I"⟩
abbrev cX8_record : ByteArray := prog_10_method_43_code
def yX8_record : MethodName := ⟨RX8, "record", "(I)I"⟩
abbrev cX8_kept : ByteArray := prog_10_method_44_code
def yX8_kept : MethodName := ⟨RX8, "kept", "(II)I"⟩
abbrev cX8_handler : ByteArray := prog_10_method_45_code
def yX8_handler : MethodName := ⟨RX8, "handler", "(I)I"⟩
abbrev cX8_named : ByteArray := prog_10_method_46_code
def yX8_named : MethodName := ⟨RX8, "named", "(II)I"⟩
abbrev cX8_forget : ByteArray := prog_10_method_47_code
def yX8_forget : MethodName := ⟨RX8, "forget", "()I"⟩
def RJ0 : String := "java/lang/String"
def TJ0 : u_T := fun k => match k with
  | _ => ("", "", "", false)
def tyJ0 : Nat → FieldType := fun k => match k with
  | _ => .int
abbrev wsJ00 : List Cond := u_ws RJ0 TJ0 0
theorem nmJ0 : ∀ a, a < 0 → ∀ b, b < 0 → a ≠ b → (TJ0 a).2.1 ≠ (TJ0 b).2.1 := by decide +kernel
theorem tyJ0_ok : ∀ k, k < 0 → parseFieldDescriptor (TJ0 k).2.2.1 = some (tyJ0 k) := by decide +kernel
def RJ7 : String := "java/util/Arrays"
def TJ7 : u_T := fun k => match k with
  | _ => ("", "", "", false)
def tyJ7 : Nat → FieldType := fun k => match k with
  | _ => .int
abbrev wsJ70 : List Cond := u_ws RJ7 TJ7 0
theorem nmJ7 : ∀ a, a < 0 → ∀ b, b < 0 → a ≠ b → (TJ7 a).2.1 ≠ (TJ7 b).2.1 := by decide +kernel
theorem tyJ7_ok : ∀ k, k < 0 → parseFieldDescriptor (TJ7 k).2.2.1 = some (tyJ7 k) := by decide +kernel
abbrev cJ7_fill_53178 : ByteArray := prog_16_method_103_code
def yJ7_fill_53178 : MethodName := ⟨RJ7, "fill", "([II)V"⟩
def RL : String := "ErrorNamesLaw"
abbrev cL_value : ByteArray := method_3_code
def yL_value : MethodName := ⟨RL, "value", "(LErrorNames;II[J)I"⟩
abbrev cL_record : ByteArray := method_4_code
def yL_record : MethodName := ⟨RL, "record", "(LErrorNames;I[J)I"⟩
abbrev cL_kept : ByteArray := method_5_code
def yL_kept : MethodName := ⟨RL, "kept", "(LErrorNames;II[J)I"⟩
abbrev cL_handler : ByteArray := method_6_code
def yL_handler : MethodName := ⟨RL, "handler", "(LErrorNames;I[J)I"⟩
abbrev cL_named : ByteArray := method_7_code
def yL_named : MethodName := ⟨RL, "named", "(LErrorNames;II[J)I"⟩
abbrev cL_law : ByteArray := code
def yL_law : MethodName := ⟨RL, "law", "([I)Z"⟩
abbrev vwCl : List vw_C := [(RX0, TX0, 8), (RX1, TX1, 1), (RX2, TX2, 3), (RX3, TX3, 2), (RX4, TX4, 3), (RX5, TX5, 6), (RX6, TX6, 2), (RX7, TX7, 11), (RX8, TX8, 30)]

/-- the words that a call may carry on -/
def tb : List Cond := lw_tbl.filter goodWord
theorem tbm (i : Nat) {w : Cond} (h : lw_tbl[i]? = some w) (g : goodWord w = true) : w ∈ tb := List.mem_filter.mpr ⟨List.mem_of_getElem? h, g⟩
theorem tb_in {w : Cond} (h : w ∈ tb) : w ∈ lw_tbl := (List.mem_filter.mp h).1
theorem tb_ok {w : Cond} (h : w ∈ tb) : (w.onTables && w.keeps) = true ∨ ∃ ty, w = .arrayClass ty := good_of_word (List.mem_filter.mp h).2
theorem gd {big : List Cond} (hb : ∀ w ∈ tb, w ∈ big) {w0 : Cond} (h0 : w0 ∈ tb) : GoodIn big (w0 :: tb) := fun w hw => (List.mem_cons.mp hw).elim (fun e => e ▸ ⟨hb _ h0, tb_ok h0⟩) (fun h => ⟨hb _ h, tb_ok h⟩)
theorem gdc {big : List Cond} {w0 : Cond} {ws : List Cond} (hb : ∀ w ∈ tb, w ∈ big) (h0 : w0 ∈ tb) (h : GoodIn big ws) : GoodIn big (w0 :: ws) := fun w hw => (List.mem_cons.mp hw).elim (fun e => e ▸ ⟨hb _ h0, tb_ok h0⟩) (fun q => h _ q)
theorem gdV {big : List Cond} (hb : ∀ w ∈ tb, w ∈ big) {own C : String} {idx n : Nat} {y : MethodName} {bytes : ByteArray} {ret : Option FieldType} (h1 : Cond.methodLink own idx y ∈ tb) (h2 : Cond.instanceMethod y ∈ tb) (h3 : Cond.selects C y y ∈ tb) (h4 : Cond.initialized C ∈ tb) (h5 : Cond.code y bytes n ret ∈ tb) : GoodIn big (wsV own idx C y (.code y bytes n ret :: tb)) :=
  gdc hb h1 (gdc hb h2 (gdc hb h3 (gdc hb h4 (gd hb h5))))

theorem inX0 : ∀ w ∈ wsX00, w ∈ tb := fun w h => List.mem_filter.mpr ⟨(by decide +kernel : ∀ w ∈ wsX00, w ∈ lw_tbl) w h, (by decide +kernel : ∀ w ∈ wsX00, goodWord w = true) w h⟩
theorem inX1 : ∀ w ∈ wsX10, w ∈ tb := fun w h => List.mem_filter.mpr ⟨(by decide +kernel : ∀ w ∈ wsX10, w ∈ lw_tbl) w h, (by decide +kernel : ∀ w ∈ wsX10, goodWord w = true) w h⟩
theorem inX2 : ∀ w ∈ wsX20, w ∈ tb := fun w h => List.mem_filter.mpr ⟨(by decide +kernel : ∀ w ∈ wsX20, w ∈ lw_tbl) w h, (by decide +kernel : ∀ w ∈ wsX20, goodWord w = true) w h⟩
theorem inX3 : ∀ w ∈ wsX30, w ∈ tb := fun w h => List.mem_filter.mpr ⟨(by decide +kernel : ∀ w ∈ wsX30, w ∈ lw_tbl) w h, (by decide +kernel : ∀ w ∈ wsX30, goodWord w = true) w h⟩
theorem inX4 : ∀ w ∈ wsX40, w ∈ tb := fun w h => List.mem_filter.mpr ⟨(by decide +kernel : ∀ w ∈ wsX40, w ∈ lw_tbl) w h, (by decide +kernel : ∀ w ∈ wsX40, goodWord w = true) w h⟩
theorem inX5 : ∀ w ∈ wsX50, w ∈ tb := fun w h => List.mem_filter.mpr ⟨(by decide +kernel : ∀ w ∈ wsX50, w ∈ lw_tbl) w h, (by decide +kernel : ∀ w ∈ wsX50, goodWord w = true) w h⟩
theorem inX6 : ∀ w ∈ wsX60, w ∈ tb := fun w h => List.mem_filter.mpr ⟨(by decide +kernel : ∀ w ∈ wsX60, w ∈ lw_tbl) w h, (by decide +kernel : ∀ w ∈ wsX60, goodWord w = true) w h⟩
theorem inX7 : ∀ w ∈ wsX70, w ∈ tb := fun w h => List.mem_filter.mpr ⟨(by decide +kernel : ∀ w ∈ wsX70, w ∈ lw_tbl) w h, (by decide +kernel : ∀ w ∈ wsX70, goodWord w = true) w h⟩
theorem inX8 : ∀ w ∈ wsX80, w ∈ tb := fun w h => List.mem_filter.mpr ⟨(by decide +kernel : ∀ w ∈ wsX80, w ∈ lw_tbl) w h, (by decide +kernel : ∀ w ∈ wsX80, goodWord w = true) w h⟩
end
section
theorem k_0 : Cond.selects RX7 yX7_step yX7_step ∈ tb := tbm 0 (by decide +kernel) rfl
theorem k_1 : Cond.selects RX7 yX7_goOn yX7_goOn ∈ tb := tbm 1 (by decide +kernel) rfl
theorem k_2 : Cond.selects RX4 yX4_hasToken yX4_hasToken ∈ tb := tbm 2 (by decide +kernel) rfl
theorem k_3 : Cond.selects RX7 yX7_operate yX7_operate ∈ tb := tbm 3 (by decide +kernel) rfl
theorem k_4 : Cond.selects RX7 yX7_misfit yX7_misfit ∈ tb := tbm 4 (by decide +kernel) rfl
theorem k_5 : Cond.selects RX7 yX7_execute yX7_execute ∈ tb := tbm 5 (by decide +kernel) rfl
theorem k_6 : Cond.selects RX7 yX7_begin yX7_begin ∈ tb := tbm 6 (by decide +kernel) rfl
theorem k_7 : Cond.selects RX7 yX7_beginIf yX7_beginIf ∈ tb := tbm 7 (by decide +kernel) rfl
theorem k_8 : Cond.selects RX7 yX7_repeat yX7_repeat ∈ tb := tbm 8 (by decide +kernel) rfl
theorem k_9 : Cond.selects RX7 yX7_beginLoop yX7_beginLoop ∈ tb := tbm 9 (by decide +kernel) rfl
theorem k_10 : Cond.selects RX7 yX7_countThrough yX7_countThrough ∈ tb := tbm 10 (by decide +kernel) rfl
theorem k_11 : Cond.selects RX7 yX7_exitLoop yX7_exitLoop ∈ tb := tbm 11 (by decide +kernel) rfl
theorem k_12 : Cond.selects RX7 yX7_stopBy yX7_stopBy ∈ tb := tbm 12 (by decide +kernel) rfl
theorem k_13 : Cond.selects RX7 yX7_guard yX7_guard ∈ tb := tbm 13 (by decide +kernel) rfl
theorem k_14 : Cond.selects RX7 yX7_setHandler yX7_setHandler ∈ tb := tbm 14 (by decide +kernel) rfl
theorem k_15 : Cond.selects RX7 yX7_raise yX7_raise ∈ tb := tbm 15 (by decide +kernel) rfl
theorem k_16 : Cond.selects RX7 yX7_tell yX7_tell ∈ tb := tbm 16 (by decide +kernel) rfl
theorem k_17 : Cond.selects RX3 yX3_reckoned yX3_reckoned ∈ tb := tbm 17 (by decide +kernel) rfl
theorem k_18 : Cond.selects RX3 yX3_divide yX3_divide ∈ tb := tbm 18 (by decide +kernel) rfl
theorem k_19 : Cond.selects RX3 yX3_topTwoAreTheSame yX3_topTwoAreTheSame ∈ tb := tbm 19 (by decide +kernel) rfl
theorem k_20 : Cond.selects RX3 yX3_more yX3_more ∈ tb := tbm 20 (by decide +kernel) rfl
theorem k_21 : Cond.selects RX3 yX3_swap yX3_swap ∈ tb := tbm 21 (by decide +kernel) rfl
theorem k_22 : Cond.selects RX3 yX3_pick yX3_pick ∈ tb := tbm 22 (by decide +kernel) rfl
theorem k_23 : Cond.selects RX3 yX3_countToMark yX3_countToMark ∈ tb := tbm 23 (by decide +kernel) rfl
theorem k_24 : Cond.selects RX3 yX3_clearToMark yX3_clearToMark ∈ tb := tbm 24 (by decide +kernel) rfl
theorem k_25 : Cond.selects RX3 yX3_define yX3_define ∈ tb := tbm 25 (by decide +kernel) rfl
theorem k_26 : Cond.selects RX7 yX7_arise yX7_arise ∈ tb := tbm 26 (by decide +kernel) rfl
theorem k_27 : Cond.selects RX7 yX7_turn yX7_turn ∈ tb := tbm 27 (by decide +kernel) rfl
theorem k_28 : Cond.selects RX7 yX7_endStopped yX7_endStopped ∈ tb := tbm 28 (by decide +kernel) rfl
theorem k_30 : Cond.selects RX8 yX8_clearAll yX8_clearAll ∈ tb := tbm 30 (by decide +kernel) rfl
theorem k_31 : Cond.selects RX8 yX8_lay yX8_lay ∈ tb := tbm 31 (by decide +kernel) rfl
theorem k_32 : Cond.selects RX8 yX8_come yX8_come ∈ tb := tbm 32 (by decide +kernel) rfl
theorem k_33 : Cond.selects RX8 yX8_step yX8_step ∈ tb := tbm 33 (by decide +kernel) rfl
theorem k_34 : Cond.selects RX8 yX8_isSpent yX8_isSpent ∈ tb := tbm 34 (by decide +kernel) rfl
theorem k_35 : Cond.selects RX8 yX8_token_ yX8_token_ ∈ tb := tbm 35 (by decide +kernel) rfl
theorem k_36 : Cond.selects RX8 yX8_wrong yX8_wrong ∈ tb := tbm 36 (by decide +kernel) rfl
theorem k_37 : Cond.selects RX8 yX8_kind yX8_kind ∈ tb := tbm 37 (by decide +kernel) rfl
theorem k_38 : Cond.selects RX8 yX8_number yX8_number ∈ tb := tbm 38 (by decide +kernel) rfl
theorem k_39 : Cond.selects RX8 yX8_areKinds yX8_areKinds ∈ tb := tbm 39 (by decide +kernel) rfl
theorem k_40 : Cond.selects RX8 yX8_mark yX8_mark ∈ tb := tbm 40 (by decide +kernel) rfl
theorem k_41 : Cond.selects RX8 yX8_isInRange yX8_isInRange ∈ tb := tbm 41 (by decide +kernel) rfl
theorem k_42 : Cond.selects RX8 yX8_loop yX8_loop ∈ tb := tbm 42 (by decide +kernel) rfl
theorem k_43 : Cond.selects RX8 yX8_hasFrames yX8_hasFrames ∈ tb := tbm 43 (by decide +kernel) rfl
theorem k_44 : Cond.selects RX8 yX8_procedureOf yX8_procedureOf ∈ tb := tbm 44 (by decide +kernel) rfl
theorem k_45 : Cond.selects RX8 yX8_mayBegin yX8_mayBegin ∈ tb := tbm 45 (by decide +kernel) rfl
theorem k_46 : Cond.selects RX8 yX8_arise yX8_arise ∈ tb := tbm 46 (by decide +kernel) rfl
theorem k_47 : Cond.selects RX8 yX8_stop yX8_stop ∈ tb := tbm 47 (by decide +kernel) rfl
theorem k_48 : Cond.selects RX8 yX8_work yX8_work ∈ tb := tbm 48 (by decide +kernel) rfl
theorem k_49 : Cond.selects RX8 yX8_reckon yX8_reckon ∈ tb := tbm 49 (by decide +kernel) rfl
theorem k_50 : Cond.selects RX8 yX8_handle yX8_handle ∈ tb := tbm 50 (by decide +kernel) rfl
theorem k_51 : Cond.selects RX8 yX8_perform yX8_perform ∈ tb := tbm 51 (by decide +kernel) rfl
theorem k_52 : Cond.selects RX8 yX8_begin yX8_begin ∈ tb := tbm 52 (by decide +kernel) rfl
theorem k_53 : Cond.selects RX8 yX8_loopOf yX8_loopOf ∈ tb := tbm 53 (by decide +kernel) rfl
theorem k_54 : Cond.selects RX8 yX8_govern yX8_govern ∈ tb := tbm 54 (by decide +kernel) rfl
theorem k_55 : Cond.selects RX8 yX8_number0 yX8_number0 ∈ tb := tbm 55 (by decide +kernel) rfl
theorem k_56 : Cond.selects RX8 yX8_told yX8_told ∈ tb := tbm 56 (by decide +kernel) rfl
theorem k_57 : Cond.selects RX8 yX8_turn yX8_turn ∈ tb := tbm 57 (by decide +kernel) rfl
theorem k_58 : Cond.initialized RL ∈ tb := tbm 58 (by decide +kernel) rfl
theorem k_59 : Cond.initialized RX7 ∈ tb := tbm 59 (by decide +kernel) rfl
theorem k_60 : Cond.initialized RX4 ∈ tb := tbm 60 (by decide +kernel) rfl
theorem k_61 : Cond.initialized RX2 ∈ tb := tbm 61 (by decide +kernel) rfl
theorem k_62 : Cond.initialized RX6 ∈ tb := tbm 62 (by decide +kernel) rfl
theorem k_63 : Cond.initialized RJ7 ∈ tb := tbm 63 (by decide +kernel) rfl
theorem k_64 : Cond.initialized RX1 ∈ tb := tbm 64 (by decide +kernel) rfl
theorem k_65 : Cond.initialized RX0 ∈ tb := tbm 65 (by decide +kernel) rfl
theorem k_66 : Cond.initialized RX5 ∈ tb := tbm 66 (by decide +kernel) rfl
theorem k_67 : Cond.initialized RX3 ∈ tb := tbm 67 (by decide +kernel) rfl
theorem k_68 : Cond.initialized RX8 ∈ tb := tbm 68 (by decide +kernel) rfl
theorem k_69 : Cond.initialized "java/lang/Throwable" ∈ tb := tbm 69 (by decide +kernel) rfl
theorem k_70 : Cond.initialized "java/lang/Exception" ∈ tb := tbm 70 (by decide +kernel) rfl
theorem k_71 : Cond.initialized "java/lang/RuntimeException" ∈ tb := tbm 71 (by decide +kernel) rfl
theorem k_72 : Cond.initialized "java/lang/IndexOutOfBoundsException" ∈ tb := tbm 72 (by decide +kernel) rfl
theorem k_73 : Cond.classLink RL 8 RX7 ∈ tb := tbm 73 (by decide +kernel) rfl
theorem k_74 : Cond.instantiable RX7 11 ∈ tb := tbm 74 (by decide +kernel) rfl
theorem k_75 : Cond.methodLink RL 28 yX7_init ∈ tb := tbm 75 (by decide +kernel) rfl
theorem k_76 : Cond.instanceMethod yX7_init ∈ tb := tbm 76 (by decide +kernel) rfl
set_option maxRecDepth 100000 in
theorem k_77 : Cond.code yX7_init cX7_init 1 none ∈ tb := tbm 77 (by rfl) rfl
theorem k_78 : Cond.methodLink RX7 1 objectInit ∈ tb := tbm 78 (by decide +kernel) rfl
theorem k_79 : Cond.instanceMethod objectInit ∈ tb := tbm 79 (by decide +kernel) rfl
set_option maxRecDepth 100000 in
theorem k_80 : Cond.code objectInit ⟨#[0xb1]⟩ 1 none ∈ tb := tbm 80 (by rfl) rfl
theorem k_81 : Cond.classLink RX7 7 RX4 ∈ tb := tbm 81 (by decide +kernel) rfl
theorem k_82 : Cond.instantiable RX4 3 ∈ tb := tbm 82 (by decide +kernel) rfl
theorem k_83 : Cond.methodLinkNest RX7 9 yX4_init "ErrorNames" ∈ lw_tbl := List.mem_of_getElem? (i := 83) (by decide +kernel)
theorem k_84 : Cond.instanceMethod yX4_init ∈ tb := tbm 84 (by decide +kernel) rfl
set_option maxRecDepth 100000 in
theorem k_85 : Cond.code yX4_init cX4_init 1 none ∈ tb := tbm 85 (by rfl) rfl
theorem k_86 : Cond.methodLink RX4 3 objectInit ∈ tb := tbm 86 (by decide +kernel) rfl
theorem k_87 : Cond.fieldLink RX4 9 "ErrorNames$Procedures" "kinds" "[I" ∈ tb := tbm 87 (by decide +kernel) rfl
theorem k_88 : Cond.fieldLink RX4 15 "ErrorNames$Procedures" "numbers" "[I" ∈ tb := tbm 88 (by decide +kernel) rfl
theorem k_89 : Cond.fieldLink RX4 18 "ErrorNames$Procedures" "lengths" "[I" ∈ tb := tbm 89 (by decide +kernel) rfl
theorem k_97 : Cond.arrayClass .int ∈ tb := tbm 97 (by decide +kernel) rfl
theorem k_98 : Cond.classLink RX7 16 RX2 ∈ tb := tbm 98 (by decide +kernel) rfl
theorem k_99 : Cond.instantiable RX2 3 ∈ tb := tbm 99 (by decide +kernel) rfl
theorem k_100 : Cond.methodLinkNest RX7 18 yX2_init "ErrorNames" ∈ lw_tbl := List.mem_of_getElem? (i := 100) (by decide +kernel)
theorem k_101 : Cond.instanceMethod yX2_init ∈ tb := tbm 101 (by decide +kernel) rfl
set_option maxRecDepth 100000 in
theorem k_102 : Cond.code yX2_init cX2_init 1 none ∈ tb := tbm 102 (by rfl) rfl
theorem k_103 : Cond.methodLink RX2 3 objectInit ∈ tb := tbm 103 (by decide +kernel) rfl
theorem k_104 : Cond.fieldLink RX2 9 "ErrorNames$Pile" "kinds" "[I" ∈ tb := tbm 104 (by decide +kernel) rfl
theorem k_105 : Cond.fieldLink RX2 15 "ErrorNames$Pile" "numbers" "[I" ∈ tb := tbm 105 (by decide +kernel) rfl
theorem k_106 : Cond.fieldLink RX2 18 "ErrorNames$Pile" "count" "I" ∈ tb := tbm 106 (by decide +kernel) rfl
theorem k_114 : Cond.classLink RX7 23 RX6 ∈ tb := tbm 114 (by decide +kernel) rfl
theorem k_115 : Cond.instantiable RX6 2 ∈ tb := tbm 115 (by decide +kernel) rfl
theorem k_116 : Cond.methodLink RX7 25 yX6_init ∈ tb := tbm 116 (by decide +kernel) rfl
theorem k_117 : Cond.instanceMethod yX6_init ∈ tb := tbm 117 (by decide +kernel) rfl
set_option maxRecDepth 100000 in
theorem k_118 : Cond.code yX6_init cX6_init 1 none ∈ tb := tbm 118 (by rfl) rfl
theorem k_119 : Cond.methodLink RX6 3 objectInit ∈ tb := tbm 119 (by decide +kernel) rfl
theorem k_120 : Cond.methodLink RX6 18 yJ7_fill_53178 ∈ tb := tbm 120 (by decide +kernel) rfl
theorem k_121 : Cond.static yJ7_fill_53178 ∈ tb := tbm 121 (by decide +kernel) rfl
set_option maxRecDepth 100000 in
theorem k_122 : Cond.code yJ7_fill_53178 cJ7_fill_53178 4 none ∈ tb := tbm 122 (by rfl) rfl
theorem k_123 : Cond.fieldLink RX6 9 "ErrorNames$Table" "kinds" "[I" ∈ tb := tbm 123 (by decide +kernel) rfl
theorem k_124 : Cond.fieldLink RX6 15 "ErrorNames$Table" "numbers" "[I" ∈ tb := tbm 124 (by decide +kernel) rfl
theorem k_130 : Cond.classLink RX7 30 RX1 ∈ tb := tbm 130 (by decide +kernel) rfl
theorem k_131 : Cond.instantiable RX1 1 ∈ tb := tbm 131 (by decide +kernel) rfl
theorem k_132 : Cond.methodLink RX7 32 yX1_init ∈ tb := tbm 132 (by decide +kernel) rfl
theorem k_133 : Cond.instanceMethod yX1_init ∈ tb := tbm 133 (by decide +kernel) rfl
set_option maxRecDepth 100000 in
theorem k_134 : Cond.code yX1_init cX1_init 1 none ∈ tb := tbm 134 (by rfl) rfl
theorem k_135 : Cond.methodLink RX1 3 objectInit ∈ tb := tbm 135 (by decide +kernel) rfl
theorem k_136 : Cond.methodLink RX1 15 yJ7_fill_53178 ∈ tb := tbm 136 (by decide +kernel) rfl
theorem k_137 : Cond.fieldLink RX1 9 "ErrorNames$Handlers" "procedures" "[I" ∈ tb := tbm 137 (by decide +kernel) rfl
theorem k_141 : Cond.classLink RX7 37 RX0 ∈ tb := tbm 141 (by decide +kernel) rfl
theorem k_142 : Cond.instantiable RX0 8 ∈ tb := tbm 142 (by decide +kernel) rfl
theorem k_143 : Cond.methodLinkNest RX7 39 yX0_init "ErrorNames" ∈ lw_tbl := List.mem_of_getElem? (i := 143) (by decide +kernel)
theorem k_144 : Cond.instanceMethod yX0_init ∈ tb := tbm 144 (by decide +kernel) rfl
set_option maxRecDepth 100000 in
theorem k_145 : Cond.code yX0_init cX0_init 1 none ∈ tb := tbm 145 (by rfl) rfl
theorem k_146 : Cond.methodLink RX0 3 objectInit ∈ tb := tbm 146 (by decide +kernel) rfl
theorem k_147 : Cond.fieldLink RX0 9 "ErrorNames$Frames" "sorts" "[I" ∈ tb := tbm 147 (by decide +kernel) rfl
theorem k_148 : Cond.fieldLink RX0 15 "ErrorNames$Frames" "subjects" "[I" ∈ tb := tbm 148 (by decide +kernel) rfl
theorem k_149 : Cond.fieldLink RX0 18 "ErrorNames$Frames" "places" "[I" ∈ tb := tbm 149 (by decide +kernel) rfl
theorem k_150 : Cond.fieldLink RX0 21 "ErrorNames$Frames" "nexts" "[J" ∈ tb := tbm 150 (by decide +kernel) rfl
theorem k_151 : Cond.fieldLink RX0 25 "ErrorNames$Frames" "bys" "[I" ∈ tb := tbm 151 (by decide +kernel) rfl
theorem k_152 : Cond.fieldLink RX0 28 "ErrorNames$Frames" "lasts" "[I" ∈ tb := tbm 152 (by decide +kernel) rfl
theorem k_153 : Cond.fieldLink RX0 31 "ErrorNames$Frames" "count" "I" ∈ tb := tbm 153 (by decide +kernel) rfl
theorem k_154 : Cond.fieldLink RX0 35 "ErrorNames$Frames" "most" "I" ∈ tb := tbm 154 (by decide +kernel) rfl
theorem k_172 : Cond.arrayClass .long ∈ tb := tbm 172 (by decide +kernel) rfl
theorem k_173 : Cond.classLink RX7 44 RX5 ∈ tb := tbm 173 (by decide +kernel) rfl
theorem k_174 : Cond.instantiable RX5 6 ∈ tb := tbm 174 (by decide +kernel) rfl
theorem k_175 : Cond.methodLinkNest RX7 46 yX5_init "ErrorNames" ∈ lw_tbl := List.mem_of_getElem? (i := 175) (by decide +kernel)
theorem k_176 : Cond.instanceMethod yX5_init ∈ tb := tbm 176 (by decide +kernel) rfl
set_option maxRecDepth 100000 in
theorem k_177 : Cond.code yX5_init cX5_init 1 none ∈ tb := tbm 177 (by rfl) rfl
theorem k_178 : Cond.methodLink RX5 3 objectInit ∈ tb := tbm 178 (by decide +kernel) rfl
theorem k_179 : Cond.classLink RX5 9 RX2 ∈ tb := tbm 179 (by decide +kernel) rfl
theorem k_180 : Cond.methodLinkNest RX5 11 yX2_init "ErrorNames" ∈ lw_tbl := List.mem_of_getElem? (i := 180) (by decide +kernel)
theorem k_181 : Cond.fieldLink RX5 12 "ErrorNames$Report" "pile" "LErrorNames$Pile;" ∈ tb := tbm 181 (by decide +kernel) rfl
theorem k_182 : Cond.fieldLink RX5 22 "ErrorNames$Report" "error" "I" ∈ tb := tbm 182 (by decide +kernel) rfl
theorem k_183 : Cond.fieldLink RX5 18 "ErrorNames$Report" "command" "I" ∈ tb := tbm 183 (by decide +kernel) rfl
theorem k_184 : Cond.fieldLink RX5 29 "ErrorNames$Report" "within" "I" ∈ tb := tbm 184 (by decide +kernel) rfl
theorem k_185 : Cond.fieldLink RX5 36 "ErrorNames$Report" "inAll" "I" ∈ tb := tbm 185 (by decide +kernel) rfl
theorem k_186 : Cond.fieldLink RX5 25 "ErrorNames$Report" "isNew" "Z" ∈ tb := tbm 186 (by decide +kernel) rfl
theorem k_200 : Cond.classLink RX7 51 RX3 ∈ tb := tbm 200 (by decide +kernel) rfl
theorem k_201 : Cond.instantiable RX3 2 ∈ tb := tbm 201 (by decide +kernel) rfl
theorem k_202 : Cond.methodLink RX7 53 yX3_init ∈ tb := tbm 202 (by decide +kernel) rfl
theorem k_203 : Cond.instanceMethod yX3_init ∈ tb := tbm 203 (by decide +kernel) rfl
set_option maxRecDepth 100000 in
theorem k_204 : Cond.code yX3_init cX3_init 3 none ∈ tb := tbm 204 (by rfl) rfl
theorem k_205 : Cond.methodLink RX3 3 objectInit ∈ tb := tbm 205 (by decide +kernel) rfl
theorem k_206 : Cond.fieldLink RX3 9 "ErrorNames$PileOperators" "pile" "LErrorNames$Pile;" ∈ tb := tbm 206 (by decide +kernel) rfl
theorem k_207 : Cond.fieldLink RX3 15 "ErrorNames$PileOperators" "table" "LErrorNames$Table;" ∈ tb := tbm 207 (by decide +kernel) rfl
theorem k_213 : Cond.fieldLink RX7 10 "ErrorNames" "procedures" "LErrorNames$Procedures;" ∈ tb := tbm 213 (by decide +kernel) rfl
theorem k_214 : Cond.fieldLink RX7 19 "ErrorNames" "pile" "LErrorNames$Pile;" ∈ tb := tbm 214 (by decide +kernel) rfl
theorem k_215 : Cond.fieldLink RX7 26 "ErrorNames" "table" "LErrorNames$Table;" ∈ tb := tbm 215 (by decide +kernel) rfl
theorem k_216 : Cond.fieldLink RX7 33 "ErrorNames" "handlers" "LErrorNames$Handlers;" ∈ tb := tbm 216 (by decide +kernel) rfl
theorem k_217 : Cond.fieldLink RX7 40 "ErrorNames" "frames" "LErrorNames$Frames;" ∈ tb := tbm 217 (by decide +kernel) rfl
theorem k_218 : Cond.fieldLink RX7 47 "ErrorNames" "report" "LErrorNames$Report;" ∈ tb := tbm 218 (by decide +kernel) rfl
theorem k_219 : Cond.fieldLink RX7 56 "ErrorNames" "pileOperators" "LErrorNames$PileOperators;" ∈ tb := tbm 219 (by decide +kernel) rfl
theorem k_220 : Cond.fieldLink RX7 110 "ErrorNames" "interrupted" "Z" ∈ tb := tbm 220 (by decide +kernel) rfl
theorem k_221 : Cond.fieldLink RX7 93 "ErrorNames" "endedBy" "I" ∈ tb := tbm 221 (by decide +kernel) rfl
theorem k_222 : Cond.fieldLink RX7 104 "ErrorNames" "stepsDone" "I" ∈ tb := tbm 222 (by decide +kernel) rfl
theorem k_223 : Cond.fieldLink RX7 97 "ErrorNames" "handlersBegun" "I" ∈ tb := tbm 223 (by decide +kernel) rfl
theorem k_247 : Cond.methodLink RL 32 yX7_token ∈ tb := tbm 247 (by decide +kernel) rfl
theorem k_248 : Cond.instanceMethod yX7_token ∈ tb := tbm 248 (by decide +kernel) rfl
theorem k_249 : Cond.selects RX7 yX7_token yX7_token ∈ tb := tbm 249 (by decide +kernel) rfl
set_option maxRecDepth 100000 in
theorem k_250 : Cond.code yX7_token cX7_token 4 (some .int) ∈ tb := tbm 250 (by rfl) rfl
theorem k_251 : Cond.methodLink RX7 60 yX4_has ∈ tb := tbm 251 (by decide +kernel) rfl
theorem k_252 : Cond.instanceMethod yX4_has ∈ tb := tbm 252 (by decide +kernel) rfl
theorem k_253 : Cond.selects RX4 yX4_has yX4_has ∈ tb := tbm 253 (by decide +kernel) rfl
set_option maxRecDepth 100000 in
theorem k_254 : Cond.code yX4_has cX4_has 2 (some .boolean) ∈ tb := tbm 254 (by rfl) rfl
theorem k_255 : Cond.methodLink RX7 64 yX7_isOfKind ∈ tb := tbm 255 (by decide +kernel) rfl
theorem k_256 : Cond.static yX7_isOfKind ∈ tb := tbm 256 (by decide +kernel) rfl
set_option maxRecDepth 100000 in
theorem k_257 : Cond.code yX7_isOfKind cX7_isOfKind 2 (some .boolean) ∈ tb := tbm 257 (by rfl) rfl
theorem k_258 : Cond.methodLink RX7 68 yX4_length ∈ tb := tbm 258 (by decide +kernel) rfl
theorem k_259 : Cond.instanceMethod yX4_length ∈ tb := tbm 259 (by decide +kernel) rfl
theorem k_260 : Cond.selects RX4 yX4_length yX4_length ∈ tb := tbm 260 (by decide +kernel) rfl
set_option maxRecDepth 100000 in
theorem k_261 : Cond.code yX4_length cX4_length 2 (some .int) ∈ tb := tbm 261 (by rfl) rfl
theorem k_262 : Cond.methodLink RX7 72 yX4_append ∈ tb := tbm 262 (by decide +kernel) rfl
theorem k_263 : Cond.instanceMethod yX4_append ∈ tb := tbm 263 (by decide +kernel) rfl
theorem k_264 : Cond.selects RX4 yX4_append yX4_append ∈ tb := tbm 264 (by decide +kernel) rfl
set_option maxRecDepth 100000 in
theorem k_265 : Cond.code yX4_append cX4_append 5 (some .int) ∈ tb := tbm 265 (by rfl) rfl
theorem k_266 : Cond.methodLink RX4 21 yX4_has ∈ tb := tbm 266 (by decide +kernel) rfl
theorem k_267 : Cond.methodLink RL 37 yX7_clear ∈ tb := tbm 267 (by decide +kernel) rfl
theorem k_268 : Cond.instanceMethod yX7_clear ∈ tb := tbm 268 (by decide +kernel) rfl
theorem k_269 : Cond.selects RX7 yX7_clear yX7_clear ∈ tb := tbm 269 (by decide +kernel) rfl
set_option maxRecDepth 100000 in
theorem k_270 : Cond.code yX7_clear cX7_clear 2 (some .int) ∈ tb := tbm 270 (by rfl) rfl
theorem k_271 : Cond.methodLink RX7 76 yX4_wipe ∈ tb := tbm 271 (by decide +kernel) rfl
theorem k_272 : Cond.instanceMethod yX4_wipe ∈ tb := tbm 272 (by decide +kernel) rfl
theorem k_273 : Cond.selects RX4 yX4_wipe yX4_wipe ∈ tb := tbm 273 (by decide +kernel) rfl
set_option maxRecDepth 100000 in
theorem k_274 : Cond.code yX4_wipe cX4_wipe 3 (some .int) ∈ tb := tbm 274 (by rfl) rfl
theorem k_275 : Cond.methodLink RX4 25 yX4_length ∈ tb := tbm 275 (by decide +kernel) rfl
theorem k_276 : Cond.methodLink RL 41 yX7_push ∈ tb := tbm 276 (by decide +kernel) rfl
theorem k_277 : Cond.instanceMethod yX7_push ∈ tb := tbm 277 (by decide +kernel) rfl
theorem k_278 : Cond.selects RX7 yX7_push yX7_push ∈ tb := tbm 278 (by decide +kernel) rfl
set_option maxRecDepth 100000 in
theorem k_279 : Cond.code yX7_push cX7_push 3 (some .int) ∈ tb := tbm 279 (by rfl) rfl
theorem k_280 : Cond.methodLink RX7 79 yX2_put ∈ tb := tbm 280 (by decide +kernel) rfl
theorem k_281 : Cond.instanceMethod yX2_put ∈ tb := tbm 281 (by decide +kernel) rfl
theorem k_282 : Cond.selects RX2 yX2_put yX2_put ∈ tb := tbm 282 (by decide +kernel) rfl
set_option maxRecDepth 100000 in
theorem k_283 : Cond.code yX2_put cX2_put 3 (some .boolean) ∈ tb := tbm 283 (by rfl) rfl
theorem k_284 : Cond.methodLink RX7 82 yX2_count ∈ tb := tbm 284 (by decide +kernel) rfl
theorem k_285 : Cond.instanceMethod yX2_count ∈ tb := tbm 285 (by decide +kernel) rfl
theorem k_286 : Cond.selects RX2 yX2_count yX2_count ∈ tb := tbm 286 (by decide +kernel) rfl
set_option maxRecDepth 100000 in
theorem k_287 : Cond.code yX2_count cX2_count 1 (some .int) ∈ tb := tbm 287 (by rfl) rfl
theorem k_288 : Cond.methodLink RL 45 yX7_drop ∈ tb := tbm 288 (by decide +kernel) rfl
theorem k_289 : Cond.instanceMethod yX7_drop ∈ tb := tbm 289 (by decide +kernel) rfl
theorem k_290 : Cond.selects RX7 yX7_drop yX7_drop ∈ tb := tbm 290 (by decide +kernel) rfl
set_option maxRecDepth 100000 in
theorem k_291 : Cond.code yX7_drop cX7_drop 2 (some .int) ∈ tb := tbm 291 (by rfl) rfl
theorem k_292 : Cond.methodLink RX7 86 yX2_takeOff ∈ tb := tbm 292 (by decide +kernel) rfl
theorem k_293 : Cond.instanceMethod yX2_takeOff ∈ tb := tbm 293 (by decide +kernel) rfl
theorem k_294 : Cond.selects RX2 yX2_takeOff yX2_takeOff ∈ tb := tbm 294 (by decide +kernel) rfl
set_option maxRecDepth 100000 in
theorem k_295 : Cond.code yX2_takeOff cX2_takeOff 2 none ∈ tb := tbm 295 (by rfl) rfl
theorem k_296 : Cond.methodLink RL 50 yX7_run ∈ tb := tbm 296 (by decide +kernel) rfl
theorem k_297 : Cond.instanceMethod yX7_run ∈ tb := tbm 297 (by decide +kernel) rfl
theorem k_298 : Cond.selects RX7 yX7_run yX7_run ∈ tb := tbm 298 (by decide +kernel) rfl
set_option maxRecDepth 100000 in
theorem k_299 : Cond.code yX7_run cX7_run 4 (some .int) ∈ tb := tbm 299 (by rfl) rfl
theorem k_300 : Cond.methodLink RX7 90 yX0_startWith ∈ tb := tbm 300 (by decide +kernel) rfl
theorem k_301 : Cond.instanceMethod yX0_startWith ∈ tb := tbm 301 (by decide +kernel) rfl
theorem k_302 : Cond.selects RX0 yX0_startWith yX0_startWith ∈ tb := tbm 302 (by decide +kernel) rfl
set_option maxRecDepth 100000 in
theorem k_303 : Cond.code yX0_startWith cX0_startWith 2 none ∈ tb := tbm 303 (by rfl) rfl
theorem k_304 : Cond.methodLink RX0 38 yX0_add ∈ tb := tbm 304 (by decide +kernel) rfl
theorem k_305 : Cond.instanceMethod yX0_add ∈ tb := tbm 305 (by decide +kernel) rfl
theorem k_306 : Cond.selects RX0 yX0_add yX0_add ∈ tb := tbm 306 (by decide +kernel) rfl
set_option maxRecDepth 100000 in
theorem k_307 : Cond.code yX0_add cX0_add 3 none ∈ tb := tbm 307 (by rfl) rfl
theorem k_308 : Cond.methodLink RX7 100 yX0_count ∈ tb := tbm 308 (by decide +kernel) rfl
theorem k_309 : Cond.instanceMethod yX0_count ∈ tb := tbm 309 (by decide +kernel) rfl
theorem k_310 : Cond.selects RX0 yX0_count yX0_count ∈ tb := tbm 310 (by decide +kernel) rfl
set_option maxRecDepth 100000 in
theorem k_311 : Cond.code yX0_count cX0_count 1 (some .int) ∈ tb := tbm 311 (by rfl) rfl
theorem k_312 : Cond.methodLink RX7 101 yX7_step ∈ tb := tbm 312 (by decide +kernel) rfl
theorem k_314 : Cond.instanceMethod yX7_step ∈ tb := tbm 314 (by decide +kernel) rfl
set_option maxRecDepth 100000 in
theorem k_315 : Cond.code yX7_step cX7_step 1 none ∈ tb := tbm 315 (by rfl) rfl
theorem k_316 : Cond.methodLink RX7 165 yX0_topSort ∈ tb := tbm 316 (by decide +kernel) rfl
theorem k_317 : Cond.instanceMethod yX0_topSort ∈ tb := tbm 317 (by decide +kernel) rfl
theorem k_318 : Cond.selects RX0 yX0_topSort yX0_topSort ∈ tb := tbm 318 (by decide +kernel) rfl
set_option maxRecDepth 100000 in
theorem k_319 : Cond.code yX0_topSort cX0_topSort 1 (some .int) ∈ tb := tbm 319 (by rfl) rfl
theorem k_320 : Cond.methodLink RX7 168 yX7_goOn ∈ tb := tbm 320 (by decide +kernel) rfl
theorem k_322 : Cond.instanceMethod yX7_goOn ∈ tb := tbm 322 (by decide +kernel) rfl
set_option maxRecDepth 100000 in
theorem k_323 : Cond.code yX7_goOn cX7_goOn 6 none ∈ tb := tbm 323 (by rfl) rfl
theorem k_324 : Cond.methodLink RX7 180 yX0_topSubject ∈ tb := tbm 324 (by decide +kernel) rfl
theorem k_325 : Cond.instanceMethod yX0_topSubject ∈ tb := tbm 325 (by decide +kernel) rfl
theorem k_326 : Cond.selects RX0 yX0_topSubject yX0_topSubject ∈ tb := tbm 326 (by decide +kernel) rfl
set_option maxRecDepth 100000 in
theorem k_327 : Cond.code yX0_topSubject cX0_topSubject 1 (some .int) ∈ tb := tbm 327 (by rfl) rfl
theorem k_328 : Cond.methodLink RX7 183 yX0_topPlace ∈ tb := tbm 328 (by decide +kernel) rfl
theorem k_329 : Cond.instanceMethod yX0_topPlace ∈ tb := tbm 329 (by decide +kernel) rfl
theorem k_330 : Cond.selects RX0 yX0_topPlace yX0_topPlace ∈ tb := tbm 330 (by decide +kernel) rfl
set_option maxRecDepth 100000 in
theorem k_331 : Cond.code yX0_topPlace cX0_topPlace 1 (some .int) ∈ tb := tbm 331 (by rfl) rfl
theorem k_332 : Cond.methodLink RX7 177 yX0_takeTop ∈ tb := tbm 332 (by decide +kernel) rfl
theorem k_333 : Cond.instanceMethod yX0_takeTop ∈ tb := tbm 333 (by decide +kernel) rfl
theorem k_334 : Cond.selects RX0 yX0_takeTop yX0_takeTop ∈ tb := tbm 334 (by decide +kernel) rfl
set_option maxRecDepth 100000 in
theorem k_335 : Cond.code yX0_takeTop cX0_takeTop 1 none ∈ tb := tbm 335 (by rfl) rfl
theorem k_336 : Cond.methodLink RX7 186 yX0_goBy ∈ tb := tbm 336 (by decide +kernel) rfl
theorem k_337 : Cond.instanceMethod yX0_goBy ∈ tb := tbm 337 (by decide +kernel) rfl
theorem k_338 : Cond.selects RX0 yX0_goBy yX0_goBy ∈ tb := tbm 338 (by decide +kernel) rfl
set_option maxRecDepth 100000 in
theorem k_339 : Cond.code yX0_goBy cX0_goBy 1 none ∈ tb := tbm 339 (by rfl) rfl
theorem k_340 : Cond.methodLink RX7 189 yX4_kindAt ∈ tb := tbm 340 (by decide +kernel) rfl
theorem k_341 : Cond.instanceMethod yX4_kindAt ∈ tb := tbm 341 (by decide +kernel) rfl
theorem k_342 : Cond.selects RX4 yX4_kindAt yX4_kindAt ∈ tb := tbm 342 (by decide +kernel) rfl
set_option maxRecDepth 100000 in
theorem k_343 : Cond.code yX4_kindAt cX4_kindAt 3 (some .int) ∈ tb := tbm 343 (by rfl) rfl
theorem k_344 : Cond.methodLink RX4 29 yX4_hasToken ∈ tb := tbm 344 (by decide +kernel) rfl
theorem k_346 : Cond.instanceMethod yX4_hasToken ∈ tb := tbm 346 (by decide +kernel) rfl
set_option maxRecDepth 100000 in
theorem k_347 : Cond.code yX4_hasToken cX4_hasToken 3 (some .boolean) ∈ tb := tbm 347 (by rfl) rfl
theorem k_348 : Cond.methodLink RX7 192 yX4_numberAt ∈ tb := tbm 348 (by decide +kernel) rfl
theorem k_349 : Cond.instanceMethod yX4_numberAt ∈ tb := tbm 349 (by decide +kernel) rfl
theorem k_350 : Cond.selects RX4 yX4_numberAt yX4_numberAt ∈ tb := tbm 350 (by decide +kernel) rfl
set_option maxRecDepth 100000 in
theorem k_351 : Cond.code yX4_numberAt cX4_numberAt 3 (some .int) ∈ tb := tbm 351 (by rfl) rfl
theorem k_352 : Cond.methodLink RX7 194 yX7_operate ∈ tb := tbm 352 (by decide +kernel) rfl
theorem k_354 : Cond.instanceMethod yX7_operate ∈ tb := tbm 354 (by decide +kernel) rfl
set_option maxRecDepth 100000 in
theorem k_355 : Cond.code yX7_operate cX7_operate 3 (some .int) ∈ tb := tbm 355 (by rfl) rfl
theorem k_356 : Cond.methodLink RX7 240 yX7_misfit ∈ tb := tbm 356 (by decide +kernel) rfl
theorem k_358 : Cond.instanceMethod yX7_misfit ∈ tb := tbm 358 (by decide +kernel) rfl
set_option maxRecDepth 100000 in
theorem k_359 : Cond.code yX7_misfit cX7_misfit 6 (some .int) ∈ tb := tbm 359 (by rfl) rfl
theorem k_360 : Cond.fieldLink RX7 233 "ErrorNames" "TAKES" "[I" ∈ tb := tbm 360 (by decide +kernel) rfl
theorem k_362 : Cond.methodLink RX7 237 yX2_kindUnder ∈ tb := tbm 362 (by decide +kernel) rfl
theorem k_363 : Cond.instanceMethod yX2_kindUnder ∈ tb := tbm 363 (by decide +kernel) rfl
theorem k_364 : Cond.selects RX2 yX2_kindUnder yX2_kindUnder ∈ tb := tbm 364 (by decide +kernel) rfl
set_option maxRecDepth 100000 in
theorem k_365 : Cond.code yX2_kindUnder cX2_kindUnder 2 (some .int) ∈ tb := tbm 365 (by rfl) rfl
theorem k_366 : Cond.methodLink RX7 243 yX7_execute ∈ tb := tbm 366 (by decide +kernel) rfl
theorem k_368 : Cond.instanceMethod yX7_execute ∈ tb := tbm 368 (by decide +kernel) rfl
set_option maxRecDepth 100000 in
theorem k_369 : Cond.code yX7_execute cX7_execute 3 (some .int) ∈ tb := tbm 369 (by rfl) rfl
theorem k_370 : Cond.methodLink RX7 249 yX2_numberUnder ∈ tb := tbm 370 (by decide +kernel) rfl
theorem k_371 : Cond.instanceMethod yX2_numberUnder ∈ tb := tbm 371 (by decide +kernel) rfl
theorem k_372 : Cond.selects RX2 yX2_numberUnder yX2_numberUnder ∈ tb := tbm 372 (by decide +kernel) rfl
set_option maxRecDepth 100000 in
theorem k_373 : Cond.code yX2_numberUnder cX2_numberUnder 2 (some .int) ∈ tb := tbm 373 (by rfl) rfl
theorem k_374 : Cond.methodLink RX7 252 yX7_begin ∈ tb := tbm 374 (by decide +kernel) rfl
theorem k_376 : Cond.instanceMethod yX7_begin ∈ tb := tbm 376 (by decide +kernel) rfl
set_option maxRecDepth 100000 in
theorem k_377 : Cond.code yX7_begin cX7_begin 4 (some .int) ∈ tb := tbm 377 (by rfl) rfl
theorem k_378 : Cond.methodLink RX7 205 yX0_roomFor ∈ tb := tbm 378 (by decide +kernel) rfl
theorem k_379 : Cond.instanceMethod yX0_roomFor ∈ tb := tbm 379 (by decide +kernel) rfl
theorem k_380 : Cond.selects RX0 yX0_roomFor yX0_roomFor ∈ tb := tbm 380 (by decide +kernel) rfl
set_option maxRecDepth 100000 in
theorem k_381 : Cond.code yX0_roomFor cX0_roomFor 2 (some .boolean) ∈ tb := tbm 381 (by rfl) rfl
theorem k_382 : Cond.methodLink RX7 217 yX0_add ∈ tb := tbm 382 (by decide +kernel) rfl
theorem k_383 : Cond.methodLink RX7 154 yX6_kindOf ∈ tb := tbm 383 (by decide +kernel) rfl
theorem k_384 : Cond.instanceMethod yX6_kindOf ∈ tb := tbm 384 (by decide +kernel) rfl
theorem k_385 : Cond.selects RX6 yX6_kindOf yX6_kindOf ∈ tb := tbm 385 (by decide +kernel) rfl
set_option maxRecDepth 100000 in
theorem k_386 : Cond.code yX6_kindOf cX6_kindOf 2 (some .int) ∈ tb := tbm 386 (by rfl) rfl
theorem k_387 : Cond.methodLink RX7 157 yX6_numberOf ∈ tb := tbm 387 (by decide +kernel) rfl
theorem k_388 : Cond.instanceMethod yX6_numberOf ∈ tb := tbm 388 (by decide +kernel) rfl
theorem k_389 : Cond.selects RX6 yX6_numberOf yX6_numberOf ∈ tb := tbm 389 (by decide +kernel) rfl
set_option maxRecDepth 100000 in
theorem k_390 : Cond.code yX6_numberOf cX6_numberOf 2 (some .int) ∈ tb := tbm 390 (by rfl) rfl
theorem k_391 : Cond.methodLink RX7 280 yX3_lookUp ∈ tb := tbm 391 (by decide +kernel) rfl
theorem k_392 : Cond.instanceMethod yX3_lookUp ∈ tb := tbm 392 (by decide +kernel) rfl
theorem k_393 : Cond.selects RX3 yX3_lookUp yX3_lookUp ∈ tb := tbm 393 (by decide +kernel) rfl
set_option maxRecDepth 100000 in
theorem k_394 : Cond.code yX3_lookUp cX3_lookUp 3 (some .int) ∈ tb := tbm 394 (by rfl) rfl
theorem k_395 : Cond.methodLink RX3 72 yX6_kindOf ∈ tb := tbm 395 (by decide +kernel) rfl
theorem k_396 : Cond.methodLink RX3 77 yX6_numberOf ∈ tb := tbm 396 (by decide +kernel) rfl
theorem k_397 : Cond.methodLink RX3 36 yX2_replace ∈ tb := tbm 397 (by decide +kernel) rfl
theorem k_398 : Cond.instanceMethod yX2_replace ∈ tb := tbm 398 (by decide +kernel) rfl
theorem k_399 : Cond.selects RX2 yX2_replace yX2_replace ∈ tb := tbm 399 (by decide +kernel) rfl
set_option maxRecDepth 100000 in
theorem k_400 : Cond.code yX2_replace cX2_replace 4 none ∈ tb := tbm 400 (by rfl) rfl
theorem k_401 : Cond.methodLink RX7 246 yX7_beginIf ∈ tb := tbm 401 (by decide +kernel) rfl
theorem k_403 : Cond.instanceMethod yX7_beginIf ∈ tb := tbm 403 (by decide +kernel) rfl
set_option maxRecDepth 100000 in
theorem k_404 : Cond.code yX7_beginIf cX7_beginIf 1 (some .int) ∈ tb := tbm 404 (by rfl) rfl
theorem k_405 : Cond.methodLink RX7 255 yX7_repeat ∈ tb := tbm 405 (by decide +kernel) rfl
theorem k_407 : Cond.instanceMethod yX7_repeat ∈ tb := tbm 407 (by decide +kernel) rfl
set_option maxRecDepth 100000 in
theorem k_408 : Cond.code yX7_repeat cX7_repeat 2 (some .int) ∈ tb := tbm 408 (by rfl) rfl
theorem k_409 : Cond.methodLink RX7 261 yX7_beginLoop ∈ tb := tbm 409 (by decide +kernel) rfl
theorem k_411 : Cond.instanceMethod yX7_beginLoop ∈ tb := tbm 411 (by decide +kernel) rfl
set_option maxRecDepth 100000 in
theorem k_412 : Cond.code yX7_beginLoop cX7_beginLoop 6 (some .int) ∈ tb := tbm 412 (by rfl) rfl
theorem k_413 : Cond.methodLink RX7 283 yX0_countBy ∈ tb := tbm 413 (by decide +kernel) rfl
theorem k_414 : Cond.instanceMethod yX0_countBy ∈ tb := tbm 414 (by decide +kernel) rfl
theorem k_415 : Cond.selects RX0 yX0_countBy yX0_countBy ∈ tb := tbm 415 (by decide +kernel) rfl
set_option maxRecDepth 100000 in
theorem k_416 : Cond.code yX0_countBy cX0_countBy 4 none ∈ tb := tbm 416 (by rfl) rfl
theorem k_417 : Cond.methodLink RX7 258 yX7_countThrough ∈ tb := tbm 417 (by decide +kernel) rfl
theorem k_419 : Cond.instanceMethod yX7_countThrough ∈ tb := tbm 419 (by decide +kernel) rfl
set_option maxRecDepth 100000 in
theorem k_420 : Cond.code yX7_countThrough cX7_countThrough 4 (some .int) ∈ tb := tbm 420 (by rfl) rfl
theorem k_421 : Cond.methodLink RX7 265 yX7_exitLoop ∈ tb := tbm 421 (by decide +kernel) rfl
theorem k_423 : Cond.instanceMethod yX7_exitLoop ∈ tb := tbm 423 (by decide +kernel) rfl
set_option maxRecDepth 100000 in
theorem k_424 : Cond.code yX7_exitLoop cX7_exitLoop 2 (some .int) ∈ tb := tbm 424 (by rfl) rfl
theorem k_425 : Cond.methodLink RX7 287 yX0_loopToExit ∈ tb := tbm 425 (by decide +kernel) rfl
theorem k_426 : Cond.instanceMethod yX0_loopToExit ∈ tb := tbm 426 (by decide +kernel) rfl
theorem k_427 : Cond.selects RX0 yX0_loopToExit yX0_loopToExit ∈ tb := tbm 427 (by decide +kernel) rfl
set_option maxRecDepth 100000 in
theorem k_428 : Cond.code yX0_loopToExit cX0_loopToExit 2 (some .int) ∈ tb := tbm 428 (by rfl) rfl
theorem k_429 : Cond.methodLink RX7 107 yX0_cutTo ∈ tb := tbm 429 (by decide +kernel) rfl
theorem k_430 : Cond.instanceMethod yX0_cutTo ∈ tb := tbm 430 (by decide +kernel) rfl
theorem k_431 : Cond.selects RX0 yX0_cutTo yX0_cutTo ∈ tb := tbm 431 (by decide +kernel) rfl
set_option maxRecDepth 100000 in
theorem k_432 : Cond.code yX0_cutTo cX0_cutTo 2 none ∈ tb := tbm 432 (by rfl) rfl
theorem k_433 : Cond.methodLink RX7 227 yX7_stopBy ∈ tb := tbm 433 (by decide +kernel) rfl
theorem k_435 : Cond.instanceMethod yX7_stopBy ∈ tb := tbm 435 (by decide +kernel) rfl
set_option maxRecDepth 100000 in
theorem k_436 : Cond.code yX7_stopBy cX7_stopBy 3 none ∈ tb := tbm 436 (by rfl) rfl
theorem k_437 : Cond.methodLink RX7 230 yX0_topmostStopped ∈ tb := tbm 437 (by decide +kernel) rfl
theorem k_438 : Cond.instanceMethod yX0_topmostStopped ∈ tb := tbm 438 (by decide +kernel) rfl
theorem k_439 : Cond.selects RX0 yX0_topmostStopped yX0_topmostStopped ∈ tb := tbm 439 (by decide +kernel) rfl
set_option maxRecDepth 100000 in
theorem k_440 : Cond.code yX0_topmostStopped cX0_topmostStopped 2 (some .int) ∈ tb := tbm 440 (by rfl) rfl
theorem k_441 : Cond.methodLink RX7 208 yX2_full ∈ tb := tbm 441 (by decide +kernel) rfl
theorem k_442 : Cond.instanceMethod yX2_full ∈ tb := tbm 442 (by decide +kernel) rfl
theorem k_443 : Cond.selects RX2 yX2_full yX2_full ∈ tb := tbm 443 (by decide +kernel) rfl
set_option maxRecDepth 100000 in
theorem k_444 : Cond.code yX2_full cX2_full 1 (some .boolean) ∈ tb := tbm 444 (by rfl) rfl
theorem k_445 : Cond.methodLink RX7 268 yX7_guard ∈ tb := tbm 445 (by decide +kernel) rfl
theorem k_447 : Cond.instanceMethod yX7_guard ∈ tb := tbm 447 (by decide +kernel) rfl
set_option maxRecDepth 100000 in
theorem k_448 : Cond.code yX7_guard cX7_guard 1 (some .int) ∈ tb := tbm 448 (by rfl) rfl
theorem k_449 : Cond.methodLink RX7 271 yX7_setHandler ∈ tb := tbm 449 (by decide +kernel) rfl
theorem k_451 : Cond.instanceMethod yX7_setHandler ∈ tb := tbm 451 (by decide +kernel) rfl
set_option maxRecDepth 100000 in
theorem k_452 : Cond.code yX7_setHandler cX7_setHandler 4 (some .int) ∈ tb := tbm 452 (by rfl) rfl
theorem k_453 : Cond.methodLink RX7 290 yX1_takes ∈ tb := tbm 453 (by decide +kernel) rfl
theorem k_454 : Cond.instanceMethod yX1_takes ∈ tb := tbm 454 (by decide +kernel) rfl
theorem k_455 : Cond.selects RX1 yX1_takes yX1_takes ∈ tb := tbm 455 (by decide +kernel) rfl
set_option maxRecDepth 100000 in
theorem k_456 : Cond.code yX1_takes cX1_takes 2 (some .boolean) ∈ tb := tbm 456 (by rfl) rfl
theorem k_457 : Cond.methodLink RX7 293 yX1_set ∈ tb := tbm 457 (by decide +kernel) rfl
theorem k_458 : Cond.instanceMethod yX1_set ∈ tb := tbm 458 (by decide +kernel) rfl
theorem k_459 : Cond.selects RX1 yX1_set yX1_set ∈ tb := tbm 459 (by decide +kernel) rfl
set_option maxRecDepth 100000 in
theorem k_460 : Cond.code yX1_set cX1_set 3 none ∈ tb := tbm 460 (by rfl) rfl
theorem k_461 : Cond.methodLink RX1 21 yX1_takes ∈ tb := tbm 461 (by decide +kernel) rfl
theorem k_462 : Cond.methodLink RX7 274 yX7_raise ∈ tb := tbm 462 (by decide +kernel) rfl
theorem k_464 : Cond.instanceMethod yX7_raise ∈ tb := tbm 464 (by decide +kernel) rfl
set_option maxRecDepth 100000 in
theorem k_465 : Cond.code yX7_raise cX7_raise 2 (some .int) ∈ tb := tbm 465 (by rfl) rfl
theorem k_466 : Cond.methodLink RX7 277 yX7_tell ∈ tb := tbm 466 (by decide +kernel) rfl
theorem k_468 : Cond.instanceMethod yX7_tell ∈ tb := tbm 468 (by decide +kernel) rfl
set_option maxRecDepth 100000 in
theorem k_469 : Cond.code yX7_tell cX7_tell 2 (some .int) ∈ tb := tbm 469 (by rfl) rfl
theorem k_470 : Cond.methodLink RX7 131 yX5_has ∈ tb := tbm 470 (by decide +kernel) rfl
theorem k_471 : Cond.instanceMethod yX5_has ∈ tb := tbm 471 (by decide +kernel) rfl
theorem k_472 : Cond.selects RX5 yX5_has yX5_has ∈ tb := tbm 472 (by decide +kernel) rfl
set_option maxRecDepth 100000 in
theorem k_473 : Cond.code yX5_has cX5_has 2 (some .boolean) ∈ tb := tbm 473 (by rfl) rfl
theorem k_474 : Cond.methodLink RX7 132 yX5_told ∈ tb := tbm 474 (by decide +kernel) rfl
theorem k_475 : Cond.instanceMethod yX5_told ∈ tb := tbm 475 (by decide +kernel) rfl
theorem k_476 : Cond.selects RX5 yX5_told yX5_told ∈ tb := tbm 476 (by decide +kernel) rfl
set_option maxRecDepth 100000 in
theorem k_477 : Cond.code yX5_told cX5_told 2 (some .int) ∈ tb := tbm 477 (by rfl) rfl
theorem k_478 : Cond.methodLink RX5 32 yX2_count ∈ tb := tbm 478 (by decide +kernel) rfl
theorem k_479 : Cond.methodLink RX7 296 yX2_replace ∈ tb := tbm 479 (by decide +kernel) rfl
theorem k_480 : Cond.methodLink RX7 299 yX5_noMoreNew ∈ tb := tbm 480 (by decide +kernel) rfl
theorem k_481 : Cond.instanceMethod yX5_noMoreNew ∈ tb := tbm 481 (by decide +kernel) rfl
theorem k_482 : Cond.selects RX5 yX5_noMoreNew yX5_noMoreNew ∈ tb := tbm 482 (by decide +kernel) rfl
set_option maxRecDepth 100000 in
theorem k_483 : Cond.code yX5_noMoreNew cX5_noMoreNew 1 none ∈ tb := tbm 483 (by rfl) rfl
theorem k_484 : Cond.methodLink RX7 279 yX3_operate ∈ tb := tbm 484 (by decide +kernel) rfl
theorem k_485 : Cond.instanceMethod yX3_operate ∈ tb := tbm 485 (by decide +kernel) rfl
theorem k_486 : Cond.selects RX3 yX3_operate yX3_operate ∈ tb := tbm 486 (by decide +kernel) rfl
set_option maxRecDepth 100000 in
theorem k_487 : Cond.code yX3_operate cX3_operate 2 (some .int) ∈ tb := tbm 487 (by rfl) rfl
theorem k_488 : Cond.methodLink RX3 19 yX2_numberUnder ∈ tb := tbm 488 (by decide +kernel) rfl
theorem k_489 : Cond.methodLink RX3 25 yX3_reckoned ∈ tb := tbm 489 (by decide +kernel) rfl
theorem k_491 : Cond.instanceMethod yX3_reckoned ∈ tb := tbm 491 (by decide +kernel) rfl
set_option maxRecDepth 100000 in
theorem k_492 : Cond.code yX3_reckoned cX3_reckoned 3 (some .int) ∈ tb := tbm 492 (by rfl) rfl
theorem k_493 : Cond.methodLink RX3 29 yX3_divide ∈ tb := tbm 493 (by decide +kernel) rfl
theorem k_495 : Cond.instanceMethod yX3_divide ∈ tb := tbm 495 (by decide +kernel) rfl
set_option maxRecDepth 100000 in
theorem k_496 : Cond.code yX3_divide cX3_divide 3 (some .int) ∈ tb := tbm 496 (by rfl) rfl
theorem k_497 : Cond.methodLink RX3 32 yX3_topTwoAreTheSame ∈ tb := tbm 497 (by decide +kernel) rfl
theorem k_499 : Cond.instanceMethod yX3_topTwoAreTheSame ∈ tb := tbm 499 (by decide +kernel) rfl
set_option maxRecDepth 100000 in
theorem k_500 : Cond.code yX3_topTwoAreTheSame cX3_topTwoAreTheSame 1 (some .boolean) ∈ tb := tbm 500 (by rfl) rfl
theorem k_501 : Cond.methodLink RX3 44 yX2_kindUnder ∈ tb := tbm 501 (by decide +kernel) rfl
theorem k_502 : Cond.methodLink RX3 40 yX2_takeOff ∈ tb := tbm 502 (by decide +kernel) rfl
theorem k_503 : Cond.methodLink RX3 47 yX3_more ∈ tb := tbm 503 (by decide +kernel) rfl
theorem k_505 : Cond.instanceMethod yX3_more ∈ tb := tbm 505 (by decide +kernel) rfl
set_option maxRecDepth 100000 in
theorem k_506 : Cond.code yX3_more cX3_more 3 (some .int) ∈ tb := tbm 506 (by rfl) rfl
theorem k_507 : Cond.methodLink RX3 80 yX2_put ∈ tb := tbm 507 (by decide +kernel) rfl
theorem k_508 : Cond.methodLink RX3 50 yX3_swap ∈ tb := tbm 508 (by decide +kernel) rfl
theorem k_510 : Cond.instanceMethod yX3_swap ∈ tb := tbm 510 (by decide +kernel) rfl
set_option maxRecDepth 100000 in
theorem k_511 : Cond.code yX3_swap cX3_swap 5 (some .int) ∈ tb := tbm 511 (by rfl) rfl
theorem k_512 : Cond.methodLink RX3 54 yX3_pick ∈ tb := tbm 512 (by decide +kernel) rfl
theorem k_514 : Cond.instanceMethod yX3_pick ∈ tb := tbm 514 (by decide +kernel) rfl
set_option maxRecDepth 100000 in
theorem k_515 : Cond.code yX3_pick cX3_pick 2 (some .int) ∈ tb := tbm 515 (by rfl) rfl
theorem k_516 : Cond.methodLink RX3 57 yX2_count ∈ tb := tbm 516 (by decide +kernel) rfl
theorem k_517 : Cond.methodLink RX3 60 yX3_countToMark ∈ tb := tbm 517 (by decide +kernel) rfl
theorem k_519 : Cond.instanceMethod yX3_countToMark ∈ tb := tbm 519 (by decide +kernel) rfl
set_option maxRecDepth 100000 in
theorem k_520 : Cond.code yX3_countToMark cX3_countToMark 2 (some .int) ∈ tb := tbm 520 (by rfl) rfl
theorem k_521 : Cond.methodLink RX3 84 yX2_topmostMark ∈ tb := tbm 521 (by decide +kernel) rfl
theorem k_522 : Cond.instanceMethod yX2_topmostMark ∈ tb := tbm 522 (by decide +kernel) rfl
theorem k_523 : Cond.selects RX2 yX2_topmostMark yX2_topmostMark ∈ tb := tbm 523 (by decide +kernel) rfl
set_option maxRecDepth 100000 in
theorem k_524 : Cond.code yX2_topmostMark cX2_topmostMark 2 (some .int) ∈ tb := tbm 524 (by rfl) rfl
theorem k_525 : Cond.methodLink RX3 63 yX3_clearToMark ∈ tb := tbm 525 (by decide +kernel) rfl
theorem k_527 : Cond.instanceMethod yX3_clearToMark ∈ tb := tbm 527 (by decide +kernel) rfl
set_option maxRecDepth 100000 in
theorem k_528 : Cond.code yX3_clearToMark cX3_clearToMark 2 (some .int) ∈ tb := tbm 528 (by rfl) rfl
theorem k_529 : Cond.methodLink RX3 66 yX3_define ∈ tb := tbm 529 (by decide +kernel) rfl
theorem k_531 : Cond.instanceMethod yX3_define ∈ tb := tbm 531 (by decide +kernel) rfl
set_option maxRecDepth 100000 in
theorem k_532 : Cond.code yX3_define cX3_define 1 (some .int) ∈ tb := tbm 532 (by rfl) rfl
theorem k_533 : Cond.methodLink RX3 87 yX6_give ∈ tb := tbm 533 (by decide +kernel) rfl
theorem k_534 : Cond.instanceMethod yX6_give ∈ tb := tbm 534 (by decide +kernel) rfl
theorem k_535 : Cond.selects RX6 yX6_give yX6_give ∈ tb := tbm 535 (by decide +kernel) rfl
set_option maxRecDepth 100000 in
theorem k_536 : Cond.code yX6_give cX6_give 4 none ∈ tb := tbm 536 (by rfl) rfl
theorem k_537 : Cond.methodLink RX3 69 yX3_lookUp ∈ tb := tbm 537 (by decide +kernel) rfl
theorem k_538 : Cond.methodLink RX7 197 yX7_arise ∈ tb := tbm 538 (by decide +kernel) rfl
theorem k_540 : Cond.instanceMethod yX7_arise ∈ tb := tbm 540 (by decide +kernel) rfl
set_option maxRecDepth 100000 in
theorem k_541 : Cond.code yX7_arise cX7_arise 5 none ∈ tb := tbm 541 (by rfl) rfl
theorem k_542 : Cond.methodLink RX7 220 yX0_errorHandled ∈ tb := tbm 542 (by decide +kernel) rfl
theorem k_543 : Cond.instanceMethod yX0_errorHandled ∈ tb := tbm 543 (by decide +kernel) rfl
theorem k_544 : Cond.selects RX0 yX0_errorHandled yX0_errorHandled ∈ tb := tbm 544 (by decide +kernel) rfl
set_option maxRecDepth 100000 in
theorem k_545 : Cond.code yX0_errorHandled cX0_errorHandled 2 (some .int) ∈ tb := tbm 545 (by rfl) rfl
theorem k_546 : Cond.methodLink RX7 148 yX1_of ∈ tb := tbm 546 (by decide +kernel) rfl
theorem k_547 : Cond.instanceMethod yX1_of ∈ tb := tbm 547 (by decide +kernel) rfl
theorem k_548 : Cond.selects RX1 yX1_of yX1_of ∈ tb := tbm 548 (by decide +kernel) rfl
set_option maxRecDepth 100000 in
theorem k_549 : Cond.code yX1_of cX1_of 2 (some .int) ∈ tb := tbm 549 (by rfl) rfl
theorem k_550 : Cond.methodLink RX7 223 yX5_tell ∈ tb := tbm 550 (by decide +kernel) rfl
theorem k_551 : Cond.instanceMethod yX5_tell ∈ tb := tbm 551 (by decide +kernel) rfl
theorem k_552 : Cond.selects RX5 yX5_tell yX5_tell ∈ tb := tbm 552 (by decide +kernel) rfl
set_option maxRecDepth 100000 in
theorem k_553 : Cond.code yX5_tell cX5_tell 5 none ∈ tb := tbm 553 (by rfl) rfl
theorem k_554 : Cond.methodLink RX5 39 yX2_copy ∈ tb := tbm 554 (by decide +kernel) rfl
theorem k_555 : Cond.instanceMethod yX2_copy ∈ tb := tbm 555 (by decide +kernel) rfl
theorem k_556 : Cond.selects RX2 yX2_copy yX2_copy ∈ tb := tbm 556 (by decide +kernel) rfl
set_option maxRecDepth 100000 in
theorem k_557 : Cond.code yX2_copy cX2_copy 3 none ∈ tb := tbm 557 (by rfl) rfl
theorem k_558 : Cond.methodLink RX7 171 yX7_turn ∈ tb := tbm 558 (by decide +kernel) rfl
theorem k_560 : Cond.instanceMethod yX7_turn ∈ tb := tbm 560 (by decide +kernel) rfl
set_option maxRecDepth 100000 in
theorem k_561 : Cond.code yX7_turn cX7_turn 2 none ∈ tb := tbm 561 (by rfl) rfl
theorem k_562 : Cond.methodLink RX7 201 yX0_loopIsOver ∈ tb := tbm 562 (by decide +kernel) rfl
theorem k_563 : Cond.instanceMethod yX0_loopIsOver ∈ tb := tbm 563 (by decide +kernel) rfl
theorem k_564 : Cond.selects RX0 yX0_loopIsOver yX0_loopIsOver ∈ tb := tbm 564 (by decide +kernel) rfl
set_option maxRecDepth 100000 in
theorem k_565 : Cond.code yX0_loopIsOver cX0_loopIsOver 2 (some .boolean) ∈ tb := tbm 565 (by rfl) rfl
theorem k_566 : Cond.methodLink RX7 211 yX0_loopNumber ∈ tb := tbm 566 (by decide +kernel) rfl
theorem k_567 : Cond.instanceMethod yX0_loopNumber ∈ tb := tbm 567 (by decide +kernel) rfl
theorem k_568 : Cond.selects RX0 yX0_loopNumber yX0_loopNumber ∈ tb := tbm 568 (by decide +kernel) rfl
set_option maxRecDepth 100000 in
theorem k_569 : Cond.code yX0_loopNumber cX0_loopNumber 1 (some .int) ∈ tb := tbm 569 (by rfl) rfl
theorem k_570 : Cond.methodLink RX7 214 yX0_turnLoop ∈ tb := tbm 570 (by decide +kernel) rfl
theorem k_571 : Cond.instanceMethod yX0_turnLoop ∈ tb := tbm 571 (by decide +kernel) rfl
theorem k_572 : Cond.selects RX0 yX0_turnLoop yX0_turnLoop ∈ tb := tbm 572 (by decide +kernel) rfl
set_option maxRecDepth 100000 in
theorem k_573 : Cond.code yX0_turnLoop cX0_turnLoop 1 none ∈ tb := tbm 573 (by rfl) rfl
theorem k_574 : Cond.methodLink RX7 174 yX7_endStopped ∈ tb := tbm 574 (by decide +kernel) rfl
theorem k_576 : Cond.instanceMethod yX7_endStopped ∈ tb := tbm 576 (by decide +kernel) rfl
set_option maxRecDepth 100000 in
theorem k_577 : Cond.code yX7_endStopped cX7_endStopped 1 none ∈ tb := tbm 577 (by rfl) rfl
theorem k_578 : Cond.methodLink RL 54 yX7_interrupt ∈ tb := tbm 578 (by decide +kernel) rfl
theorem k_579 : Cond.instanceMethod yX7_interrupt ∈ tb := tbm 579 (by decide +kernel) rfl
theorem k_580 : Cond.selects RX7 yX7_interrupt yX7_interrupt ∈ tb := tbm 580 (by decide +kernel) rfl
set_option maxRecDepth 100000 in
theorem k_581 : Cond.code yX7_interrupt cX7_interrupt 1 (some .int) ∈ tb := tbm 581 (by rfl) rfl
theorem k_582 : Cond.methodLink RL 58 yX7_size ∈ tb := tbm 582 (by decide +kernel) rfl
theorem k_583 : Cond.instanceMethod yX7_size ∈ tb := tbm 583 (by decide +kernel) rfl
theorem k_584 : Cond.selects RX7 yX7_size yX7_size ∈ tb := tbm 584 (by decide +kernel) rfl
set_option maxRecDepth 100000 in
theorem k_585 : Cond.code yX7_size cX7_size 1 (some .int) ∈ tb := tbm 585 (by rfl) rfl
theorem k_586 : Cond.methodLink RL 84 yX7_forget ∈ tb := tbm 586 (by decide +kernel) rfl
theorem k_587 : Cond.instanceMethod yX7_forget ∈ tb := tbm 587 (by decide +kernel) rfl
theorem k_588 : Cond.selects RX7 yX7_forget yX7_forget ∈ tb := tbm 588 (by decide +kernel) rfl
set_option maxRecDepth 100000 in
theorem k_589 : Cond.code yX7_forget cX7_forget 1 (some .int) ∈ tb := tbm 589 (by rfl) rfl
theorem k_590 : Cond.methodLink RX7 160 yX1_wipe ∈ tb := tbm 590 (by decide +kernel) rfl
theorem k_591 : Cond.instanceMethod yX1_wipe ∈ tb := tbm 591 (by decide +kernel) rfl
theorem k_592 : Cond.selects RX1 yX1_wipe yX1_wipe ∈ tb := tbm 592 (by decide +kernel) rfl
set_option maxRecDepth 100000 in
theorem k_593 : Cond.code yX1_wipe cX1_wipe 1 none ∈ tb := tbm 593 (by rfl) rfl
theorem k_594 : Cond.methodLink RX7 162 yX5_wipe ∈ tb := tbm 594 (by decide +kernel) rfl
theorem k_595 : Cond.instanceMethod yX5_wipe ∈ tb := tbm 595 (by decide +kernel) rfl
theorem k_596 : Cond.selects RX5 yX5_wipe yX5_wipe ∈ tb := tbm 596 (by decide +kernel) rfl
set_option maxRecDepth 100000 in
theorem k_597 : Cond.code yX5_wipe cX5_wipe 1 none ∈ tb := tbm 597 (by rfl) rfl
theorem k_598 : Cond.methodLink RX5 43 yX2_takeOff ∈ tb := tbm 598 (by decide +kernel) rfl
theorem k_599 : Cond.methodLink RX7 163 yX6_wipe ∈ tb := tbm 599 (by decide +kernel) rfl
theorem k_600 : Cond.instanceMethod yX6_wipe ∈ tb := tbm 600 (by decide +kernel) rfl
theorem k_601 : Cond.selects RX6 yX6_wipe yX6_wipe ∈ tb := tbm 601 (by decide +kernel) rfl
set_option maxRecDepth 100000 in
theorem k_602 : Cond.code yX6_wipe cX6_wipe 3 (some .int) ∈ tb := tbm 602 (by rfl) rfl
theorem k_603 : Cond.methodLink RL 62 yL_value ∈ tb := tbm 603 (by decide +kernel) rfl
theorem k_604 : Cond.static yL_value ∈ tb := tbm 604 (by decide +kernel) rfl
theorem k_606 : Cond.classLink RL 13 "java/lang/IndexOutOfBoundsException" ∈ tb := tbm 606 (by decide +kernel) rfl
theorem k_607 : Cond.methodLink RL 7 yX7_value ∈ tb := tbm 607 (by decide +kernel) rfl
theorem k_608 : Cond.instanceMethod yX7_value ∈ tb := tbm 608 (by decide +kernel) rfl
theorem k_609 : Cond.selects RX7 yX7_value yX7_value ∈ tb := tbm 609 (by decide +kernel) rfl
set_option maxRecDepth 100000 in
theorem k_610 : Cond.code yX7_value cX7_value 3 (some .int) ∈ tb := tbm 610 (by rfl) rfl
theorem k_611 : Cond.methodLink RX7 114 yX2_has ∈ tb := tbm 611 (by decide +kernel) rfl
theorem k_612 : Cond.instanceMethod yX2_has ∈ tb := tbm 612 (by decide +kernel) rfl
theorem k_613 : Cond.selects RX2 yX2_has yX2_has ∈ tb := tbm 613 (by decide +kernel) rfl
set_option maxRecDepth 100000 in
theorem k_614 : Cond.code yX2_has cX2_has 2 (some .boolean) ∈ tb := tbm 614 (by rfl) rfl
theorem k_615 : Cond.methodLink RX7 115 yX7_isKindOrNumber ∈ tb := tbm 615 (by decide +kernel) rfl
theorem k_616 : Cond.static yX7_isKindOrNumber ∈ tb := tbm 616 (by decide +kernel) rfl
set_option maxRecDepth 100000 in
theorem k_617 : Cond.code yX7_isKindOrNumber cX7_isKindOrNumber 1 (some .boolean) ∈ tb := tbm 617 (by rfl) rfl
theorem k_618 : Cond.classLink RX7 118 "java/lang/IndexOutOfBoundsException" ∈ tb := tbm 618 (by decide +kernel) rfl
theorem k_619 : Cond.instantiable "java/lang/IndexOutOfBoundsException" 6 ∈ tb := tbm 619 (by decide +kernel) rfl
theorem k_639 : Cond.fieldLink "java/lang/Throwable" 198 "java/lang/Throwable" "backtrace" "Ljava/lang/Object;" ∈ tb := tbm 639 (by decide +kernel) rfl
theorem k_643 : Cond.methodLink "java/lang/Throwable" 1 objectInit ∈ tb := tbm 643 (by decide +kernel) rfl
theorem k_644 : Cond.fieldLink "java/lang/Throwable" 13 "java/lang/Throwable" "UNASSIGNED_STACK" "[Ljava/lang/StackTraceElement;" ∈ tb := tbm 644 (by decide +kernel) rfl
theorem k_646 : Cond.fieldLink "java/lang/Throwable" 20 "java/lang/Throwable" "SUPPRESSED_SENTINEL" "Ljava/util/List;" ∈ tb := tbm 646 (by decide +kernel) rfl
theorem k_655 : Cond.instantiable "java/lang/Throwable" 6 ∈ tb := tbm 655 (by decide +kernel) rfl
theorem k_671 : Cond.fieldLink "java/lang/Throwable" 31 "java/lang/Throwable" "detailMessage" "Ljava/lang/String;" ∈ tb := tbm 671 (by decide +kernel) rfl
theorem k_672 : Cond.fieldLink "java/lang/Throwable" 7 "java/lang/Throwable" "cause" "Ljava/lang/Throwable;" ∈ tb := tbm 672 (by decide +kernel) rfl
theorem k_673 : Cond.fieldLink "java/lang/Throwable" 17 "java/lang/Throwable" "stackTrace" "[Ljava/lang/StackTraceElement;" ∈ tb := tbm 673 (by decide +kernel) rfl
theorem k_674 : Cond.fieldLink "java/lang/Throwable" 24 "java/lang/Throwable" "suppressedExceptions" "Ljava/util/List;" ∈ tb := tbm 674 (by decide +kernel) rfl
theorem k_683 : Cond.arrayClass .byte ∈ tb := tbm 683 (by decide +kernel) rfl
theorem k_684 : Cond.methodLink RX7 125 yX2_kindAt ∈ tb := tbm 684 (by decide +kernel) rfl
theorem k_685 : Cond.instanceMethod yX2_kindAt ∈ tb := tbm 685 (by decide +kernel) rfl
theorem k_686 : Cond.selects RX2 yX2_kindAt yX2_kindAt ∈ tb := tbm 686 (by decide +kernel) rfl
set_option maxRecDepth 100000 in
theorem k_687 : Cond.code yX2_kindAt cX2_kindAt 2 (some .int) ∈ tb := tbm 687 (by rfl) rfl
theorem k_688 : Cond.methodLink RX7 128 yX2_numberAt ∈ tb := tbm 688 (by decide +kernel) rfl
theorem k_689 : Cond.instanceMethod yX2_numberAt ∈ tb := tbm 689 (by decide +kernel) rfl
theorem k_690 : Cond.selects RX2 yX2_numberAt yX2_numberAt ∈ tb := tbm 690 (by decide +kernel) rfl
set_option maxRecDepth 100000 in
theorem k_691 : Cond.code yX2_numberAt cX2_numberAt 2 (some .int) ∈ tb := tbm 691 (by rfl) rfl
theorem k_692 : Cond.methodLink RL 71 yL_record ∈ tb := tbm 692 (by decide +kernel) rfl
theorem k_693 : Cond.static yL_record ∈ tb := tbm 693 (by decide +kernel) rfl
theorem k_695 : Cond.methodLink RL 15 yX7_record ∈ tb := tbm 695 (by decide +kernel) rfl
theorem k_696 : Cond.instanceMethod yX7_record ∈ tb := tbm 696 (by decide +kernel) rfl
theorem k_697 : Cond.selects RX7 yX7_record yX7_record ∈ tb := tbm 697 (by decide +kernel) rfl
set_option maxRecDepth 100000 in
theorem k_698 : Cond.code yX7_record cX7_record 2 (some .int) ∈ tb := tbm 698 (by rfl) rfl
theorem k_699 : Cond.methodLink RX7 135 yX0_most ∈ tb := tbm 699 (by decide +kernel) rfl
theorem k_700 : Cond.instanceMethod yX0_most ∈ tb := tbm 700 (by decide +kernel) rfl
theorem k_701 : Cond.selects RX0 yX0_most yX0_most ∈ tb := tbm 701 (by decide +kernel) rfl
set_option maxRecDepth 100000 in
theorem k_702 : Cond.code yX0_most cX0_most 1 (some .int) ∈ tb := tbm 702 (by rfl) rfl
theorem k_704 : Cond.methodLink RL 75 yL_kept ∈ tb := tbm 704 (by decide +kernel) rfl
theorem k_705 : Cond.static yL_kept ∈ tb := tbm 705 (by decide +kernel) rfl
theorem k_707 : Cond.methodLink RL 19 yX7_kept ∈ tb := tbm 707 (by decide +kernel) rfl
theorem k_708 : Cond.instanceMethod yX7_kept ∈ tb := tbm 708 (by decide +kernel) rfl
theorem k_709 : Cond.selects RX7 yX7_kept yX7_kept ∈ tb := tbm 709 (by decide +kernel) rfl
set_option maxRecDepth 100000 in
theorem k_710 : Cond.code yX7_kept cX7_kept 3 (some .int) ∈ tb := tbm 710 (by rfl) rfl
theorem k_711 : Cond.methodLink RX7 140 yX5_pile ∈ tb := tbm 711 (by decide +kernel) rfl
theorem k_712 : Cond.instanceMethod yX5_pile ∈ tb := tbm 712 (by decide +kernel) rfl
theorem k_713 : Cond.selects RX5 yX5_pile yX5_pile ∈ tb := tbm 713 (by decide +kernel) rfl
set_option maxRecDepth 100000 in
theorem k_714 : Cond.code yX5_pile cX5_pile 1 (some (.object "ErrorNames$Pile")) ∈ tb := tbm 714 (by rfl) rfl
theorem k_716 : Cond.methodLink RL 78 yL_handler ∈ tb := tbm 716 (by decide +kernel) rfl
theorem k_717 : Cond.static yL_handler ∈ tb := tbm 717 (by decide +kernel) rfl
theorem k_719 : Cond.methodLink RL 22 yX7_handler ∈ tb := tbm 719 (by decide +kernel) rfl
theorem k_720 : Cond.instanceMethod yX7_handler ∈ tb := tbm 720 (by decide +kernel) rfl
theorem k_721 : Cond.selects RX7 yX7_handler yX7_handler ∈ tb := tbm 721 (by decide +kernel) rfl
set_option maxRecDepth 100000 in
theorem k_722 : Cond.code yX7_handler cX7_handler 2 (some .int) ∈ tb := tbm 722 (by rfl) rfl
theorem k_723 : Cond.methodLink RX7 145 yX1_has ∈ tb := tbm 723 (by decide +kernel) rfl
theorem k_724 : Cond.instanceMethod yX1_has ∈ tb := tbm 724 (by decide +kernel) rfl
theorem k_725 : Cond.selects RX1 yX1_has yX1_has ∈ tb := tbm 725 (by decide +kernel) rfl
set_option maxRecDepth 100000 in
theorem k_726 : Cond.code yX1_has cX1_has 2 (some .boolean) ∈ tb := tbm 726 (by rfl) rfl
theorem k_728 : Cond.methodLink RL 81 yL_named ∈ tb := tbm 728 (by decide +kernel) rfl
theorem k_729 : Cond.static yL_named ∈ tb := tbm 729 (by decide +kernel) rfl
theorem k_731 : Cond.methodLink RL 25 yX7_named ∈ tb := tbm 731 (by decide +kernel) rfl
theorem k_732 : Cond.instanceMethod yX7_named ∈ tb := tbm 732 (by decide +kernel) rfl
theorem k_733 : Cond.selects RX7 yX7_named yX7_named ∈ tb := tbm 733 (by decide +kernel) rfl
set_option maxRecDepth 100000 in
theorem k_734 : Cond.code yX7_named cX7_named 3 (some .int) ∈ tb := tbm 734 (by rfl) rfl
theorem k_735 : Cond.methodLink RX7 151 yX6_has ∈ tb := tbm 735 (by decide +kernel) rfl
theorem k_736 : Cond.instanceMethod yX6_has ∈ tb := tbm 736 (by decide +kernel) rfl
theorem k_737 : Cond.selects RX6 yX6_has yX6_has ∈ tb := tbm 737 (by decide +kernel) rfl
set_option maxRecDepth 100000 in
theorem k_738 : Cond.code yX6_has cX6_has 2 (some .boolean) ∈ tb := tbm 738 (by rfl) rfl
theorem k_740 : Cond.classLink RL 29 RX8 ∈ tb := tbm 740 (by decide +kernel) rfl
theorem k_741 : Cond.instantiable RX8 30 ∈ tb := tbm 741 (by decide +kernel) rfl
theorem k_742 : Cond.methodLink RL 31 yX8_init ∈ tb := tbm 742 (by decide +kernel) rfl
theorem k_743 : Cond.instanceMethod yX8_init ∈ tb := tbm 743 (by decide +kernel) rfl
set_option maxRecDepth 100000 in
theorem k_744 : Cond.code yX8_init cX8_init 1 none ∈ tb := tbm 744 (by rfl) rfl
theorem k_745 : Cond.methodLink RX8 1 objectInit ∈ tb := tbm 745 (by decide +kernel) rfl
theorem k_746 : Cond.methodLink RX8 59 yX8_clearAll ∈ tb := tbm 746 (by decide +kernel) rfl
theorem k_748 : Cond.instanceMethod yX8_clearAll ∈ tb := tbm 748 (by decide +kernel) rfl
set_option maxRecDepth 100000 in
theorem k_749 : Cond.code yX8_clearAll cX8_clearAll 2 none ∈ tb := tbm 749 (by rfl) rfl
theorem k_750 : Cond.fieldLink RX8 62 "ErrorNamesModel" "thrown" "I" ∈ tb := tbm 750 (by decide +kernel) rfl
theorem k_751 : Cond.fieldLink RX8 7 "ErrorNamesModel" "tokenKinds" "[I" ∈ tb := tbm 751 (by decide +kernel) rfl
theorem k_752 : Cond.fieldLink RX8 13 "ErrorNamesModel" "tokenNumbers" "[I" ∈ tb := tbm 752 (by decide +kernel) rfl
theorem k_753 : Cond.fieldLink RX8 16 "ErrorNamesModel" "tokens" "[I" ∈ tb := tbm 753 (by decide +kernel) rfl
theorem k_754 : Cond.fieldLink RX8 19 "ErrorNamesModel" "kinds" "[I" ∈ tb := tbm 754 (by decide +kernel) rfl
theorem k_755 : Cond.fieldLink RX8 22 "ErrorNamesModel" "numbers" "[I" ∈ tb := tbm 755 (by decide +kernel) rfl
theorem k_756 : Cond.fieldLink RX8 96 "ErrorNamesModel" "size" "I" ∈ tb := tbm 756 (by decide +kernel) rfl
theorem k_757 : Cond.fieldLink RX8 25 "ErrorNamesModel" "tableKinds" "[I" ∈ tb := tbm 757 (by decide +kernel) rfl
theorem k_758 : Cond.fieldLink RX8 28 "ErrorNamesModel" "tableNumbers" "[I" ∈ tb := tbm 758 (by decide +kernel) rfl
theorem k_759 : Cond.fieldLink RX8 31 "ErrorNamesModel" "handlers" "[I" ∈ tb := tbm 759 (by decide +kernel) rfl
theorem k_760 : Cond.fieldLink RX8 66 "ErrorNamesModel" "error" "I" ∈ tb := tbm 760 (by decide +kernel) rfl
theorem k_761 : Cond.fieldLink RX8 69 "ErrorNamesModel" "command" "I" ∈ tb := tbm 761 (by decide +kernel) rfl
theorem k_762 : Cond.fieldLink RX8 72 "ErrorNamesModel" "isNew" "Z" ∈ tb := tbm 762 (by decide +kernel) rfl
theorem k_763 : Cond.fieldLink RX8 76 "ErrorNamesModel" "within" "I" ∈ tb := tbm 763 (by decide +kernel) rfl
theorem k_764 : Cond.fieldLink RX8 34 "ErrorNamesModel" "keptKinds" "[I" ∈ tb := tbm 764 (by decide +kernel) rfl
theorem k_765 : Cond.fieldLink RX8 37 "ErrorNamesModel" "keptNumbers" "[I" ∈ tb := tbm 765 (by decide +kernel) rfl
theorem k_766 : Cond.fieldLink RX8 79 "ErrorNamesModel" "keptSize" "I" ∈ tb := tbm 766 (by decide +kernel) rfl
theorem k_767 : Cond.fieldLink RX8 82 "ErrorNamesModel" "errors" "I" ∈ tb := tbm 767 (by decide +kernel) rfl
theorem k_768 : Cond.fieldLink RX8 85 "ErrorNamesModel" "interrupted" "Z" ∈ tb := tbm 768 (by decide +kernel) rfl
theorem k_769 : Cond.fieldLink RX8 103 "ErrorNamesModel" "frames" "I" ∈ tb := tbm 769 (by decide +kernel) rfl
theorem k_770 : Cond.fieldLink RX8 40 "ErrorNamesModel" "sorts" "[I" ∈ tb := tbm 770 (by decide +kernel) rfl
theorem k_771 : Cond.fieldLink RX8 43 "ErrorNamesModel" "who" "[I" ∈ tb := tbm 771 (by decide +kernel) rfl
theorem k_772 : Cond.fieldLink RX8 46 "ErrorNamesModel" "places" "[I" ∈ tb := tbm 772 (by decide +kernel) rfl
theorem k_773 : Cond.fieldLink RX8 49 "ErrorNamesModel" "nexts" "[J" ∈ tb := tbm 773 (by decide +kernel) rfl
theorem k_774 : Cond.fieldLink RX8 53 "ErrorNamesModel" "bys" "[I" ∈ tb := tbm 774 (by decide +kernel) rfl
theorem k_775 : Cond.fieldLink RX8 56 "ErrorNamesModel" "limits" "[I" ∈ tb := tbm 775 (by decide +kernel) rfl
theorem k_776 : Cond.fieldLink RX8 126 "ErrorNamesModel" "steps" "I" ∈ tb := tbm 776 (by decide +kernel) rfl
theorem k_777 : Cond.fieldLink RX8 106 "ErrorNamesModel" "most" "I" ∈ tb := tbm 777 (by decide +kernel) rfl
theorem k_778 : Cond.fieldLink RX8 123 "ErrorNamesModel" "handled" "I" ∈ tb := tbm 778 (by decide +kernel) rfl
theorem k_779 : Cond.fieldLink RX8 116 "ErrorNamesModel" "ended" "I" ∈ tb := tbm 779 (by decide +kernel) rfl
theorem k_841 : Cond.methodLink RL 68 yX8_thrown ∈ tb := tbm 841 (by decide +kernel) rfl
theorem k_842 : Cond.instanceMethod yX8_thrown ∈ tb := tbm 842 (by decide +kernel) rfl
theorem k_843 : Cond.selects RX8 yX8_thrown yX8_thrown ∈ tb := tbm 843 (by decide +kernel) rfl
set_option maxRecDepth 100000 in
theorem k_844 : Cond.code yX8_thrown cX8_thrown 1 (some .int) ∈ tb := tbm 844 (by rfl) rfl
theorem k_845 : Cond.methodLink RL 36 yX8_token ∈ tb := tbm 845 (by decide +kernel) rfl
theorem k_846 : Cond.instanceMethod yX8_token ∈ tb := tbm 846 (by decide +kernel) rfl
theorem k_847 : Cond.selects RX8 yX8_token yX8_token ∈ tb := tbm 847 (by decide +kernel) rfl
set_option maxRecDepth 100000 in
theorem k_848 : Cond.code yX8_token cX8_token 5 (some .int) ∈ tb := tbm 848 (by rfl) rfl
theorem k_849 : Cond.methodLink RX8 88 yX8_in ∈ tb := tbm 849 (by decide +kernel) rfl
theorem k_850 : Cond.static yX8_in ∈ tb := tbm 850 (by decide +kernel) rfl
set_option maxRecDepth 100000 in
theorem k_851 : Cond.code yX8_in cX8_in 3 (some .boolean) ∈ tb := tbm 851 (by rfl) rfl
theorem k_852 : Cond.methodLink RX8 92 yX8_fits ∈ tb := tbm 852 (by decide +kernel) rfl
theorem k_853 : Cond.static yX8_fits ∈ tb := tbm 853 (by decide +kernel) rfl
set_option maxRecDepth 100000 in
theorem k_854 : Cond.code yX8_fits cX8_fits 2 (some .boolean) ∈ tb := tbm 854 (by rfl) rfl
theorem k_855 : Cond.methodLink RL 40 yX8_clear ∈ tb := tbm 855 (by decide +kernel) rfl
theorem k_856 : Cond.instanceMethod yX8_clear ∈ tb := tbm 856 (by decide +kernel) rfl
theorem k_857 : Cond.selects RX8 yX8_clear yX8_clear ∈ tb := tbm 857 (by decide +kernel) rfl
set_option maxRecDepth 100000 in
theorem k_858 : Cond.code yX8_clear cX8_clear 3 (some .int) ∈ tb := tbm 858 (by rfl) rfl
theorem k_859 : Cond.methodLink RL 44 yX8_push ∈ tb := tbm 859 (by decide +kernel) rfl
theorem k_860 : Cond.instanceMethod yX8_push ∈ tb := tbm 860 (by decide +kernel) rfl
theorem k_861 : Cond.selects RX8 yX8_push yX8_push ∈ tb := tbm 861 (by decide +kernel) rfl
set_option maxRecDepth 100000 in
theorem k_862 : Cond.code yX8_push cX8_push 3 (some .int) ∈ tb := tbm 862 (by rfl) rfl
theorem k_863 : Cond.methodLink RX8 99 yX8_lay ∈ tb := tbm 863 (by decide +kernel) rfl
theorem k_865 : Cond.instanceMethod yX8_lay ∈ tb := tbm 865 (by decide +kernel) rfl
set_option maxRecDepth 100000 in
theorem k_866 : Cond.code yX8_lay cX8_lay 3 none ∈ tb := tbm 866 (by rfl) rfl
theorem k_867 : Cond.methodLink RL 49 yX8_drop ∈ tb := tbm 867 (by decide +kernel) rfl
theorem k_868 : Cond.instanceMethod yX8_drop ∈ tb := tbm 868 (by decide +kernel) rfl
theorem k_869 : Cond.selects RX8 yX8_drop yX8_drop ∈ tb := tbm 869 (by decide +kernel) rfl
set_option maxRecDepth 100000 in
theorem k_870 : Cond.code yX8_drop cX8_drop 2 (some .int) ∈ tb := tbm 870 (by rfl) rfl
theorem k_871 : Cond.methodLink RL 57 yX8_interrupt ∈ tb := tbm 871 (by decide +kernel) rfl
theorem k_872 : Cond.instanceMethod yX8_interrupt ∈ tb := tbm 872 (by decide +kernel) rfl
theorem k_873 : Cond.selects RX8 yX8_interrupt yX8_interrupt ∈ tb := tbm 873 (by decide +kernel) rfl
set_option maxRecDepth 100000 in
theorem k_874 : Cond.code yX8_interrupt cX8_interrupt 2 (some .int) ∈ tb := tbm 874 (by rfl) rfl
theorem k_875 : Cond.methodLink RL 53 yX8_run ∈ tb := tbm 875 (by decide +kernel) rfl
theorem k_876 : Cond.instanceMethod yX8_run ∈ tb := tbm 876 (by decide +kernel) rfl
theorem k_877 : Cond.selects RX8 yX8_run yX8_run ∈ tb := tbm 877 (by decide +kernel) rfl
set_option maxRecDepth 100000 in
theorem k_878 : Cond.code yX8_run cX8_run 3 (some .int) ∈ tb := tbm 878 (by rfl) rfl
theorem k_879 : Cond.methodLink RX8 113 yX8_come ∈ tb := tbm 879 (by decide +kernel) rfl
theorem k_881 : Cond.instanceMethod yX8_come ∈ tb := tbm 881 (by decide +kernel) rfl
set_option maxRecDepth 100000 in
theorem k_882 : Cond.code yX8_come cX8_come 3 none ∈ tb := tbm 882 (by rfl) rfl
theorem k_883 : Cond.methodLink RX8 129 yX8_step ∈ tb := tbm 883 (by decide +kernel) rfl
theorem k_885 : Cond.instanceMethod yX8_step ∈ tb := tbm 885 (by decide +kernel) rfl
set_option maxRecDepth 100000 in
theorem k_886 : Cond.code yX8_step cX8_step 3 none ∈ tb := tbm 886 (by rfl) rfl
theorem k_887 : Cond.methodLink RX8 109 yX8_isSpent ∈ tb := tbm 887 (by decide +kernel) rfl
theorem k_889 : Cond.instanceMethod yX8_isSpent ∈ tb := tbm 889 (by decide +kernel) rfl
set_option maxRecDepth 100000 in
theorem k_890 : Cond.code yX8_isSpent cX8_isSpent 1 (some .boolean) ∈ tb := tbm 890 (by rfl) rfl
theorem k_891 : Cond.methodLink RX8 132 yX8_token_ ∈ tb := tbm 891 (by decide +kernel) rfl
theorem k_893 : Cond.instanceMethod yX8_token_ ∈ tb := tbm 893 (by decide +kernel) rfl
set_option maxRecDepth 100000 in
theorem k_894 : Cond.code yX8_token_ cX8_token_ 4 none ∈ tb := tbm 894 (by rfl) rfl
theorem k_895 : Cond.methodLink RX8 141 yX8_wrong ∈ tb := tbm 895 (by decide +kernel) rfl
theorem k_897 : Cond.instanceMethod yX8_wrong ∈ tb := tbm 897 (by decide +kernel) rfl
set_option maxRecDepth 100000 in
theorem k_898 : Cond.code yX8_wrong cX8_wrong 4 (some .int) ∈ tb := tbm 898 (by rfl) rfl
theorem k_899 : Cond.methodLink RX8 160 yX8_takes ∈ tb := tbm 899 (by decide +kernel) rfl
theorem k_900 : Cond.static yX8_takes ∈ tb := tbm 900 (by decide +kernel) rfl
set_option maxRecDepth 100000 in
theorem k_901 : Cond.code yX8_takes cX8_takes 1 (some .int) ∈ tb := tbm 901 (by rfl) rfl
theorem k_902 : Cond.methodLink RX8 150 yX8_kind ∈ tb := tbm 902 (by decide +kernel) rfl
theorem k_904 : Cond.instanceMethod yX8_kind ∈ tb := tbm 904 (by decide +kernel) rfl
set_option maxRecDepth 100000 in
theorem k_905 : Cond.code yX8_kind cX8_kind 2 (some .int) ∈ tb := tbm 905 (by rfl) rfl
theorem k_906 : Cond.methodLink RX8 153 yX8_number ∈ tb := tbm 906 (by decide +kernel) rfl
theorem k_908 : Cond.instanceMethod yX8_number ∈ tb := tbm 908 (by decide +kernel) rfl
set_option maxRecDepth 100000 in
theorem k_909 : Cond.code yX8_number cX8_number 2 (some .int) ∈ tb := tbm 909 (by rfl) rfl
theorem k_910 : Cond.methodLink RX8 163 yX8_areKinds ∈ tb := tbm 910 (by decide +kernel) rfl
theorem k_912 : Cond.instanceMethod yX8_areKinds ∈ tb := tbm 912 (by decide +kernel) rfl
set_option maxRecDepth 100000 in
theorem k_913 : Cond.code yX8_areKinds cX8_areKinds 2 (some .boolean) ∈ tb := tbm 913 (by rfl) rfl
theorem k_914 : Cond.methodLink RX8 166 yX8_mark ∈ tb := tbm 914 (by decide +kernel) rfl
theorem k_916 : Cond.instanceMethod yX8_mark ∈ tb := tbm 916 (by decide +kernel) rfl
set_option maxRecDepth 100000 in
theorem k_917 : Cond.code yX8_mark cX8_mark 2 (some .int) ∈ tb := tbm 917 (by rfl) rfl
theorem k_918 : Cond.methodLink RX8 170 yX8_isInRange ∈ tb := tbm 918 (by decide +kernel) rfl
theorem k_920 : Cond.instanceMethod yX8_isInRange ∈ tb := tbm 920 (by decide +kernel) rfl
set_option maxRecDepth 100000 in
theorem k_921 : Cond.code yX8_isInRange cX8_isInRange 2 (some .boolean) ∈ tb := tbm 921 (by rfl) rfl
theorem k_922 : Cond.methodLink RX8 156 yX8_isError ∈ tb := tbm 922 (by decide +kernel) rfl
theorem k_923 : Cond.static yX8_isError ∈ tb := tbm 923 (by decide +kernel) rfl
set_option maxRecDepth 100000 in
theorem k_924 : Cond.code yX8_isError cX8_isError 1 (some .boolean) ∈ tb := tbm 924 (by rfl) rfl
theorem k_925 : Cond.methodLink RX8 173 yX8_loop ∈ tb := tbm 925 (by decide +kernel) rfl
theorem k_927 : Cond.instanceMethod yX8_loop ∈ tb := tbm 927 (by decide +kernel) rfl
set_option maxRecDepth 100000 in
theorem k_928 : Cond.code yX8_loop cX8_loop 2 (some .int) ∈ tb := tbm 928 (by rfl) rfl
theorem k_929 : Cond.methodLink RX8 176 yX8_hasFrames ∈ tb := tbm 929 (by decide +kernel) rfl
theorem k_931 : Cond.instanceMethod yX8_hasFrames ∈ tb := tbm 931 (by decide +kernel) rfl
set_option maxRecDepth 100000 in
theorem k_932 : Cond.code yX8_hasFrames cX8_hasFrames 2 (some .boolean) ∈ tb := tbm 932 (by rfl) rfl
theorem k_933 : Cond.methodLink RX8 179 yX8_procedureOf ∈ tb := tbm 933 (by decide +kernel) rfl
theorem k_935 : Cond.instanceMethod yX8_procedureOf ∈ tb := tbm 935 (by decide +kernel) rfl
set_option maxRecDepth 100000 in
theorem k_936 : Cond.code yX8_procedureOf cX8_procedureOf 4 (some .int) ∈ tb := tbm 936 (by rfl) rfl
theorem k_937 : Cond.methodLink RX8 182 yX8_mayBegin ∈ tb := tbm 937 (by decide +kernel) rfl
theorem k_939 : Cond.instanceMethod yX8_mayBegin ∈ tb := tbm 939 (by decide +kernel) rfl
set_option maxRecDepth 100000 in
theorem k_940 : Cond.code yX8_mayBegin cX8_mayBegin 1 (some .boolean) ∈ tb := tbm 940 (by rfl) rfl
theorem k_941 : Cond.methodLink RX8 135 yX8_arise ∈ tb := tbm 941 (by decide +kernel) rfl
theorem k_943 : Cond.instanceMethod yX8_arise ∈ tb := tbm 943 (by decide +kernel) rfl
set_option maxRecDepth 100000 in
theorem k_944 : Cond.code yX8_arise cX8_arise 4 none ∈ tb := tbm 944 (by rfl) rfl
theorem k_945 : Cond.methodLink RX8 119 yX8_stop ∈ tb := tbm 945 (by decide +kernel) rfl
theorem k_947 : Cond.instanceMethod yX8_stop ∈ tb := tbm 947 (by decide +kernel) rfl
set_option maxRecDepth 100000 in
theorem k_948 : Cond.code yX8_stop cX8_stop 2 none ∈ tb := tbm 948 (by rfl) rfl
theorem k_949 : Cond.methodLink RX8 145 yX8_work ∈ tb := tbm 949 (by decide +kernel) rfl
theorem k_951 : Cond.instanceMethod yX8_work ∈ tb := tbm 951 (by decide +kernel) rfl
set_option maxRecDepth 100000 in
theorem k_952 : Cond.code yX8_work cX8_work 2 none ∈ tb := tbm 952 (by rfl) rfl
theorem k_953 : Cond.methodLink RX8 185 yX8_reckon ∈ tb := tbm 953 (by decide +kernel) rfl
theorem k_955 : Cond.instanceMethod yX8_reckon ∈ tb := tbm 955 (by decide +kernel) rfl
set_option maxRecDepth 100000 in
theorem k_956 : Cond.code yX8_reckon cX8_reckon 4 none ∈ tb := tbm 956 (by rfl) rfl
theorem k_957 : Cond.methodLink RX8 188 yX8_handle ∈ tb := tbm 957 (by decide +kernel) rfl
theorem k_959 : Cond.instanceMethod yX8_handle ∈ tb := tbm 959 (by decide +kernel) rfl
set_option maxRecDepth 100000 in
theorem k_960 : Cond.code yX8_handle cX8_handle 7 none ∈ tb := tbm 960 (by rfl) rfl
theorem k_961 : Cond.methodLink RX8 191 yX8_perform ∈ tb := tbm 961 (by decide +kernel) rfl
theorem k_963 : Cond.instanceMethod yX8_perform ∈ tb := tbm 963 (by decide +kernel) rfl
set_option maxRecDepth 100000 in
theorem k_964 : Cond.code yX8_perform cX8_perform 4 none ∈ tb := tbm 964 (by rfl) rfl
theorem k_965 : Cond.methodLink RX8 200 yX8_begin ∈ tb := tbm 965 (by decide +kernel) rfl
theorem k_967 : Cond.instanceMethod yX8_begin ∈ tb := tbm 967 (by decide +kernel) rfl
set_option maxRecDepth 100000 in
theorem k_968 : Cond.code yX8_begin cX8_begin 2 none ∈ tb := tbm 968 (by rfl) rfl
theorem k_969 : Cond.methodLink RX8 194 yX8_loopOf ∈ tb := tbm 969 (by decide +kernel) rfl
theorem k_971 : Cond.instanceMethod yX8_loopOf ∈ tb := tbm 971 (by decide +kernel) rfl
set_option maxRecDepth 100000 in
theorem k_972 : Cond.code yX8_loopOf cX8_loopOf 4 none ∈ tb := tbm 972 (by rfl) rfl
theorem k_973 : Cond.methodLink RX8 197 yX8_govern ∈ tb := tbm 973 (by decide +kernel) rfl
theorem k_975 : Cond.instanceMethod yX8_govern ∈ tb := tbm 975 (by decide +kernel) rfl
set_option maxRecDepth 100000 in
theorem k_976 : Cond.code yX8_govern cX8_govern 3 none ∈ tb := tbm 976 (by rfl) rfl
theorem k_977 : Cond.methodLink RX8 203 yX8_number0 ∈ tb := tbm 977 (by decide +kernel) rfl
theorem k_979 : Cond.instanceMethod yX8_number0 ∈ tb := tbm 979 (by decide +kernel) rfl
set_option maxRecDepth 100000 in
theorem k_980 : Cond.code yX8_number0 cX8_number0 1 (some .int) ∈ tb := tbm 980 (by rfl) rfl
theorem k_981 : Cond.methodLink RX8 206 yX8_told ∈ tb := tbm 981 (by decide +kernel) rfl
theorem k_983 : Cond.instanceMethod yX8_told ∈ tb := tbm 983 (by decide +kernel) rfl
set_option maxRecDepth 100000 in
theorem k_984 : Cond.code yX8_told cX8_told 2 (some .int) ∈ tb := tbm 984 (by rfl) rfl
theorem k_985 : Cond.methodLink RX8 138 yX8_turn ∈ tb := tbm 985 (by decide +kernel) rfl
theorem k_987 : Cond.instanceMethod yX8_turn ∈ tb := tbm 987 (by decide +kernel) rfl
set_option maxRecDepth 100000 in
theorem k_988 : Cond.code yX8_turn cX8_turn 5 none ∈ tb := tbm 988 (by rfl) rfl
theorem k_989 : Cond.constantLong "ErrorNamesModel" 148 (-1 : Int64) ∈ tb := tbm 989 (by decide +kernel) rfl
theorem k_990 : Cond.methodLink RL 61 yX8_size ∈ tb := tbm 990 (by decide +kernel) rfl
theorem k_991 : Cond.instanceMethod yX8_size ∈ tb := tbm 991 (by decide +kernel) rfl
theorem k_992 : Cond.selects RX8 yX8_size yX8_size ∈ tb := tbm 992 (by decide +kernel) rfl
set_option maxRecDepth 100000 in
theorem k_993 : Cond.code yX8_size cX8_size 1 (some .int) ∈ tb := tbm 993 (by rfl) rfl
theorem k_994 : Cond.methodLink RL 67 yX8_value ∈ tb := tbm 994 (by decide +kernel) rfl
theorem k_995 : Cond.instanceMethod yX8_value ∈ tb := tbm 995 (by decide +kernel) rfl
theorem k_996 : Cond.selects RX8 yX8_value yX8_value ∈ tb := tbm 996 (by decide +kernel) rfl
set_option maxRecDepth 100000 in
theorem k_997 : Cond.code yX8_value cX8_value 3 (some .int) ∈ tb := tbm 997 (by rfl) rfl
theorem k_998 : Cond.methodLink RL 74 yX8_record ∈ tb := tbm 998 (by decide +kernel) rfl
theorem k_999 : Cond.instanceMethod yX8_record ∈ tb := tbm 999 (by decide +kernel) rfl
theorem k_1000 : Cond.selects RX8 yX8_record yX8_record ∈ tb := tbm 1000 (by decide +kernel) rfl
set_option maxRecDepth 100000 in
theorem k_1001 : Cond.code yX8_record cX8_record 2 (some .int) ∈ tb := tbm 1001 (by rfl) rfl
theorem k_1002 : Cond.methodLink RL 77 yX8_kept ∈ tb := tbm 1002 (by decide +kernel) rfl
theorem k_1003 : Cond.instanceMethod yX8_kept ∈ tb := tbm 1003 (by decide +kernel) rfl
theorem k_1004 : Cond.selects RX8 yX8_kept yX8_kept ∈ tb := tbm 1004 (by decide +kernel) rfl
set_option maxRecDepth 100000 in
theorem k_1005 : Cond.code yX8_kept cX8_kept 3 (some .int) ∈ tb := tbm 1005 (by rfl) rfl
theorem k_1006 : Cond.methodLink RL 80 yX8_handler ∈ tb := tbm 1006 (by decide +kernel) rfl
theorem k_1007 : Cond.instanceMethod yX8_handler ∈ tb := tbm 1007 (by decide +kernel) rfl
theorem k_1008 : Cond.selects RX8 yX8_handler yX8_handler ∈ tb := tbm 1008 (by decide +kernel) rfl
set_option maxRecDepth 100000 in
theorem k_1009 : Cond.code yX8_handler cX8_handler 2 (some .int) ∈ tb := tbm 1009 (by rfl) rfl
theorem k_1010 : Cond.methodLink RL 83 yX8_named ∈ tb := tbm 1010 (by decide +kernel) rfl
theorem k_1011 : Cond.instanceMethod yX8_named ∈ tb := tbm 1011 (by decide +kernel) rfl
theorem k_1012 : Cond.selects RX8 yX8_named yX8_named ∈ tb := tbm 1012 (by decide +kernel) rfl
set_option maxRecDepth 100000 in
theorem k_1013 : Cond.code yX8_named cX8_named 3 (some .int) ∈ tb := tbm 1013 (by rfl) rfl
theorem k_1014 : Cond.methodLink RL 87 yX8_forget ∈ tb := tbm 1014 (by decide +kernel) rfl
theorem k_1015 : Cond.instanceMethod yX8_forget ∈ tb := tbm 1015 (by decide +kernel) rfl
theorem k_1016 : Cond.selects RX8 yX8_forget yX8_forget ∈ tb := tbm 1016 (by decide +kernel) rfl
set_option maxRecDepth 100000 in
theorem k_1017 : Cond.code yX8_forget cX8_forget 3 (some .int) ∈ tb := tbm 1017 (by rfl) rfl
end
section
/-! a store: ints by cell and slot; the one row of longs -/
abbrev St : Type := (Nat → Nat → Int32) × (Nat → Int64)
def si (S : St) (c k : Nat) (v : Int32) : St := (fun c' => if c' = c then upd (S.1 c) k v else S.1 c', S.2)
def sl (S : St) (k : Nat) (v : Int64) : St := (S.1, vp_updL S.2 k v)
/-- an index within a row of n places (vp_in, as simp and 'if' can decide it) -/
abbrev vq (i : Int32) (n : Nat) : Prop := ¬ (i < 0 ∨ n ≤ i.toNatClampNeg)
/-- a step that changes the store -/
def stp {α : Type} (S : St) (k : St → Option α) : Option α := k S
/-- a value gets a name -/
def stv {α : Type} (v : Int32) (k : Int32 → Option α) : Option α := k v
def stw {α : Type} (v : Int64) (k : Int64 → Option α) : Option α := k v
/-- a call -/
def bnd {α : Type} (o : Option (Int32 × St)) (k : Int32 → St → Option α) : Option α := match o with
  | none => none
  | some (r, S) => k r S
theorem stp_e {α : Type} {S : St} {k : St → Option α} {x : α} (h : stp S k = some x) : ∃ S1, S1 = S ∧ k S1 = some x := ⟨S, rfl, h⟩
theorem stv_e {α : Type} {v : Int32} {k : Int32 → Option α} {x : α} (h : stv v k = some x) : ∃ y, y = v ∧ k y = some x := ⟨v, rfl, h⟩
theorem stw_e {α : Type} {v : Int64} {k : Int64 → Option α} {x : α} (h : stw v k = some x) : ∃ y, y = v ∧ k y = some x := ⟨v, rfl, h⟩
theorem bnd_e {α : Type} {o : Option (Int32 × St)} {k : Int32 → St → Option α} {x : α} (h : bnd o k = some x) : ∃ r S1, o = some (r, S1) ∧ k r S1 = some x := by
  cases o with
  | none => cases h
  | some q => exact ⟨q.1, q.2, rfl, h⟩
theorem ifp {α : Type} {c : Prop} [Decidable c] {t e : Option α} {x : α} (h : c) (hf : (if c then t else e) = some x) : t = some x := by rwa [if_pos h] at hf
theorem ifq {α : Type} {c : Prop} [Decidable c] {t e : Option α} {x : α} (h : ¬ c) (hf : (if c then t else e) = some x) : e = some x := by rwa [if_neg h] at hf
theorem ifn {α : Type} {c : Prop} [Decidable c] {t : Option α} {x : α} (hf : (if c then t else none) = some x) : c ∧ t = some x := by
  by_cases h : c
  · exact ⟨h, by rwa [if_pos h] at hf⟩
  · rw [if_neg h] at hf; cases hf
theorem nti {x y : Int32} (h : ¬ x = y) : x.toInt ≠ y.toInt := fun e => h (Int32.toInt_inj.mp e)
/-- the cells that a method of a world of n cells may change -/
def AR (a : Nat → Nat) (n sz : Nat) : Nat → Prop := fun q => (∃ i, i < n ∧ q = a i) ∨ sz ≤ q
theorem AR.up {a : Nat → Nat} {n sz sz' : Nat} (h : sz ≤ sz') : ∀ q, AR a n sz' q → AR a n sz q := fun _ hq => hq.elim Or.inl (fun h1 => Or.inr (Nat.le_trans h h1))
/-- the table of what operators take: where it lies, what it holds -/
def TK (tk : Nat) (tf : Nat → Int32) (A : Nat → Prop) (U : State) : Prop := va_Z "ErrorNames" "TAKES" "[I" (.ref tk) A U U.heap ∧ va_T .int tk 112 (fun j => .int (tf j)) A U U.heap
/-- what holds throughout a method's walk -/
def Cx (p : Program) (s : State) (m : MethodId) (args : Array Value) (meth : Method) (c : Code) (own : String) (cc : ByteArray) (nL : Nat) (D : va_G) (cI cJ : ClassId) (tk : Nat) (tf : Nat → Int32) (A : Nat → Prop) : Prop :=
  p.tables.exec = Jvm.exec ∧ c.code = cc ∧ c.maxLocals = nL ∧ s.vm.findClass own = some m.cls ∧ (∀ w ∈ tb, w.before args s = true) ∧ va_K D vwCl [(cI, .int), (cJ, .long)] s ∧ meth.locks = false ∧ TK tk tf A s
/-- the world at a point of the walk -/
def Wd (D : va_G) (w : St → va_W) (A : Nat → Prop) (s : State) (S : St) (H : Heap) (locs : List Loc) : Prop := va_P D vwCl (w S) H ∧ va_D A (w S) ∧ va_S A s.heap H locs
def Pr (D : va_G) (w : St → va_W) (a : Nat → Nat) (n : Nat) (cI cJ : ClassId) (tk : Nat) (tf : Nat → Int32) (sz : Nat) (S : St) (U : State) : Prop :=
  U.heap.size = sz ∧ va_P D vwCl (w S) U.heap ∧ va_K D vwCl [(cI, .int), (cJ, .long)] U ∧ va_D (AR a n sz) (w S) ∧ TK tk tf (AR a n sz) U
def Bo (D : va_G) (w : St → va_W) (A : Nat → Prop) (u : St) (t : State) : Prop := va_P D vwCl (w u) t.heap ∧ va_D A (w u)
abbrev Qi (D : va_G) (w : St → va_W) (A : Nat → Prop) (x : Int32 × St) : Array Value → State → Outcome → State → Prop := va_Qi (fun (r : Int32) (u : St) => (r, u) = x) (Bo D w A) A
abbrev Qv (D : va_G) (w : St → va_W) (A : Nat → Prop) (x : Int32 × St) : Array Value → State → Outcome → State → Prop := va_Qv (fun (u : St) => ((0 : Int32), u) = x) (Bo D w A) A
/-- a method's contract: an int comes back -/
def Mi (l : Launch) (D : va_G) (w : St → va_W) (a : Nat → Nat) (n : Nat) (cI cJ : ClassId) (tk : Nat) (tf : Nat → Int32) (y : MethodName) (cc : ByteArray) (mL : Nat) (ret : Option FieldType) (rm : Room) (As : List Value) (S : St) (x : Int32 × St) : Prop :=
  ∀ sz, Met l y (.code y cc mL ret :: tb) rm (va_Pc As (Pr D w a n cI cJ tk tf sz S)) (Qi D w (AR a n sz) x) 0 0 (AR a n sz)
def Mv (l : Launch) (D : va_G) (w : St → va_W) (a : Nat → Nat) (n : Nat) (cI cJ : ClassId) (tk : Nat) (tf : Nat → Int32) (y : MethodName) (cc : ByteArray) (mL : Nat) (rm : Room) (As : List Value) (S : St) (x : Int32 × St) : Prop :=
  ∀ sz, Met l y (.code y cc mL none :: tb) rm (va_Pc As (Pr D w a n cI cJ tk tf sz S)) (Qv D w (AR a n sz) x) 0 0 (AR a n sz)
theorem TK.moved {tk : Nat} {tf : Nat → Int32} {A B : Nat → Prop} {s U : State} {locs : List Loc} {H0 : Heap} (h : TK tk tf A s) (h0 : H0 = s.heap) (hS : va_S A H0 U.heap locs) (hvm : s.vm.Alike U.vm) (hAB : ∀ q, B q → A q) : TK tk tf B U := by
  subst h0
  have hq : ∀ a : Nat, a < s.heap.size → ¬ A a → U.heap[a]? = s.heap[a]? := fun a h1 h2 => hS.2.1 a h1 h2
  exact ⟨((h.1.kept hq).moved hvm).narrow hAB, ((h.2.kept hq).moved hvm).narrow hAB⟩
theorem Pr.blind {D : va_G} {w : St → va_W} {a : Nat → Nat} {n : Nat} {cI cJ : ClassId} {tk : Nat} {tf : Nat → Int32} {sz : Nat} {S : St} {As : List Value} : FrameBlind (va_Pc As (Pr D w a n cI cJ tk tf sz S)) := by
  intro v U g mk hq
  obtain ⟨h1, h2, h3, h4, h5, h6, h7⟩ := hq
  exact ⟨h1, h2, h3, va_K.moved (u := U) (U := U.calling g mk v) (Vm.Alike.refl U.vm) h4, h5, va_Z.moved (u := U) (U := U.calling g mk v) (Vm.Alike.refl U.vm) h6, va_T.moved (u := U) (U := U.calling g mk v) (Vm.Alike.refl U.vm) h7⟩
section RR
variable {p : Program} {l : Launch} {e : Env} {R : Room} {s : State} {m : MethodId} {args : Array Value} {below : List Frame} {meth : Method} {c : Code} {H : Heap} {locs : List Loc} {cells slots : Nat} {Q : State → Prop}
variable {own : String} {cc : ByteArray} {nL : Nat} {D : va_G} {cI cJ : ClassId} {tk : Nat} {tf : Nat → Int32} {A : Nat → Prop} {w : St → va_W} {S : St} {pc : Nat} {ls : Array Slot} {rest : List Value}
theorem nm_i {x y : Int32} (h : y = x) (k : W p l e R s m args below meth c H locs cells slots Q (F0 m pc ls (.int y :: rest))) : W p l e R s m args below meth c H locs cells slots Q (F0 m pc ls (.int x :: rest)) := h ▸ k
theorem nm_l {x y : Int64} (h : y = x) (k : W p l e R s m args below meth c H locs cells slots Q (F0 m pc ls (.long y :: rest))) : W p l e R s m args below meth c H locs cells slots Q (F0 m pc ls (.long x :: rest)) := h ▸ k
theorem r_get (C : Cx p s m args meth c own cc nL D cI cJ tk tf A) (G : Wd D w A s S H locs) {Cn ref : String} {T : u_T} {N ci index q0 k a : Nat} {fs : List Value} {v : Value} (hin : ∀ w' ∈ u_ws Cn T N, w' ∈ tb) (he : (w S)[q0]? = some (a, .inr (ci, fs))) (hc : vwCl[ci]? = some (Cn, T, N)) (hk : k < N) (hl : Cond.fieldLink own index ref (T k).2.1 (T k).2.2.1 ∈ tb) (hr : (T k).1 = ref) (hv : fs[k]? = some v) (hdg : decode cc pc = .ok (.getfield index, 3))
    (kk : W p l e R s m args below meth c H locs cells slots Q (F0 m (pc + 3) ls (v :: rest))) : W p l e R s m args below meth c H locs cells slots Q (F0 m pc ls (.ref a :: rest)) := by
  obtain ⟨hx, hb, -, hown, hts, hK, -, -⟩ := C
  subst hr
  exact va_get (ci := ci) (v := v) (C := Cn) (T := T) (N := N) hx hb hts hin hown hK G.1 q0 he hc k hk (hts _ hl) (fun _ h9 => h9) hv hdg kk
theorem r_put (C : Cx p s m args meth c own cc nL D cI cJ tk tf A) (G : Wd D w A s S H locs) {Cn ref : String} {T : u_T} {N ci index q0 k a : Nat} {fs : List Value} {v : Value} {S' : St} {ty : FieldType} (hin : ∀ w' ∈ u_ws Cn T N, w' ∈ tb) (ty0 : Nat → FieldType) (hty : ∀ k, k < N → parseFieldDescriptor (T k).2.2.1 = some (ty0 k)) (hnm : ∀ a, a < N → ∀ b, b < N → a ≠ b → (T a).2.1 ≠ (T b).2.1) (he : (w S)[q0]? = some (a, .inr (ci, fs))) (hc : vwCl[ci]? = some (Cn, T, N)) (hk : k < N) (hl : Cond.fieldLink own index ref (T k).2.1 (T k).2.2.1 ∈ tb) (hr : (T k).1 = ref) (hfin : (T k).2.2.2 = false) (hd : parseFieldDescriptor (T k).2.2.1 = some ty) (hn : narrow ty v = v) (hfit : fits ty v = true) (hlen : k < fs.length) (hset : (w S).set q0 (a, .inr (ci, fs.set k v)) = w S') (hdg : decode cc pc = .ok (.putfield index, 3))
    (kk : ∀ (H : Heap) (locs : List Loc), Wd D w A s S' H locs → W p l e R s m args below meth c H locs cells slots Q (F0 m (pc + 3) ls rest)) : W p l e R s m args below meth c H locs cells slots Q (F0 m pc ls (v :: .ref a :: rest)) := by
  obtain ⟨hx, hb, -, hown, hts, hK, -, -⟩ := C
  subst hr
  refine va_put (ci := ci) (v := v) (ty := ty) (C := Cn) (T := T) (N := N) hx hb hts hin ty0 hty hnm hown hK G.1 G.2.1 G.2.2 q0 he hc k hk (hts _ hl) (fun _ h9 => h9) hfin hd hn hfit hlen hdg (fun H1 locs1 hP hD hS => ?_)
  rw [hset] at hP hD
  exact kk H1 locs1 ⟨hP, hD, hS⟩
theorem r_iald (C : Cx p s m args meth c own cc nL D cI cJ tk tf A) (G : Wd D w A s S H locs) {q0 a n : Nat} {f : Nat → Int32} {i : Int32} (he : (w S)[q0]? = some (a, .inl (cI, n, .inl f))) (hin : vp_in i n) (hdg : decode cc pc = .ok (.iaload, 1))
    (kk : W p l e R s m args below meth c H locs cells slots Q (F0 m (pc + 1) ls (.int (f i.toNatClampNeg) :: rest))) : W p l e R s m args below meth c H locs cells slots Q (F0 m pc ls (.int i :: .ref a :: rest)) := by
  obtain ⟨hx, hb, -, -, -, hK, -, -⟩ := C
  exact va_iald hx hb hK G.1 q0 0 he rfl hin hdg kk
theorem r_lald (C : Cx p s m args meth c own cc nL D cI cJ tk tf A) (G : Wd D w A s S H locs) {q0 a n : Nat} {f : Nat → Int64} {i : Int32} (he : (w S)[q0]? = some (a, .inl (cJ, n, .inr (.inl f)))) (hin : vp_in i n) (hdg : decode cc pc = .ok (.laload, 1))
    (kk : W p l e R s m args below meth c H locs cells slots Q (F0 m (pc + 1) ls (.long (f i.toNatClampNeg) :: rest))) : W p l e R s m args below meth c H locs cells slots Q (F0 m pc ls (.int i :: .ref a :: rest)) := by
  obtain ⟨hx, hb, -, -, -, hK, -, -⟩ := C
  exact va_lald hx hb hK G.1 q0 1 he rfl hin hdg kk
theorem r_iast (C : Cx p s m args meth c own cc nL D cI cJ tk tf A) (G : Wd D w A s S H locs) {q0 a n : Nat} {f : Nat → Int32} {i x : Int32} {S' : St} (he : (w S)[q0]? = some (a, .inl (cI, n, .inl f))) (hin : vp_in i n) (hset : (w S).set q0 (a, .inl (cI, n, .inl (upd f i.toNatClampNeg x))) = w S') (hdg : decode cc pc = .ok (.iastore, 1))
    (kk : ∀ (H : Heap) (locs : List Loc), Wd D w A s S' H locs → W p l e R s m args below meth c H locs cells slots Q (F0 m (pc + 1) ls rest)) : W p l e R s m args below meth c H locs cells slots Q (F0 m pc ls (.int x :: .int i :: .ref a :: rest)) := by
  obtain ⟨hx, hb, -, -, -, hK, -, -⟩ := C
  refine va_iast hx hb hK G.1 G.2.1 G.2.2 q0 0 he rfl hin hdg (fun H1 locs1 hP hD hS => ?_)
  rw [hset] at hP hD
  exact kk H1 locs1 ⟨hP, hD, hS⟩
theorem r_last (C : Cx p s m args meth c own cc nL D cI cJ tk tf A) (G : Wd D w A s S H locs) {q0 a n : Nat} {f : Nat → Int64} {i : Int32} {x : Int64} {S' : St} (he : (w S)[q0]? = some (a, .inl (cJ, n, .inr (.inl f)))) (hin : vp_in i n) (hset : (w S).set q0 (a, .inl (cJ, n, .inr (.inl (vp_updL f i.toNatClampNeg x)))) = w S') (hdg : decode cc pc = .ok (.lastore, 1))
    (kk : ∀ (H : Heap) (locs : List Loc), Wd D w A s S' H locs → W p l e R s m args below meth c H locs cells slots Q (F0 m (pc + 1) ls rest)) : W p l e R s m args below meth c H locs cells slots Q (F0 m pc ls (.long x :: .int i :: .ref a :: rest)) := by
  obtain ⟨hx, hb, -, -, -, hK, -, -⟩ := C
  refine va_last hx hb hK G.1 G.2.1 G.2.2 q0 1 he rfl hin hdg (fun H1 locs1 hP hD hS => ?_)
  rw [hset] at hP hD
  exact kk H1 locs1 ⟨hP, hD, hS⟩
theorem r_alen (C : Cx p s m args meth c own cc nL D cI cJ tk tf A) (G : Wd D w A s S H locs) {q0 a n : Nat} {f : Nat → Int32} {v : Int32} (he : (w S)[q0]? = some (a, .inl (cI, n, .inl f))) (hv : Int32.ofNat n = v) (hdg : decode cc pc = .ok (.arraylength, 1))
    (kk : W p l e R s m args below meth c H locs cells slots Q (F0 m (pc + 1) ls (.int v :: rest))) : W p l e R s m args below meth c H locs cells slots Q (F0 m pc ls (.ref a :: rest)) := by
  obtain ⟨hx, hb, -, -, -, hK, -, -⟩ := C
  exact va_alen hx hb hK G.1 q0 0 he (ty := .int) rfl hv hdg kk
theorem r_iret {x : Int32 × St} {v : Int32} (C : Cx p s m args meth c own cc nL D cI cJ tk tf A) (hr : meth.sig.returnType = some .int) (G : Wd D w A s S H locs) (hf : some (v, S) = some x) (hdg : decode cc pc = .ok (.ireturn, 1)) : W p l e R s m args below meth c H locs cells slots (MQ below (Qi D w A x) args s cells slots A) (F0 m pc ls [.int v]) := by
  obtain ⟨hx, hb, -, -, -, -, hlocks, -⟩ := C
  exact W.iret hx hb hr (fun t ht _ => ⟨⟨v, S, rfl, Option.some.inj hf, by rw [ht]; exact G.1, G.2.1⟩, G.2.2.F ht⟩) G.2.2.2.2 hdg hlocks
theorem r_zret {x : Int32 × St} {v : Int32} (C : Cx p s m args meth c own cc nL D cI cJ tk tf A) (hr : meth.sig.returnType = some .boolean) (hv : v = 0 ∨ v = 1) (G : Wd D w A s S H locs) (hf : some (v, S) = some x) (hdg : decode cc pc = .ok (.ireturn, 1)) : W p l e R s m args below meth c H locs cells slots (MQ below (Qi D w A x) args s cells slots A) (F0 m pc ls [.int v]) := by
  obtain ⟨hx, hb, -, -, -, -, hlocks, -⟩ := C
  exact W.zret hx hb hr (by rcases hv with rfl | rfl <;> decide +kernel) (fun t ht _ => ⟨⟨v, S, rfl, Option.some.inj hf, by rw [ht]; exact G.1, G.2.1⟩, G.2.2.F ht⟩) G.2.2.2.2 hdg hlocks
theorem r_vret {x : Int32 × St} (C : Cx p s m args meth c own cc nL D cI cJ tk tf A) (hr : meth.sig.returnType = none) (G : Wd D w A s S H locs) (hf : some ((0 : Int32), S) = some x) (hdg : decode cc pc = .ok (.return_, 1)) : W p l e R s m args below meth c H locs cells slots (MQ below (Qv D w A x) args s cells slots A) (F0 m pc ls []) := by
  obtain ⟨hx, hb, -, -, -, -, hlocks, -⟩ := C
  exact W.vret hx hb hr (fun t ht _ => ⟨⟨S, rfl, Option.some.inj hf, by rw [ht]; exact G.1, G.2.1⟩, G.2.2.F ht⟩) G.2.2.2.2 hdg hlocks
/-- the world's cells lie at the addresses a 0 .. a (n - 1) -/
def Ad (w : St → va_W) (a : Nat → Nat) (n : Nat) : Prop := ∀ (S : St) (k : Nat) (q : Nat × va_E), (w S)[k]? = some q → ∃ i, i < n ∧ q.1 = a i
theorem Ad_D {a : Nat → Nat} {n sz : Nat} {B : Nat → Prop} (h : Ad w a n) (hD : va_D B (w S)) : va_D (AR a n sz) (w S) := ⟨hD.1, fun k q hq => Or.inl (h S k q hq)⟩
theorem r_pre {a : Nat → Nat} {n : Nat} {As : List Value} (C : Cx p s m args meth c own cc nL D cI cJ tk tf (AR a n s.heap.size)) (hw : Ad w a n) (G : Wd D w (AR a n s.heap.size) s S H locs) : ∀ U : State, U.heap = H → s.WarmedH U.vm → va_Pc As (Pr D w a n cI cJ tk tf H.size S) As.toArray U := by
  intro U hU hW
  obtain ⟨-, -, -, -, -, hK, -, hT⟩ := C
  exact ⟨rfl, by rw [hU], by rw [hU]; exact G.1, va_K.moved hW.alike hK, Ad_D hw G.2.1, hT.moved rfl (by rw [hU]; exact G.2.2) hW.alike (AR.up G.2.2.1)⟩
theorem r_cali {a : Nat → Nat} {n : Nat} {y : MethodName} {bytes : ByteArray} {mL na index q0 ci b N : Nat} {ret : Option FieldType} {rm : Room} {As : List Value} {r : Int32} {S1 : St} {fs : List Value} {Cn : String} {T : u_T} {st : List Value}
    (C : Cx p s m args meth c own cc nL D cI cJ tk tf (AR a n s.heap.size)) (hw : Ad w a n) (G : Wd D w (AR a n s.heap.size) s S H locs) (hM : Mi l D w a n cI cJ tk tf y bytes mL ret rm (.ref b :: As) S (r, S1))
    (h1 : Cond.methodLink own index y ∈ tb) (h2 : Cond.instanceMethod y ∈ tb) (h3 : Cond.selects Cn y y ∈ tb) (h4 : Cond.initialized Cn ∈ tb) (h5 : Cond.code y bytes mL ret ∈ tb)
    (he : (w S)[q0]? = some (b, .inr (ci, fs))) (hc : vwCl[ci]? = some (Cn, T, N))
    (hd : y.cls = Cn ∧ y.cls ≠ "java/lang/invoke/MethodHandle" ∧ y.cls ≠ "java/lang/invoke/VarHandle" ∧ (parseMethodDescriptor y.desc).map (fun d => d.parameters.length) = some na) (hR : rm.frames + 1 ≤ R.frames ∧ 8 + (mL + 11) + rm.locals ≤ R.locals) (hrc : rm.cells = 0) (hrs : rm.slots = 0)
    (hz : cells ≤ R.cells ∧ slots ≤ R.slots) (hna : As.length = na) (hsize : ls.size = nL) (hst : st = As.reverse ++ .ref b :: rest) (hW : (rest.map fun v => v.category).sum ≤ 8) (hdg : decode cc pc = .ok (.invokevirtual index, 3))
    (kk : ∀ (H : Heap) (locs : List Loc), Wd D w (AR a n s.heap.size) s S1 H locs → W p l e R s m args below meth c H locs cells slots Q (F0 m (pc + 3) ls (.int r :: rest))) : W p l e R s m args below meth c H locs cells slots Q (F0 m pc ls st) := by
  have hpre := r_pre (As := .ref b :: As) C hw G
  obtain ⟨hx, hb, hml, hown, hts, hK, -, -⟩ := C
  refine va_calli (va_runV (g := F0 m pc ls st) (As := As) (rest := rest) ⟨hx, hb, hml, hown, hts⟩ (hM H.size) (cwV na hts (gdV (fun _ h => h) h1 h2 h3 h4 h5) rfl hrc hrs hd hR) ⟨Pr.blind, va_recv hK G.1 hc he, hpre⟩ rfl hna hsize hst (lv_room hW) hdg hz) G.2.2 (fun q _ h => AR.up G.2.2.1 q h) (AR.up G.2.2.1) (fun r' u t H1 locs1 ht hvm hp hB _ _ hS1 => ?_)
  cases hp
  exact kk H1 locs1 ⟨ht ▸ hB.1, ⟨hB.2.1, fun k q hq => AR.up G.2.2.1 _ (hB.2.2 k q hq)⟩, hS1⟩
theorem r_calv {a : Nat → Nat} {n : Nat} {y : MethodName} {bytes : ByteArray} {mL na index q0 ci b N : Nat} {rm : Room} {As : List Value} {r : Int32} {S1 : St} {fs : List Value} {Cn : String} {T : u_T} {st : List Value}
    (C : Cx p s m args meth c own cc nL D cI cJ tk tf (AR a n s.heap.size)) (hw : Ad w a n) (G : Wd D w (AR a n s.heap.size) s S H locs) (hM : Mv l D w a n cI cJ tk tf y bytes mL rm (.ref b :: As) S (r, S1))
    (h1 : Cond.methodLink own index y ∈ tb) (h2 : Cond.instanceMethod y ∈ tb) (h3 : Cond.selects Cn y y ∈ tb) (h4 : Cond.initialized Cn ∈ tb) (h5 : Cond.code y bytes mL none ∈ tb)
    (he : (w S)[q0]? = some (b, .inr (ci, fs))) (hc : vwCl[ci]? = some (Cn, T, N))
    (hd : y.cls = Cn ∧ y.cls ≠ "java/lang/invoke/MethodHandle" ∧ y.cls ≠ "java/lang/invoke/VarHandle" ∧ (parseMethodDescriptor y.desc).map (fun d => d.parameters.length) = some na) (hR : rm.frames + 1 ≤ R.frames ∧ 8 + (mL + 11) + rm.locals ≤ R.locals) (hrc : rm.cells = 0) (hrs : rm.slots = 0)
    (hz : cells ≤ R.cells ∧ slots ≤ R.slots) (hna : As.length = na) (hsize : ls.size = nL) (hst : st = As.reverse ++ .ref b :: rest) (hW : (rest.map fun v => v.category).sum ≤ 8) (hdg : decode cc pc = .ok (.invokevirtual index, 3))
    (kk : ∀ (H : Heap) (locs : List Loc), Wd D w (AR a n s.heap.size) s S1 H locs → W p l e R s m args below meth c H locs cells slots Q (F0 m (pc + 3) ls rest)) : W p l e R s m args below meth c H locs cells slots Q (F0 m pc ls st) := by
  have hpre := r_pre (As := .ref b :: As) C hw G
  obtain ⟨hx, hb, hml, hown, hts, hK, -, -⟩ := C
  refine va_callv (va_runV (g := F0 m pc ls st) (As := As) (rest := rest) ⟨hx, hb, hml, hown, hts⟩ (hM H.size) (cwV na hts (gdV (fun _ h => h) h1 h2 h3 h4 h5) rfl hrc hrs hd hR) ⟨Pr.blind, va_recv hK G.1 hc he, hpre⟩ rfl hna hsize hst (lv_room hW) hdg hz) G.2.2 (fun q _ h => AR.up G.2.2.1 q h) (AR.up G.2.2.1) (fun u t H1 locs1 ht hvm hp hB _ _ hS1 => ?_)
  cases hp
  exact kk H1 locs1 ⟨ht ▸ hB.1, ⟨hB.2.1, fun k q hq => AR.up G.2.2.1 _ (hB.2.2 k q hq)⟩, hS1⟩
theorem gdS {big : List Cond} (hb : ∀ w ∈ tb, w ∈ big) {own : String} {idx n : Nat} {y : MethodName} {bytes : ByteArray} {ret : Option FieldType} (h1 : Cond.methodLink own idx y ∈ tb) (h2 : Cond.static y ∈ tb) (h4 : Cond.initialized y.cls ∈ tb) (h5 : Cond.code y bytes n ret ∈ tb) : GoodIn big (va_wsS own idx y (.code y bytes n ret :: tb)) :=
  gdc hb h1 (gdc hb h2 (gdc hb h4 (gd hb h5)))
theorem r_cals {a : Nat → Nat} {n : Nat} {y : MethodName} {bytes : ByteArray} {mL na index : Nat} {ret : Option FieldType} {rm : Room} {As : List Value} {r : Int32} {S1 : St} {st : List Value}
    (C : Cx p s m args meth c own cc nL D cI cJ tk tf (AR a n s.heap.size)) (hw : Ad w a n) (G : Wd D w (AR a n s.heap.size) s S H locs) (hM : Mi l D w a n cI cJ tk tf y bytes mL ret rm As S (r, S1))
    (h1 : Cond.methodLink own index y ∈ tb) (h2 : Cond.static y ∈ tb) (h4 : Cond.initialized y.cls ∈ tb) (h5 : Cond.code y bytes mL ret ∈ tb)
    (hd : y.cls ≠ "java/lang/invoke/MethodHandle" ∧ y.cls ≠ "java/lang/invoke/VarHandle" ∧ (parseMethodDescriptor y.desc).map (fun d => d.parameters.length) = some na) (hR : rm.frames + 1 ≤ R.frames ∧ 8 + (mL + 11) + rm.locals ≤ R.locals) (hrc : rm.cells = 0) (hrs : rm.slots = 0)
    (hz : cells ≤ R.cells ∧ slots ≤ R.slots) (hna : As.length = na) (hsize : ls.size = nL) (hst : st = As.reverse ++ rest) (hW : (rest.map fun v => v.category).sum ≤ 8) (hdg : decode cc pc = .ok (.invokestatic index, 3))
    (kk : ∀ (H : Heap) (locs : List Loc), Wd D w (AR a n s.heap.size) s S1 H locs → W p l e R s m args below meth c H locs cells slots Q (F0 m (pc + 3) ls (.int r :: rest))) : W p l e R s m args below meth c H locs cells slots Q (F0 m pc ls st) := by
  have hpre := r_pre (As := As) C hw G
  obtain ⟨hx, hb, hml, hown, hts, hK, -, -⟩ := C
  refine va_calli (va_runS (g := F0 m pc ls st) (As := As) (rest := rest) ⟨hx, hb, hml, hown, hts⟩ (hM H.size) (va_cwS na hts (gdS (fun _ h => h) h1 h2 h4 h5) rfl hrc hrs hd hR) ⟨Pr.blind, hpre⟩ rfl hna hsize hst (lv_room hW) hdg hz) G.2.2 (fun q _ h => AR.up G.2.2.1 q h) (AR.up G.2.2.1) (fun r' u t H1 locs1 ht hvm hp hB _ _ hS1 => ?_)
  cases hp
  exact kk H1 locs1 ⟨ht ▸ hB.1, ⟨hB.2.1, fun k q hq => AR.up G.2.2.1 _ (hB.2.2 k q hq)⟩, hS1⟩
theorem r_calsv {a : Nat → Nat} {n : Nat} {y : MethodName} {bytes : ByteArray} {mL na index : Nat} {rm : Room} {As : List Value} {r : Int32} {S1 : St} {st : List Value}
    (C : Cx p s m args meth c own cc nL D cI cJ tk tf (AR a n s.heap.size)) (hw : Ad w a n) (G : Wd D w (AR a n s.heap.size) s S H locs) (hM : Mv l D w a n cI cJ tk tf y bytes mL rm As S (r, S1))
    (h1 : Cond.methodLink own index y ∈ tb) (h2 : Cond.static y ∈ tb) (h4 : Cond.initialized y.cls ∈ tb) (h5 : Cond.code y bytes mL none ∈ tb)
    (hd : y.cls ≠ "java/lang/invoke/MethodHandle" ∧ y.cls ≠ "java/lang/invoke/VarHandle" ∧ (parseMethodDescriptor y.desc).map (fun d => d.parameters.length) = some na) (hR : rm.frames + 1 ≤ R.frames ∧ 8 + (mL + 11) + rm.locals ≤ R.locals) (hrc : rm.cells = 0) (hrs : rm.slots = 0)
    (hz : cells ≤ R.cells ∧ slots ≤ R.slots) (hna : As.length = na) (hsize : ls.size = nL) (hst : st = As.reverse ++ rest) (hW : (rest.map fun v => v.category).sum ≤ 8) (hdg : decode cc pc = .ok (.invokestatic index, 3))
    (kk : ∀ (H : Heap) (locs : List Loc), Wd D w (AR a n s.heap.size) s S1 H locs → W p l e R s m args below meth c H locs cells slots Q (F0 m (pc + 3) ls rest)) : W p l e R s m args below meth c H locs cells slots Q (F0 m pc ls st) := by
  have hpre := r_pre (As := As) C hw G
  obtain ⟨hx, hb, hml, hown, hts, hK, -, -⟩ := C
  refine va_callv (va_runS (g := F0 m pc ls st) (As := As) (rest := rest) ⟨hx, hb, hml, hown, hts⟩ (hM H.size) (va_cwS na hts (gdS (fun _ h => h) h1 h2 h4 h5) rfl hrc hrs hd hR) ⟨Pr.blind, hpre⟩ rfl hna hsize hst (lv_room hW) hdg hz) G.2.2 (fun q _ h => AR.up G.2.2.1 q h) (AR.up G.2.2.1) (fun u t H1 locs1 ht hvm hp hB _ _ hS1 => ?_)
  cases hp
  exact kk H1 locs1 ⟨ht ▸ hB.1, ⟨hB.2.1, fun k q hq => AR.up G.2.2.1 _ (hB.2.2 k q hq)⟩, hS1⟩
theorem r_tk (C : Cx p s m args meth c own cc nL D cI cJ tk tf A) (G : Wd D w A s S H locs) {index : Nat} (hl : Cond.fieldLink own index "ErrorNames" "TAKES" "[I" ∈ tb) (hdg : decode cc pc = .ok (.getstatic index, 3))
    (kk : W p l e R s m args below meth c H locs cells slots Q (F0 m (pc + 3) ls (.ref tk :: rest))) : W p l e R s m args below meth c H locs cells slots Q (F0 m pc ls rest) := by
  obtain ⟨hx, hb, -, hown, hts, -, -, hT⟩ := C
  exact va_gets hx hb hT.1 G.2.2 hown (hts _ hl) (fun _ h => h) hdg kk
theorem r_tkl (C : Cx p s m args meth c own cc nL D cI cJ tk tf A) (G : Wd D w A s S H locs) (hdg : decode cc pc = .ok (.arraylength, 1))
    (kk : W p l e R s m args below meth c H locs cells slots Q (F0 m (pc + 1) ls (.int 112 :: rest))) : W p l e R s m args below meth c H locs cells slots Q (F0 m pc ls (.ref tk :: rest)) := by
  obtain ⟨hx, hb, -, hown, hts, -, -, hT⟩ := C
  exact va_tlen hx hb hT.2 G.2.2 rfl hdg kk
theorem r_tki (C : Cx p s m args meth c own cc nL D cI cJ tk tf A) (G : Wd D w A s S H locs) {i : Int32} (hin : vp_in i 112) (hdg : decode cc pc = .ok (.iaload, 1))
    (kk : W p l e R s m args below meth c H locs cells slots Q (F0 m (pc + 1) ls (.int (tf i.toNatClampNeg) :: rest))) : W p l e R s m args below meth c H locs cells slots Q (F0 m pc ls (.int i :: .ref tk :: rest)) := by
  obtain ⟨hx, hb, -, hown, hts, -, -, hT⟩ := C
  exact va_ti hx hb hT.2 G.2.2 hin rfl hdg kk
end RR
/-- the opening of a method's walk -/
theorem opn_i {l : Launch} {D : va_G} {w : St → va_W} {a : Nat → Nat} {n : Nat} {cI cJ : ClassId} {tk : Nat} {tf : Nat → Int32} {y : MethodName} {cc : ByteArray} {mL : Nat} {ret : Option FieldType} {rm : Room} {As : List Value} {S : St} {x : Int32 × St} (hy : plainName y.cls = true) (hn : (lg_sl As).length ≤ mL)
    (h : ∀ (p : Program) (e : Env) (s : State) (m : MethodId) (below : List Frame) (meth : Method) (c : Code), Cx p s m As.toArray meth c y.cls cc mL D cI cJ tk tf (AR a n s.heap.size) → meth.sig.returnType = ret → Wd D w (AR a n s.heap.size) s S s.heap [] → ∀ ls, lv_has ls mL (lv_args 0 As) →
      W p l e rm s m As.toArray below meth c s.heap [] 0 0 (MQ below (Qi D w (AR a n s.heap.size) x) As.toArray s 0 0 (AR a n s.heap.size)) (F0 m 0 ls [])) : Mi l D w a n cI cJ tk tf y cc mL ret rm As S x := by
  intro sz
  refine Met.ofW (cc := cc) (maxL := mL) (ret := ret) hy rfl ?_
  intro p e s m args below meth c s₁ B hml hv
  obtain ⟨rfl, hsz, hP, hK, hD, hT⟩ := hv
  subst hsz
  rw [lg_entry_eq]
  exact h p e s m below meth c ⟨B.exec, B.bytes, hml, findClass_of_methodNamed B.named, fun w hw => atoms_spec (ws := .code y cc mL ret :: tb) B.pre w (List.mem_cons_of_mem _ hw), hK, B.notSynchronized, hT⟩ B.returns ⟨hP, hD, va_S.rf⟩ _ (lv_entry As hn)
theorem opn_v {l : Launch} {D : va_G} {w : St → va_W} {a : Nat → Nat} {n : Nat} {cI cJ : ClassId} {tk : Nat} {tf : Nat → Int32} {y : MethodName} {cc : ByteArray} {mL : Nat} {rm : Room} {As : List Value} {S : St} {x : Int32 × St} (hy : plainName y.cls = true) (hn : (lg_sl As).length ≤ mL)
    (h : ∀ (p : Program) (e : Env) (s : State) (m : MethodId) (below : List Frame) (meth : Method) (c : Code), Cx p s m As.toArray meth c y.cls cc mL D cI cJ tk tf (AR a n s.heap.size) → meth.sig.returnType = none → Wd D w (AR a n s.heap.size) s S s.heap [] → ∀ ls, lv_has ls mL (lv_args 0 As) →
      W p l e rm s m As.toArray below meth c s.heap [] 0 0 (MQ below (Qv D w (AR a n s.heap.size) x) As.toArray s 0 0 (AR a n s.heap.size)) (F0 m 0 ls [])) : Mv l D w a n cI cJ tk tf y cc mL rm As S x := by
  intro sz
  refine Met.ofW (cc := cc) (maxL := mL) (ret := none) hy rfl ?_
  intro p e s m args below meth c s₁ B hml hv
  obtain ⟨rfl, hsz, hP, hK, hD, hT⟩ := hv
  subst hsz
  rw [lg_entry_eq]
  exact h p e s m below meth c ⟨B.exec, B.bytes, hml, findClass_of_methodNamed B.named, fun w hw => atoms_spec (ws := .code y cc mL none :: tb) B.pre w (List.mem_cons_of_mem _ hw), hK, B.notSynchronized, hT⟩ B.returns ⟨hP, hD, va_S.rf⟩ _ (lv_entry As hn)
/-- an answer that is the world's own cell b -/
abbrev Qr (b : Nat) (D : va_G) (w : St → va_W) (A : Nat → Prop) (x : Int32 × St) : Array Value → State → Outcome → State → Prop := va_Qr (fun (u : St) => ((0 : Int32), u) = x) (fun (u : St) (ra : Nat) (t : State) => ra = b ∧ Bo D w A u t) A
def Mr (b : Nat) (l : Launch) (D : va_G) (w : St → va_W) (a : Nat → Nat) (n : Nat) (cI cJ : ClassId) (tk : Nat) (tf : Nat → Int32) (y : MethodName) (cc : ByteArray) (mL : Nat) (ret : Option FieldType) (rm : Room) (As : List Value) (S : St) (x : Int32 × St) : Prop :=
  ∀ sz, Met l y (.code y cc mL ret :: tb) rm (va_Pc As (Pr D w a n cI cJ tk tf sz S)) (Qr b D w (AR a n sz) x) 0 0 (AR a n sz)
section RS
variable {p : Program} {l : Launch} {e : Env} {R : Room} {s : State} {m : MethodId} {args : Array Value} {below : List Frame} {meth : Method} {c : Code} {H : Heap} {locs : List Loc} {cells slots : Nat} {Q : State → Prop}
variable {own : String} {cc : ByteArray} {nL : Nat} {D : va_G} {cI cJ : ClassId} {tk : Nat} {tf : Nat → Int32} {A : Nat → Prop} {w : St → va_W} {S : St} {pc : Nat} {ls : Array Slot} {rest : List Value}
theorem r_aret {x : Int32 × St} {b : Nat} {cn : String} (C : Cx p s m args meth c own cc nL D cI cJ tk tf A) (hr : meth.sig.returnType = some (.object cn)) (G : Wd D w A s S H locs) (hf : some ((0 : Int32), S) = some x) (hdg : decode cc pc = .ok (.areturn, 1)) : W p l e R s m args below meth c H locs cells slots (MQ below (Qr b D w A x) args s cells slots A) (F0 m pc ls [.ref b]) := by
  obtain ⟨hx, hb, -, -, -, -, hlocks, -⟩ := C
  exact W.aret hx hb hr (Or.inl ⟨_, rfl⟩) (Or.inr ⟨_, rfl⟩) (fun t ht _ => ⟨⟨S, b, rfl, Option.some.inj hf, rfl, by rw [ht]; exact G.1, G.2.1⟩, G.2.2.F ht⟩) G.2.2.2.2 hdg hlocks
theorem r_calr {a : Nat → Nat} {n : Nat} {y : MethodName} {bytes : ByteArray} {mL na index q0 ci b b' N : Nat} {ret : Option FieldType} {rm : Room} {As : List Value} {r : Int32} {S1 : St} {fs : List Value} {Cn : String} {T : u_T} {st : List Value}
    (C : Cx p s m args meth c own cc nL D cI cJ tk tf (AR a n s.heap.size)) (hw : Ad w a n) (G : Wd D w (AR a n s.heap.size) s S H locs) (hM : Mr b' l D w a n cI cJ tk tf y bytes mL ret rm (.ref b :: As) S (r, S1))
    (h1 : Cond.methodLink own index y ∈ tb) (h2 : Cond.instanceMethod y ∈ tb) (h3 : Cond.selects Cn y y ∈ tb) (h4 : Cond.initialized Cn ∈ tb) (h5 : Cond.code y bytes mL ret ∈ tb)
    (he : (w S)[q0]? = some (b, .inr (ci, fs))) (hc : vwCl[ci]? = some (Cn, T, N))
    (hd : y.cls = Cn ∧ y.cls ≠ "java/lang/invoke/MethodHandle" ∧ y.cls ≠ "java/lang/invoke/VarHandle" ∧ (parseMethodDescriptor y.desc).map (fun d => d.parameters.length) = some na) (hR : rm.frames + 1 ≤ R.frames ∧ 8 + (mL + 11) + rm.locals ≤ R.locals) (hrc : rm.cells = 0) (hrs : rm.slots = 0)
    (hz : cells ≤ R.cells ∧ slots ≤ R.slots) (hna : As.length = na) (hsize : ls.size = nL) (hst : st = As.reverse ++ .ref b :: rest) (hW : (rest.map fun v => v.category).sum ≤ 8) (hdg : decode cc pc = .ok (.invokevirtual index, 3))
    (kk : ∀ (H : Heap) (locs : List Loc), Wd D w (AR a n s.heap.size) s S1 H locs → W p l e R s m args below meth c H locs cells slots Q (F0 m (pc + 3) ls (.ref b' :: rest))) : W p l e R s m args below meth c H locs cells slots Q (F0 m pc ls st) := by
  have hpre := r_pre (As := .ref b :: As) C hw G
  obtain ⟨hx, hb, hml, hown, hts, hK, -, -⟩ := C
  refine va_callr (va_runV (g := F0 m pc ls st) (As := As) (rest := rest) ⟨hx, hb, hml, hown, hts⟩ (hM H.size) (cwV na hts (gdV (fun _ h => h) h1 h2 h3 h4 h5) rfl hrc hrs hd hR) ⟨Pr.blind, va_recv hK G.1 hc he, hpre⟩ rfl hna hsize hst (lv_room hW) hdg hz) G.2.2 (fun q _ h => AR.up G.2.2.1 q h) (AR.up G.2.2.1) (fun u ra t H1 locs1 ht hvm hp hB _ _ hS1 => ?_)
  cases hp
  obtain ⟨rfl, hB⟩ := hB
  exact kk H1 locs1 ⟨ht ▸ hB.1, ⟨hB.2.1, fun k q hq => AR.up G.2.2.1 _ (hB.2.2 k q hq)⟩, hS1⟩
end RS
theorem opn_r {b : Nat} {l : Launch} {D : va_G} {w : St → va_W} {a : Nat → Nat} {n : Nat} {cI cJ : ClassId} {tk : Nat} {tf : Nat → Int32} {y : MethodName} {cc : ByteArray} {mL : Nat} {ret : Option FieldType} {rm : Room} {As : List Value} {S : St} {x : Int32 × St} (hy : plainName y.cls = true) (hn : (lg_sl As).length ≤ mL)
    (h : ∀ (p : Program) (e : Env) (s : State) (m : MethodId) (below : List Frame) (meth : Method) (c : Code), Cx p s m As.toArray meth c y.cls cc mL D cI cJ tk tf (AR a n s.heap.size) → meth.sig.returnType = ret → Wd D w (AR a n s.heap.size) s S s.heap [] → ∀ ls, lv_has ls mL (lv_args 0 As) →
      W p l e rm s m As.toArray below meth c s.heap [] 0 0 (MQ below (Qr b D w (AR a n s.heap.size) x) As.toArray s 0 0 (AR a n s.heap.size)) (F0 m 0 ls [])) : Mr b l D w a n cI cJ tk tf y cc mL ret rm As S x := by
  intro sz
  refine Met.ofW (cc := cc) (maxL := mL) (ret := ret) hy rfl ?_
  intro p e s m args below meth c s₁ B hml hv
  obtain ⟨rfl, hsz, hP, hK, hD, hT⟩ := hv
  subst hsz
  rw [lg_entry_eq]
  exact h p e s m below meth c ⟨B.exec, B.bytes, hml, findClass_of_methodNamed B.named, fun w hw => atoms_spec (ws := .code y cc mL ret :: tb) B.pre w (List.mem_cons_of_mem _ hw), hK, B.notSynchronized, hT⟩ B.returns ⟨hP, hD, va_S.rf⟩ _ (lv_entry As hn)
end
section
def wE (a : Nat → Nat) (cI cJ : ClassId) (S : St) : va_W := [(a 0, .inr (7, [.ref (a 1), .ref (a 5), .ref (a 8), .ref (a 11), .ref (a 13), .ref (a 20), .ref (a 24), .int (S.1 0 7), .int (S.1 0 8), .int (S.1 0 9), .int (S.1 0 10)])), (a 1, .inr (4, [.ref (a 2), .ref (a 3), .ref (a 4)])), (a 2, .inl (cI, 480, .inl (S.1 2))), (a 3, .inl (cI, 480, .inl (S.1 3))), (a 4, .inl (cI, 20, .inl (S.1 4))), (a 5, .inr (2, [.ref (a 6), .ref (a 7), .int (S.1 5 2)])), (a 6, .inl (cI, 60, .inl (S.1 6))), (a 7, .inl (cI, 60, .inl (S.1 7))), (a 8, .inr (6, [.ref (a 9), .ref (a 10)])), (a 9, .inl (cI, 40, .inl (S.1 9))), (a 10, .inl (cI, 40, .inl (S.1 10))), (a 11, .inr (1, [.ref (a 12)])), (a 12, .inl (cI, 12, .inl (S.1 12))), (a 13, .inr (0, [.ref (a 14), .ref (a 15), .ref (a 16), .ref (a 17), .ref (a 18), .ref (a 19), .int (S.1 13 6), .int (S.1 13 7)])), (a 14, .inl (cI, 30, .inl (S.1 14))), (a 15, .inl (cI, 30, .inl (S.1 15))), (a 16, .inl (cI, 30, .inl (S.1 16))), (a 17, .inl (cJ, 30, .inr (.inl S.2))), (a 18, .inl (cI, 30, .inl (S.1 18))), (a 19, .inl (cI, 30, .inl (S.1 19))), (a 20, .inr (5, [.ref (a 21), .int (S.1 20 1), .int (S.1 20 2), .int (S.1 20 3), .int (S.1 20 4), .int (S.1 20 5)])), (a 21, .inr (2, [.ref (a 22), .ref (a 23), .int (S.1 21 2)])), (a 22, .inl (cI, 60, .inl (S.1 22))), (a 23, .inl (cI, 60, .inl (S.1 23))), (a 24, .inr (3, [.ref (a 5), .ref (a 8)]))]
theorem adE {a : Nat → Nat} {cI cJ : ClassId} : Ad (wE a cI cJ) a 25 := by
  intro S k q h
  match k, h with
  | 0, h => cases h; exact ⟨0, by decide, rfl⟩
  | 1, h => cases h; exact ⟨1, by decide, rfl⟩
  | 2, h => cases h; exact ⟨2, by decide, rfl⟩
  | 3, h => cases h; exact ⟨3, by decide, rfl⟩
  | 4, h => cases h; exact ⟨4, by decide, rfl⟩
  | 5, h => cases h; exact ⟨5, by decide, rfl⟩
  | 6, h => cases h; exact ⟨6, by decide, rfl⟩
  | 7, h => cases h; exact ⟨7, by decide, rfl⟩
  | 8, h => cases h; exact ⟨8, by decide, rfl⟩
  | 9, h => cases h; exact ⟨9, by decide, rfl⟩
  | 10, h => cases h; exact ⟨10, by decide, rfl⟩
  | 11, h => cases h; exact ⟨11, by decide, rfl⟩
  | 12, h => cases h; exact ⟨12, by decide, rfl⟩
  | 13, h => cases h; exact ⟨13, by decide, rfl⟩
  | 14, h => cases h; exact ⟨14, by decide, rfl⟩
  | 15, h => cases h; exact ⟨15, by decide, rfl⟩
  | 16, h => cases h; exact ⟨16, by decide, rfl⟩
  | 17, h => cases h; exact ⟨17, by decide, rfl⟩
  | 18, h => cases h; exact ⟨18, by decide, rfl⟩
  | 19, h => cases h; exact ⟨19, by decide, rfl⟩
  | 20, h => cases h; exact ⟨20, by decide, rfl⟩
  | 21, h => cases h; exact ⟨21, by decide, rfl⟩
  | 22, h => cases h; exact ⟨22, by decide, rfl⟩
  | 23, h => cases h; exact ⟨23, by decide, rfl⟩
  | 24, h => cases h; exact ⟨24, by decide, rfl⟩
  | k + 25, h => exact absurd h (by simp [wE])
theorem gE_0_0 {p : Program} {l : Launch} {e : Env} {R : Room} {s : State} {m : MethodId} {args : Array Value} {below : List Frame} {meth : Method} {c : Code} {H : Heap} {locs : List Loc} {cells slots : Nat} {Q : State → Prop} {own : String} {cc : ByteArray} {nL : Nat} {D : va_G} {a : Nat → Nat} {cI cJ : ClassId} {tk : Nat} {tf : Nat → Int32} {A : Nat → Prop} {S : St} {pc : Nat} {ls : Array Slot} {rest : List Value} {index : Nat} (C : Cx p s m args meth c own cc nL D cI cJ tk tf A) (G : Wd D (wE a cI cJ) A s S H locs) (hl : Cond.fieldLink own index "ErrorNames" "procedures" "LErrorNames$Procedures;" ∈ tb) (hdg : decode cc pc = .ok (.getfield index, 3)) (kk : W p l e R s m args below meth c H locs cells slots Q (F0 m (pc + 3) ls (.ref (a 1) :: rest))) : W p l e R s m args below meth c H locs cells slots Q (F0 m pc ls (.ref (a 0) :: rest)) := r_get C G (Cn := RX7) (T := TX7) (N := 11) (ci := 7) (q0 := 0) (k := 0) inX7 rfl rfl (by decide) hl rfl rfl hdg kk
theorem gE_0_1 {p : Program} {l : Launch} {e : Env} {R : Room} {s : State} {m : MethodId} {args : Array Value} {below : List Frame} {meth : Method} {c : Code} {H : Heap} {locs : List Loc} {cells slots : Nat} {Q : State → Prop} {own : String} {cc : ByteArray} {nL : Nat} {D : va_G} {a : Nat → Nat} {cI cJ : ClassId} {tk : Nat} {tf : Nat → Int32} {A : Nat → Prop} {S : St} {pc : Nat} {ls : Array Slot} {rest : List Value} {index : Nat} (C : Cx p s m args meth c own cc nL D cI cJ tk tf A) (G : Wd D (wE a cI cJ) A s S H locs) (hl : Cond.fieldLink own index "ErrorNames" "pile" "LErrorNames$Pile;" ∈ tb) (hdg : decode cc pc = .ok (.getfield index, 3)) (kk : W p l e R s m args below meth c H locs cells slots Q (F0 m (pc + 3) ls (.ref (a 5) :: rest))) : W p l e R s m args below meth c H locs cells slots Q (F0 m pc ls (.ref (a 0) :: rest)) := r_get C G (Cn := RX7) (T := TX7) (N := 11) (ci := 7) (q0 := 0) (k := 1) inX7 rfl rfl (by decide) hl rfl rfl hdg kk
theorem gE_0_2 {p : Program} {l : Launch} {e : Env} {R : Room} {s : State} {m : MethodId} {args : Array Value} {below : List Frame} {meth : Method} {c : Code} {H : Heap} {locs : List Loc} {cells slots : Nat} {Q : State → Prop} {own : String} {cc : ByteArray} {nL : Nat} {D : va_G} {a : Nat → Nat} {cI cJ : ClassId} {tk : Nat} {tf : Nat → Int32} {A : Nat → Prop} {S : St} {pc : Nat} {ls : Array Slot} {rest : List Value} {index : Nat} (C : Cx p s m args meth c own cc nL D cI cJ tk tf A) (G : Wd D (wE a cI cJ) A s S H locs) (hl : Cond.fieldLink own index "ErrorNames" "table" "LErrorNames$Table;" ∈ tb) (hdg : decode cc pc = .ok (.getfield index, 3)) (kk : W p l e R s m args below meth c H locs cells slots Q (F0 m (pc + 3) ls (.ref (a 8) :: rest))) : W p l e R s m args below meth c H locs cells slots Q (F0 m pc ls (.ref (a 0) :: rest)) := r_get C G (Cn := RX7) (T := TX7) (N := 11) (ci := 7) (q0 := 0) (k := 2) inX7 rfl rfl (by decide) hl rfl rfl hdg kk
theorem gE_0_3 {p : Program} {l : Launch} {e : Env} {R : Room} {s : State} {m : MethodId} {args : Array Value} {below : List Frame} {meth : Method} {c : Code} {H : Heap} {locs : List Loc} {cells slots : Nat} {Q : State → Prop} {own : String} {cc : ByteArray} {nL : Nat} {D : va_G} {a : Nat → Nat} {cI cJ : ClassId} {tk : Nat} {tf : Nat → Int32} {A : Nat → Prop} {S : St} {pc : Nat} {ls : Array Slot} {rest : List Value} {index : Nat} (C : Cx p s m args meth c own cc nL D cI cJ tk tf A) (G : Wd D (wE a cI cJ) A s S H locs) (hl : Cond.fieldLink own index "ErrorNames" "handlers" "LErrorNames$Handlers;" ∈ tb) (hdg : decode cc pc = .ok (.getfield index, 3)) (kk : W p l e R s m args below meth c H locs cells slots Q (F0 m (pc + 3) ls (.ref (a 11) :: rest))) : W p l e R s m args below meth c H locs cells slots Q (F0 m pc ls (.ref (a 0) :: rest)) := r_get C G (Cn := RX7) (T := TX7) (N := 11) (ci := 7) (q0 := 0) (k := 3) inX7 rfl rfl (by decide) hl rfl rfl hdg kk
theorem gE_0_4 {p : Program} {l : Launch} {e : Env} {R : Room} {s : State} {m : MethodId} {args : Array Value} {below : List Frame} {meth : Method} {c : Code} {H : Heap} {locs : List Loc} {cells slots : Nat} {Q : State → Prop} {own : String} {cc : ByteArray} {nL : Nat} {D : va_G} {a : Nat → Nat} {cI cJ : ClassId} {tk : Nat} {tf : Nat → Int32} {A : Nat → Prop} {S : St} {pc : Nat} {ls : Array Slot} {rest : List Value} {index : Nat} (C : Cx p s m args meth c own cc nL D cI cJ tk tf A) (G : Wd D (wE a cI cJ) A s S H locs) (hl : Cond.fieldLink own index "ErrorNames" "frames" "LErrorNames$Frames;" ∈ tb) (hdg : decode cc pc = .ok (.getfield index, 3)) (kk : W p l e R s m args below meth c H locs cells slots Q (F0 m (pc + 3) ls (.ref (a 13) :: rest))) : W p l e R s m args below meth c H locs cells slots Q (F0 m pc ls (.ref (a 0) :: rest)) := r_get C G (Cn := RX7) (T := TX7) (N := 11) (ci := 7) (q0 := 0) (k := 4) inX7 rfl rfl (by decide) hl rfl rfl hdg kk
theorem gE_0_5 {p : Program} {l : Launch} {e : Env} {R : Room} {s : State} {m : MethodId} {args : Array Value} {below : List Frame} {meth : Method} {c : Code} {H : Heap} {locs : List Loc} {cells slots : Nat} {Q : State → Prop} {own : String} {cc : ByteArray} {nL : Nat} {D : va_G} {a : Nat → Nat} {cI cJ : ClassId} {tk : Nat} {tf : Nat → Int32} {A : Nat → Prop} {S : St} {pc : Nat} {ls : Array Slot} {rest : List Value} {index : Nat} (C : Cx p s m args meth c own cc nL D cI cJ tk tf A) (G : Wd D (wE a cI cJ) A s S H locs) (hl : Cond.fieldLink own index "ErrorNames" "report" "LErrorNames$Report;" ∈ tb) (hdg : decode cc pc = .ok (.getfield index, 3)) (kk : W p l e R s m args below meth c H locs cells slots Q (F0 m (pc + 3) ls (.ref (a 20) :: rest))) : W p l e R s m args below meth c H locs cells slots Q (F0 m pc ls (.ref (a 0) :: rest)) := r_get C G (Cn := RX7) (T := TX7) (N := 11) (ci := 7) (q0 := 0) (k := 5) inX7 rfl rfl (by decide) hl rfl rfl hdg kk
theorem gE_0_6 {p : Program} {l : Launch} {e : Env} {R : Room} {s : State} {m : MethodId} {args : Array Value} {below : List Frame} {meth : Method} {c : Code} {H : Heap} {locs : List Loc} {cells slots : Nat} {Q : State → Prop} {own : String} {cc : ByteArray} {nL : Nat} {D : va_G} {a : Nat → Nat} {cI cJ : ClassId} {tk : Nat} {tf : Nat → Int32} {A : Nat → Prop} {S : St} {pc : Nat} {ls : Array Slot} {rest : List Value} {index : Nat} (C : Cx p s m args meth c own cc nL D cI cJ tk tf A) (G : Wd D (wE a cI cJ) A s S H locs) (hl : Cond.fieldLink own index "ErrorNames" "pileOperators" "LErrorNames$PileOperators;" ∈ tb) (hdg : decode cc pc = .ok (.getfield index, 3)) (kk : W p l e R s m args below meth c H locs cells slots Q (F0 m (pc + 3) ls (.ref (a 24) :: rest))) : W p l e R s m args below meth c H locs cells slots Q (F0 m pc ls (.ref (a 0) :: rest)) := r_get C G (Cn := RX7) (T := TX7) (N := 11) (ci := 7) (q0 := 0) (k := 6) inX7 rfl rfl (by decide) hl rfl rfl hdg kk
theorem gE_0_7 {p : Program} {l : Launch} {e : Env} {R : Room} {s : State} {m : MethodId} {args : Array Value} {below : List Frame} {meth : Method} {c : Code} {H : Heap} {locs : List Loc} {cells slots : Nat} {Q : State → Prop} {own : String} {cc : ByteArray} {nL : Nat} {D : va_G} {a : Nat → Nat} {cI cJ : ClassId} {tk : Nat} {tf : Nat → Int32} {A : Nat → Prop} {S : St} {pc : Nat} {ls : Array Slot} {rest : List Value} {index : Nat} (C : Cx p s m args meth c own cc nL D cI cJ tk tf A) (G : Wd D (wE a cI cJ) A s S H locs) (hl : Cond.fieldLink own index "ErrorNames" "interrupted" "Z" ∈ tb) (hdg : decode cc pc = .ok (.getfield index, 3)) (kk : W p l e R s m args below meth c H locs cells slots Q (F0 m (pc + 3) ls (.int (S.1 0 7) :: rest))) : W p l e R s m args below meth c H locs cells slots Q (F0 m pc ls (.ref (a 0) :: rest)) := r_get C G (Cn := RX7) (T := TX7) (N := 11) (ci := 7) (q0 := 0) (k := 7) inX7 rfl rfl (by decide) hl rfl rfl hdg kk
theorem pE_0_7 {p : Program} {l : Launch} {e : Env} {R : Room} {s : State} {m : MethodId} {args : Array Value} {below : List Frame} {meth : Method} {c : Code} {H : Heap} {locs : List Loc} {cells slots : Nat} {Q : State → Prop} {own : String} {cc : ByteArray} {nL : Nat} {D : va_G} {a : Nat → Nat} {cI cJ : ClassId} {tk : Nat} {tf : Nat → Int32} {A : Nat → Prop} {S : St} {pc : Nat} {ls : Array Slot} {rest : List Value} {index : Nat} {v : Int32} (C : Cx p s m args meth c own cc nL D cI cJ tk tf A) (G : Wd D (wE a cI cJ) A s S H locs) (hb : v = 0 ∨ v = 1) (hl : Cond.fieldLink own index "ErrorNames" "interrupted" "Z" ∈ tb) (hdg : decode cc pc = .ok (.putfield index, 3)) (kk : ∀ (H : Heap) (locs : List Loc), Wd D (wE a cI cJ) A s (si S 0 7 v) H locs → W p l e R s m args below meth c H locs cells slots Q (F0 m (pc + 3) ls rest)) : W p l e R s m args below meth c H locs cells slots Q (F0 m pc ls (.int v :: .ref (a 0) :: rest)) := r_put C G (Cn := RX7) (T := TX7) (N := 11) (ci := 7) (q0 := 0) (k := 7) (ty := .boolean) inX7 tyX7 tyX7_ok nmX7 rfl rfl (by decide) hl rfl rfl (by decide +kernel) (by rcases hb with rfl | rfl <;> decide +kernel) (by rcases hb with rfl | rfl <;> decide +kernel) (Nat.le_of_ble_eq_true rfl) rfl hdg kk
theorem gE_0_8 {p : Program} {l : Launch} {e : Env} {R : Room} {s : State} {m : MethodId} {args : Array Value} {below : List Frame} {meth : Method} {c : Code} {H : Heap} {locs : List Loc} {cells slots : Nat} {Q : State → Prop} {own : String} {cc : ByteArray} {nL : Nat} {D : va_G} {a : Nat → Nat} {cI cJ : ClassId} {tk : Nat} {tf : Nat → Int32} {A : Nat → Prop} {S : St} {pc : Nat} {ls : Array Slot} {rest : List Value} {index : Nat} (C : Cx p s m args meth c own cc nL D cI cJ tk tf A) (G : Wd D (wE a cI cJ) A s S H locs) (hl : Cond.fieldLink own index "ErrorNames" "endedBy" "I" ∈ tb) (hdg : decode cc pc = .ok (.getfield index, 3)) (kk : W p l e R s m args below meth c H locs cells slots Q (F0 m (pc + 3) ls (.int (S.1 0 8) :: rest))) : W p l e R s m args below meth c H locs cells slots Q (F0 m pc ls (.ref (a 0) :: rest)) := r_get C G (Cn := RX7) (T := TX7) (N := 11) (ci := 7) (q0 := 0) (k := 8) inX7 rfl rfl (by decide) hl rfl rfl hdg kk
theorem pE_0_8 {p : Program} {l : Launch} {e : Env} {R : Room} {s : State} {m : MethodId} {args : Array Value} {below : List Frame} {meth : Method} {c : Code} {H : Heap} {locs : List Loc} {cells slots : Nat} {Q : State → Prop} {own : String} {cc : ByteArray} {nL : Nat} {D : va_G} {a : Nat → Nat} {cI cJ : ClassId} {tk : Nat} {tf : Nat → Int32} {A : Nat → Prop} {S : St} {pc : Nat} {ls : Array Slot} {rest : List Value} {index : Nat} {v : Int32} (C : Cx p s m args meth c own cc nL D cI cJ tk tf A) (G : Wd D (wE a cI cJ) A s S H locs) (hl : Cond.fieldLink own index "ErrorNames" "endedBy" "I" ∈ tb) (hdg : decode cc pc = .ok (.putfield index, 3)) (kk : ∀ (H : Heap) (locs : List Loc), Wd D (wE a cI cJ) A s (si S 0 8 v) H locs → W p l e R s m args below meth c H locs cells slots Q (F0 m (pc + 3) ls rest)) : W p l e R s m args below meth c H locs cells slots Q (F0 m pc ls (.int v :: .ref (a 0) :: rest)) := r_put C G (Cn := RX7) (T := TX7) (N := 11) (ci := 7) (q0 := 0) (k := 8) (ty := .int) inX7 tyX7 tyX7_ok nmX7 rfl rfl (by decide) hl rfl rfl (by decide +kernel) rfl rfl (Nat.le_of_ble_eq_true rfl) rfl hdg kk
theorem gE_0_9 {p : Program} {l : Launch} {e : Env} {R : Room} {s : State} {m : MethodId} {args : Array Value} {below : List Frame} {meth : Method} {c : Code} {H : Heap} {locs : List Loc} {cells slots : Nat} {Q : State → Prop} {own : String} {cc : ByteArray} {nL : Nat} {D : va_G} {a : Nat → Nat} {cI cJ : ClassId} {tk : Nat} {tf : Nat → Int32} {A : Nat → Prop} {S : St} {pc : Nat} {ls : Array Slot} {rest : List Value} {index : Nat} (C : Cx p s m args meth c own cc nL D cI cJ tk tf A) (G : Wd D (wE a cI cJ) A s S H locs) (hl : Cond.fieldLink own index "ErrorNames" "stepsDone" "I" ∈ tb) (hdg : decode cc pc = .ok (.getfield index, 3)) (kk : W p l e R s m args below meth c H locs cells slots Q (F0 m (pc + 3) ls (.int (S.1 0 9) :: rest))) : W p l e R s m args below meth c H locs cells slots Q (F0 m pc ls (.ref (a 0) :: rest)) := r_get C G (Cn := RX7) (T := TX7) (N := 11) (ci := 7) (q0 := 0) (k := 9) inX7 rfl rfl (by decide) hl rfl rfl hdg kk
theorem pE_0_9 {p : Program} {l : Launch} {e : Env} {R : Room} {s : State} {m : MethodId} {args : Array Value} {below : List Frame} {meth : Method} {c : Code} {H : Heap} {locs : List Loc} {cells slots : Nat} {Q : State → Prop} {own : String} {cc : ByteArray} {nL : Nat} {D : va_G} {a : Nat → Nat} {cI cJ : ClassId} {tk : Nat} {tf : Nat → Int32} {A : Nat → Prop} {S : St} {pc : Nat} {ls : Array Slot} {rest : List Value} {index : Nat} {v : Int32} (C : Cx p s m args meth c own cc nL D cI cJ tk tf A) (G : Wd D (wE a cI cJ) A s S H locs) (hl : Cond.fieldLink own index "ErrorNames" "stepsDone" "I" ∈ tb) (hdg : decode cc pc = .ok (.putfield index, 3)) (kk : ∀ (H : Heap) (locs : List Loc), Wd D (wE a cI cJ) A s (si S 0 9 v) H locs → W p l e R s m args below meth c H locs cells slots Q (F0 m (pc + 3) ls rest)) : W p l e R s m args below meth c H locs cells slots Q (F0 m pc ls (.int v :: .ref (a 0) :: rest)) := r_put C G (Cn := RX7) (T := TX7) (N := 11) (ci := 7) (q0 := 0) (k := 9) (ty := .int) inX7 tyX7 tyX7_ok nmX7 rfl rfl (by decide) hl rfl rfl (by decide +kernel) rfl rfl (Nat.le_of_ble_eq_true rfl) rfl hdg kk
theorem gE_0_10 {p : Program} {l : Launch} {e : Env} {R : Room} {s : State} {m : MethodId} {args : Array Value} {below : List Frame} {meth : Method} {c : Code} {H : Heap} {locs : List Loc} {cells slots : Nat} {Q : State → Prop} {own : String} {cc : ByteArray} {nL : Nat} {D : va_G} {a : Nat → Nat} {cI cJ : ClassId} {tk : Nat} {tf : Nat → Int32} {A : Nat → Prop} {S : St} {pc : Nat} {ls : Array Slot} {rest : List Value} {index : Nat} (C : Cx p s m args meth c own cc nL D cI cJ tk tf A) (G : Wd D (wE a cI cJ) A s S H locs) (hl : Cond.fieldLink own index "ErrorNames" "handlersBegun" "I" ∈ tb) (hdg : decode cc pc = .ok (.getfield index, 3)) (kk : W p l e R s m args below meth c H locs cells slots Q (F0 m (pc + 3) ls (.int (S.1 0 10) :: rest))) : W p l e R s m args below meth c H locs cells slots Q (F0 m pc ls (.ref (a 0) :: rest)) := r_get C G (Cn := RX7) (T := TX7) (N := 11) (ci := 7) (q0 := 0) (k := 10) inX7 rfl rfl (by decide) hl rfl rfl hdg kk
theorem pE_0_10 {p : Program} {l : Launch} {e : Env} {R : Room} {s : State} {m : MethodId} {args : Array Value} {below : List Frame} {meth : Method} {c : Code} {H : Heap} {locs : List Loc} {cells slots : Nat} {Q : State → Prop} {own : String} {cc : ByteArray} {nL : Nat} {D : va_G} {a : Nat → Nat} {cI cJ : ClassId} {tk : Nat} {tf : Nat → Int32} {A : Nat → Prop} {S : St} {pc : Nat} {ls : Array Slot} {rest : List Value} {index : Nat} {v : Int32} (C : Cx p s m args meth c own cc nL D cI cJ tk tf A) (G : Wd D (wE a cI cJ) A s S H locs) (hl : Cond.fieldLink own index "ErrorNames" "handlersBegun" "I" ∈ tb) (hdg : decode cc pc = .ok (.putfield index, 3)) (kk : ∀ (H : Heap) (locs : List Loc), Wd D (wE a cI cJ) A s (si S 0 10 v) H locs → W p l e R s m args below meth c H locs cells slots Q (F0 m (pc + 3) ls rest)) : W p l e R s m args below meth c H locs cells slots Q (F0 m pc ls (.int v :: .ref (a 0) :: rest)) := r_put C G (Cn := RX7) (T := TX7) (N := 11) (ci := 7) (q0 := 0) (k := 10) (ty := .int) inX7 tyX7 tyX7_ok nmX7 rfl rfl (by decide) hl rfl rfl (by decide +kernel) rfl rfl (Nat.le_of_ble_eq_true rfl) rfl hdg kk
theorem gE_1_0 {p : Program} {l : Launch} {e : Env} {R : Room} {s : State} {m : MethodId} {args : Array Value} {below : List Frame} {meth : Method} {c : Code} {H : Heap} {locs : List Loc} {cells slots : Nat} {Q : State → Prop} {own : String} {cc : ByteArray} {nL : Nat} {D : va_G} {a : Nat → Nat} {cI cJ : ClassId} {tk : Nat} {tf : Nat → Int32} {A : Nat → Prop} {S : St} {pc : Nat} {ls : Array Slot} {rest : List Value} {index : Nat} (C : Cx p s m args meth c own cc nL D cI cJ tk tf A) (G : Wd D (wE a cI cJ) A s S H locs) (hl : Cond.fieldLink own index "ErrorNames$Procedures" "kinds" "[I" ∈ tb) (hdg : decode cc pc = .ok (.getfield index, 3)) (kk : W p l e R s m args below meth c H locs cells slots Q (F0 m (pc + 3) ls (.ref (a 2) :: rest))) : W p l e R s m args below meth c H locs cells slots Q (F0 m pc ls (.ref (a 1) :: rest)) := r_get C G (Cn := RX4) (T := TX4) (N := 3) (ci := 4) (q0 := 1) (k := 0) inX4 rfl rfl (by decide) hl rfl rfl hdg kk
theorem gE_1_1 {p : Program} {l : Launch} {e : Env} {R : Room} {s : State} {m : MethodId} {args : Array Value} {below : List Frame} {meth : Method} {c : Code} {H : Heap} {locs : List Loc} {cells slots : Nat} {Q : State → Prop} {own : String} {cc : ByteArray} {nL : Nat} {D : va_G} {a : Nat → Nat} {cI cJ : ClassId} {tk : Nat} {tf : Nat → Int32} {A : Nat → Prop} {S : St} {pc : Nat} {ls : Array Slot} {rest : List Value} {index : Nat} (C : Cx p s m args meth c own cc nL D cI cJ tk tf A) (G : Wd D (wE a cI cJ) A s S H locs) (hl : Cond.fieldLink own index "ErrorNames$Procedures" "numbers" "[I" ∈ tb) (hdg : decode cc pc = .ok (.getfield index, 3)) (kk : W p l e R s m args below meth c H locs cells slots Q (F0 m (pc + 3) ls (.ref (a 3) :: rest))) : W p l e R s m args below meth c H locs cells slots Q (F0 m pc ls (.ref (a 1) :: rest)) := r_get C G (Cn := RX4) (T := TX4) (N := 3) (ci := 4) (q0 := 1) (k := 1) inX4 rfl rfl (by decide) hl rfl rfl hdg kk
theorem gE_1_2 {p : Program} {l : Launch} {e : Env} {R : Room} {s : State} {m : MethodId} {args : Array Value} {below : List Frame} {meth : Method} {c : Code} {H : Heap} {locs : List Loc} {cells slots : Nat} {Q : State → Prop} {own : String} {cc : ByteArray} {nL : Nat} {D : va_G} {a : Nat → Nat} {cI cJ : ClassId} {tk : Nat} {tf : Nat → Int32} {A : Nat → Prop} {S : St} {pc : Nat} {ls : Array Slot} {rest : List Value} {index : Nat} (C : Cx p s m args meth c own cc nL D cI cJ tk tf A) (G : Wd D (wE a cI cJ) A s S H locs) (hl : Cond.fieldLink own index "ErrorNames$Procedures" "lengths" "[I" ∈ tb) (hdg : decode cc pc = .ok (.getfield index, 3)) (kk : W p l e R s m args below meth c H locs cells slots Q (F0 m (pc + 3) ls (.ref (a 4) :: rest))) : W p l e R s m args below meth c H locs cells slots Q (F0 m pc ls (.ref (a 1) :: rest)) := r_get C G (Cn := RX4) (T := TX4) (N := 3) (ci := 4) (q0 := 1) (k := 2) inX4 rfl rfl (by decide) hl rfl rfl hdg kk
theorem aE_2 {p : Program} {l : Launch} {e : Env} {R : Room} {s : State} {m : MethodId} {args : Array Value} {below : List Frame} {meth : Method} {c : Code} {H : Heap} {locs : List Loc} {cells slots : Nat} {Q : State → Prop} {own : String} {cc : ByteArray} {nL : Nat} {D : va_G} {a : Nat → Nat} {cI cJ : ClassId} {tk : Nat} {tf : Nat → Int32} {A : Nat → Prop} {S : St} {pc : Nat} {ls : Array Slot} {rest : List Value} {i : Int32} (C : Cx p s m args meth c own cc nL D cI cJ tk tf A) (G : Wd D (wE a cI cJ) A s S H locs) (hin : vp_in i 480) (hdg : decode cc pc = .ok (.iaload, 1)) (kk : W p l e R s m args below meth c H locs cells slots Q (F0 m (pc + 1) ls (.int (S.1 2 i.toNatClampNeg) :: rest))) : W p l e R s m args below meth c H locs cells slots Q (F0 m pc ls (.int i :: .ref (a 2) :: rest)) := r_iald C G (q0 := 2) rfl hin hdg kk
theorem sE_2 {p : Program} {l : Launch} {e : Env} {R : Room} {s : State} {m : MethodId} {args : Array Value} {below : List Frame} {meth : Method} {c : Code} {H : Heap} {locs : List Loc} {cells slots : Nat} {Q : State → Prop} {own : String} {cc : ByteArray} {nL : Nat} {D : va_G} {a : Nat → Nat} {cI cJ : ClassId} {tk : Nat} {tf : Nat → Int32} {A : Nat → Prop} {S : St} {pc : Nat} {ls : Array Slot} {rest : List Value} {i v : Int32} (C : Cx p s m args meth c own cc nL D cI cJ tk tf A) (G : Wd D (wE a cI cJ) A s S H locs) (hin : vp_in i 480) (hdg : decode cc pc = .ok (.iastore, 1)) (kk : ∀ (H : Heap) (locs : List Loc), Wd D (wE a cI cJ) A s (si S 2 i.toNatClampNeg v) H locs → W p l e R s m args below meth c H locs cells slots Q (F0 m (pc + 1) ls rest)) : W p l e R s m args below meth c H locs cells slots Q (F0 m pc ls (.int v :: .int i :: .ref (a 2) :: rest)) := r_iast C G (q0 := 2) rfl hin rfl hdg kk
theorem nE_2 {p : Program} {l : Launch} {e : Env} {R : Room} {s : State} {m : MethodId} {args : Array Value} {below : List Frame} {meth : Method} {c : Code} {H : Heap} {locs : List Loc} {cells slots : Nat} {Q : State → Prop} {own : String} {cc : ByteArray} {nL : Nat} {D : va_G} {a : Nat → Nat} {cI cJ : ClassId} {tk : Nat} {tf : Nat → Int32} {A : Nat → Prop} {S : St} {pc : Nat} {ls : Array Slot} {rest : List Value} (C : Cx p s m args meth c own cc nL D cI cJ tk tf A) (G : Wd D (wE a cI cJ) A s S H locs) (hdg : decode cc pc = .ok (.arraylength, 1)) (kk : W p l e R s m args below meth c H locs cells slots Q (F0 m (pc + 1) ls (.int 480 :: rest))) : W p l e R s m args below meth c H locs cells slots Q (F0 m pc ls (.ref (a 2) :: rest)) := r_alen C G (q0 := 2) rfl rfl hdg kk
theorem aE_3 {p : Program} {l : Launch} {e : Env} {R : Room} {s : State} {m : MethodId} {args : Array Value} {below : List Frame} {meth : Method} {c : Code} {H : Heap} {locs : List Loc} {cells slots : Nat} {Q : State → Prop} {own : String} {cc : ByteArray} {nL : Nat} {D : va_G} {a : Nat → Nat} {cI cJ : ClassId} {tk : Nat} {tf : Nat → Int32} {A : Nat → Prop} {S : St} {pc : Nat} {ls : Array Slot} {rest : List Value} {i : Int32} (C : Cx p s m args meth c own cc nL D cI cJ tk tf A) (G : Wd D (wE a cI cJ) A s S H locs) (hin : vp_in i 480) (hdg : decode cc pc = .ok (.iaload, 1)) (kk : W p l e R s m args below meth c H locs cells slots Q (F0 m (pc + 1) ls (.int (S.1 3 i.toNatClampNeg) :: rest))) : W p l e R s m args below meth c H locs cells slots Q (F0 m pc ls (.int i :: .ref (a 3) :: rest)) := r_iald C G (q0 := 3) rfl hin hdg kk
theorem sE_3 {p : Program} {l : Launch} {e : Env} {R : Room} {s : State} {m : MethodId} {args : Array Value} {below : List Frame} {meth : Method} {c : Code} {H : Heap} {locs : List Loc} {cells slots : Nat} {Q : State → Prop} {own : String} {cc : ByteArray} {nL : Nat} {D : va_G} {a : Nat → Nat} {cI cJ : ClassId} {tk : Nat} {tf : Nat → Int32} {A : Nat → Prop} {S : St} {pc : Nat} {ls : Array Slot} {rest : List Value} {i v : Int32} (C : Cx p s m args meth c own cc nL D cI cJ tk tf A) (G : Wd D (wE a cI cJ) A s S H locs) (hin : vp_in i 480) (hdg : decode cc pc = .ok (.iastore, 1)) (kk : ∀ (H : Heap) (locs : List Loc), Wd D (wE a cI cJ) A s (si S 3 i.toNatClampNeg v) H locs → W p l e R s m args below meth c H locs cells slots Q (F0 m (pc + 1) ls rest)) : W p l e R s m args below meth c H locs cells slots Q (F0 m pc ls (.int v :: .int i :: .ref (a 3) :: rest)) := r_iast C G (q0 := 3) rfl hin rfl hdg kk
theorem nE_3 {p : Program} {l : Launch} {e : Env} {R : Room} {s : State} {m : MethodId} {args : Array Value} {below : List Frame} {meth : Method} {c : Code} {H : Heap} {locs : List Loc} {cells slots : Nat} {Q : State → Prop} {own : String} {cc : ByteArray} {nL : Nat} {D : va_G} {a : Nat → Nat} {cI cJ : ClassId} {tk : Nat} {tf : Nat → Int32} {A : Nat → Prop} {S : St} {pc : Nat} {ls : Array Slot} {rest : List Value} (C : Cx p s m args meth c own cc nL D cI cJ tk tf A) (G : Wd D (wE a cI cJ) A s S H locs) (hdg : decode cc pc = .ok (.arraylength, 1)) (kk : W p l e R s m args below meth c H locs cells slots Q (F0 m (pc + 1) ls (.int 480 :: rest))) : W p l e R s m args below meth c H locs cells slots Q (F0 m pc ls (.ref (a 3) :: rest)) := r_alen C G (q0 := 3) rfl rfl hdg kk
theorem aE_4 {p : Program} {l : Launch} {e : Env} {R : Room} {s : State} {m : MethodId} {args : Array Value} {below : List Frame} {meth : Method} {c : Code} {H : Heap} {locs : List Loc} {cells slots : Nat} {Q : State → Prop} {own : String} {cc : ByteArray} {nL : Nat} {D : va_G} {a : Nat → Nat} {cI cJ : ClassId} {tk : Nat} {tf : Nat → Int32} {A : Nat → Prop} {S : St} {pc : Nat} {ls : Array Slot} {rest : List Value} {i : Int32} (C : Cx p s m args meth c own cc nL D cI cJ tk tf A) (G : Wd D (wE a cI cJ) A s S H locs) (hin : vp_in i 20) (hdg : decode cc pc = .ok (.iaload, 1)) (kk : W p l e R s m args below meth c H locs cells slots Q (F0 m (pc + 1) ls (.int (S.1 4 i.toNatClampNeg) :: rest))) : W p l e R s m args below meth c H locs cells slots Q (F0 m pc ls (.int i :: .ref (a 4) :: rest)) := r_iald C G (q0 := 4) rfl hin hdg kk
theorem sE_4 {p : Program} {l : Launch} {e : Env} {R : Room} {s : State} {m : MethodId} {args : Array Value} {below : List Frame} {meth : Method} {c : Code} {H : Heap} {locs : List Loc} {cells slots : Nat} {Q : State → Prop} {own : String} {cc : ByteArray} {nL : Nat} {D : va_G} {a : Nat → Nat} {cI cJ : ClassId} {tk : Nat} {tf : Nat → Int32} {A : Nat → Prop} {S : St} {pc : Nat} {ls : Array Slot} {rest : List Value} {i v : Int32} (C : Cx p s m args meth c own cc nL D cI cJ tk tf A) (G : Wd D (wE a cI cJ) A s S H locs) (hin : vp_in i 20) (hdg : decode cc pc = .ok (.iastore, 1)) (kk : ∀ (H : Heap) (locs : List Loc), Wd D (wE a cI cJ) A s (si S 4 i.toNatClampNeg v) H locs → W p l e R s m args below meth c H locs cells slots Q (F0 m (pc + 1) ls rest)) : W p l e R s m args below meth c H locs cells slots Q (F0 m pc ls (.int v :: .int i :: .ref (a 4) :: rest)) := r_iast C G (q0 := 4) rfl hin rfl hdg kk
theorem nE_4 {p : Program} {l : Launch} {e : Env} {R : Room} {s : State} {m : MethodId} {args : Array Value} {below : List Frame} {meth : Method} {c : Code} {H : Heap} {locs : List Loc} {cells slots : Nat} {Q : State → Prop} {own : String} {cc : ByteArray} {nL : Nat} {D : va_G} {a : Nat → Nat} {cI cJ : ClassId} {tk : Nat} {tf : Nat → Int32} {A : Nat → Prop} {S : St} {pc : Nat} {ls : Array Slot} {rest : List Value} (C : Cx p s m args meth c own cc nL D cI cJ tk tf A) (G : Wd D (wE a cI cJ) A s S H locs) (hdg : decode cc pc = .ok (.arraylength, 1)) (kk : W p l e R s m args below meth c H locs cells slots Q (F0 m (pc + 1) ls (.int 20 :: rest))) : W p l e R s m args below meth c H locs cells slots Q (F0 m pc ls (.ref (a 4) :: rest)) := r_alen C G (q0 := 4) rfl rfl hdg kk
theorem gE_5_0 {p : Program} {l : Launch} {e : Env} {R : Room} {s : State} {m : MethodId} {args : Array Value} {below : List Frame} {meth : Method} {c : Code} {H : Heap} {locs : List Loc} {cells slots : Nat} {Q : State → Prop} {own : String} {cc : ByteArray} {nL : Nat} {D : va_G} {a : Nat → Nat} {cI cJ : ClassId} {tk : Nat} {tf : Nat → Int32} {A : Nat → Prop} {S : St} {pc : Nat} {ls : Array Slot} {rest : List Value} {index : Nat} (C : Cx p s m args meth c own cc nL D cI cJ tk tf A) (G : Wd D (wE a cI cJ) A s S H locs) (hl : Cond.fieldLink own index "ErrorNames$Pile" "kinds" "[I" ∈ tb) (hdg : decode cc pc = .ok (.getfield index, 3)) (kk : W p l e R s m args below meth c H locs cells slots Q (F0 m (pc + 3) ls (.ref (a 6) :: rest))) : W p l e R s m args below meth c H locs cells slots Q (F0 m pc ls (.ref (a 5) :: rest)) := r_get C G (Cn := RX2) (T := TX2) (N := 3) (ci := 2) (q0 := 5) (k := 0) inX2 rfl rfl (by decide) hl rfl rfl hdg kk
theorem gE_5_1 {p : Program} {l : Launch} {e : Env} {R : Room} {s : State} {m : MethodId} {args : Array Value} {below : List Frame} {meth : Method} {c : Code} {H : Heap} {locs : List Loc} {cells slots : Nat} {Q : State → Prop} {own : String} {cc : ByteArray} {nL : Nat} {D : va_G} {a : Nat → Nat} {cI cJ : ClassId} {tk : Nat} {tf : Nat → Int32} {A : Nat → Prop} {S : St} {pc : Nat} {ls : Array Slot} {rest : List Value} {index : Nat} (C : Cx p s m args meth c own cc nL D cI cJ tk tf A) (G : Wd D (wE a cI cJ) A s S H locs) (hl : Cond.fieldLink own index "ErrorNames$Pile" "numbers" "[I" ∈ tb) (hdg : decode cc pc = .ok (.getfield index, 3)) (kk : W p l e R s m args below meth c H locs cells slots Q (F0 m (pc + 3) ls (.ref (a 7) :: rest))) : W p l e R s m args below meth c H locs cells slots Q (F0 m pc ls (.ref (a 5) :: rest)) := r_get C G (Cn := RX2) (T := TX2) (N := 3) (ci := 2) (q0 := 5) (k := 1) inX2 rfl rfl (by decide) hl rfl rfl hdg kk
theorem gE_5_2 {p : Program} {l : Launch} {e : Env} {R : Room} {s : State} {m : MethodId} {args : Array Value} {below : List Frame} {meth : Method} {c : Code} {H : Heap} {locs : List Loc} {cells slots : Nat} {Q : State → Prop} {own : String} {cc : ByteArray} {nL : Nat} {D : va_G} {a : Nat → Nat} {cI cJ : ClassId} {tk : Nat} {tf : Nat → Int32} {A : Nat → Prop} {S : St} {pc : Nat} {ls : Array Slot} {rest : List Value} {index : Nat} (C : Cx p s m args meth c own cc nL D cI cJ tk tf A) (G : Wd D (wE a cI cJ) A s S H locs) (hl : Cond.fieldLink own index "ErrorNames$Pile" "count" "I" ∈ tb) (hdg : decode cc pc = .ok (.getfield index, 3)) (kk : W p l e R s m args below meth c H locs cells slots Q (F0 m (pc + 3) ls (.int (S.1 5 2) :: rest))) : W p l e R s m args below meth c H locs cells slots Q (F0 m pc ls (.ref (a 5) :: rest)) := r_get C G (Cn := RX2) (T := TX2) (N := 3) (ci := 2) (q0 := 5) (k := 2) inX2 rfl rfl (by decide) hl rfl rfl hdg kk
theorem pE_5_2 {p : Program} {l : Launch} {e : Env} {R : Room} {s : State} {m : MethodId} {args : Array Value} {below : List Frame} {meth : Method} {c : Code} {H : Heap} {locs : List Loc} {cells slots : Nat} {Q : State → Prop} {own : String} {cc : ByteArray} {nL : Nat} {D : va_G} {a : Nat → Nat} {cI cJ : ClassId} {tk : Nat} {tf : Nat → Int32} {A : Nat → Prop} {S : St} {pc : Nat} {ls : Array Slot} {rest : List Value} {index : Nat} {v : Int32} (C : Cx p s m args meth c own cc nL D cI cJ tk tf A) (G : Wd D (wE a cI cJ) A s S H locs) (hl : Cond.fieldLink own index "ErrorNames$Pile" "count" "I" ∈ tb) (hdg : decode cc pc = .ok (.putfield index, 3)) (kk : ∀ (H : Heap) (locs : List Loc), Wd D (wE a cI cJ) A s (si S 5 2 v) H locs → W p l e R s m args below meth c H locs cells slots Q (F0 m (pc + 3) ls rest)) : W p l e R s m args below meth c H locs cells slots Q (F0 m pc ls (.int v :: .ref (a 5) :: rest)) := r_put C G (Cn := RX2) (T := TX2) (N := 3) (ci := 2) (q0 := 5) (k := 2) (ty := .int) inX2 tyX2 tyX2_ok nmX2 rfl rfl (by decide) hl rfl rfl (by decide +kernel) rfl rfl (Nat.le_of_ble_eq_true rfl) rfl hdg kk
theorem aE_6 {p : Program} {l : Launch} {e : Env} {R : Room} {s : State} {m : MethodId} {args : Array Value} {below : List Frame} {meth : Method} {c : Code} {H : Heap} {locs : List Loc} {cells slots : Nat} {Q : State → Prop} {own : String} {cc : ByteArray} {nL : Nat} {D : va_G} {a : Nat → Nat} {cI cJ : ClassId} {tk : Nat} {tf : Nat → Int32} {A : Nat → Prop} {S : St} {pc : Nat} {ls : Array Slot} {rest : List Value} {i : Int32} (C : Cx p s m args meth c own cc nL D cI cJ tk tf A) (G : Wd D (wE a cI cJ) A s S H locs) (hin : vp_in i 60) (hdg : decode cc pc = .ok (.iaload, 1)) (kk : W p l e R s m args below meth c H locs cells slots Q (F0 m (pc + 1) ls (.int (S.1 6 i.toNatClampNeg) :: rest))) : W p l e R s m args below meth c H locs cells slots Q (F0 m pc ls (.int i :: .ref (a 6) :: rest)) := r_iald C G (q0 := 6) rfl hin hdg kk
theorem sE_6 {p : Program} {l : Launch} {e : Env} {R : Room} {s : State} {m : MethodId} {args : Array Value} {below : List Frame} {meth : Method} {c : Code} {H : Heap} {locs : List Loc} {cells slots : Nat} {Q : State → Prop} {own : String} {cc : ByteArray} {nL : Nat} {D : va_G} {a : Nat → Nat} {cI cJ : ClassId} {tk : Nat} {tf : Nat → Int32} {A : Nat → Prop} {S : St} {pc : Nat} {ls : Array Slot} {rest : List Value} {i v : Int32} (C : Cx p s m args meth c own cc nL D cI cJ tk tf A) (G : Wd D (wE a cI cJ) A s S H locs) (hin : vp_in i 60) (hdg : decode cc pc = .ok (.iastore, 1)) (kk : ∀ (H : Heap) (locs : List Loc), Wd D (wE a cI cJ) A s (si S 6 i.toNatClampNeg v) H locs → W p l e R s m args below meth c H locs cells slots Q (F0 m (pc + 1) ls rest)) : W p l e R s m args below meth c H locs cells slots Q (F0 m pc ls (.int v :: .int i :: .ref (a 6) :: rest)) := r_iast C G (q0 := 6) rfl hin rfl hdg kk
theorem nE_6 {p : Program} {l : Launch} {e : Env} {R : Room} {s : State} {m : MethodId} {args : Array Value} {below : List Frame} {meth : Method} {c : Code} {H : Heap} {locs : List Loc} {cells slots : Nat} {Q : State → Prop} {own : String} {cc : ByteArray} {nL : Nat} {D : va_G} {a : Nat → Nat} {cI cJ : ClassId} {tk : Nat} {tf : Nat → Int32} {A : Nat → Prop} {S : St} {pc : Nat} {ls : Array Slot} {rest : List Value} (C : Cx p s m args meth c own cc nL D cI cJ tk tf A) (G : Wd D (wE a cI cJ) A s S H locs) (hdg : decode cc pc = .ok (.arraylength, 1)) (kk : W p l e R s m args below meth c H locs cells slots Q (F0 m (pc + 1) ls (.int 60 :: rest))) : W p l e R s m args below meth c H locs cells slots Q (F0 m pc ls (.ref (a 6) :: rest)) := r_alen C G (q0 := 6) rfl rfl hdg kk
theorem aE_7 {p : Program} {l : Launch} {e : Env} {R : Room} {s : State} {m : MethodId} {args : Array Value} {below : List Frame} {meth : Method} {c : Code} {H : Heap} {locs : List Loc} {cells slots : Nat} {Q : State → Prop} {own : String} {cc : ByteArray} {nL : Nat} {D : va_G} {a : Nat → Nat} {cI cJ : ClassId} {tk : Nat} {tf : Nat → Int32} {A : Nat → Prop} {S : St} {pc : Nat} {ls : Array Slot} {rest : List Value} {i : Int32} (C : Cx p s m args meth c own cc nL D cI cJ tk tf A) (G : Wd D (wE a cI cJ) A s S H locs) (hin : vp_in i 60) (hdg : decode cc pc = .ok (.iaload, 1)) (kk : W p l e R s m args below meth c H locs cells slots Q (F0 m (pc + 1) ls (.int (S.1 7 i.toNatClampNeg) :: rest))) : W p l e R s m args below meth c H locs cells slots Q (F0 m pc ls (.int i :: .ref (a 7) :: rest)) := r_iald C G (q0 := 7) rfl hin hdg kk
theorem sE_7 {p : Program} {l : Launch} {e : Env} {R : Room} {s : State} {m : MethodId} {args : Array Value} {below : List Frame} {meth : Method} {c : Code} {H : Heap} {locs : List Loc} {cells slots : Nat} {Q : State → Prop} {own : String} {cc : ByteArray} {nL : Nat} {D : va_G} {a : Nat → Nat} {cI cJ : ClassId} {tk : Nat} {tf : Nat → Int32} {A : Nat → Prop} {S : St} {pc : Nat} {ls : Array Slot} {rest : List Value} {i v : Int32} (C : Cx p s m args meth c own cc nL D cI cJ tk tf A) (G : Wd D (wE a cI cJ) A s S H locs) (hin : vp_in i 60) (hdg : decode cc pc = .ok (.iastore, 1)) (kk : ∀ (H : Heap) (locs : List Loc), Wd D (wE a cI cJ) A s (si S 7 i.toNatClampNeg v) H locs → W p l e R s m args below meth c H locs cells slots Q (F0 m (pc + 1) ls rest)) : W p l e R s m args below meth c H locs cells slots Q (F0 m pc ls (.int v :: .int i :: .ref (a 7) :: rest)) := r_iast C G (q0 := 7) rfl hin rfl hdg kk
theorem nE_7 {p : Program} {l : Launch} {e : Env} {R : Room} {s : State} {m : MethodId} {args : Array Value} {below : List Frame} {meth : Method} {c : Code} {H : Heap} {locs : List Loc} {cells slots : Nat} {Q : State → Prop} {own : String} {cc : ByteArray} {nL : Nat} {D : va_G} {a : Nat → Nat} {cI cJ : ClassId} {tk : Nat} {tf : Nat → Int32} {A : Nat → Prop} {S : St} {pc : Nat} {ls : Array Slot} {rest : List Value} (C : Cx p s m args meth c own cc nL D cI cJ tk tf A) (G : Wd D (wE a cI cJ) A s S H locs) (hdg : decode cc pc = .ok (.arraylength, 1)) (kk : W p l e R s m args below meth c H locs cells slots Q (F0 m (pc + 1) ls (.int 60 :: rest))) : W p l e R s m args below meth c H locs cells slots Q (F0 m pc ls (.ref (a 7) :: rest)) := r_alen C G (q0 := 7) rfl rfl hdg kk
theorem gE_8_0 {p : Program} {l : Launch} {e : Env} {R : Room} {s : State} {m : MethodId} {args : Array Value} {below : List Frame} {meth : Method} {c : Code} {H : Heap} {locs : List Loc} {cells slots : Nat} {Q : State → Prop} {own : String} {cc : ByteArray} {nL : Nat} {D : va_G} {a : Nat → Nat} {cI cJ : ClassId} {tk : Nat} {tf : Nat → Int32} {A : Nat → Prop} {S : St} {pc : Nat} {ls : Array Slot} {rest : List Value} {index : Nat} (C : Cx p s m args meth c own cc nL D cI cJ tk tf A) (G : Wd D (wE a cI cJ) A s S H locs) (hl : Cond.fieldLink own index "ErrorNames$Table" "kinds" "[I" ∈ tb) (hdg : decode cc pc = .ok (.getfield index, 3)) (kk : W p l e R s m args below meth c H locs cells slots Q (F0 m (pc + 3) ls (.ref (a 9) :: rest))) : W p l e R s m args below meth c H locs cells slots Q (F0 m pc ls (.ref (a 8) :: rest)) := r_get C G (Cn := RX6) (T := TX6) (N := 2) (ci := 6) (q0 := 8) (k := 0) inX6 rfl rfl (by decide) hl rfl rfl hdg kk
theorem gE_8_1 {p : Program} {l : Launch} {e : Env} {R : Room} {s : State} {m : MethodId} {args : Array Value} {below : List Frame} {meth : Method} {c : Code} {H : Heap} {locs : List Loc} {cells slots : Nat} {Q : State → Prop} {own : String} {cc : ByteArray} {nL : Nat} {D : va_G} {a : Nat → Nat} {cI cJ : ClassId} {tk : Nat} {tf : Nat → Int32} {A : Nat → Prop} {S : St} {pc : Nat} {ls : Array Slot} {rest : List Value} {index : Nat} (C : Cx p s m args meth c own cc nL D cI cJ tk tf A) (G : Wd D (wE a cI cJ) A s S H locs) (hl : Cond.fieldLink own index "ErrorNames$Table" "numbers" "[I" ∈ tb) (hdg : decode cc pc = .ok (.getfield index, 3)) (kk : W p l e R s m args below meth c H locs cells slots Q (F0 m (pc + 3) ls (.ref (a 10) :: rest))) : W p l e R s m args below meth c H locs cells slots Q (F0 m pc ls (.ref (a 8) :: rest)) := r_get C G (Cn := RX6) (T := TX6) (N := 2) (ci := 6) (q0 := 8) (k := 1) inX6 rfl rfl (by decide) hl rfl rfl hdg kk
theorem aE_9 {p : Program} {l : Launch} {e : Env} {R : Room} {s : State} {m : MethodId} {args : Array Value} {below : List Frame} {meth : Method} {c : Code} {H : Heap} {locs : List Loc} {cells slots : Nat} {Q : State → Prop} {own : String} {cc : ByteArray} {nL : Nat} {D : va_G} {a : Nat → Nat} {cI cJ : ClassId} {tk : Nat} {tf : Nat → Int32} {A : Nat → Prop} {S : St} {pc : Nat} {ls : Array Slot} {rest : List Value} {i : Int32} (C : Cx p s m args meth c own cc nL D cI cJ tk tf A) (G : Wd D (wE a cI cJ) A s S H locs) (hin : vp_in i 40) (hdg : decode cc pc = .ok (.iaload, 1)) (kk : W p l e R s m args below meth c H locs cells slots Q (F0 m (pc + 1) ls (.int (S.1 9 i.toNatClampNeg) :: rest))) : W p l e R s m args below meth c H locs cells slots Q (F0 m pc ls (.int i :: .ref (a 9) :: rest)) := r_iald C G (q0 := 9) rfl hin hdg kk
theorem sE_9 {p : Program} {l : Launch} {e : Env} {R : Room} {s : State} {m : MethodId} {args : Array Value} {below : List Frame} {meth : Method} {c : Code} {H : Heap} {locs : List Loc} {cells slots : Nat} {Q : State → Prop} {own : String} {cc : ByteArray} {nL : Nat} {D : va_G} {a : Nat → Nat} {cI cJ : ClassId} {tk : Nat} {tf : Nat → Int32} {A : Nat → Prop} {S : St} {pc : Nat} {ls : Array Slot} {rest : List Value} {i v : Int32} (C : Cx p s m args meth c own cc nL D cI cJ tk tf A) (G : Wd D (wE a cI cJ) A s S H locs) (hin : vp_in i 40) (hdg : decode cc pc = .ok (.iastore, 1)) (kk : ∀ (H : Heap) (locs : List Loc), Wd D (wE a cI cJ) A s (si S 9 i.toNatClampNeg v) H locs → W p l e R s m args below meth c H locs cells slots Q (F0 m (pc + 1) ls rest)) : W p l e R s m args below meth c H locs cells slots Q (F0 m pc ls (.int v :: .int i :: .ref (a 9) :: rest)) := r_iast C G (q0 := 9) rfl hin rfl hdg kk
theorem nE_9 {p : Program} {l : Launch} {e : Env} {R : Room} {s : State} {m : MethodId} {args : Array Value} {below : List Frame} {meth : Method} {c : Code} {H : Heap} {locs : List Loc} {cells slots : Nat} {Q : State → Prop} {own : String} {cc : ByteArray} {nL : Nat} {D : va_G} {a : Nat → Nat} {cI cJ : ClassId} {tk : Nat} {tf : Nat → Int32} {A : Nat → Prop} {S : St} {pc : Nat} {ls : Array Slot} {rest : List Value} (C : Cx p s m args meth c own cc nL D cI cJ tk tf A) (G : Wd D (wE a cI cJ) A s S H locs) (hdg : decode cc pc = .ok (.arraylength, 1)) (kk : W p l e R s m args below meth c H locs cells slots Q (F0 m (pc + 1) ls (.int 40 :: rest))) : W p l e R s m args below meth c H locs cells slots Q (F0 m pc ls (.ref (a 9) :: rest)) := r_alen C G (q0 := 9) rfl rfl hdg kk
theorem aE_10 {p : Program} {l : Launch} {e : Env} {R : Room} {s : State} {m : MethodId} {args : Array Value} {below : List Frame} {meth : Method} {c : Code} {H : Heap} {locs : List Loc} {cells slots : Nat} {Q : State → Prop} {own : String} {cc : ByteArray} {nL : Nat} {D : va_G} {a : Nat → Nat} {cI cJ : ClassId} {tk : Nat} {tf : Nat → Int32} {A : Nat → Prop} {S : St} {pc : Nat} {ls : Array Slot} {rest : List Value} {i : Int32} (C : Cx p s m args meth c own cc nL D cI cJ tk tf A) (G : Wd D (wE a cI cJ) A s S H locs) (hin : vp_in i 40) (hdg : decode cc pc = .ok (.iaload, 1)) (kk : W p l e R s m args below meth c H locs cells slots Q (F0 m (pc + 1) ls (.int (S.1 10 i.toNatClampNeg) :: rest))) : W p l e R s m args below meth c H locs cells slots Q (F0 m pc ls (.int i :: .ref (a 10) :: rest)) := r_iald C G (q0 := 10) rfl hin hdg kk
theorem sE_10 {p : Program} {l : Launch} {e : Env} {R : Room} {s : State} {m : MethodId} {args : Array Value} {below : List Frame} {meth : Method} {c : Code} {H : Heap} {locs : List Loc} {cells slots : Nat} {Q : State → Prop} {own : String} {cc : ByteArray} {nL : Nat} {D : va_G} {a : Nat → Nat} {cI cJ : ClassId} {tk : Nat} {tf : Nat → Int32} {A : Nat → Prop} {S : St} {pc : Nat} {ls : Array Slot} {rest : List Value} {i v : Int32} (C : Cx p s m args meth c own cc nL D cI cJ tk tf A) (G : Wd D (wE a cI cJ) A s S H locs) (hin : vp_in i 40) (hdg : decode cc pc = .ok (.iastore, 1)) (kk : ∀ (H : Heap) (locs : List Loc), Wd D (wE a cI cJ) A s (si S 10 i.toNatClampNeg v) H locs → W p l e R s m args below meth c H locs cells slots Q (F0 m (pc + 1) ls rest)) : W p l e R s m args below meth c H locs cells slots Q (F0 m pc ls (.int v :: .int i :: .ref (a 10) :: rest)) := r_iast C G (q0 := 10) rfl hin rfl hdg kk
theorem nE_10 {p : Program} {l : Launch} {e : Env} {R : Room} {s : State} {m : MethodId} {args : Array Value} {below : List Frame} {meth : Method} {c : Code} {H : Heap} {locs : List Loc} {cells slots : Nat} {Q : State → Prop} {own : String} {cc : ByteArray} {nL : Nat} {D : va_G} {a : Nat → Nat} {cI cJ : ClassId} {tk : Nat} {tf : Nat → Int32} {A : Nat → Prop} {S : St} {pc : Nat} {ls : Array Slot} {rest : List Value} (C : Cx p s m args meth c own cc nL D cI cJ tk tf A) (G : Wd D (wE a cI cJ) A s S H locs) (hdg : decode cc pc = .ok (.arraylength, 1)) (kk : W p l e R s m args below meth c H locs cells slots Q (F0 m (pc + 1) ls (.int 40 :: rest))) : W p l e R s m args below meth c H locs cells slots Q (F0 m pc ls (.ref (a 10) :: rest)) := r_alen C G (q0 := 10) rfl rfl hdg kk
theorem gE_11_0 {p : Program} {l : Launch} {e : Env} {R : Room} {s : State} {m : MethodId} {args : Array Value} {below : List Frame} {meth : Method} {c : Code} {H : Heap} {locs : List Loc} {cells slots : Nat} {Q : State → Prop} {own : String} {cc : ByteArray} {nL : Nat} {D : va_G} {a : Nat → Nat} {cI cJ : ClassId} {tk : Nat} {tf : Nat → Int32} {A : Nat → Prop} {S : St} {pc : Nat} {ls : Array Slot} {rest : List Value} {index : Nat} (C : Cx p s m args meth c own cc nL D cI cJ tk tf A) (G : Wd D (wE a cI cJ) A s S H locs) (hl : Cond.fieldLink own index "ErrorNames$Handlers" "procedures" "[I" ∈ tb) (hdg : decode cc pc = .ok (.getfield index, 3)) (kk : W p l e R s m args below meth c H locs cells slots Q (F0 m (pc + 3) ls (.ref (a 12) :: rest))) : W p l e R s m args below meth c H locs cells slots Q (F0 m pc ls (.ref (a 11) :: rest)) := r_get C G (Cn := RX1) (T := TX1) (N := 1) (ci := 1) (q0 := 11) (k := 0) inX1 rfl rfl (by decide) hl rfl rfl hdg kk
theorem aE_12 {p : Program} {l : Launch} {e : Env} {R : Room} {s : State} {m : MethodId} {args : Array Value} {below : List Frame} {meth : Method} {c : Code} {H : Heap} {locs : List Loc} {cells slots : Nat} {Q : State → Prop} {own : String} {cc : ByteArray} {nL : Nat} {D : va_G} {a : Nat → Nat} {cI cJ : ClassId} {tk : Nat} {tf : Nat → Int32} {A : Nat → Prop} {S : St} {pc : Nat} {ls : Array Slot} {rest : List Value} {i : Int32} (C : Cx p s m args meth c own cc nL D cI cJ tk tf A) (G : Wd D (wE a cI cJ) A s S H locs) (hin : vp_in i 12) (hdg : decode cc pc = .ok (.iaload, 1)) (kk : W p l e R s m args below meth c H locs cells slots Q (F0 m (pc + 1) ls (.int (S.1 12 i.toNatClampNeg) :: rest))) : W p l e R s m args below meth c H locs cells slots Q (F0 m pc ls (.int i :: .ref (a 12) :: rest)) := r_iald C G (q0 := 12) rfl hin hdg kk
theorem sE_12 {p : Program} {l : Launch} {e : Env} {R : Room} {s : State} {m : MethodId} {args : Array Value} {below : List Frame} {meth : Method} {c : Code} {H : Heap} {locs : List Loc} {cells slots : Nat} {Q : State → Prop} {own : String} {cc : ByteArray} {nL : Nat} {D : va_G} {a : Nat → Nat} {cI cJ : ClassId} {tk : Nat} {tf : Nat → Int32} {A : Nat → Prop} {S : St} {pc : Nat} {ls : Array Slot} {rest : List Value} {i v : Int32} (C : Cx p s m args meth c own cc nL D cI cJ tk tf A) (G : Wd D (wE a cI cJ) A s S H locs) (hin : vp_in i 12) (hdg : decode cc pc = .ok (.iastore, 1)) (kk : ∀ (H : Heap) (locs : List Loc), Wd D (wE a cI cJ) A s (si S 12 i.toNatClampNeg v) H locs → W p l e R s m args below meth c H locs cells slots Q (F0 m (pc + 1) ls rest)) : W p l e R s m args below meth c H locs cells slots Q (F0 m pc ls (.int v :: .int i :: .ref (a 12) :: rest)) := r_iast C G (q0 := 12) rfl hin rfl hdg kk
theorem nE_12 {p : Program} {l : Launch} {e : Env} {R : Room} {s : State} {m : MethodId} {args : Array Value} {below : List Frame} {meth : Method} {c : Code} {H : Heap} {locs : List Loc} {cells slots : Nat} {Q : State → Prop} {own : String} {cc : ByteArray} {nL : Nat} {D : va_G} {a : Nat → Nat} {cI cJ : ClassId} {tk : Nat} {tf : Nat → Int32} {A : Nat → Prop} {S : St} {pc : Nat} {ls : Array Slot} {rest : List Value} (C : Cx p s m args meth c own cc nL D cI cJ tk tf A) (G : Wd D (wE a cI cJ) A s S H locs) (hdg : decode cc pc = .ok (.arraylength, 1)) (kk : W p l e R s m args below meth c H locs cells slots Q (F0 m (pc + 1) ls (.int 12 :: rest))) : W p l e R s m args below meth c H locs cells slots Q (F0 m pc ls (.ref (a 12) :: rest)) := r_alen C G (q0 := 12) rfl rfl hdg kk
theorem gE_13_0 {p : Program} {l : Launch} {e : Env} {R : Room} {s : State} {m : MethodId} {args : Array Value} {below : List Frame} {meth : Method} {c : Code} {H : Heap} {locs : List Loc} {cells slots : Nat} {Q : State → Prop} {own : String} {cc : ByteArray} {nL : Nat} {D : va_G} {a : Nat → Nat} {cI cJ : ClassId} {tk : Nat} {tf : Nat → Int32} {A : Nat → Prop} {S : St} {pc : Nat} {ls : Array Slot} {rest : List Value} {index : Nat} (C : Cx p s m args meth c own cc nL D cI cJ tk tf A) (G : Wd D (wE a cI cJ) A s S H locs) (hl : Cond.fieldLink own index "ErrorNames$Frames" "sorts" "[I" ∈ tb) (hdg : decode cc pc = .ok (.getfield index, 3)) (kk : W p l e R s m args below meth c H locs cells slots Q (F0 m (pc + 3) ls (.ref (a 14) :: rest))) : W p l e R s m args below meth c H locs cells slots Q (F0 m pc ls (.ref (a 13) :: rest)) := r_get C G (Cn := RX0) (T := TX0) (N := 8) (ci := 0) (q0 := 13) (k := 0) inX0 rfl rfl (by decide) hl rfl rfl hdg kk
theorem gE_13_1 {p : Program} {l : Launch} {e : Env} {R : Room} {s : State} {m : MethodId} {args : Array Value} {below : List Frame} {meth : Method} {c : Code} {H : Heap} {locs : List Loc} {cells slots : Nat} {Q : State → Prop} {own : String} {cc : ByteArray} {nL : Nat} {D : va_G} {a : Nat → Nat} {cI cJ : ClassId} {tk : Nat} {tf : Nat → Int32} {A : Nat → Prop} {S : St} {pc : Nat} {ls : Array Slot} {rest : List Value} {index : Nat} (C : Cx p s m args meth c own cc nL D cI cJ tk tf A) (G : Wd D (wE a cI cJ) A s S H locs) (hl : Cond.fieldLink own index "ErrorNames$Frames" "subjects" "[I" ∈ tb) (hdg : decode cc pc = .ok (.getfield index, 3)) (kk : W p l e R s m args below meth c H locs cells slots Q (F0 m (pc + 3) ls (.ref (a 15) :: rest))) : W p l e R s m args below meth c H locs cells slots Q (F0 m pc ls (.ref (a 13) :: rest)) := r_get C G (Cn := RX0) (T := TX0) (N := 8) (ci := 0) (q0 := 13) (k := 1) inX0 rfl rfl (by decide) hl rfl rfl hdg kk
theorem gE_13_2 {p : Program} {l : Launch} {e : Env} {R : Room} {s : State} {m : MethodId} {args : Array Value} {below : List Frame} {meth : Method} {c : Code} {H : Heap} {locs : List Loc} {cells slots : Nat} {Q : State → Prop} {own : String} {cc : ByteArray} {nL : Nat} {D : va_G} {a : Nat → Nat} {cI cJ : ClassId} {tk : Nat} {tf : Nat → Int32} {A : Nat → Prop} {S : St} {pc : Nat} {ls : Array Slot} {rest : List Value} {index : Nat} (C : Cx p s m args meth c own cc nL D cI cJ tk tf A) (G : Wd D (wE a cI cJ) A s S H locs) (hl : Cond.fieldLink own index "ErrorNames$Frames" "places" "[I" ∈ tb) (hdg : decode cc pc = .ok (.getfield index, 3)) (kk : W p l e R s m args below meth c H locs cells slots Q (F0 m (pc + 3) ls (.ref (a 16) :: rest))) : W p l e R s m args below meth c H locs cells slots Q (F0 m pc ls (.ref (a 13) :: rest)) := r_get C G (Cn := RX0) (T := TX0) (N := 8) (ci := 0) (q0 := 13) (k := 2) inX0 rfl rfl (by decide) hl rfl rfl hdg kk
theorem gE_13_3 {p : Program} {l : Launch} {e : Env} {R : Room} {s : State} {m : MethodId} {args : Array Value} {below : List Frame} {meth : Method} {c : Code} {H : Heap} {locs : List Loc} {cells slots : Nat} {Q : State → Prop} {own : String} {cc : ByteArray} {nL : Nat} {D : va_G} {a : Nat → Nat} {cI cJ : ClassId} {tk : Nat} {tf : Nat → Int32} {A : Nat → Prop} {S : St} {pc : Nat} {ls : Array Slot} {rest : List Value} {index : Nat} (C : Cx p s m args meth c own cc nL D cI cJ tk tf A) (G : Wd D (wE a cI cJ) A s S H locs) (hl : Cond.fieldLink own index "ErrorNames$Frames" "nexts" "[J" ∈ tb) (hdg : decode cc pc = .ok (.getfield index, 3)) (kk : W p l e R s m args below meth c H locs cells slots Q (F0 m (pc + 3) ls (.ref (a 17) :: rest))) : W p l e R s m args below meth c H locs cells slots Q (F0 m pc ls (.ref (a 13) :: rest)) := r_get C G (Cn := RX0) (T := TX0) (N := 8) (ci := 0) (q0 := 13) (k := 3) inX0 rfl rfl (by decide) hl rfl rfl hdg kk
theorem gE_13_4 {p : Program} {l : Launch} {e : Env} {R : Room} {s : State} {m : MethodId} {args : Array Value} {below : List Frame} {meth : Method} {c : Code} {H : Heap} {locs : List Loc} {cells slots : Nat} {Q : State → Prop} {own : String} {cc : ByteArray} {nL : Nat} {D : va_G} {a : Nat → Nat} {cI cJ : ClassId} {tk : Nat} {tf : Nat → Int32} {A : Nat → Prop} {S : St} {pc : Nat} {ls : Array Slot} {rest : List Value} {index : Nat} (C : Cx p s m args meth c own cc nL D cI cJ tk tf A) (G : Wd D (wE a cI cJ) A s S H locs) (hl : Cond.fieldLink own index "ErrorNames$Frames" "bys" "[I" ∈ tb) (hdg : decode cc pc = .ok (.getfield index, 3)) (kk : W p l e R s m args below meth c H locs cells slots Q (F0 m (pc + 3) ls (.ref (a 18) :: rest))) : W p l e R s m args below meth c H locs cells slots Q (F0 m pc ls (.ref (a 13) :: rest)) := r_get C G (Cn := RX0) (T := TX0) (N := 8) (ci := 0) (q0 := 13) (k := 4) inX0 rfl rfl (by decide) hl rfl rfl hdg kk
theorem gE_13_5 {p : Program} {l : Launch} {e : Env} {R : Room} {s : State} {m : MethodId} {args : Array Value} {below : List Frame} {meth : Method} {c : Code} {H : Heap} {locs : List Loc} {cells slots : Nat} {Q : State → Prop} {own : String} {cc : ByteArray} {nL : Nat} {D : va_G} {a : Nat → Nat} {cI cJ : ClassId} {tk : Nat} {tf : Nat → Int32} {A : Nat → Prop} {S : St} {pc : Nat} {ls : Array Slot} {rest : List Value} {index : Nat} (C : Cx p s m args meth c own cc nL D cI cJ tk tf A) (G : Wd D (wE a cI cJ) A s S H locs) (hl : Cond.fieldLink own index "ErrorNames$Frames" "lasts" "[I" ∈ tb) (hdg : decode cc pc = .ok (.getfield index, 3)) (kk : W p l e R s m args below meth c H locs cells slots Q (F0 m (pc + 3) ls (.ref (a 19) :: rest))) : W p l e R s m args below meth c H locs cells slots Q (F0 m pc ls (.ref (a 13) :: rest)) := r_get C G (Cn := RX0) (T := TX0) (N := 8) (ci := 0) (q0 := 13) (k := 5) inX0 rfl rfl (by decide) hl rfl rfl hdg kk
theorem gE_13_6 {p : Program} {l : Launch} {e : Env} {R : Room} {s : State} {m : MethodId} {args : Array Value} {below : List Frame} {meth : Method} {c : Code} {H : Heap} {locs : List Loc} {cells slots : Nat} {Q : State → Prop} {own : String} {cc : ByteArray} {nL : Nat} {D : va_G} {a : Nat → Nat} {cI cJ : ClassId} {tk : Nat} {tf : Nat → Int32} {A : Nat → Prop} {S : St} {pc : Nat} {ls : Array Slot} {rest : List Value} {index : Nat} (C : Cx p s m args meth c own cc nL D cI cJ tk tf A) (G : Wd D (wE a cI cJ) A s S H locs) (hl : Cond.fieldLink own index "ErrorNames$Frames" "count" "I" ∈ tb) (hdg : decode cc pc = .ok (.getfield index, 3)) (kk : W p l e R s m args below meth c H locs cells slots Q (F0 m (pc + 3) ls (.int (S.1 13 6) :: rest))) : W p l e R s m args below meth c H locs cells slots Q (F0 m pc ls (.ref (a 13) :: rest)) := r_get C G (Cn := RX0) (T := TX0) (N := 8) (ci := 0) (q0 := 13) (k := 6) inX0 rfl rfl (by decide) hl rfl rfl hdg kk
theorem pE_13_6 {p : Program} {l : Launch} {e : Env} {R : Room} {s : State} {m : MethodId} {args : Array Value} {below : List Frame} {meth : Method} {c : Code} {H : Heap} {locs : List Loc} {cells slots : Nat} {Q : State → Prop} {own : String} {cc : ByteArray} {nL : Nat} {D : va_G} {a : Nat → Nat} {cI cJ : ClassId} {tk : Nat} {tf : Nat → Int32} {A : Nat → Prop} {S : St} {pc : Nat} {ls : Array Slot} {rest : List Value} {index : Nat} {v : Int32} (C : Cx p s m args meth c own cc nL D cI cJ tk tf A) (G : Wd D (wE a cI cJ) A s S H locs) (hl : Cond.fieldLink own index "ErrorNames$Frames" "count" "I" ∈ tb) (hdg : decode cc pc = .ok (.putfield index, 3)) (kk : ∀ (H : Heap) (locs : List Loc), Wd D (wE a cI cJ) A s (si S 13 6 v) H locs → W p l e R s m args below meth c H locs cells slots Q (F0 m (pc + 3) ls rest)) : W p l e R s m args below meth c H locs cells slots Q (F0 m pc ls (.int v :: .ref (a 13) :: rest)) := r_put C G (Cn := RX0) (T := TX0) (N := 8) (ci := 0) (q0 := 13) (k := 6) (ty := .int) inX0 tyX0 tyX0_ok nmX0 rfl rfl (by decide) hl rfl rfl (by decide +kernel) rfl rfl (Nat.le_of_ble_eq_true rfl) rfl hdg kk
theorem gE_13_7 {p : Program} {l : Launch} {e : Env} {R : Room} {s : State} {m : MethodId} {args : Array Value} {below : List Frame} {meth : Method} {c : Code} {H : Heap} {locs : List Loc} {cells slots : Nat} {Q : State → Prop} {own : String} {cc : ByteArray} {nL : Nat} {D : va_G} {a : Nat → Nat} {cI cJ : ClassId} {tk : Nat} {tf : Nat → Int32} {A : Nat → Prop} {S : St} {pc : Nat} {ls : Array Slot} {rest : List Value} {index : Nat} (C : Cx p s m args meth c own cc nL D cI cJ tk tf A) (G : Wd D (wE a cI cJ) A s S H locs) (hl : Cond.fieldLink own index "ErrorNames$Frames" "most" "I" ∈ tb) (hdg : decode cc pc = .ok (.getfield index, 3)) (kk : W p l e R s m args below meth c H locs cells slots Q (F0 m (pc + 3) ls (.int (S.1 13 7) :: rest))) : W p l e R s m args below meth c H locs cells slots Q (F0 m pc ls (.ref (a 13) :: rest)) := r_get C G (Cn := RX0) (T := TX0) (N := 8) (ci := 0) (q0 := 13) (k := 7) inX0 rfl rfl (by decide) hl rfl rfl hdg kk
theorem pE_13_7 {p : Program} {l : Launch} {e : Env} {R : Room} {s : State} {m : MethodId} {args : Array Value} {below : List Frame} {meth : Method} {c : Code} {H : Heap} {locs : List Loc} {cells slots : Nat} {Q : State → Prop} {own : String} {cc : ByteArray} {nL : Nat} {D : va_G} {a : Nat → Nat} {cI cJ : ClassId} {tk : Nat} {tf : Nat → Int32} {A : Nat → Prop} {S : St} {pc : Nat} {ls : Array Slot} {rest : List Value} {index : Nat} {v : Int32} (C : Cx p s m args meth c own cc nL D cI cJ tk tf A) (G : Wd D (wE a cI cJ) A s S H locs) (hl : Cond.fieldLink own index "ErrorNames$Frames" "most" "I" ∈ tb) (hdg : decode cc pc = .ok (.putfield index, 3)) (kk : ∀ (H : Heap) (locs : List Loc), Wd D (wE a cI cJ) A s (si S 13 7 v) H locs → W p l e R s m args below meth c H locs cells slots Q (F0 m (pc + 3) ls rest)) : W p l e R s m args below meth c H locs cells slots Q (F0 m pc ls (.int v :: .ref (a 13) :: rest)) := r_put C G (Cn := RX0) (T := TX0) (N := 8) (ci := 0) (q0 := 13) (k := 7) (ty := .int) inX0 tyX0 tyX0_ok nmX0 rfl rfl (by decide) hl rfl rfl (by decide +kernel) rfl rfl (Nat.le_of_ble_eq_true rfl) rfl hdg kk
theorem aE_14 {p : Program} {l : Launch} {e : Env} {R : Room} {s : State} {m : MethodId} {args : Array Value} {below : List Frame} {meth : Method} {c : Code} {H : Heap} {locs : List Loc} {cells slots : Nat} {Q : State → Prop} {own : String} {cc : ByteArray} {nL : Nat} {D : va_G} {a : Nat → Nat} {cI cJ : ClassId} {tk : Nat} {tf : Nat → Int32} {A : Nat → Prop} {S : St} {pc : Nat} {ls : Array Slot} {rest : List Value} {i : Int32} (C : Cx p s m args meth c own cc nL D cI cJ tk tf A) (G : Wd D (wE a cI cJ) A s S H locs) (hin : vp_in i 30) (hdg : decode cc pc = .ok (.iaload, 1)) (kk : W p l e R s m args below meth c H locs cells slots Q (F0 m (pc + 1) ls (.int (S.1 14 i.toNatClampNeg) :: rest))) : W p l e R s m args below meth c H locs cells slots Q (F0 m pc ls (.int i :: .ref (a 14) :: rest)) := r_iald C G (q0 := 14) rfl hin hdg kk
theorem sE_14 {p : Program} {l : Launch} {e : Env} {R : Room} {s : State} {m : MethodId} {args : Array Value} {below : List Frame} {meth : Method} {c : Code} {H : Heap} {locs : List Loc} {cells slots : Nat} {Q : State → Prop} {own : String} {cc : ByteArray} {nL : Nat} {D : va_G} {a : Nat → Nat} {cI cJ : ClassId} {tk : Nat} {tf : Nat → Int32} {A : Nat → Prop} {S : St} {pc : Nat} {ls : Array Slot} {rest : List Value} {i v : Int32} (C : Cx p s m args meth c own cc nL D cI cJ tk tf A) (G : Wd D (wE a cI cJ) A s S H locs) (hin : vp_in i 30) (hdg : decode cc pc = .ok (.iastore, 1)) (kk : ∀ (H : Heap) (locs : List Loc), Wd D (wE a cI cJ) A s (si S 14 i.toNatClampNeg v) H locs → W p l e R s m args below meth c H locs cells slots Q (F0 m (pc + 1) ls rest)) : W p l e R s m args below meth c H locs cells slots Q (F0 m pc ls (.int v :: .int i :: .ref (a 14) :: rest)) := r_iast C G (q0 := 14) rfl hin rfl hdg kk
theorem nE_14 {p : Program} {l : Launch} {e : Env} {R : Room} {s : State} {m : MethodId} {args : Array Value} {below : List Frame} {meth : Method} {c : Code} {H : Heap} {locs : List Loc} {cells slots : Nat} {Q : State → Prop} {own : String} {cc : ByteArray} {nL : Nat} {D : va_G} {a : Nat → Nat} {cI cJ : ClassId} {tk : Nat} {tf : Nat → Int32} {A : Nat → Prop} {S : St} {pc : Nat} {ls : Array Slot} {rest : List Value} (C : Cx p s m args meth c own cc nL D cI cJ tk tf A) (G : Wd D (wE a cI cJ) A s S H locs) (hdg : decode cc pc = .ok (.arraylength, 1)) (kk : W p l e R s m args below meth c H locs cells slots Q (F0 m (pc + 1) ls (.int 30 :: rest))) : W p l e R s m args below meth c H locs cells slots Q (F0 m pc ls (.ref (a 14) :: rest)) := r_alen C G (q0 := 14) rfl rfl hdg kk
theorem aE_15 {p : Program} {l : Launch} {e : Env} {R : Room} {s : State} {m : MethodId} {args : Array Value} {below : List Frame} {meth : Method} {c : Code} {H : Heap} {locs : List Loc} {cells slots : Nat} {Q : State → Prop} {own : String} {cc : ByteArray} {nL : Nat} {D : va_G} {a : Nat → Nat} {cI cJ : ClassId} {tk : Nat} {tf : Nat → Int32} {A : Nat → Prop} {S : St} {pc : Nat} {ls : Array Slot} {rest : List Value} {i : Int32} (C : Cx p s m args meth c own cc nL D cI cJ tk tf A) (G : Wd D (wE a cI cJ) A s S H locs) (hin : vp_in i 30) (hdg : decode cc pc = .ok (.iaload, 1)) (kk : W p l e R s m args below meth c H locs cells slots Q (F0 m (pc + 1) ls (.int (S.1 15 i.toNatClampNeg) :: rest))) : W p l e R s m args below meth c H locs cells slots Q (F0 m pc ls (.int i :: .ref (a 15) :: rest)) := r_iald C G (q0 := 15) rfl hin hdg kk
theorem sE_15 {p : Program} {l : Launch} {e : Env} {R : Room} {s : State} {m : MethodId} {args : Array Value} {below : List Frame} {meth : Method} {c : Code} {H : Heap} {locs : List Loc} {cells slots : Nat} {Q : State → Prop} {own : String} {cc : ByteArray} {nL : Nat} {D : va_G} {a : Nat → Nat} {cI cJ : ClassId} {tk : Nat} {tf : Nat → Int32} {A : Nat → Prop} {S : St} {pc : Nat} {ls : Array Slot} {rest : List Value} {i v : Int32} (C : Cx p s m args meth c own cc nL D cI cJ tk tf A) (G : Wd D (wE a cI cJ) A s S H locs) (hin : vp_in i 30) (hdg : decode cc pc = .ok (.iastore, 1)) (kk : ∀ (H : Heap) (locs : List Loc), Wd D (wE a cI cJ) A s (si S 15 i.toNatClampNeg v) H locs → W p l e R s m args below meth c H locs cells slots Q (F0 m (pc + 1) ls rest)) : W p l e R s m args below meth c H locs cells slots Q (F0 m pc ls (.int v :: .int i :: .ref (a 15) :: rest)) := r_iast C G (q0 := 15) rfl hin rfl hdg kk
theorem nE_15 {p : Program} {l : Launch} {e : Env} {R : Room} {s : State} {m : MethodId} {args : Array Value} {below : List Frame} {meth : Method} {c : Code} {H : Heap} {locs : List Loc} {cells slots : Nat} {Q : State → Prop} {own : String} {cc : ByteArray} {nL : Nat} {D : va_G} {a : Nat → Nat} {cI cJ : ClassId} {tk : Nat} {tf : Nat → Int32} {A : Nat → Prop} {S : St} {pc : Nat} {ls : Array Slot} {rest : List Value} (C : Cx p s m args meth c own cc nL D cI cJ tk tf A) (G : Wd D (wE a cI cJ) A s S H locs) (hdg : decode cc pc = .ok (.arraylength, 1)) (kk : W p l e R s m args below meth c H locs cells slots Q (F0 m (pc + 1) ls (.int 30 :: rest))) : W p l e R s m args below meth c H locs cells slots Q (F0 m pc ls (.ref (a 15) :: rest)) := r_alen C G (q0 := 15) rfl rfl hdg kk
theorem aE_16 {p : Program} {l : Launch} {e : Env} {R : Room} {s : State} {m : MethodId} {args : Array Value} {below : List Frame} {meth : Method} {c : Code} {H : Heap} {locs : List Loc} {cells slots : Nat} {Q : State → Prop} {own : String} {cc : ByteArray} {nL : Nat} {D : va_G} {a : Nat → Nat} {cI cJ : ClassId} {tk : Nat} {tf : Nat → Int32} {A : Nat → Prop} {S : St} {pc : Nat} {ls : Array Slot} {rest : List Value} {i : Int32} (C : Cx p s m args meth c own cc nL D cI cJ tk tf A) (G : Wd D (wE a cI cJ) A s S H locs) (hin : vp_in i 30) (hdg : decode cc pc = .ok (.iaload, 1)) (kk : W p l e R s m args below meth c H locs cells slots Q (F0 m (pc + 1) ls (.int (S.1 16 i.toNatClampNeg) :: rest))) : W p l e R s m args below meth c H locs cells slots Q (F0 m pc ls (.int i :: .ref (a 16) :: rest)) := r_iald C G (q0 := 16) rfl hin hdg kk
theorem sE_16 {p : Program} {l : Launch} {e : Env} {R : Room} {s : State} {m : MethodId} {args : Array Value} {below : List Frame} {meth : Method} {c : Code} {H : Heap} {locs : List Loc} {cells slots : Nat} {Q : State → Prop} {own : String} {cc : ByteArray} {nL : Nat} {D : va_G} {a : Nat → Nat} {cI cJ : ClassId} {tk : Nat} {tf : Nat → Int32} {A : Nat → Prop} {S : St} {pc : Nat} {ls : Array Slot} {rest : List Value} {i v : Int32} (C : Cx p s m args meth c own cc nL D cI cJ tk tf A) (G : Wd D (wE a cI cJ) A s S H locs) (hin : vp_in i 30) (hdg : decode cc pc = .ok (.iastore, 1)) (kk : ∀ (H : Heap) (locs : List Loc), Wd D (wE a cI cJ) A s (si S 16 i.toNatClampNeg v) H locs → W p l e R s m args below meth c H locs cells slots Q (F0 m (pc + 1) ls rest)) : W p l e R s m args below meth c H locs cells slots Q (F0 m pc ls (.int v :: .int i :: .ref (a 16) :: rest)) := r_iast C G (q0 := 16) rfl hin rfl hdg kk
theorem nE_16 {p : Program} {l : Launch} {e : Env} {R : Room} {s : State} {m : MethodId} {args : Array Value} {below : List Frame} {meth : Method} {c : Code} {H : Heap} {locs : List Loc} {cells slots : Nat} {Q : State → Prop} {own : String} {cc : ByteArray} {nL : Nat} {D : va_G} {a : Nat → Nat} {cI cJ : ClassId} {tk : Nat} {tf : Nat → Int32} {A : Nat → Prop} {S : St} {pc : Nat} {ls : Array Slot} {rest : List Value} (C : Cx p s m args meth c own cc nL D cI cJ tk tf A) (G : Wd D (wE a cI cJ) A s S H locs) (hdg : decode cc pc = .ok (.arraylength, 1)) (kk : W p l e R s m args below meth c H locs cells slots Q (F0 m (pc + 1) ls (.int 30 :: rest))) : W p l e R s m args below meth c H locs cells slots Q (F0 m pc ls (.ref (a 16) :: rest)) := r_alen C G (q0 := 16) rfl rfl hdg kk
theorem aE_17 {p : Program} {l : Launch} {e : Env} {R : Room} {s : State} {m : MethodId} {args : Array Value} {below : List Frame} {meth : Method} {c : Code} {H : Heap} {locs : List Loc} {cells slots : Nat} {Q : State → Prop} {own : String} {cc : ByteArray} {nL : Nat} {D : va_G} {a : Nat → Nat} {cI cJ : ClassId} {tk : Nat} {tf : Nat → Int32} {A : Nat → Prop} {S : St} {pc : Nat} {ls : Array Slot} {rest : List Value} {i : Int32} (C : Cx p s m args meth c own cc nL D cI cJ tk tf A) (G : Wd D (wE a cI cJ) A s S H locs) (hin : vp_in i 30) (hdg : decode cc pc = .ok (.laload, 1)) (kk : W p l e R s m args below meth c H locs cells slots Q (F0 m (pc + 1) ls (.long (S.2 i.toNatClampNeg) :: rest))) : W p l e R s m args below meth c H locs cells slots Q (F0 m pc ls (.int i :: .ref (a 17) :: rest)) := r_lald C G (q0 := 17) rfl hin hdg kk
theorem sE_17 {p : Program} {l : Launch} {e : Env} {R : Room} {s : State} {m : MethodId} {args : Array Value} {below : List Frame} {meth : Method} {c : Code} {H : Heap} {locs : List Loc} {cells slots : Nat} {Q : State → Prop} {own : String} {cc : ByteArray} {nL : Nat} {D : va_G} {a : Nat → Nat} {cI cJ : ClassId} {tk : Nat} {tf : Nat → Int32} {A : Nat → Prop} {S : St} {pc : Nat} {ls : Array Slot} {rest : List Value} {i : Int32} {v : Int64} (C : Cx p s m args meth c own cc nL D cI cJ tk tf A) (G : Wd D (wE a cI cJ) A s S H locs) (hin : vp_in i 30) (hdg : decode cc pc = .ok (.lastore, 1)) (kk : ∀ (H : Heap) (locs : List Loc), Wd D (wE a cI cJ) A s (sl S i.toNatClampNeg v) H locs → W p l e R s m args below meth c H locs cells slots Q (F0 m (pc + 1) ls rest)) : W p l e R s m args below meth c H locs cells slots Q (F0 m pc ls (.long v :: .int i :: .ref (a 17) :: rest)) := r_last C G (q0 := 17) rfl hin rfl hdg kk
theorem aE_18 {p : Program} {l : Launch} {e : Env} {R : Room} {s : State} {m : MethodId} {args : Array Value} {below : List Frame} {meth : Method} {c : Code} {H : Heap} {locs : List Loc} {cells slots : Nat} {Q : State → Prop} {own : String} {cc : ByteArray} {nL : Nat} {D : va_G} {a : Nat → Nat} {cI cJ : ClassId} {tk : Nat} {tf : Nat → Int32} {A : Nat → Prop} {S : St} {pc : Nat} {ls : Array Slot} {rest : List Value} {i : Int32} (C : Cx p s m args meth c own cc nL D cI cJ tk tf A) (G : Wd D (wE a cI cJ) A s S H locs) (hin : vp_in i 30) (hdg : decode cc pc = .ok (.iaload, 1)) (kk : W p l e R s m args below meth c H locs cells slots Q (F0 m (pc + 1) ls (.int (S.1 18 i.toNatClampNeg) :: rest))) : W p l e R s m args below meth c H locs cells slots Q (F0 m pc ls (.int i :: .ref (a 18) :: rest)) := r_iald C G (q0 := 18) rfl hin hdg kk
theorem sE_18 {p : Program} {l : Launch} {e : Env} {R : Room} {s : State} {m : MethodId} {args : Array Value} {below : List Frame} {meth : Method} {c : Code} {H : Heap} {locs : List Loc} {cells slots : Nat} {Q : State → Prop} {own : String} {cc : ByteArray} {nL : Nat} {D : va_G} {a : Nat → Nat} {cI cJ : ClassId} {tk : Nat} {tf : Nat → Int32} {A : Nat → Prop} {S : St} {pc : Nat} {ls : Array Slot} {rest : List Value} {i v : Int32} (C : Cx p s m args meth c own cc nL D cI cJ tk tf A) (G : Wd D (wE a cI cJ) A s S H locs) (hin : vp_in i 30) (hdg : decode cc pc = .ok (.iastore, 1)) (kk : ∀ (H : Heap) (locs : List Loc), Wd D (wE a cI cJ) A s (si S 18 i.toNatClampNeg v) H locs → W p l e R s m args below meth c H locs cells slots Q (F0 m (pc + 1) ls rest)) : W p l e R s m args below meth c H locs cells slots Q (F0 m pc ls (.int v :: .int i :: .ref (a 18) :: rest)) := r_iast C G (q0 := 18) rfl hin rfl hdg kk
theorem nE_18 {p : Program} {l : Launch} {e : Env} {R : Room} {s : State} {m : MethodId} {args : Array Value} {below : List Frame} {meth : Method} {c : Code} {H : Heap} {locs : List Loc} {cells slots : Nat} {Q : State → Prop} {own : String} {cc : ByteArray} {nL : Nat} {D : va_G} {a : Nat → Nat} {cI cJ : ClassId} {tk : Nat} {tf : Nat → Int32} {A : Nat → Prop} {S : St} {pc : Nat} {ls : Array Slot} {rest : List Value} (C : Cx p s m args meth c own cc nL D cI cJ tk tf A) (G : Wd D (wE a cI cJ) A s S H locs) (hdg : decode cc pc = .ok (.arraylength, 1)) (kk : W p l e R s m args below meth c H locs cells slots Q (F0 m (pc + 1) ls (.int 30 :: rest))) : W p l e R s m args below meth c H locs cells slots Q (F0 m pc ls (.ref (a 18) :: rest)) := r_alen C G (q0 := 18) rfl rfl hdg kk
theorem aE_19 {p : Program} {l : Launch} {e : Env} {R : Room} {s : State} {m : MethodId} {args : Array Value} {below : List Frame} {meth : Method} {c : Code} {H : Heap} {locs : List Loc} {cells slots : Nat} {Q : State → Prop} {own : String} {cc : ByteArray} {nL : Nat} {D : va_G} {a : Nat → Nat} {cI cJ : ClassId} {tk : Nat} {tf : Nat → Int32} {A : Nat → Prop} {S : St} {pc : Nat} {ls : Array Slot} {rest : List Value} {i : Int32} (C : Cx p s m args meth c own cc nL D cI cJ tk tf A) (G : Wd D (wE a cI cJ) A s S H locs) (hin : vp_in i 30) (hdg : decode cc pc = .ok (.iaload, 1)) (kk : W p l e R s m args below meth c H locs cells slots Q (F0 m (pc + 1) ls (.int (S.1 19 i.toNatClampNeg) :: rest))) : W p l e R s m args below meth c H locs cells slots Q (F0 m pc ls (.int i :: .ref (a 19) :: rest)) := r_iald C G (q0 := 19) rfl hin hdg kk
theorem sE_19 {p : Program} {l : Launch} {e : Env} {R : Room} {s : State} {m : MethodId} {args : Array Value} {below : List Frame} {meth : Method} {c : Code} {H : Heap} {locs : List Loc} {cells slots : Nat} {Q : State → Prop} {own : String} {cc : ByteArray} {nL : Nat} {D : va_G} {a : Nat → Nat} {cI cJ : ClassId} {tk : Nat} {tf : Nat → Int32} {A : Nat → Prop} {S : St} {pc : Nat} {ls : Array Slot} {rest : List Value} {i v : Int32} (C : Cx p s m args meth c own cc nL D cI cJ tk tf A) (G : Wd D (wE a cI cJ) A s S H locs) (hin : vp_in i 30) (hdg : decode cc pc = .ok (.iastore, 1)) (kk : ∀ (H : Heap) (locs : List Loc), Wd D (wE a cI cJ) A s (si S 19 i.toNatClampNeg v) H locs → W p l e R s m args below meth c H locs cells slots Q (F0 m (pc + 1) ls rest)) : W p l e R s m args below meth c H locs cells slots Q (F0 m pc ls (.int v :: .int i :: .ref (a 19) :: rest)) := r_iast C G (q0 := 19) rfl hin rfl hdg kk
theorem nE_19 {p : Program} {l : Launch} {e : Env} {R : Room} {s : State} {m : MethodId} {args : Array Value} {below : List Frame} {meth : Method} {c : Code} {H : Heap} {locs : List Loc} {cells slots : Nat} {Q : State → Prop} {own : String} {cc : ByteArray} {nL : Nat} {D : va_G} {a : Nat → Nat} {cI cJ : ClassId} {tk : Nat} {tf : Nat → Int32} {A : Nat → Prop} {S : St} {pc : Nat} {ls : Array Slot} {rest : List Value} (C : Cx p s m args meth c own cc nL D cI cJ tk tf A) (G : Wd D (wE a cI cJ) A s S H locs) (hdg : decode cc pc = .ok (.arraylength, 1)) (kk : W p l e R s m args below meth c H locs cells slots Q (F0 m (pc + 1) ls (.int 30 :: rest))) : W p l e R s m args below meth c H locs cells slots Q (F0 m pc ls (.ref (a 19) :: rest)) := r_alen C G (q0 := 19) rfl rfl hdg kk
theorem gE_20_0 {p : Program} {l : Launch} {e : Env} {R : Room} {s : State} {m : MethodId} {args : Array Value} {below : List Frame} {meth : Method} {c : Code} {H : Heap} {locs : List Loc} {cells slots : Nat} {Q : State → Prop} {own : String} {cc : ByteArray} {nL : Nat} {D : va_G} {a : Nat → Nat} {cI cJ : ClassId} {tk : Nat} {tf : Nat → Int32} {A : Nat → Prop} {S : St} {pc : Nat} {ls : Array Slot} {rest : List Value} {index : Nat} (C : Cx p s m args meth c own cc nL D cI cJ tk tf A) (G : Wd D (wE a cI cJ) A s S H locs) (hl : Cond.fieldLink own index "ErrorNames$Report" "pile" "LErrorNames$Pile;" ∈ tb) (hdg : decode cc pc = .ok (.getfield index, 3)) (kk : W p l e R s m args below meth c H locs cells slots Q (F0 m (pc + 3) ls (.ref (a 21) :: rest))) : W p l e R s m args below meth c H locs cells slots Q (F0 m pc ls (.ref (a 20) :: rest)) := r_get C G (Cn := RX5) (T := TX5) (N := 6) (ci := 5) (q0 := 20) (k := 0) inX5 rfl rfl (by decide) hl rfl rfl hdg kk
theorem gE_20_1 {p : Program} {l : Launch} {e : Env} {R : Room} {s : State} {m : MethodId} {args : Array Value} {below : List Frame} {meth : Method} {c : Code} {H : Heap} {locs : List Loc} {cells slots : Nat} {Q : State → Prop} {own : String} {cc : ByteArray} {nL : Nat} {D : va_G} {a : Nat → Nat} {cI cJ : ClassId} {tk : Nat} {tf : Nat → Int32} {A : Nat → Prop} {S : St} {pc : Nat} {ls : Array Slot} {rest : List Value} {index : Nat} (C : Cx p s m args meth c own cc nL D cI cJ tk tf A) (G : Wd D (wE a cI cJ) A s S H locs) (hl : Cond.fieldLink own index "ErrorNames$Report" "error" "I" ∈ tb) (hdg : decode cc pc = .ok (.getfield index, 3)) (kk : W p l e R s m args below meth c H locs cells slots Q (F0 m (pc + 3) ls (.int (S.1 20 1) :: rest))) : W p l e R s m args below meth c H locs cells slots Q (F0 m pc ls (.ref (a 20) :: rest)) := r_get C G (Cn := RX5) (T := TX5) (N := 6) (ci := 5) (q0 := 20) (k := 1) inX5 rfl rfl (by decide) hl rfl rfl hdg kk
theorem pE_20_1 {p : Program} {l : Launch} {e : Env} {R : Room} {s : State} {m : MethodId} {args : Array Value} {below : List Frame} {meth : Method} {c : Code} {H : Heap} {locs : List Loc} {cells slots : Nat} {Q : State → Prop} {own : String} {cc : ByteArray} {nL : Nat} {D : va_G} {a : Nat → Nat} {cI cJ : ClassId} {tk : Nat} {tf : Nat → Int32} {A : Nat → Prop} {S : St} {pc : Nat} {ls : Array Slot} {rest : List Value} {index : Nat} {v : Int32} (C : Cx p s m args meth c own cc nL D cI cJ tk tf A) (G : Wd D (wE a cI cJ) A s S H locs) (hl : Cond.fieldLink own index "ErrorNames$Report" "error" "I" ∈ tb) (hdg : decode cc pc = .ok (.putfield index, 3)) (kk : ∀ (H : Heap) (locs : List Loc), Wd D (wE a cI cJ) A s (si S 20 1 v) H locs → W p l e R s m args below meth c H locs cells slots Q (F0 m (pc + 3) ls rest)) : W p l e R s m args below meth c H locs cells slots Q (F0 m pc ls (.int v :: .ref (a 20) :: rest)) := r_put C G (Cn := RX5) (T := TX5) (N := 6) (ci := 5) (q0 := 20) (k := 1) (ty := .int) inX5 tyX5 tyX5_ok nmX5 rfl rfl (by decide) hl rfl rfl (by decide +kernel) rfl rfl (Nat.le_of_ble_eq_true rfl) rfl hdg kk
theorem gE_20_2 {p : Program} {l : Launch} {e : Env} {R : Room} {s : State} {m : MethodId} {args : Array Value} {below : List Frame} {meth : Method} {c : Code} {H : Heap} {locs : List Loc} {cells slots : Nat} {Q : State → Prop} {own : String} {cc : ByteArray} {nL : Nat} {D : va_G} {a : Nat → Nat} {cI cJ : ClassId} {tk : Nat} {tf : Nat → Int32} {A : Nat → Prop} {S : St} {pc : Nat} {ls : Array Slot} {rest : List Value} {index : Nat} (C : Cx p s m args meth c own cc nL D cI cJ tk tf A) (G : Wd D (wE a cI cJ) A s S H locs) (hl : Cond.fieldLink own index "ErrorNames$Report" "command" "I" ∈ tb) (hdg : decode cc pc = .ok (.getfield index, 3)) (kk : W p l e R s m args below meth c H locs cells slots Q (F0 m (pc + 3) ls (.int (S.1 20 2) :: rest))) : W p l e R s m args below meth c H locs cells slots Q (F0 m pc ls (.ref (a 20) :: rest)) := r_get C G (Cn := RX5) (T := TX5) (N := 6) (ci := 5) (q0 := 20) (k := 2) inX5 rfl rfl (by decide) hl rfl rfl hdg kk
theorem pE_20_2 {p : Program} {l : Launch} {e : Env} {R : Room} {s : State} {m : MethodId} {args : Array Value} {below : List Frame} {meth : Method} {c : Code} {H : Heap} {locs : List Loc} {cells slots : Nat} {Q : State → Prop} {own : String} {cc : ByteArray} {nL : Nat} {D : va_G} {a : Nat → Nat} {cI cJ : ClassId} {tk : Nat} {tf : Nat → Int32} {A : Nat → Prop} {S : St} {pc : Nat} {ls : Array Slot} {rest : List Value} {index : Nat} {v : Int32} (C : Cx p s m args meth c own cc nL D cI cJ tk tf A) (G : Wd D (wE a cI cJ) A s S H locs) (hl : Cond.fieldLink own index "ErrorNames$Report" "command" "I" ∈ tb) (hdg : decode cc pc = .ok (.putfield index, 3)) (kk : ∀ (H : Heap) (locs : List Loc), Wd D (wE a cI cJ) A s (si S 20 2 v) H locs → W p l e R s m args below meth c H locs cells slots Q (F0 m (pc + 3) ls rest)) : W p l e R s m args below meth c H locs cells slots Q (F0 m pc ls (.int v :: .ref (a 20) :: rest)) := r_put C G (Cn := RX5) (T := TX5) (N := 6) (ci := 5) (q0 := 20) (k := 2) (ty := .int) inX5 tyX5 tyX5_ok nmX5 rfl rfl (by decide) hl rfl rfl (by decide +kernel) rfl rfl (Nat.le_of_ble_eq_true rfl) rfl hdg kk
theorem gE_20_3 {p : Program} {l : Launch} {e : Env} {R : Room} {s : State} {m : MethodId} {args : Array Value} {below : List Frame} {meth : Method} {c : Code} {H : Heap} {locs : List Loc} {cells slots : Nat} {Q : State → Prop} {own : String} {cc : ByteArray} {nL : Nat} {D : va_G} {a : Nat → Nat} {cI cJ : ClassId} {tk : Nat} {tf : Nat → Int32} {A : Nat → Prop} {S : St} {pc : Nat} {ls : Array Slot} {rest : List Value} {index : Nat} (C : Cx p s m args meth c own cc nL D cI cJ tk tf A) (G : Wd D (wE a cI cJ) A s S H locs) (hl : Cond.fieldLink own index "ErrorNames$Report" "within" "I" ∈ tb) (hdg : decode cc pc = .ok (.getfield index, 3)) (kk : W p l e R s m args below meth c H locs cells slots Q (F0 m (pc + 3) ls (.int (S.1 20 3) :: rest))) : W p l e R s m args below meth c H locs cells slots Q (F0 m pc ls (.ref (a 20) :: rest)) := r_get C G (Cn := RX5) (T := TX5) (N := 6) (ci := 5) (q0 := 20) (k := 3) inX5 rfl rfl (by decide) hl rfl rfl hdg kk
theorem pE_20_3 {p : Program} {l : Launch} {e : Env} {R : Room} {s : State} {m : MethodId} {args : Array Value} {below : List Frame} {meth : Method} {c : Code} {H : Heap} {locs : List Loc} {cells slots : Nat} {Q : State → Prop} {own : String} {cc : ByteArray} {nL : Nat} {D : va_G} {a : Nat → Nat} {cI cJ : ClassId} {tk : Nat} {tf : Nat → Int32} {A : Nat → Prop} {S : St} {pc : Nat} {ls : Array Slot} {rest : List Value} {index : Nat} {v : Int32} (C : Cx p s m args meth c own cc nL D cI cJ tk tf A) (G : Wd D (wE a cI cJ) A s S H locs) (hl : Cond.fieldLink own index "ErrorNames$Report" "within" "I" ∈ tb) (hdg : decode cc pc = .ok (.putfield index, 3)) (kk : ∀ (H : Heap) (locs : List Loc), Wd D (wE a cI cJ) A s (si S 20 3 v) H locs → W p l e R s m args below meth c H locs cells slots Q (F0 m (pc + 3) ls rest)) : W p l e R s m args below meth c H locs cells slots Q (F0 m pc ls (.int v :: .ref (a 20) :: rest)) := r_put C G (Cn := RX5) (T := TX5) (N := 6) (ci := 5) (q0 := 20) (k := 3) (ty := .int) inX5 tyX5 tyX5_ok nmX5 rfl rfl (by decide) hl rfl rfl (by decide +kernel) rfl rfl (Nat.le_of_ble_eq_true rfl) rfl hdg kk
theorem gE_20_4 {p : Program} {l : Launch} {e : Env} {R : Room} {s : State} {m : MethodId} {args : Array Value} {below : List Frame} {meth : Method} {c : Code} {H : Heap} {locs : List Loc} {cells slots : Nat} {Q : State → Prop} {own : String} {cc : ByteArray} {nL : Nat} {D : va_G} {a : Nat → Nat} {cI cJ : ClassId} {tk : Nat} {tf : Nat → Int32} {A : Nat → Prop} {S : St} {pc : Nat} {ls : Array Slot} {rest : List Value} {index : Nat} (C : Cx p s m args meth c own cc nL D cI cJ tk tf A) (G : Wd D (wE a cI cJ) A s S H locs) (hl : Cond.fieldLink own index "ErrorNames$Report" "inAll" "I" ∈ tb) (hdg : decode cc pc = .ok (.getfield index, 3)) (kk : W p l e R s m args below meth c H locs cells slots Q (F0 m (pc + 3) ls (.int (S.1 20 4) :: rest))) : W p l e R s m args below meth c H locs cells slots Q (F0 m pc ls (.ref (a 20) :: rest)) := r_get C G (Cn := RX5) (T := TX5) (N := 6) (ci := 5) (q0 := 20) (k := 4) inX5 rfl rfl (by decide) hl rfl rfl hdg kk
theorem pE_20_4 {p : Program} {l : Launch} {e : Env} {R : Room} {s : State} {m : MethodId} {args : Array Value} {below : List Frame} {meth : Method} {c : Code} {H : Heap} {locs : List Loc} {cells slots : Nat} {Q : State → Prop} {own : String} {cc : ByteArray} {nL : Nat} {D : va_G} {a : Nat → Nat} {cI cJ : ClassId} {tk : Nat} {tf : Nat → Int32} {A : Nat → Prop} {S : St} {pc : Nat} {ls : Array Slot} {rest : List Value} {index : Nat} {v : Int32} (C : Cx p s m args meth c own cc nL D cI cJ tk tf A) (G : Wd D (wE a cI cJ) A s S H locs) (hl : Cond.fieldLink own index "ErrorNames$Report" "inAll" "I" ∈ tb) (hdg : decode cc pc = .ok (.putfield index, 3)) (kk : ∀ (H : Heap) (locs : List Loc), Wd D (wE a cI cJ) A s (si S 20 4 v) H locs → W p l e R s m args below meth c H locs cells slots Q (F0 m (pc + 3) ls rest)) : W p l e R s m args below meth c H locs cells slots Q (F0 m pc ls (.int v :: .ref (a 20) :: rest)) := r_put C G (Cn := RX5) (T := TX5) (N := 6) (ci := 5) (q0 := 20) (k := 4) (ty := .int) inX5 tyX5 tyX5_ok nmX5 rfl rfl (by decide) hl rfl rfl (by decide +kernel) rfl rfl (Nat.le_of_ble_eq_true rfl) rfl hdg kk
theorem gE_20_5 {p : Program} {l : Launch} {e : Env} {R : Room} {s : State} {m : MethodId} {args : Array Value} {below : List Frame} {meth : Method} {c : Code} {H : Heap} {locs : List Loc} {cells slots : Nat} {Q : State → Prop} {own : String} {cc : ByteArray} {nL : Nat} {D : va_G} {a : Nat → Nat} {cI cJ : ClassId} {tk : Nat} {tf : Nat → Int32} {A : Nat → Prop} {S : St} {pc : Nat} {ls : Array Slot} {rest : List Value} {index : Nat} (C : Cx p s m args meth c own cc nL D cI cJ tk tf A) (G : Wd D (wE a cI cJ) A s S H locs) (hl : Cond.fieldLink own index "ErrorNames$Report" "isNew" "Z" ∈ tb) (hdg : decode cc pc = .ok (.getfield index, 3)) (kk : W p l e R s m args below meth c H locs cells slots Q (F0 m (pc + 3) ls (.int (S.1 20 5) :: rest))) : W p l e R s m args below meth c H locs cells slots Q (F0 m pc ls (.ref (a 20) :: rest)) := r_get C G (Cn := RX5) (T := TX5) (N := 6) (ci := 5) (q0 := 20) (k := 5) inX5 rfl rfl (by decide) hl rfl rfl hdg kk
theorem pE_20_5 {p : Program} {l : Launch} {e : Env} {R : Room} {s : State} {m : MethodId} {args : Array Value} {below : List Frame} {meth : Method} {c : Code} {H : Heap} {locs : List Loc} {cells slots : Nat} {Q : State → Prop} {own : String} {cc : ByteArray} {nL : Nat} {D : va_G} {a : Nat → Nat} {cI cJ : ClassId} {tk : Nat} {tf : Nat → Int32} {A : Nat → Prop} {S : St} {pc : Nat} {ls : Array Slot} {rest : List Value} {index : Nat} {v : Int32} (C : Cx p s m args meth c own cc nL D cI cJ tk tf A) (G : Wd D (wE a cI cJ) A s S H locs) (hb : v = 0 ∨ v = 1) (hl : Cond.fieldLink own index "ErrorNames$Report" "isNew" "Z" ∈ tb) (hdg : decode cc pc = .ok (.putfield index, 3)) (kk : ∀ (H : Heap) (locs : List Loc), Wd D (wE a cI cJ) A s (si S 20 5 v) H locs → W p l e R s m args below meth c H locs cells slots Q (F0 m (pc + 3) ls rest)) : W p l e R s m args below meth c H locs cells slots Q (F0 m pc ls (.int v :: .ref (a 20) :: rest)) := r_put C G (Cn := RX5) (T := TX5) (N := 6) (ci := 5) (q0 := 20) (k := 5) (ty := .boolean) inX5 tyX5 tyX5_ok nmX5 rfl rfl (by decide) hl rfl rfl (by decide +kernel) (by rcases hb with rfl | rfl <;> decide +kernel) (by rcases hb with rfl | rfl <;> decide +kernel) (Nat.le_of_ble_eq_true rfl) rfl hdg kk
theorem gE_21_0 {p : Program} {l : Launch} {e : Env} {R : Room} {s : State} {m : MethodId} {args : Array Value} {below : List Frame} {meth : Method} {c : Code} {H : Heap} {locs : List Loc} {cells slots : Nat} {Q : State → Prop} {own : String} {cc : ByteArray} {nL : Nat} {D : va_G} {a : Nat → Nat} {cI cJ : ClassId} {tk : Nat} {tf : Nat → Int32} {A : Nat → Prop} {S : St} {pc : Nat} {ls : Array Slot} {rest : List Value} {index : Nat} (C : Cx p s m args meth c own cc nL D cI cJ tk tf A) (G : Wd D (wE a cI cJ) A s S H locs) (hl : Cond.fieldLink own index "ErrorNames$Pile" "kinds" "[I" ∈ tb) (hdg : decode cc pc = .ok (.getfield index, 3)) (kk : W p l e R s m args below meth c H locs cells slots Q (F0 m (pc + 3) ls (.ref (a 22) :: rest))) : W p l e R s m args below meth c H locs cells slots Q (F0 m pc ls (.ref (a 21) :: rest)) := r_get C G (Cn := RX2) (T := TX2) (N := 3) (ci := 2) (q0 := 21) (k := 0) inX2 rfl rfl (by decide) hl rfl rfl hdg kk
theorem gE_21_1 {p : Program} {l : Launch} {e : Env} {R : Room} {s : State} {m : MethodId} {args : Array Value} {below : List Frame} {meth : Method} {c : Code} {H : Heap} {locs : List Loc} {cells slots : Nat} {Q : State → Prop} {own : String} {cc : ByteArray} {nL : Nat} {D : va_G} {a : Nat → Nat} {cI cJ : ClassId} {tk : Nat} {tf : Nat → Int32} {A : Nat → Prop} {S : St} {pc : Nat} {ls : Array Slot} {rest : List Value} {index : Nat} (C : Cx p s m args meth c own cc nL D cI cJ tk tf A) (G : Wd D (wE a cI cJ) A s S H locs) (hl : Cond.fieldLink own index "ErrorNames$Pile" "numbers" "[I" ∈ tb) (hdg : decode cc pc = .ok (.getfield index, 3)) (kk : W p l e R s m args below meth c H locs cells slots Q (F0 m (pc + 3) ls (.ref (a 23) :: rest))) : W p l e R s m args below meth c H locs cells slots Q (F0 m pc ls (.ref (a 21) :: rest)) := r_get C G (Cn := RX2) (T := TX2) (N := 3) (ci := 2) (q0 := 21) (k := 1) inX2 rfl rfl (by decide) hl rfl rfl hdg kk
theorem gE_21_2 {p : Program} {l : Launch} {e : Env} {R : Room} {s : State} {m : MethodId} {args : Array Value} {below : List Frame} {meth : Method} {c : Code} {H : Heap} {locs : List Loc} {cells slots : Nat} {Q : State → Prop} {own : String} {cc : ByteArray} {nL : Nat} {D : va_G} {a : Nat → Nat} {cI cJ : ClassId} {tk : Nat} {tf : Nat → Int32} {A : Nat → Prop} {S : St} {pc : Nat} {ls : Array Slot} {rest : List Value} {index : Nat} (C : Cx p s m args meth c own cc nL D cI cJ tk tf A) (G : Wd D (wE a cI cJ) A s S H locs) (hl : Cond.fieldLink own index "ErrorNames$Pile" "count" "I" ∈ tb) (hdg : decode cc pc = .ok (.getfield index, 3)) (kk : W p l e R s m args below meth c H locs cells slots Q (F0 m (pc + 3) ls (.int (S.1 21 2) :: rest))) : W p l e R s m args below meth c H locs cells slots Q (F0 m pc ls (.ref (a 21) :: rest)) := r_get C G (Cn := RX2) (T := TX2) (N := 3) (ci := 2) (q0 := 21) (k := 2) inX2 rfl rfl (by decide) hl rfl rfl hdg kk
theorem pE_21_2 {p : Program} {l : Launch} {e : Env} {R : Room} {s : State} {m : MethodId} {args : Array Value} {below : List Frame} {meth : Method} {c : Code} {H : Heap} {locs : List Loc} {cells slots : Nat} {Q : State → Prop} {own : String} {cc : ByteArray} {nL : Nat} {D : va_G} {a : Nat → Nat} {cI cJ : ClassId} {tk : Nat} {tf : Nat → Int32} {A : Nat → Prop} {S : St} {pc : Nat} {ls : Array Slot} {rest : List Value} {index : Nat} {v : Int32} (C : Cx p s m args meth c own cc nL D cI cJ tk tf A) (G : Wd D (wE a cI cJ) A s S H locs) (hl : Cond.fieldLink own index "ErrorNames$Pile" "count" "I" ∈ tb) (hdg : decode cc pc = .ok (.putfield index, 3)) (kk : ∀ (H : Heap) (locs : List Loc), Wd D (wE a cI cJ) A s (si S 21 2 v) H locs → W p l e R s m args below meth c H locs cells slots Q (F0 m (pc + 3) ls rest)) : W p l e R s m args below meth c H locs cells slots Q (F0 m pc ls (.int v :: .ref (a 21) :: rest)) := r_put C G (Cn := RX2) (T := TX2) (N := 3) (ci := 2) (q0 := 21) (k := 2) (ty := .int) inX2 tyX2 tyX2_ok nmX2 rfl rfl (by decide) hl rfl rfl (by decide +kernel) rfl rfl (Nat.le_of_ble_eq_true rfl) rfl hdg kk
theorem aE_22 {p : Program} {l : Launch} {e : Env} {R : Room} {s : State} {m : MethodId} {args : Array Value} {below : List Frame} {meth : Method} {c : Code} {H : Heap} {locs : List Loc} {cells slots : Nat} {Q : State → Prop} {own : String} {cc : ByteArray} {nL : Nat} {D : va_G} {a : Nat → Nat} {cI cJ : ClassId} {tk : Nat} {tf : Nat → Int32} {A : Nat → Prop} {S : St} {pc : Nat} {ls : Array Slot} {rest : List Value} {i : Int32} (C : Cx p s m args meth c own cc nL D cI cJ tk tf A) (G : Wd D (wE a cI cJ) A s S H locs) (hin : vp_in i 60) (hdg : decode cc pc = .ok (.iaload, 1)) (kk : W p l e R s m args below meth c H locs cells slots Q (F0 m (pc + 1) ls (.int (S.1 22 i.toNatClampNeg) :: rest))) : W p l e R s m args below meth c H locs cells slots Q (F0 m pc ls (.int i :: .ref (a 22) :: rest)) := r_iald C G (q0 := 22) rfl hin hdg kk
theorem sE_22 {p : Program} {l : Launch} {e : Env} {R : Room} {s : State} {m : MethodId} {args : Array Value} {below : List Frame} {meth : Method} {c : Code} {H : Heap} {locs : List Loc} {cells slots : Nat} {Q : State → Prop} {own : String} {cc : ByteArray} {nL : Nat} {D : va_G} {a : Nat → Nat} {cI cJ : ClassId} {tk : Nat} {tf : Nat → Int32} {A : Nat → Prop} {S : St} {pc : Nat} {ls : Array Slot} {rest : List Value} {i v : Int32} (C : Cx p s m args meth c own cc nL D cI cJ tk tf A) (G : Wd D (wE a cI cJ) A s S H locs) (hin : vp_in i 60) (hdg : decode cc pc = .ok (.iastore, 1)) (kk : ∀ (H : Heap) (locs : List Loc), Wd D (wE a cI cJ) A s (si S 22 i.toNatClampNeg v) H locs → W p l e R s m args below meth c H locs cells slots Q (F0 m (pc + 1) ls rest)) : W p l e R s m args below meth c H locs cells slots Q (F0 m pc ls (.int v :: .int i :: .ref (a 22) :: rest)) := r_iast C G (q0 := 22) rfl hin rfl hdg kk
theorem nE_22 {p : Program} {l : Launch} {e : Env} {R : Room} {s : State} {m : MethodId} {args : Array Value} {below : List Frame} {meth : Method} {c : Code} {H : Heap} {locs : List Loc} {cells slots : Nat} {Q : State → Prop} {own : String} {cc : ByteArray} {nL : Nat} {D : va_G} {a : Nat → Nat} {cI cJ : ClassId} {tk : Nat} {tf : Nat → Int32} {A : Nat → Prop} {S : St} {pc : Nat} {ls : Array Slot} {rest : List Value} (C : Cx p s m args meth c own cc nL D cI cJ tk tf A) (G : Wd D (wE a cI cJ) A s S H locs) (hdg : decode cc pc = .ok (.arraylength, 1)) (kk : W p l e R s m args below meth c H locs cells slots Q (F0 m (pc + 1) ls (.int 60 :: rest))) : W p l e R s m args below meth c H locs cells slots Q (F0 m pc ls (.ref (a 22) :: rest)) := r_alen C G (q0 := 22) rfl rfl hdg kk
theorem aE_23 {p : Program} {l : Launch} {e : Env} {R : Room} {s : State} {m : MethodId} {args : Array Value} {below : List Frame} {meth : Method} {c : Code} {H : Heap} {locs : List Loc} {cells slots : Nat} {Q : State → Prop} {own : String} {cc : ByteArray} {nL : Nat} {D : va_G} {a : Nat → Nat} {cI cJ : ClassId} {tk : Nat} {tf : Nat → Int32} {A : Nat → Prop} {S : St} {pc : Nat} {ls : Array Slot} {rest : List Value} {i : Int32} (C : Cx p s m args meth c own cc nL D cI cJ tk tf A) (G : Wd D (wE a cI cJ) A s S H locs) (hin : vp_in i 60) (hdg : decode cc pc = .ok (.iaload, 1)) (kk : W p l e R s m args below meth c H locs cells slots Q (F0 m (pc + 1) ls (.int (S.1 23 i.toNatClampNeg) :: rest))) : W p l e R s m args below meth c H locs cells slots Q (F0 m pc ls (.int i :: .ref (a 23) :: rest)) := r_iald C G (q0 := 23) rfl hin hdg kk
theorem sE_23 {p : Program} {l : Launch} {e : Env} {R : Room} {s : State} {m : MethodId} {args : Array Value} {below : List Frame} {meth : Method} {c : Code} {H : Heap} {locs : List Loc} {cells slots : Nat} {Q : State → Prop} {own : String} {cc : ByteArray} {nL : Nat} {D : va_G} {a : Nat → Nat} {cI cJ : ClassId} {tk : Nat} {tf : Nat → Int32} {A : Nat → Prop} {S : St} {pc : Nat} {ls : Array Slot} {rest : List Value} {i v : Int32} (C : Cx p s m args meth c own cc nL D cI cJ tk tf A) (G : Wd D (wE a cI cJ) A s S H locs) (hin : vp_in i 60) (hdg : decode cc pc = .ok (.iastore, 1)) (kk : ∀ (H : Heap) (locs : List Loc), Wd D (wE a cI cJ) A s (si S 23 i.toNatClampNeg v) H locs → W p l e R s m args below meth c H locs cells slots Q (F0 m (pc + 1) ls rest)) : W p l e R s m args below meth c H locs cells slots Q (F0 m pc ls (.int v :: .int i :: .ref (a 23) :: rest)) := r_iast C G (q0 := 23) rfl hin rfl hdg kk
theorem nE_23 {p : Program} {l : Launch} {e : Env} {R : Room} {s : State} {m : MethodId} {args : Array Value} {below : List Frame} {meth : Method} {c : Code} {H : Heap} {locs : List Loc} {cells slots : Nat} {Q : State → Prop} {own : String} {cc : ByteArray} {nL : Nat} {D : va_G} {a : Nat → Nat} {cI cJ : ClassId} {tk : Nat} {tf : Nat → Int32} {A : Nat → Prop} {S : St} {pc : Nat} {ls : Array Slot} {rest : List Value} (C : Cx p s m args meth c own cc nL D cI cJ tk tf A) (G : Wd D (wE a cI cJ) A s S H locs) (hdg : decode cc pc = .ok (.arraylength, 1)) (kk : W p l e R s m args below meth c H locs cells slots Q (F0 m (pc + 1) ls (.int 60 :: rest))) : W p l e R s m args below meth c H locs cells slots Q (F0 m pc ls (.ref (a 23) :: rest)) := r_alen C G (q0 := 23) rfl rfl hdg kk
theorem gE_24_0 {p : Program} {l : Launch} {e : Env} {R : Room} {s : State} {m : MethodId} {args : Array Value} {below : List Frame} {meth : Method} {c : Code} {H : Heap} {locs : List Loc} {cells slots : Nat} {Q : State → Prop} {own : String} {cc : ByteArray} {nL : Nat} {D : va_G} {a : Nat → Nat} {cI cJ : ClassId} {tk : Nat} {tf : Nat → Int32} {A : Nat → Prop} {S : St} {pc : Nat} {ls : Array Slot} {rest : List Value} {index : Nat} (C : Cx p s m args meth c own cc nL D cI cJ tk tf A) (G : Wd D (wE a cI cJ) A s S H locs) (hl : Cond.fieldLink own index "ErrorNames$PileOperators" "pile" "LErrorNames$Pile;" ∈ tb) (hdg : decode cc pc = .ok (.getfield index, 3)) (kk : W p l e R s m args below meth c H locs cells slots Q (F0 m (pc + 3) ls (.ref (a 5) :: rest))) : W p l e R s m args below meth c H locs cells slots Q (F0 m pc ls (.ref (a 24) :: rest)) := r_get C G (Cn := RX3) (T := TX3) (N := 2) (ci := 3) (q0 := 24) (k := 0) inX3 rfl rfl (by decide) hl rfl rfl hdg kk
theorem gE_24_1 {p : Program} {l : Launch} {e : Env} {R : Room} {s : State} {m : MethodId} {args : Array Value} {below : List Frame} {meth : Method} {c : Code} {H : Heap} {locs : List Loc} {cells slots : Nat} {Q : State → Prop} {own : String} {cc : ByteArray} {nL : Nat} {D : va_G} {a : Nat → Nat} {cI cJ : ClassId} {tk : Nat} {tf : Nat → Int32} {A : Nat → Prop} {S : St} {pc : Nat} {ls : Array Slot} {rest : List Value} {index : Nat} (C : Cx p s m args meth c own cc nL D cI cJ tk tf A) (G : Wd D (wE a cI cJ) A s S H locs) (hl : Cond.fieldLink own index "ErrorNames$PileOperators" "table" "LErrorNames$Table;" ∈ tb) (hdg : decode cc pc = .ok (.getfield index, 3)) (kk : W p l e R s m args below meth c H locs cells slots Q (F0 m (pc + 3) ls (.ref (a 8) :: rest))) : W p l e R s m args below meth c H locs cells slots Q (F0 m pc ls (.ref (a 24) :: rest)) := r_get C G (Cn := RX3) (T := TX3) (N := 2) (ci := 3) (q0 := 24) (k := 1) inX3 rfl rfl (by decide) hl rfl rfl hdg kk
def wM (a : Nat → Nat) (cI cJ : ClassId) (S : St) : va_W := [(a 0, .inr (8, [.int (S.1 0 0), .ref (a 1), .ref (a 2), .ref (a 3), .ref (a 4), .ref (a 5), .int (S.1 0 6), .ref (a 6), .ref (a 7), .ref (a 8), .int (S.1 0 10), .int (S.1 0 11), .int (S.1 0 12), .int (S.1 0 13), .ref (a 9), .ref (a 10), .int (S.1 0 16), .int (S.1 0 17), .int (S.1 0 18), .int (S.1 0 19), .ref (a 11), .ref (a 12), .ref (a 13), .ref (a 14), .ref (a 15), .ref (a 16), .int (S.1 0 26), .int (S.1 0 27), .int (S.1 0 28), .int (S.1 0 29)])), (a 1, .inl (cI, 480, .inl (S.1 1))), (a 2, .inl (cI, 480, .inl (S.1 2))), (a 3, .inl (cI, 20, .inl (S.1 3))), (a 4, .inl (cI, 60, .inl (S.1 4))), (a 5, .inl (cI, 60, .inl (S.1 5))), (a 6, .inl (cI, 40, .inl (S.1 6))), (a 7, .inl (cI, 40, .inl (S.1 7))), (a 8, .inl (cI, 12, .inl (S.1 8))), (a 9, .inl (cI, 60, .inl (S.1 9))), (a 10, .inl (cI, 60, .inl (S.1 10))), (a 11, .inl (cI, 30, .inl (S.1 11))), (a 12, .inl (cI, 30, .inl (S.1 12))), (a 13, .inl (cI, 30, .inl (S.1 13))), (a 14, .inl (cJ, 30, .inr (.inl S.2))), (a 15, .inl (cI, 30, .inl (S.1 15))), (a 16, .inl (cI, 30, .inl (S.1 16)))]
theorem adM {a : Nat → Nat} {cI cJ : ClassId} : Ad (wM a cI cJ) a 17 := by
  intro S k q h
  match k, h with
  | 0, h => cases h; exact ⟨0, by decide, rfl⟩
  | 1, h => cases h; exact ⟨1, by decide, rfl⟩
  | 2, h => cases h; exact ⟨2, by decide, rfl⟩
  | 3, h => cases h; exact ⟨3, by decide, rfl⟩
  | 4, h => cases h; exact ⟨4, by decide, rfl⟩
  | 5, h => cases h; exact ⟨5, by decide, rfl⟩
  | 6, h => cases h; exact ⟨6, by decide, rfl⟩
  | 7, h => cases h; exact ⟨7, by decide, rfl⟩
  | 8, h => cases h; exact ⟨8, by decide, rfl⟩
  | 9, h => cases h; exact ⟨9, by decide, rfl⟩
  | 10, h => cases h; exact ⟨10, by decide, rfl⟩
  | 11, h => cases h; exact ⟨11, by decide, rfl⟩
  | 12, h => cases h; exact ⟨12, by decide, rfl⟩
  | 13, h => cases h; exact ⟨13, by decide, rfl⟩
  | 14, h => cases h; exact ⟨14, by decide, rfl⟩
  | 15, h => cases h; exact ⟨15, by decide, rfl⟩
  | 16, h => cases h; exact ⟨16, by decide, rfl⟩
  | k + 17, h => exact absurd h (by simp [wM])
theorem gM_0_0 {p : Program} {l : Launch} {e : Env} {R : Room} {s : State} {m : MethodId} {args : Array Value} {below : List Frame} {meth : Method} {c : Code} {H : Heap} {locs : List Loc} {cells slots : Nat} {Q : State → Prop} {own : String} {cc : ByteArray} {nL : Nat} {D : va_G} {a : Nat → Nat} {cI cJ : ClassId} {tk : Nat} {tf : Nat → Int32} {A : Nat → Prop} {S : St} {pc : Nat} {ls : Array Slot} {rest : List Value} {index : Nat} (C : Cx p s m args meth c own cc nL D cI cJ tk tf A) (G : Wd D (wM a cI cJ) A s S H locs) (hl : Cond.fieldLink own index "ErrorNamesModel" "thrown" "I" ∈ tb) (hdg : decode cc pc = .ok (.getfield index, 3)) (kk : W p l e R s m args below meth c H locs cells slots Q (F0 m (pc + 3) ls (.int (S.1 0 0) :: rest))) : W p l e R s m args below meth c H locs cells slots Q (F0 m pc ls (.ref (a 0) :: rest)) := r_get C G (Cn := RX8) (T := TX8) (N := 30) (ci := 8) (q0 := 0) (k := 0) inX8 rfl rfl (by decide) hl rfl rfl hdg kk
theorem pM_0_0 {p : Program} {l : Launch} {e : Env} {R : Room} {s : State} {m : MethodId} {args : Array Value} {below : List Frame} {meth : Method} {c : Code} {H : Heap} {locs : List Loc} {cells slots : Nat} {Q : State → Prop} {own : String} {cc : ByteArray} {nL : Nat} {D : va_G} {a : Nat → Nat} {cI cJ : ClassId} {tk : Nat} {tf : Nat → Int32} {A : Nat → Prop} {S : St} {pc : Nat} {ls : Array Slot} {rest : List Value} {index : Nat} {v : Int32} (C : Cx p s m args meth c own cc nL D cI cJ tk tf A) (G : Wd D (wM a cI cJ) A s S H locs) (hl : Cond.fieldLink own index "ErrorNamesModel" "thrown" "I" ∈ tb) (hdg : decode cc pc = .ok (.putfield index, 3)) (kk : ∀ (H : Heap) (locs : List Loc), Wd D (wM a cI cJ) A s (si S 0 0 v) H locs → W p l e R s m args below meth c H locs cells slots Q (F0 m (pc + 3) ls rest)) : W p l e R s m args below meth c H locs cells slots Q (F0 m pc ls (.int v :: .ref (a 0) :: rest)) := r_put C G (Cn := RX8) (T := TX8) (N := 30) (ci := 8) (q0 := 0) (k := 0) (ty := .int) inX8 tyX8 tyX8_ok nmX8 rfl rfl (by decide) hl rfl rfl (by decide +kernel) rfl rfl (Nat.le_of_ble_eq_true rfl) rfl hdg kk
theorem gM_0_1 {p : Program} {l : Launch} {e : Env} {R : Room} {s : State} {m : MethodId} {args : Array Value} {below : List Frame} {meth : Method} {c : Code} {H : Heap} {locs : List Loc} {cells slots : Nat} {Q : State → Prop} {own : String} {cc : ByteArray} {nL : Nat} {D : va_G} {a : Nat → Nat} {cI cJ : ClassId} {tk : Nat} {tf : Nat → Int32} {A : Nat → Prop} {S : St} {pc : Nat} {ls : Array Slot} {rest : List Value} {index : Nat} (C : Cx p s m args meth c own cc nL D cI cJ tk tf A) (G : Wd D (wM a cI cJ) A s S H locs) (hl : Cond.fieldLink own index "ErrorNamesModel" "tokenKinds" "[I" ∈ tb) (hdg : decode cc pc = .ok (.getfield index, 3)) (kk : W p l e R s m args below meth c H locs cells slots Q (F0 m (pc + 3) ls (.ref (a 1) :: rest))) : W p l e R s m args below meth c H locs cells slots Q (F0 m pc ls (.ref (a 0) :: rest)) := r_get C G (Cn := RX8) (T := TX8) (N := 30) (ci := 8) (q0 := 0) (k := 1) inX8 rfl rfl (by decide) hl rfl rfl hdg kk
theorem gM_0_2 {p : Program} {l : Launch} {e : Env} {R : Room} {s : State} {m : MethodId} {args : Array Value} {below : List Frame} {meth : Method} {c : Code} {H : Heap} {locs : List Loc} {cells slots : Nat} {Q : State → Prop} {own : String} {cc : ByteArray} {nL : Nat} {D : va_G} {a : Nat → Nat} {cI cJ : ClassId} {tk : Nat} {tf : Nat → Int32} {A : Nat → Prop} {S : St} {pc : Nat} {ls : Array Slot} {rest : List Value} {index : Nat} (C : Cx p s m args meth c own cc nL D cI cJ tk tf A) (G : Wd D (wM a cI cJ) A s S H locs) (hl : Cond.fieldLink own index "ErrorNamesModel" "tokenNumbers" "[I" ∈ tb) (hdg : decode cc pc = .ok (.getfield index, 3)) (kk : W p l e R s m args below meth c H locs cells slots Q (F0 m (pc + 3) ls (.ref (a 2) :: rest))) : W p l e R s m args below meth c H locs cells slots Q (F0 m pc ls (.ref (a 0) :: rest)) := r_get C G (Cn := RX8) (T := TX8) (N := 30) (ci := 8) (q0 := 0) (k := 2) inX8 rfl rfl (by decide) hl rfl rfl hdg kk
theorem gM_0_3 {p : Program} {l : Launch} {e : Env} {R : Room} {s : State} {m : MethodId} {args : Array Value} {below : List Frame} {meth : Method} {c : Code} {H : Heap} {locs : List Loc} {cells slots : Nat} {Q : State → Prop} {own : String} {cc : ByteArray} {nL : Nat} {D : va_G} {a : Nat → Nat} {cI cJ : ClassId} {tk : Nat} {tf : Nat → Int32} {A : Nat → Prop} {S : St} {pc : Nat} {ls : Array Slot} {rest : List Value} {index : Nat} (C : Cx p s m args meth c own cc nL D cI cJ tk tf A) (G : Wd D (wM a cI cJ) A s S H locs) (hl : Cond.fieldLink own index "ErrorNamesModel" "tokens" "[I" ∈ tb) (hdg : decode cc pc = .ok (.getfield index, 3)) (kk : W p l e R s m args below meth c H locs cells slots Q (F0 m (pc + 3) ls (.ref (a 3) :: rest))) : W p l e R s m args below meth c H locs cells slots Q (F0 m pc ls (.ref (a 0) :: rest)) := r_get C G (Cn := RX8) (T := TX8) (N := 30) (ci := 8) (q0 := 0) (k := 3) inX8 rfl rfl (by decide) hl rfl rfl hdg kk
theorem gM_0_4 {p : Program} {l : Launch} {e : Env} {R : Room} {s : State} {m : MethodId} {args : Array Value} {below : List Frame} {meth : Method} {c : Code} {H : Heap} {locs : List Loc} {cells slots : Nat} {Q : State → Prop} {own : String} {cc : ByteArray} {nL : Nat} {D : va_G} {a : Nat → Nat} {cI cJ : ClassId} {tk : Nat} {tf : Nat → Int32} {A : Nat → Prop} {S : St} {pc : Nat} {ls : Array Slot} {rest : List Value} {index : Nat} (C : Cx p s m args meth c own cc nL D cI cJ tk tf A) (G : Wd D (wM a cI cJ) A s S H locs) (hl : Cond.fieldLink own index "ErrorNamesModel" "kinds" "[I" ∈ tb) (hdg : decode cc pc = .ok (.getfield index, 3)) (kk : W p l e R s m args below meth c H locs cells slots Q (F0 m (pc + 3) ls (.ref (a 4) :: rest))) : W p l e R s m args below meth c H locs cells slots Q (F0 m pc ls (.ref (a 0) :: rest)) := r_get C G (Cn := RX8) (T := TX8) (N := 30) (ci := 8) (q0 := 0) (k := 4) inX8 rfl rfl (by decide) hl rfl rfl hdg kk
theorem gM_0_5 {p : Program} {l : Launch} {e : Env} {R : Room} {s : State} {m : MethodId} {args : Array Value} {below : List Frame} {meth : Method} {c : Code} {H : Heap} {locs : List Loc} {cells slots : Nat} {Q : State → Prop} {own : String} {cc : ByteArray} {nL : Nat} {D : va_G} {a : Nat → Nat} {cI cJ : ClassId} {tk : Nat} {tf : Nat → Int32} {A : Nat → Prop} {S : St} {pc : Nat} {ls : Array Slot} {rest : List Value} {index : Nat} (C : Cx p s m args meth c own cc nL D cI cJ tk tf A) (G : Wd D (wM a cI cJ) A s S H locs) (hl : Cond.fieldLink own index "ErrorNamesModel" "numbers" "[I" ∈ tb) (hdg : decode cc pc = .ok (.getfield index, 3)) (kk : W p l e R s m args below meth c H locs cells slots Q (F0 m (pc + 3) ls (.ref (a 5) :: rest))) : W p l e R s m args below meth c H locs cells slots Q (F0 m pc ls (.ref (a 0) :: rest)) := r_get C G (Cn := RX8) (T := TX8) (N := 30) (ci := 8) (q0 := 0) (k := 5) inX8 rfl rfl (by decide) hl rfl rfl hdg kk
theorem gM_0_6 {p : Program} {l : Launch} {e : Env} {R : Room} {s : State} {m : MethodId} {args : Array Value} {below : List Frame} {meth : Method} {c : Code} {H : Heap} {locs : List Loc} {cells slots : Nat} {Q : State → Prop} {own : String} {cc : ByteArray} {nL : Nat} {D : va_G} {a : Nat → Nat} {cI cJ : ClassId} {tk : Nat} {tf : Nat → Int32} {A : Nat → Prop} {S : St} {pc : Nat} {ls : Array Slot} {rest : List Value} {index : Nat} (C : Cx p s m args meth c own cc nL D cI cJ tk tf A) (G : Wd D (wM a cI cJ) A s S H locs) (hl : Cond.fieldLink own index "ErrorNamesModel" "size" "I" ∈ tb) (hdg : decode cc pc = .ok (.getfield index, 3)) (kk : W p l e R s m args below meth c H locs cells slots Q (F0 m (pc + 3) ls (.int (S.1 0 6) :: rest))) : W p l e R s m args below meth c H locs cells slots Q (F0 m pc ls (.ref (a 0) :: rest)) := r_get C G (Cn := RX8) (T := TX8) (N := 30) (ci := 8) (q0 := 0) (k := 6) inX8 rfl rfl (by decide) hl rfl rfl hdg kk
theorem pM_0_6 {p : Program} {l : Launch} {e : Env} {R : Room} {s : State} {m : MethodId} {args : Array Value} {below : List Frame} {meth : Method} {c : Code} {H : Heap} {locs : List Loc} {cells slots : Nat} {Q : State → Prop} {own : String} {cc : ByteArray} {nL : Nat} {D : va_G} {a : Nat → Nat} {cI cJ : ClassId} {tk : Nat} {tf : Nat → Int32} {A : Nat → Prop} {S : St} {pc : Nat} {ls : Array Slot} {rest : List Value} {index : Nat} {v : Int32} (C : Cx p s m args meth c own cc nL D cI cJ tk tf A) (G : Wd D (wM a cI cJ) A s S H locs) (hl : Cond.fieldLink own index "ErrorNamesModel" "size" "I" ∈ tb) (hdg : decode cc pc = .ok (.putfield index, 3)) (kk : ∀ (H : Heap) (locs : List Loc), Wd D (wM a cI cJ) A s (si S 0 6 v) H locs → W p l e R s m args below meth c H locs cells slots Q (F0 m (pc + 3) ls rest)) : W p l e R s m args below meth c H locs cells slots Q (F0 m pc ls (.int v :: .ref (a 0) :: rest)) := r_put C G (Cn := RX8) (T := TX8) (N := 30) (ci := 8) (q0 := 0) (k := 6) (ty := .int) inX8 tyX8 tyX8_ok nmX8 rfl rfl (by decide) hl rfl rfl (by decide +kernel) rfl rfl (Nat.le_of_ble_eq_true rfl) rfl hdg kk
theorem gM_0_7 {p : Program} {l : Launch} {e : Env} {R : Room} {s : State} {m : MethodId} {args : Array Value} {below : List Frame} {meth : Method} {c : Code} {H : Heap} {locs : List Loc} {cells slots : Nat} {Q : State → Prop} {own : String} {cc : ByteArray} {nL : Nat} {D : va_G} {a : Nat → Nat} {cI cJ : ClassId} {tk : Nat} {tf : Nat → Int32} {A : Nat → Prop} {S : St} {pc : Nat} {ls : Array Slot} {rest : List Value} {index : Nat} (C : Cx p s m args meth c own cc nL D cI cJ tk tf A) (G : Wd D (wM a cI cJ) A s S H locs) (hl : Cond.fieldLink own index "ErrorNamesModel" "tableKinds" "[I" ∈ tb) (hdg : decode cc pc = .ok (.getfield index, 3)) (kk : W p l e R s m args below meth c H locs cells slots Q (F0 m (pc + 3) ls (.ref (a 6) :: rest))) : W p l e R s m args below meth c H locs cells slots Q (F0 m pc ls (.ref (a 0) :: rest)) := r_get C G (Cn := RX8) (T := TX8) (N := 30) (ci := 8) (q0 := 0) (k := 7) inX8 rfl rfl (by decide) hl rfl rfl hdg kk
theorem gM_0_8 {p : Program} {l : Launch} {e : Env} {R : Room} {s : State} {m : MethodId} {args : Array Value} {below : List Frame} {meth : Method} {c : Code} {H : Heap} {locs : List Loc} {cells slots : Nat} {Q : State → Prop} {own : String} {cc : ByteArray} {nL : Nat} {D : va_G} {a : Nat → Nat} {cI cJ : ClassId} {tk : Nat} {tf : Nat → Int32} {A : Nat → Prop} {S : St} {pc : Nat} {ls : Array Slot} {rest : List Value} {index : Nat} (C : Cx p s m args meth c own cc nL D cI cJ tk tf A) (G : Wd D (wM a cI cJ) A s S H locs) (hl : Cond.fieldLink own index "ErrorNamesModel" "tableNumbers" "[I" ∈ tb) (hdg : decode cc pc = .ok (.getfield index, 3)) (kk : W p l e R s m args below meth c H locs cells slots Q (F0 m (pc + 3) ls (.ref (a 7) :: rest))) : W p l e R s m args below meth c H locs cells slots Q (F0 m pc ls (.ref (a 0) :: rest)) := r_get C G (Cn := RX8) (T := TX8) (N := 30) (ci := 8) (q0 := 0) (k := 8) inX8 rfl rfl (by decide) hl rfl rfl hdg kk
theorem gM_0_9 {p : Program} {l : Launch} {e : Env} {R : Room} {s : State} {m : MethodId} {args : Array Value} {below : List Frame} {meth : Method} {c : Code} {H : Heap} {locs : List Loc} {cells slots : Nat} {Q : State → Prop} {own : String} {cc : ByteArray} {nL : Nat} {D : va_G} {a : Nat → Nat} {cI cJ : ClassId} {tk : Nat} {tf : Nat → Int32} {A : Nat → Prop} {S : St} {pc : Nat} {ls : Array Slot} {rest : List Value} {index : Nat} (C : Cx p s m args meth c own cc nL D cI cJ tk tf A) (G : Wd D (wM a cI cJ) A s S H locs) (hl : Cond.fieldLink own index "ErrorNamesModel" "handlers" "[I" ∈ tb) (hdg : decode cc pc = .ok (.getfield index, 3)) (kk : W p l e R s m args below meth c H locs cells slots Q (F0 m (pc + 3) ls (.ref (a 8) :: rest))) : W p l e R s m args below meth c H locs cells slots Q (F0 m pc ls (.ref (a 0) :: rest)) := r_get C G (Cn := RX8) (T := TX8) (N := 30) (ci := 8) (q0 := 0) (k := 9) inX8 rfl rfl (by decide) hl rfl rfl hdg kk
theorem gM_0_10 {p : Program} {l : Launch} {e : Env} {R : Room} {s : State} {m : MethodId} {args : Array Value} {below : List Frame} {meth : Method} {c : Code} {H : Heap} {locs : List Loc} {cells slots : Nat} {Q : State → Prop} {own : String} {cc : ByteArray} {nL : Nat} {D : va_G} {a : Nat → Nat} {cI cJ : ClassId} {tk : Nat} {tf : Nat → Int32} {A : Nat → Prop} {S : St} {pc : Nat} {ls : Array Slot} {rest : List Value} {index : Nat} (C : Cx p s m args meth c own cc nL D cI cJ tk tf A) (G : Wd D (wM a cI cJ) A s S H locs) (hl : Cond.fieldLink own index "ErrorNamesModel" "error" "I" ∈ tb) (hdg : decode cc pc = .ok (.getfield index, 3)) (kk : W p l e R s m args below meth c H locs cells slots Q (F0 m (pc + 3) ls (.int (S.1 0 10) :: rest))) : W p l e R s m args below meth c H locs cells slots Q (F0 m pc ls (.ref (a 0) :: rest)) := r_get C G (Cn := RX8) (T := TX8) (N := 30) (ci := 8) (q0 := 0) (k := 10) inX8 rfl rfl (by decide) hl rfl rfl hdg kk
theorem pM_0_10 {p : Program} {l : Launch} {e : Env} {R : Room} {s : State} {m : MethodId} {args : Array Value} {below : List Frame} {meth : Method} {c : Code} {H : Heap} {locs : List Loc} {cells slots : Nat} {Q : State → Prop} {own : String} {cc : ByteArray} {nL : Nat} {D : va_G} {a : Nat → Nat} {cI cJ : ClassId} {tk : Nat} {tf : Nat → Int32} {A : Nat → Prop} {S : St} {pc : Nat} {ls : Array Slot} {rest : List Value} {index : Nat} {v : Int32} (C : Cx p s m args meth c own cc nL D cI cJ tk tf A) (G : Wd D (wM a cI cJ) A s S H locs) (hl : Cond.fieldLink own index "ErrorNamesModel" "error" "I" ∈ tb) (hdg : decode cc pc = .ok (.putfield index, 3)) (kk : ∀ (H : Heap) (locs : List Loc), Wd D (wM a cI cJ) A s (si S 0 10 v) H locs → W p l e R s m args below meth c H locs cells slots Q (F0 m (pc + 3) ls rest)) : W p l e R s m args below meth c H locs cells slots Q (F0 m pc ls (.int v :: .ref (a 0) :: rest)) := r_put C G (Cn := RX8) (T := TX8) (N := 30) (ci := 8) (q0 := 0) (k := 10) (ty := .int) inX8 tyX8 tyX8_ok nmX8 rfl rfl (by decide) hl rfl rfl (by decide +kernel) rfl rfl (Nat.le_of_ble_eq_true rfl) rfl hdg kk
theorem gM_0_11 {p : Program} {l : Launch} {e : Env} {R : Room} {s : State} {m : MethodId} {args : Array Value} {below : List Frame} {meth : Method} {c : Code} {H : Heap} {locs : List Loc} {cells slots : Nat} {Q : State → Prop} {own : String} {cc : ByteArray} {nL : Nat} {D : va_G} {a : Nat → Nat} {cI cJ : ClassId} {tk : Nat} {tf : Nat → Int32} {A : Nat → Prop} {S : St} {pc : Nat} {ls : Array Slot} {rest : List Value} {index : Nat} (C : Cx p s m args meth c own cc nL D cI cJ tk tf A) (G : Wd D (wM a cI cJ) A s S H locs) (hl : Cond.fieldLink own index "ErrorNamesModel" "command" "I" ∈ tb) (hdg : decode cc pc = .ok (.getfield index, 3)) (kk : W p l e R s m args below meth c H locs cells slots Q (F0 m (pc + 3) ls (.int (S.1 0 11) :: rest))) : W p l e R s m args below meth c H locs cells slots Q (F0 m pc ls (.ref (a 0) :: rest)) := r_get C G (Cn := RX8) (T := TX8) (N := 30) (ci := 8) (q0 := 0) (k := 11) inX8 rfl rfl (by decide) hl rfl rfl hdg kk
theorem pM_0_11 {p : Program} {l : Launch} {e : Env} {R : Room} {s : State} {m : MethodId} {args : Array Value} {below : List Frame} {meth : Method} {c : Code} {H : Heap} {locs : List Loc} {cells slots : Nat} {Q : State → Prop} {own : String} {cc : ByteArray} {nL : Nat} {D : va_G} {a : Nat → Nat} {cI cJ : ClassId} {tk : Nat} {tf : Nat → Int32} {A : Nat → Prop} {S : St} {pc : Nat} {ls : Array Slot} {rest : List Value} {index : Nat} {v : Int32} (C : Cx p s m args meth c own cc nL D cI cJ tk tf A) (G : Wd D (wM a cI cJ) A s S H locs) (hl : Cond.fieldLink own index "ErrorNamesModel" "command" "I" ∈ tb) (hdg : decode cc pc = .ok (.putfield index, 3)) (kk : ∀ (H : Heap) (locs : List Loc), Wd D (wM a cI cJ) A s (si S 0 11 v) H locs → W p l e R s m args below meth c H locs cells slots Q (F0 m (pc + 3) ls rest)) : W p l e R s m args below meth c H locs cells slots Q (F0 m pc ls (.int v :: .ref (a 0) :: rest)) := r_put C G (Cn := RX8) (T := TX8) (N := 30) (ci := 8) (q0 := 0) (k := 11) (ty := .int) inX8 tyX8 tyX8_ok nmX8 rfl rfl (by decide) hl rfl rfl (by decide +kernel) rfl rfl (Nat.le_of_ble_eq_true rfl) rfl hdg kk
theorem gM_0_12 {p : Program} {l : Launch} {e : Env} {R : Room} {s : State} {m : MethodId} {args : Array Value} {below : List Frame} {meth : Method} {c : Code} {H : Heap} {locs : List Loc} {cells slots : Nat} {Q : State → Prop} {own : String} {cc : ByteArray} {nL : Nat} {D : va_G} {a : Nat → Nat} {cI cJ : ClassId} {tk : Nat} {tf : Nat → Int32} {A : Nat → Prop} {S : St} {pc : Nat} {ls : Array Slot} {rest : List Value} {index : Nat} (C : Cx p s m args meth c own cc nL D cI cJ tk tf A) (G : Wd D (wM a cI cJ) A s S H locs) (hl : Cond.fieldLink own index "ErrorNamesModel" "isNew" "Z" ∈ tb) (hdg : decode cc pc = .ok (.getfield index, 3)) (kk : W p l e R s m args below meth c H locs cells slots Q (F0 m (pc + 3) ls (.int (S.1 0 12) :: rest))) : W p l e R s m args below meth c H locs cells slots Q (F0 m pc ls (.ref (a 0) :: rest)) := r_get C G (Cn := RX8) (T := TX8) (N := 30) (ci := 8) (q0 := 0) (k := 12) inX8 rfl rfl (by decide) hl rfl rfl hdg kk
theorem pM_0_12 {p : Program} {l : Launch} {e : Env} {R : Room} {s : State} {m : MethodId} {args : Array Value} {below : List Frame} {meth : Method} {c : Code} {H : Heap} {locs : List Loc} {cells slots : Nat} {Q : State → Prop} {own : String} {cc : ByteArray} {nL : Nat} {D : va_G} {a : Nat → Nat} {cI cJ : ClassId} {tk : Nat} {tf : Nat → Int32} {A : Nat → Prop} {S : St} {pc : Nat} {ls : Array Slot} {rest : List Value} {index : Nat} {v : Int32} (C : Cx p s m args meth c own cc nL D cI cJ tk tf A) (G : Wd D (wM a cI cJ) A s S H locs) (hb : v = 0 ∨ v = 1) (hl : Cond.fieldLink own index "ErrorNamesModel" "isNew" "Z" ∈ tb) (hdg : decode cc pc = .ok (.putfield index, 3)) (kk : ∀ (H : Heap) (locs : List Loc), Wd D (wM a cI cJ) A s (si S 0 12 v) H locs → W p l e R s m args below meth c H locs cells slots Q (F0 m (pc + 3) ls rest)) : W p l e R s m args below meth c H locs cells slots Q (F0 m pc ls (.int v :: .ref (a 0) :: rest)) := r_put C G (Cn := RX8) (T := TX8) (N := 30) (ci := 8) (q0 := 0) (k := 12) (ty := .boolean) inX8 tyX8 tyX8_ok nmX8 rfl rfl (by decide) hl rfl rfl (by decide +kernel) (by rcases hb with rfl | rfl <;> decide +kernel) (by rcases hb with rfl | rfl <;> decide +kernel) (Nat.le_of_ble_eq_true rfl) rfl hdg kk
theorem gM_0_13 {p : Program} {l : Launch} {e : Env} {R : Room} {s : State} {m : MethodId} {args : Array Value} {below : List Frame} {meth : Method} {c : Code} {H : Heap} {locs : List Loc} {cells slots : Nat} {Q : State → Prop} {own : String} {cc : ByteArray} {nL : Nat} {D : va_G} {a : Nat → Nat} {cI cJ : ClassId} {tk : Nat} {tf : Nat → Int32} {A : Nat → Prop} {S : St} {pc : Nat} {ls : Array Slot} {rest : List Value} {index : Nat} (C : Cx p s m args meth c own cc nL D cI cJ tk tf A) (G : Wd D (wM a cI cJ) A s S H locs) (hl : Cond.fieldLink own index "ErrorNamesModel" "within" "I" ∈ tb) (hdg : decode cc pc = .ok (.getfield index, 3)) (kk : W p l e R s m args below meth c H locs cells slots Q (F0 m (pc + 3) ls (.int (S.1 0 13) :: rest))) : W p l e R s m args below meth c H locs cells slots Q (F0 m pc ls (.ref (a 0) :: rest)) := r_get C G (Cn := RX8) (T := TX8) (N := 30) (ci := 8) (q0 := 0) (k := 13) inX8 rfl rfl (by decide) hl rfl rfl hdg kk
theorem pM_0_13 {p : Program} {l : Launch} {e : Env} {R : Room} {s : State} {m : MethodId} {args : Array Value} {below : List Frame} {meth : Method} {c : Code} {H : Heap} {locs : List Loc} {cells slots : Nat} {Q : State → Prop} {own : String} {cc : ByteArray} {nL : Nat} {D : va_G} {a : Nat → Nat} {cI cJ : ClassId} {tk : Nat} {tf : Nat → Int32} {A : Nat → Prop} {S : St} {pc : Nat} {ls : Array Slot} {rest : List Value} {index : Nat} {v : Int32} (C : Cx p s m args meth c own cc nL D cI cJ tk tf A) (G : Wd D (wM a cI cJ) A s S H locs) (hl : Cond.fieldLink own index "ErrorNamesModel" "within" "I" ∈ tb) (hdg : decode cc pc = .ok (.putfield index, 3)) (kk : ∀ (H : Heap) (locs : List Loc), Wd D (wM a cI cJ) A s (si S 0 13 v) H locs → W p l e R s m args below meth c H locs cells slots Q (F0 m (pc + 3) ls rest)) : W p l e R s m args below meth c H locs cells slots Q (F0 m pc ls (.int v :: .ref (a 0) :: rest)) := r_put C G (Cn := RX8) (T := TX8) (N := 30) (ci := 8) (q0 := 0) (k := 13) (ty := .int) inX8 tyX8 tyX8_ok nmX8 rfl rfl (by decide) hl rfl rfl (by decide +kernel) rfl rfl (Nat.le_of_ble_eq_true rfl) rfl hdg kk
theorem gM_0_14 {p : Program} {l : Launch} {e : Env} {R : Room} {s : State} {m : MethodId} {args : Array Value} {below : List Frame} {meth : Method} {c : Code} {H : Heap} {locs : List Loc} {cells slots : Nat} {Q : State → Prop} {own : String} {cc : ByteArray} {nL : Nat} {D : va_G} {a : Nat → Nat} {cI cJ : ClassId} {tk : Nat} {tf : Nat → Int32} {A : Nat → Prop} {S : St} {pc : Nat} {ls : Array Slot} {rest : List Value} {index : Nat} (C : Cx p s m args meth c own cc nL D cI cJ tk tf A) (G : Wd D (wM a cI cJ) A s S H locs) (hl : Cond.fieldLink own index "ErrorNamesModel" "keptKinds" "[I" ∈ tb) (hdg : decode cc pc = .ok (.getfield index, 3)) (kk : W p l e R s m args below meth c H locs cells slots Q (F0 m (pc + 3) ls (.ref (a 9) :: rest))) : W p l e R s m args below meth c H locs cells slots Q (F0 m pc ls (.ref (a 0) :: rest)) := r_get C G (Cn := RX8) (T := TX8) (N := 30) (ci := 8) (q0 := 0) (k := 14) inX8 rfl rfl (by decide) hl rfl rfl hdg kk
theorem gM_0_15 {p : Program} {l : Launch} {e : Env} {R : Room} {s : State} {m : MethodId} {args : Array Value} {below : List Frame} {meth : Method} {c : Code} {H : Heap} {locs : List Loc} {cells slots : Nat} {Q : State → Prop} {own : String} {cc : ByteArray} {nL : Nat} {D : va_G} {a : Nat → Nat} {cI cJ : ClassId} {tk : Nat} {tf : Nat → Int32} {A : Nat → Prop} {S : St} {pc : Nat} {ls : Array Slot} {rest : List Value} {index : Nat} (C : Cx p s m args meth c own cc nL D cI cJ tk tf A) (G : Wd D (wM a cI cJ) A s S H locs) (hl : Cond.fieldLink own index "ErrorNamesModel" "keptNumbers" "[I" ∈ tb) (hdg : decode cc pc = .ok (.getfield index, 3)) (kk : W p l e R s m args below meth c H locs cells slots Q (F0 m (pc + 3) ls (.ref (a 10) :: rest))) : W p l e R s m args below meth c H locs cells slots Q (F0 m pc ls (.ref (a 0) :: rest)) := r_get C G (Cn := RX8) (T := TX8) (N := 30) (ci := 8) (q0 := 0) (k := 15) inX8 rfl rfl (by decide) hl rfl rfl hdg kk
theorem gM_0_16 {p : Program} {l : Launch} {e : Env} {R : Room} {s : State} {m : MethodId} {args : Array Value} {below : List Frame} {meth : Method} {c : Code} {H : Heap} {locs : List Loc} {cells slots : Nat} {Q : State → Prop} {own : String} {cc : ByteArray} {nL : Nat} {D : va_G} {a : Nat → Nat} {cI cJ : ClassId} {tk : Nat} {tf : Nat → Int32} {A : Nat → Prop} {S : St} {pc : Nat} {ls : Array Slot} {rest : List Value} {index : Nat} (C : Cx p s m args meth c own cc nL D cI cJ tk tf A) (G : Wd D (wM a cI cJ) A s S H locs) (hl : Cond.fieldLink own index "ErrorNamesModel" "keptSize" "I" ∈ tb) (hdg : decode cc pc = .ok (.getfield index, 3)) (kk : W p l e R s m args below meth c H locs cells slots Q (F0 m (pc + 3) ls (.int (S.1 0 16) :: rest))) : W p l e R s m args below meth c H locs cells slots Q (F0 m pc ls (.ref (a 0) :: rest)) := r_get C G (Cn := RX8) (T := TX8) (N := 30) (ci := 8) (q0 := 0) (k := 16) inX8 rfl rfl (by decide) hl rfl rfl hdg kk
theorem pM_0_16 {p : Program} {l : Launch} {e : Env} {R : Room} {s : State} {m : MethodId} {args : Array Value} {below : List Frame} {meth : Method} {c : Code} {H : Heap} {locs : List Loc} {cells slots : Nat} {Q : State → Prop} {own : String} {cc : ByteArray} {nL : Nat} {D : va_G} {a : Nat → Nat} {cI cJ : ClassId} {tk : Nat} {tf : Nat → Int32} {A : Nat → Prop} {S : St} {pc : Nat} {ls : Array Slot} {rest : List Value} {index : Nat} {v : Int32} (C : Cx p s m args meth c own cc nL D cI cJ tk tf A) (G : Wd D (wM a cI cJ) A s S H locs) (hl : Cond.fieldLink own index "ErrorNamesModel" "keptSize" "I" ∈ tb) (hdg : decode cc pc = .ok (.putfield index, 3)) (kk : ∀ (H : Heap) (locs : List Loc), Wd D (wM a cI cJ) A s (si S 0 16 v) H locs → W p l e R s m args below meth c H locs cells slots Q (F0 m (pc + 3) ls rest)) : W p l e R s m args below meth c H locs cells slots Q (F0 m pc ls (.int v :: .ref (a 0) :: rest)) := r_put C G (Cn := RX8) (T := TX8) (N := 30) (ci := 8) (q0 := 0) (k := 16) (ty := .int) inX8 tyX8 tyX8_ok nmX8 rfl rfl (by decide) hl rfl rfl (by decide +kernel) rfl rfl (Nat.le_of_ble_eq_true rfl) rfl hdg kk
theorem gM_0_17 {p : Program} {l : Launch} {e : Env} {R : Room} {s : State} {m : MethodId} {args : Array Value} {below : List Frame} {meth : Method} {c : Code} {H : Heap} {locs : List Loc} {cells slots : Nat} {Q : State → Prop} {own : String} {cc : ByteArray} {nL : Nat} {D : va_G} {a : Nat → Nat} {cI cJ : ClassId} {tk : Nat} {tf : Nat → Int32} {A : Nat → Prop} {S : St} {pc : Nat} {ls : Array Slot} {rest : List Value} {index : Nat} (C : Cx p s m args meth c own cc nL D cI cJ tk tf A) (G : Wd D (wM a cI cJ) A s S H locs) (hl : Cond.fieldLink own index "ErrorNamesModel" "errors" "I" ∈ tb) (hdg : decode cc pc = .ok (.getfield index, 3)) (kk : W p l e R s m args below meth c H locs cells slots Q (F0 m (pc + 3) ls (.int (S.1 0 17) :: rest))) : W p l e R s m args below meth c H locs cells slots Q (F0 m pc ls (.ref (a 0) :: rest)) := r_get C G (Cn := RX8) (T := TX8) (N := 30) (ci := 8) (q0 := 0) (k := 17) inX8 rfl rfl (by decide) hl rfl rfl hdg kk
theorem pM_0_17 {p : Program} {l : Launch} {e : Env} {R : Room} {s : State} {m : MethodId} {args : Array Value} {below : List Frame} {meth : Method} {c : Code} {H : Heap} {locs : List Loc} {cells slots : Nat} {Q : State → Prop} {own : String} {cc : ByteArray} {nL : Nat} {D : va_G} {a : Nat → Nat} {cI cJ : ClassId} {tk : Nat} {tf : Nat → Int32} {A : Nat → Prop} {S : St} {pc : Nat} {ls : Array Slot} {rest : List Value} {index : Nat} {v : Int32} (C : Cx p s m args meth c own cc nL D cI cJ tk tf A) (G : Wd D (wM a cI cJ) A s S H locs) (hl : Cond.fieldLink own index "ErrorNamesModel" "errors" "I" ∈ tb) (hdg : decode cc pc = .ok (.putfield index, 3)) (kk : ∀ (H : Heap) (locs : List Loc), Wd D (wM a cI cJ) A s (si S 0 17 v) H locs → W p l e R s m args below meth c H locs cells slots Q (F0 m (pc + 3) ls rest)) : W p l e R s m args below meth c H locs cells slots Q (F0 m pc ls (.int v :: .ref (a 0) :: rest)) := r_put C G (Cn := RX8) (T := TX8) (N := 30) (ci := 8) (q0 := 0) (k := 17) (ty := .int) inX8 tyX8 tyX8_ok nmX8 rfl rfl (by decide) hl rfl rfl (by decide +kernel) rfl rfl (Nat.le_of_ble_eq_true rfl) rfl hdg kk
theorem gM_0_18 {p : Program} {l : Launch} {e : Env} {R : Room} {s : State} {m : MethodId} {args : Array Value} {below : List Frame} {meth : Method} {c : Code} {H : Heap} {locs : List Loc} {cells slots : Nat} {Q : State → Prop} {own : String} {cc : ByteArray} {nL : Nat} {D : va_G} {a : Nat → Nat} {cI cJ : ClassId} {tk : Nat} {tf : Nat → Int32} {A : Nat → Prop} {S : St} {pc : Nat} {ls : Array Slot} {rest : List Value} {index : Nat} (C : Cx p s m args meth c own cc nL D cI cJ tk tf A) (G : Wd D (wM a cI cJ) A s S H locs) (hl : Cond.fieldLink own index "ErrorNamesModel" "interrupted" "Z" ∈ tb) (hdg : decode cc pc = .ok (.getfield index, 3)) (kk : W p l e R s m args below meth c H locs cells slots Q (F0 m (pc + 3) ls (.int (S.1 0 18) :: rest))) : W p l e R s m args below meth c H locs cells slots Q (F0 m pc ls (.ref (a 0) :: rest)) := r_get C G (Cn := RX8) (T := TX8) (N := 30) (ci := 8) (q0 := 0) (k := 18) inX8 rfl rfl (by decide) hl rfl rfl hdg kk
theorem pM_0_18 {p : Program} {l : Launch} {e : Env} {R : Room} {s : State} {m : MethodId} {args : Array Value} {below : List Frame} {meth : Method} {c : Code} {H : Heap} {locs : List Loc} {cells slots : Nat} {Q : State → Prop} {own : String} {cc : ByteArray} {nL : Nat} {D : va_G} {a : Nat → Nat} {cI cJ : ClassId} {tk : Nat} {tf : Nat → Int32} {A : Nat → Prop} {S : St} {pc : Nat} {ls : Array Slot} {rest : List Value} {index : Nat} {v : Int32} (C : Cx p s m args meth c own cc nL D cI cJ tk tf A) (G : Wd D (wM a cI cJ) A s S H locs) (hb : v = 0 ∨ v = 1) (hl : Cond.fieldLink own index "ErrorNamesModel" "interrupted" "Z" ∈ tb) (hdg : decode cc pc = .ok (.putfield index, 3)) (kk : ∀ (H : Heap) (locs : List Loc), Wd D (wM a cI cJ) A s (si S 0 18 v) H locs → W p l e R s m args below meth c H locs cells slots Q (F0 m (pc + 3) ls rest)) : W p l e R s m args below meth c H locs cells slots Q (F0 m pc ls (.int v :: .ref (a 0) :: rest)) := r_put C G (Cn := RX8) (T := TX8) (N := 30) (ci := 8) (q0 := 0) (k := 18) (ty := .boolean) inX8 tyX8 tyX8_ok nmX8 rfl rfl (by decide) hl rfl rfl (by decide +kernel) (by rcases hb with rfl | rfl <;> decide +kernel) (by rcases hb with rfl | rfl <;> decide +kernel) (Nat.le_of_ble_eq_true rfl) rfl hdg kk
theorem gM_0_19 {p : Program} {l : Launch} {e : Env} {R : Room} {s : State} {m : MethodId} {args : Array Value} {below : List Frame} {meth : Method} {c : Code} {H : Heap} {locs : List Loc} {cells slots : Nat} {Q : State → Prop} {own : String} {cc : ByteArray} {nL : Nat} {D : va_G} {a : Nat → Nat} {cI cJ : ClassId} {tk : Nat} {tf : Nat → Int32} {A : Nat → Prop} {S : St} {pc : Nat} {ls : Array Slot} {rest : List Value} {index : Nat} (C : Cx p s m args meth c own cc nL D cI cJ tk tf A) (G : Wd D (wM a cI cJ) A s S H locs) (hl : Cond.fieldLink own index "ErrorNamesModel" "frames" "I" ∈ tb) (hdg : decode cc pc = .ok (.getfield index, 3)) (kk : W p l e R s m args below meth c H locs cells slots Q (F0 m (pc + 3) ls (.int (S.1 0 19) :: rest))) : W p l e R s m args below meth c H locs cells slots Q (F0 m pc ls (.ref (a 0) :: rest)) := r_get C G (Cn := RX8) (T := TX8) (N := 30) (ci := 8) (q0 := 0) (k := 19) inX8 rfl rfl (by decide) hl rfl rfl hdg kk
theorem pM_0_19 {p : Program} {l : Launch} {e : Env} {R : Room} {s : State} {m : MethodId} {args : Array Value} {below : List Frame} {meth : Method} {c : Code} {H : Heap} {locs : List Loc} {cells slots : Nat} {Q : State → Prop} {own : String} {cc : ByteArray} {nL : Nat} {D : va_G} {a : Nat → Nat} {cI cJ : ClassId} {tk : Nat} {tf : Nat → Int32} {A : Nat → Prop} {S : St} {pc : Nat} {ls : Array Slot} {rest : List Value} {index : Nat} {v : Int32} (C : Cx p s m args meth c own cc nL D cI cJ tk tf A) (G : Wd D (wM a cI cJ) A s S H locs) (hl : Cond.fieldLink own index "ErrorNamesModel" "frames" "I" ∈ tb) (hdg : decode cc pc = .ok (.putfield index, 3)) (kk : ∀ (H : Heap) (locs : List Loc), Wd D (wM a cI cJ) A s (si S 0 19 v) H locs → W p l e R s m args below meth c H locs cells slots Q (F0 m (pc + 3) ls rest)) : W p l e R s m args below meth c H locs cells slots Q (F0 m pc ls (.int v :: .ref (a 0) :: rest)) := r_put C G (Cn := RX8) (T := TX8) (N := 30) (ci := 8) (q0 := 0) (k := 19) (ty := .int) inX8 tyX8 tyX8_ok nmX8 rfl rfl (by decide) hl rfl rfl (by decide +kernel) rfl rfl (Nat.le_of_ble_eq_true rfl) rfl hdg kk
theorem gM_0_20 {p : Program} {l : Launch} {e : Env} {R : Room} {s : State} {m : MethodId} {args : Array Value} {below : List Frame} {meth : Method} {c : Code} {H : Heap} {locs : List Loc} {cells slots : Nat} {Q : State → Prop} {own : String} {cc : ByteArray} {nL : Nat} {D : va_G} {a : Nat → Nat} {cI cJ : ClassId} {tk : Nat} {tf : Nat → Int32} {A : Nat → Prop} {S : St} {pc : Nat} {ls : Array Slot} {rest : List Value} {index : Nat} (C : Cx p s m args meth c own cc nL D cI cJ tk tf A) (G : Wd D (wM a cI cJ) A s S H locs) (hl : Cond.fieldLink own index "ErrorNamesModel" "sorts" "[I" ∈ tb) (hdg : decode cc pc = .ok (.getfield index, 3)) (kk : W p l e R s m args below meth c H locs cells slots Q (F0 m (pc + 3) ls (.ref (a 11) :: rest))) : W p l e R s m args below meth c H locs cells slots Q (F0 m pc ls (.ref (a 0) :: rest)) := r_get C G (Cn := RX8) (T := TX8) (N := 30) (ci := 8) (q0 := 0) (k := 20) inX8 rfl rfl (by decide) hl rfl rfl hdg kk
theorem gM_0_21 {p : Program} {l : Launch} {e : Env} {R : Room} {s : State} {m : MethodId} {args : Array Value} {below : List Frame} {meth : Method} {c : Code} {H : Heap} {locs : List Loc} {cells slots : Nat} {Q : State → Prop} {own : String} {cc : ByteArray} {nL : Nat} {D : va_G} {a : Nat → Nat} {cI cJ : ClassId} {tk : Nat} {tf : Nat → Int32} {A : Nat → Prop} {S : St} {pc : Nat} {ls : Array Slot} {rest : List Value} {index : Nat} (C : Cx p s m args meth c own cc nL D cI cJ tk tf A) (G : Wd D (wM a cI cJ) A s S H locs) (hl : Cond.fieldLink own index "ErrorNamesModel" "who" "[I" ∈ tb) (hdg : decode cc pc = .ok (.getfield index, 3)) (kk : W p l e R s m args below meth c H locs cells slots Q (F0 m (pc + 3) ls (.ref (a 12) :: rest))) : W p l e R s m args below meth c H locs cells slots Q (F0 m pc ls (.ref (a 0) :: rest)) := r_get C G (Cn := RX8) (T := TX8) (N := 30) (ci := 8) (q0 := 0) (k := 21) inX8 rfl rfl (by decide) hl rfl rfl hdg kk
theorem gM_0_22 {p : Program} {l : Launch} {e : Env} {R : Room} {s : State} {m : MethodId} {args : Array Value} {below : List Frame} {meth : Method} {c : Code} {H : Heap} {locs : List Loc} {cells slots : Nat} {Q : State → Prop} {own : String} {cc : ByteArray} {nL : Nat} {D : va_G} {a : Nat → Nat} {cI cJ : ClassId} {tk : Nat} {tf : Nat → Int32} {A : Nat → Prop} {S : St} {pc : Nat} {ls : Array Slot} {rest : List Value} {index : Nat} (C : Cx p s m args meth c own cc nL D cI cJ tk tf A) (G : Wd D (wM a cI cJ) A s S H locs) (hl : Cond.fieldLink own index "ErrorNamesModel" "places" "[I" ∈ tb) (hdg : decode cc pc = .ok (.getfield index, 3)) (kk : W p l e R s m args below meth c H locs cells slots Q (F0 m (pc + 3) ls (.ref (a 13) :: rest))) : W p l e R s m args below meth c H locs cells slots Q (F0 m pc ls (.ref (a 0) :: rest)) := r_get C G (Cn := RX8) (T := TX8) (N := 30) (ci := 8) (q0 := 0) (k := 22) inX8 rfl rfl (by decide) hl rfl rfl hdg kk
theorem gM_0_23 {p : Program} {l : Launch} {e : Env} {R : Room} {s : State} {m : MethodId} {args : Array Value} {below : List Frame} {meth : Method} {c : Code} {H : Heap} {locs : List Loc} {cells slots : Nat} {Q : State → Prop} {own : String} {cc : ByteArray} {nL : Nat} {D : va_G} {a : Nat → Nat} {cI cJ : ClassId} {tk : Nat} {tf : Nat → Int32} {A : Nat → Prop} {S : St} {pc : Nat} {ls : Array Slot} {rest : List Value} {index : Nat} (C : Cx p s m args meth c own cc nL D cI cJ tk tf A) (G : Wd D (wM a cI cJ) A s S H locs) (hl : Cond.fieldLink own index "ErrorNamesModel" "nexts" "[J" ∈ tb) (hdg : decode cc pc = .ok (.getfield index, 3)) (kk : W p l e R s m args below meth c H locs cells slots Q (F0 m (pc + 3) ls (.ref (a 14) :: rest))) : W p l e R s m args below meth c H locs cells slots Q (F0 m pc ls (.ref (a 0) :: rest)) := r_get C G (Cn := RX8) (T := TX8) (N := 30) (ci := 8) (q0 := 0) (k := 23) inX8 rfl rfl (by decide) hl rfl rfl hdg kk
theorem gM_0_24 {p : Program} {l : Launch} {e : Env} {R : Room} {s : State} {m : MethodId} {args : Array Value} {below : List Frame} {meth : Method} {c : Code} {H : Heap} {locs : List Loc} {cells slots : Nat} {Q : State → Prop} {own : String} {cc : ByteArray} {nL : Nat} {D : va_G} {a : Nat → Nat} {cI cJ : ClassId} {tk : Nat} {tf : Nat → Int32} {A : Nat → Prop} {S : St} {pc : Nat} {ls : Array Slot} {rest : List Value} {index : Nat} (C : Cx p s m args meth c own cc nL D cI cJ tk tf A) (G : Wd D (wM a cI cJ) A s S H locs) (hl : Cond.fieldLink own index "ErrorNamesModel" "bys" "[I" ∈ tb) (hdg : decode cc pc = .ok (.getfield index, 3)) (kk : W p l e R s m args below meth c H locs cells slots Q (F0 m (pc + 3) ls (.ref (a 15) :: rest))) : W p l e R s m args below meth c H locs cells slots Q (F0 m pc ls (.ref (a 0) :: rest)) := r_get C G (Cn := RX8) (T := TX8) (N := 30) (ci := 8) (q0 := 0) (k := 24) inX8 rfl rfl (by decide) hl rfl rfl hdg kk
theorem gM_0_25 {p : Program} {l : Launch} {e : Env} {R : Room} {s : State} {m : MethodId} {args : Array Value} {below : List Frame} {meth : Method} {c : Code} {H : Heap} {locs : List Loc} {cells slots : Nat} {Q : State → Prop} {own : String} {cc : ByteArray} {nL : Nat} {D : va_G} {a : Nat → Nat} {cI cJ : ClassId} {tk : Nat} {tf : Nat → Int32} {A : Nat → Prop} {S : St} {pc : Nat} {ls : Array Slot} {rest : List Value} {index : Nat} (C : Cx p s m args meth c own cc nL D cI cJ tk tf A) (G : Wd D (wM a cI cJ) A s S H locs) (hl : Cond.fieldLink own index "ErrorNamesModel" "limits" "[I" ∈ tb) (hdg : decode cc pc = .ok (.getfield index, 3)) (kk : W p l e R s m args below meth c H locs cells slots Q (F0 m (pc + 3) ls (.ref (a 16) :: rest))) : W p l e R s m args below meth c H locs cells slots Q (F0 m pc ls (.ref (a 0) :: rest)) := r_get C G (Cn := RX8) (T := TX8) (N := 30) (ci := 8) (q0 := 0) (k := 25) inX8 rfl rfl (by decide) hl rfl rfl hdg kk
theorem gM_0_26 {p : Program} {l : Launch} {e : Env} {R : Room} {s : State} {m : MethodId} {args : Array Value} {below : List Frame} {meth : Method} {c : Code} {H : Heap} {locs : List Loc} {cells slots : Nat} {Q : State → Prop} {own : String} {cc : ByteArray} {nL : Nat} {D : va_G} {a : Nat → Nat} {cI cJ : ClassId} {tk : Nat} {tf : Nat → Int32} {A : Nat → Prop} {S : St} {pc : Nat} {ls : Array Slot} {rest : List Value} {index : Nat} (C : Cx p s m args meth c own cc nL D cI cJ tk tf A) (G : Wd D (wM a cI cJ) A s S H locs) (hl : Cond.fieldLink own index "ErrorNamesModel" "steps" "I" ∈ tb) (hdg : decode cc pc = .ok (.getfield index, 3)) (kk : W p l e R s m args below meth c H locs cells slots Q (F0 m (pc + 3) ls (.int (S.1 0 26) :: rest))) : W p l e R s m args below meth c H locs cells slots Q (F0 m pc ls (.ref (a 0) :: rest)) := r_get C G (Cn := RX8) (T := TX8) (N := 30) (ci := 8) (q0 := 0) (k := 26) inX8 rfl rfl (by decide) hl rfl rfl hdg kk
theorem pM_0_26 {p : Program} {l : Launch} {e : Env} {R : Room} {s : State} {m : MethodId} {args : Array Value} {below : List Frame} {meth : Method} {c : Code} {H : Heap} {locs : List Loc} {cells slots : Nat} {Q : State → Prop} {own : String} {cc : ByteArray} {nL : Nat} {D : va_G} {a : Nat → Nat} {cI cJ : ClassId} {tk : Nat} {tf : Nat → Int32} {A : Nat → Prop} {S : St} {pc : Nat} {ls : Array Slot} {rest : List Value} {index : Nat} {v : Int32} (C : Cx p s m args meth c own cc nL D cI cJ tk tf A) (G : Wd D (wM a cI cJ) A s S H locs) (hl : Cond.fieldLink own index "ErrorNamesModel" "steps" "I" ∈ tb) (hdg : decode cc pc = .ok (.putfield index, 3)) (kk : ∀ (H : Heap) (locs : List Loc), Wd D (wM a cI cJ) A s (si S 0 26 v) H locs → W p l e R s m args below meth c H locs cells slots Q (F0 m (pc + 3) ls rest)) : W p l e R s m args below meth c H locs cells slots Q (F0 m pc ls (.int v :: .ref (a 0) :: rest)) := r_put C G (Cn := RX8) (T := TX8) (N := 30) (ci := 8) (q0 := 0) (k := 26) (ty := .int) inX8 tyX8 tyX8_ok nmX8 rfl rfl (by decide) hl rfl rfl (by decide +kernel) rfl rfl (Nat.le_of_ble_eq_true rfl) rfl hdg kk
theorem gM_0_27 {p : Program} {l : Launch} {e : Env} {R : Room} {s : State} {m : MethodId} {args : Array Value} {below : List Frame} {meth : Method} {c : Code} {H : Heap} {locs : List Loc} {cells slots : Nat} {Q : State → Prop} {own : String} {cc : ByteArray} {nL : Nat} {D : va_G} {a : Nat → Nat} {cI cJ : ClassId} {tk : Nat} {tf : Nat → Int32} {A : Nat → Prop} {S : St} {pc : Nat} {ls : Array Slot} {rest : List Value} {index : Nat} (C : Cx p s m args meth c own cc nL D cI cJ tk tf A) (G : Wd D (wM a cI cJ) A s S H locs) (hl : Cond.fieldLink own index "ErrorNamesModel" "most" "I" ∈ tb) (hdg : decode cc pc = .ok (.getfield index, 3)) (kk : W p l e R s m args below meth c H locs cells slots Q (F0 m (pc + 3) ls (.int (S.1 0 27) :: rest))) : W p l e R s m args below meth c H locs cells slots Q (F0 m pc ls (.ref (a 0) :: rest)) := r_get C G (Cn := RX8) (T := TX8) (N := 30) (ci := 8) (q0 := 0) (k := 27) inX8 rfl rfl (by decide) hl rfl rfl hdg kk
theorem pM_0_27 {p : Program} {l : Launch} {e : Env} {R : Room} {s : State} {m : MethodId} {args : Array Value} {below : List Frame} {meth : Method} {c : Code} {H : Heap} {locs : List Loc} {cells slots : Nat} {Q : State → Prop} {own : String} {cc : ByteArray} {nL : Nat} {D : va_G} {a : Nat → Nat} {cI cJ : ClassId} {tk : Nat} {tf : Nat → Int32} {A : Nat → Prop} {S : St} {pc : Nat} {ls : Array Slot} {rest : List Value} {index : Nat} {v : Int32} (C : Cx p s m args meth c own cc nL D cI cJ tk tf A) (G : Wd D (wM a cI cJ) A s S H locs) (hl : Cond.fieldLink own index "ErrorNamesModel" "most" "I" ∈ tb) (hdg : decode cc pc = .ok (.putfield index, 3)) (kk : ∀ (H : Heap) (locs : List Loc), Wd D (wM a cI cJ) A s (si S 0 27 v) H locs → W p l e R s m args below meth c H locs cells slots Q (F0 m (pc + 3) ls rest)) : W p l e R s m args below meth c H locs cells slots Q (F0 m pc ls (.int v :: .ref (a 0) :: rest)) := r_put C G (Cn := RX8) (T := TX8) (N := 30) (ci := 8) (q0 := 0) (k := 27) (ty := .int) inX8 tyX8 tyX8_ok nmX8 rfl rfl (by decide) hl rfl rfl (by decide +kernel) rfl rfl (Nat.le_of_ble_eq_true rfl) rfl hdg kk
theorem gM_0_28 {p : Program} {l : Launch} {e : Env} {R : Room} {s : State} {m : MethodId} {args : Array Value} {below : List Frame} {meth : Method} {c : Code} {H : Heap} {locs : List Loc} {cells slots : Nat} {Q : State → Prop} {own : String} {cc : ByteArray} {nL : Nat} {D : va_G} {a : Nat → Nat} {cI cJ : ClassId} {tk : Nat} {tf : Nat → Int32} {A : Nat → Prop} {S : St} {pc : Nat} {ls : Array Slot} {rest : List Value} {index : Nat} (C : Cx p s m args meth c own cc nL D cI cJ tk tf A) (G : Wd D (wM a cI cJ) A s S H locs) (hl : Cond.fieldLink own index "ErrorNamesModel" "handled" "I" ∈ tb) (hdg : decode cc pc = .ok (.getfield index, 3)) (kk : W p l e R s m args below meth c H locs cells slots Q (F0 m (pc + 3) ls (.int (S.1 0 28) :: rest))) : W p l e R s m args below meth c H locs cells slots Q (F0 m pc ls (.ref (a 0) :: rest)) := r_get C G (Cn := RX8) (T := TX8) (N := 30) (ci := 8) (q0 := 0) (k := 28) inX8 rfl rfl (by decide) hl rfl rfl hdg kk
theorem pM_0_28 {p : Program} {l : Launch} {e : Env} {R : Room} {s : State} {m : MethodId} {args : Array Value} {below : List Frame} {meth : Method} {c : Code} {H : Heap} {locs : List Loc} {cells slots : Nat} {Q : State → Prop} {own : String} {cc : ByteArray} {nL : Nat} {D : va_G} {a : Nat → Nat} {cI cJ : ClassId} {tk : Nat} {tf : Nat → Int32} {A : Nat → Prop} {S : St} {pc : Nat} {ls : Array Slot} {rest : List Value} {index : Nat} {v : Int32} (C : Cx p s m args meth c own cc nL D cI cJ tk tf A) (G : Wd D (wM a cI cJ) A s S H locs) (hl : Cond.fieldLink own index "ErrorNamesModel" "handled" "I" ∈ tb) (hdg : decode cc pc = .ok (.putfield index, 3)) (kk : ∀ (H : Heap) (locs : List Loc), Wd D (wM a cI cJ) A s (si S 0 28 v) H locs → W p l e R s m args below meth c H locs cells slots Q (F0 m (pc + 3) ls rest)) : W p l e R s m args below meth c H locs cells slots Q (F0 m pc ls (.int v :: .ref (a 0) :: rest)) := r_put C G (Cn := RX8) (T := TX8) (N := 30) (ci := 8) (q0 := 0) (k := 28) (ty := .int) inX8 tyX8 tyX8_ok nmX8 rfl rfl (by decide) hl rfl rfl (by decide +kernel) rfl rfl (Nat.le_of_ble_eq_true rfl) rfl hdg kk
theorem gM_0_29 {p : Program} {l : Launch} {e : Env} {R : Room} {s : State} {m : MethodId} {args : Array Value} {below : List Frame} {meth : Method} {c : Code} {H : Heap} {locs : List Loc} {cells slots : Nat} {Q : State → Prop} {own : String} {cc : ByteArray} {nL : Nat} {D : va_G} {a : Nat → Nat} {cI cJ : ClassId} {tk : Nat} {tf : Nat → Int32} {A : Nat → Prop} {S : St} {pc : Nat} {ls : Array Slot} {rest : List Value} {index : Nat} (C : Cx p s m args meth c own cc nL D cI cJ tk tf A) (G : Wd D (wM a cI cJ) A s S H locs) (hl : Cond.fieldLink own index "ErrorNamesModel" "ended" "I" ∈ tb) (hdg : decode cc pc = .ok (.getfield index, 3)) (kk : W p l e R s m args below meth c H locs cells slots Q (F0 m (pc + 3) ls (.int (S.1 0 29) :: rest))) : W p l e R s m args below meth c H locs cells slots Q (F0 m pc ls (.ref (a 0) :: rest)) := r_get C G (Cn := RX8) (T := TX8) (N := 30) (ci := 8) (q0 := 0) (k := 29) inX8 rfl rfl (by decide) hl rfl rfl hdg kk
theorem pM_0_29 {p : Program} {l : Launch} {e : Env} {R : Room} {s : State} {m : MethodId} {args : Array Value} {below : List Frame} {meth : Method} {c : Code} {H : Heap} {locs : List Loc} {cells slots : Nat} {Q : State → Prop} {own : String} {cc : ByteArray} {nL : Nat} {D : va_G} {a : Nat → Nat} {cI cJ : ClassId} {tk : Nat} {tf : Nat → Int32} {A : Nat → Prop} {S : St} {pc : Nat} {ls : Array Slot} {rest : List Value} {index : Nat} {v : Int32} (C : Cx p s m args meth c own cc nL D cI cJ tk tf A) (G : Wd D (wM a cI cJ) A s S H locs) (hl : Cond.fieldLink own index "ErrorNamesModel" "ended" "I" ∈ tb) (hdg : decode cc pc = .ok (.putfield index, 3)) (kk : ∀ (H : Heap) (locs : List Loc), Wd D (wM a cI cJ) A s (si S 0 29 v) H locs → W p l e R s m args below meth c H locs cells slots Q (F0 m (pc + 3) ls rest)) : W p l e R s m args below meth c H locs cells slots Q (F0 m pc ls (.int v :: .ref (a 0) :: rest)) := r_put C G (Cn := RX8) (T := TX8) (N := 30) (ci := 8) (q0 := 0) (k := 29) (ty := .int) inX8 tyX8 tyX8_ok nmX8 rfl rfl (by decide) hl rfl rfl (by decide +kernel) rfl rfl (Nat.le_of_ble_eq_true rfl) rfl hdg kk
theorem aM_1 {p : Program} {l : Launch} {e : Env} {R : Room} {s : State} {m : MethodId} {args : Array Value} {below : List Frame} {meth : Method} {c : Code} {H : Heap} {locs : List Loc} {cells slots : Nat} {Q : State → Prop} {own : String} {cc : ByteArray} {nL : Nat} {D : va_G} {a : Nat → Nat} {cI cJ : ClassId} {tk : Nat} {tf : Nat → Int32} {A : Nat → Prop} {S : St} {pc : Nat} {ls : Array Slot} {rest : List Value} {i : Int32} (C : Cx p s m args meth c own cc nL D cI cJ tk tf A) (G : Wd D (wM a cI cJ) A s S H locs) (hin : vp_in i 480) (hdg : decode cc pc = .ok (.iaload, 1)) (kk : W p l e R s m args below meth c H locs cells slots Q (F0 m (pc + 1) ls (.int (S.1 1 i.toNatClampNeg) :: rest))) : W p l e R s m args below meth c H locs cells slots Q (F0 m pc ls (.int i :: .ref (a 1) :: rest)) := r_iald C G (q0 := 1) rfl hin hdg kk
theorem sM_1 {p : Program} {l : Launch} {e : Env} {R : Room} {s : State} {m : MethodId} {args : Array Value} {below : List Frame} {meth : Method} {c : Code} {H : Heap} {locs : List Loc} {cells slots : Nat} {Q : State → Prop} {own : String} {cc : ByteArray} {nL : Nat} {D : va_G} {a : Nat → Nat} {cI cJ : ClassId} {tk : Nat} {tf : Nat → Int32} {A : Nat → Prop} {S : St} {pc : Nat} {ls : Array Slot} {rest : List Value} {i v : Int32} (C : Cx p s m args meth c own cc nL D cI cJ tk tf A) (G : Wd D (wM a cI cJ) A s S H locs) (hin : vp_in i 480) (hdg : decode cc pc = .ok (.iastore, 1)) (kk : ∀ (H : Heap) (locs : List Loc), Wd D (wM a cI cJ) A s (si S 1 i.toNatClampNeg v) H locs → W p l e R s m args below meth c H locs cells slots Q (F0 m (pc + 1) ls rest)) : W p l e R s m args below meth c H locs cells slots Q (F0 m pc ls (.int v :: .int i :: .ref (a 1) :: rest)) := r_iast C G (q0 := 1) rfl hin rfl hdg kk
theorem nM_1 {p : Program} {l : Launch} {e : Env} {R : Room} {s : State} {m : MethodId} {args : Array Value} {below : List Frame} {meth : Method} {c : Code} {H : Heap} {locs : List Loc} {cells slots : Nat} {Q : State → Prop} {own : String} {cc : ByteArray} {nL : Nat} {D : va_G} {a : Nat → Nat} {cI cJ : ClassId} {tk : Nat} {tf : Nat → Int32} {A : Nat → Prop} {S : St} {pc : Nat} {ls : Array Slot} {rest : List Value} (C : Cx p s m args meth c own cc nL D cI cJ tk tf A) (G : Wd D (wM a cI cJ) A s S H locs) (hdg : decode cc pc = .ok (.arraylength, 1)) (kk : W p l e R s m args below meth c H locs cells slots Q (F0 m (pc + 1) ls (.int 480 :: rest))) : W p l e R s m args below meth c H locs cells slots Q (F0 m pc ls (.ref (a 1) :: rest)) := r_alen C G (q0 := 1) rfl rfl hdg kk
theorem aM_2 {p : Program} {l : Launch} {e : Env} {R : Room} {s : State} {m : MethodId} {args : Array Value} {below : List Frame} {meth : Method} {c : Code} {H : Heap} {locs : List Loc} {cells slots : Nat} {Q : State → Prop} {own : String} {cc : ByteArray} {nL : Nat} {D : va_G} {a : Nat → Nat} {cI cJ : ClassId} {tk : Nat} {tf : Nat → Int32} {A : Nat → Prop} {S : St} {pc : Nat} {ls : Array Slot} {rest : List Value} {i : Int32} (C : Cx p s m args meth c own cc nL D cI cJ tk tf A) (G : Wd D (wM a cI cJ) A s S H locs) (hin : vp_in i 480) (hdg : decode cc pc = .ok (.iaload, 1)) (kk : W p l e R s m args below meth c H locs cells slots Q (F0 m (pc + 1) ls (.int (S.1 2 i.toNatClampNeg) :: rest))) : W p l e R s m args below meth c H locs cells slots Q (F0 m pc ls (.int i :: .ref (a 2) :: rest)) := r_iald C G (q0 := 2) rfl hin hdg kk
theorem sM_2 {p : Program} {l : Launch} {e : Env} {R : Room} {s : State} {m : MethodId} {args : Array Value} {below : List Frame} {meth : Method} {c : Code} {H : Heap} {locs : List Loc} {cells slots : Nat} {Q : State → Prop} {own : String} {cc : ByteArray} {nL : Nat} {D : va_G} {a : Nat → Nat} {cI cJ : ClassId} {tk : Nat} {tf : Nat → Int32} {A : Nat → Prop} {S : St} {pc : Nat} {ls : Array Slot} {rest : List Value} {i v : Int32} (C : Cx p s m args meth c own cc nL D cI cJ tk tf A) (G : Wd D (wM a cI cJ) A s S H locs) (hin : vp_in i 480) (hdg : decode cc pc = .ok (.iastore, 1)) (kk : ∀ (H : Heap) (locs : List Loc), Wd D (wM a cI cJ) A s (si S 2 i.toNatClampNeg v) H locs → W p l e R s m args below meth c H locs cells slots Q (F0 m (pc + 1) ls rest)) : W p l e R s m args below meth c H locs cells slots Q (F0 m pc ls (.int v :: .int i :: .ref (a 2) :: rest)) := r_iast C G (q0 := 2) rfl hin rfl hdg kk
theorem nM_2 {p : Program} {l : Launch} {e : Env} {R : Room} {s : State} {m : MethodId} {args : Array Value} {below : List Frame} {meth : Method} {c : Code} {H : Heap} {locs : List Loc} {cells slots : Nat} {Q : State → Prop} {own : String} {cc : ByteArray} {nL : Nat} {D : va_G} {a : Nat → Nat} {cI cJ : ClassId} {tk : Nat} {tf : Nat → Int32} {A : Nat → Prop} {S : St} {pc : Nat} {ls : Array Slot} {rest : List Value} (C : Cx p s m args meth c own cc nL D cI cJ tk tf A) (G : Wd D (wM a cI cJ) A s S H locs) (hdg : decode cc pc = .ok (.arraylength, 1)) (kk : W p l e R s m args below meth c H locs cells slots Q (F0 m (pc + 1) ls (.int 480 :: rest))) : W p l e R s m args below meth c H locs cells slots Q (F0 m pc ls (.ref (a 2) :: rest)) := r_alen C G (q0 := 2) rfl rfl hdg kk
theorem aM_3 {p : Program} {l : Launch} {e : Env} {R : Room} {s : State} {m : MethodId} {args : Array Value} {below : List Frame} {meth : Method} {c : Code} {H : Heap} {locs : List Loc} {cells slots : Nat} {Q : State → Prop} {own : String} {cc : ByteArray} {nL : Nat} {D : va_G} {a : Nat → Nat} {cI cJ : ClassId} {tk : Nat} {tf : Nat → Int32} {A : Nat → Prop} {S : St} {pc : Nat} {ls : Array Slot} {rest : List Value} {i : Int32} (C : Cx p s m args meth c own cc nL D cI cJ tk tf A) (G : Wd D (wM a cI cJ) A s S H locs) (hin : vp_in i 20) (hdg : decode cc pc = .ok (.iaload, 1)) (kk : W p l e R s m args below meth c H locs cells slots Q (F0 m (pc + 1) ls (.int (S.1 3 i.toNatClampNeg) :: rest))) : W p l e R s m args below meth c H locs cells slots Q (F0 m pc ls (.int i :: .ref (a 3) :: rest)) := r_iald C G (q0 := 3) rfl hin hdg kk
theorem sM_3 {p : Program} {l : Launch} {e : Env} {R : Room} {s : State} {m : MethodId} {args : Array Value} {below : List Frame} {meth : Method} {c : Code} {H : Heap} {locs : List Loc} {cells slots : Nat} {Q : State → Prop} {own : String} {cc : ByteArray} {nL : Nat} {D : va_G} {a : Nat → Nat} {cI cJ : ClassId} {tk : Nat} {tf : Nat → Int32} {A : Nat → Prop} {S : St} {pc : Nat} {ls : Array Slot} {rest : List Value} {i v : Int32} (C : Cx p s m args meth c own cc nL D cI cJ tk tf A) (G : Wd D (wM a cI cJ) A s S H locs) (hin : vp_in i 20) (hdg : decode cc pc = .ok (.iastore, 1)) (kk : ∀ (H : Heap) (locs : List Loc), Wd D (wM a cI cJ) A s (si S 3 i.toNatClampNeg v) H locs → W p l e R s m args below meth c H locs cells slots Q (F0 m (pc + 1) ls rest)) : W p l e R s m args below meth c H locs cells slots Q (F0 m pc ls (.int v :: .int i :: .ref (a 3) :: rest)) := r_iast C G (q0 := 3) rfl hin rfl hdg kk
theorem nM_3 {p : Program} {l : Launch} {e : Env} {R : Room} {s : State} {m : MethodId} {args : Array Value} {below : List Frame} {meth : Method} {c : Code} {H : Heap} {locs : List Loc} {cells slots : Nat} {Q : State → Prop} {own : String} {cc : ByteArray} {nL : Nat} {D : va_G} {a : Nat → Nat} {cI cJ : ClassId} {tk : Nat} {tf : Nat → Int32} {A : Nat → Prop} {S : St} {pc : Nat} {ls : Array Slot} {rest : List Value} (C : Cx p s m args meth c own cc nL D cI cJ tk tf A) (G : Wd D (wM a cI cJ) A s S H locs) (hdg : decode cc pc = .ok (.arraylength, 1)) (kk : W p l e R s m args below meth c H locs cells slots Q (F0 m (pc + 1) ls (.int 20 :: rest))) : W p l e R s m args below meth c H locs cells slots Q (F0 m pc ls (.ref (a 3) :: rest)) := r_alen C G (q0 := 3) rfl rfl hdg kk
theorem aM_4 {p : Program} {l : Launch} {e : Env} {R : Room} {s : State} {m : MethodId} {args : Array Value} {below : List Frame} {meth : Method} {c : Code} {H : Heap} {locs : List Loc} {cells slots : Nat} {Q : State → Prop} {own : String} {cc : ByteArray} {nL : Nat} {D : va_G} {a : Nat → Nat} {cI cJ : ClassId} {tk : Nat} {tf : Nat → Int32} {A : Nat → Prop} {S : St} {pc : Nat} {ls : Array Slot} {rest : List Value} {i : Int32} (C : Cx p s m args meth c own cc nL D cI cJ tk tf A) (G : Wd D (wM a cI cJ) A s S H locs) (hin : vp_in i 60) (hdg : decode cc pc = .ok (.iaload, 1)) (kk : W p l e R s m args below meth c H locs cells slots Q (F0 m (pc + 1) ls (.int (S.1 4 i.toNatClampNeg) :: rest))) : W p l e R s m args below meth c H locs cells slots Q (F0 m pc ls (.int i :: .ref (a 4) :: rest)) := r_iald C G (q0 := 4) rfl hin hdg kk
theorem sM_4 {p : Program} {l : Launch} {e : Env} {R : Room} {s : State} {m : MethodId} {args : Array Value} {below : List Frame} {meth : Method} {c : Code} {H : Heap} {locs : List Loc} {cells slots : Nat} {Q : State → Prop} {own : String} {cc : ByteArray} {nL : Nat} {D : va_G} {a : Nat → Nat} {cI cJ : ClassId} {tk : Nat} {tf : Nat → Int32} {A : Nat → Prop} {S : St} {pc : Nat} {ls : Array Slot} {rest : List Value} {i v : Int32} (C : Cx p s m args meth c own cc nL D cI cJ tk tf A) (G : Wd D (wM a cI cJ) A s S H locs) (hin : vp_in i 60) (hdg : decode cc pc = .ok (.iastore, 1)) (kk : ∀ (H : Heap) (locs : List Loc), Wd D (wM a cI cJ) A s (si S 4 i.toNatClampNeg v) H locs → W p l e R s m args below meth c H locs cells slots Q (F0 m (pc + 1) ls rest)) : W p l e R s m args below meth c H locs cells slots Q (F0 m pc ls (.int v :: .int i :: .ref (a 4) :: rest)) := r_iast C G (q0 := 4) rfl hin rfl hdg kk
theorem nM_4 {p : Program} {l : Launch} {e : Env} {R : Room} {s : State} {m : MethodId} {args : Array Value} {below : List Frame} {meth : Method} {c : Code} {H : Heap} {locs : List Loc} {cells slots : Nat} {Q : State → Prop} {own : String} {cc : ByteArray} {nL : Nat} {D : va_G} {a : Nat → Nat} {cI cJ : ClassId} {tk : Nat} {tf : Nat → Int32} {A : Nat → Prop} {S : St} {pc : Nat} {ls : Array Slot} {rest : List Value} (C : Cx p s m args meth c own cc nL D cI cJ tk tf A) (G : Wd D (wM a cI cJ) A s S H locs) (hdg : decode cc pc = .ok (.arraylength, 1)) (kk : W p l e R s m args below meth c H locs cells slots Q (F0 m (pc + 1) ls (.int 60 :: rest))) : W p l e R s m args below meth c H locs cells slots Q (F0 m pc ls (.ref (a 4) :: rest)) := r_alen C G (q0 := 4) rfl rfl hdg kk
theorem aM_5 {p : Program} {l : Launch} {e : Env} {R : Room} {s : State} {m : MethodId} {args : Array Value} {below : List Frame} {meth : Method} {c : Code} {H : Heap} {locs : List Loc} {cells slots : Nat} {Q : State → Prop} {own : String} {cc : ByteArray} {nL : Nat} {D : va_G} {a : Nat → Nat} {cI cJ : ClassId} {tk : Nat} {tf : Nat → Int32} {A : Nat → Prop} {S : St} {pc : Nat} {ls : Array Slot} {rest : List Value} {i : Int32} (C : Cx p s m args meth c own cc nL D cI cJ tk tf A) (G : Wd D (wM a cI cJ) A s S H locs) (hin : vp_in i 60) (hdg : decode cc pc = .ok (.iaload, 1)) (kk : W p l e R s m args below meth c H locs cells slots Q (F0 m (pc + 1) ls (.int (S.1 5 i.toNatClampNeg) :: rest))) : W p l e R s m args below meth c H locs cells slots Q (F0 m pc ls (.int i :: .ref (a 5) :: rest)) := r_iald C G (q0 := 5) rfl hin hdg kk
theorem sM_5 {p : Program} {l : Launch} {e : Env} {R : Room} {s : State} {m : MethodId} {args : Array Value} {below : List Frame} {meth : Method} {c : Code} {H : Heap} {locs : List Loc} {cells slots : Nat} {Q : State → Prop} {own : String} {cc : ByteArray} {nL : Nat} {D : va_G} {a : Nat → Nat} {cI cJ : ClassId} {tk : Nat} {tf : Nat → Int32} {A : Nat → Prop} {S : St} {pc : Nat} {ls : Array Slot} {rest : List Value} {i v : Int32} (C : Cx p s m args meth c own cc nL D cI cJ tk tf A) (G : Wd D (wM a cI cJ) A s S H locs) (hin : vp_in i 60) (hdg : decode cc pc = .ok (.iastore, 1)) (kk : ∀ (H : Heap) (locs : List Loc), Wd D (wM a cI cJ) A s (si S 5 i.toNatClampNeg v) H locs → W p l e R s m args below meth c H locs cells slots Q (F0 m (pc + 1) ls rest)) : W p l e R s m args below meth c H locs cells slots Q (F0 m pc ls (.int v :: .int i :: .ref (a 5) :: rest)) := r_iast C G (q0 := 5) rfl hin rfl hdg kk
theorem nM_5 {p : Program} {l : Launch} {e : Env} {R : Room} {s : State} {m : MethodId} {args : Array Value} {below : List Frame} {meth : Method} {c : Code} {H : Heap} {locs : List Loc} {cells slots : Nat} {Q : State → Prop} {own : String} {cc : ByteArray} {nL : Nat} {D : va_G} {a : Nat → Nat} {cI cJ : ClassId} {tk : Nat} {tf : Nat → Int32} {A : Nat → Prop} {S : St} {pc : Nat} {ls : Array Slot} {rest : List Value} (C : Cx p s m args meth c own cc nL D cI cJ tk tf A) (G : Wd D (wM a cI cJ) A s S H locs) (hdg : decode cc pc = .ok (.arraylength, 1)) (kk : W p l e R s m args below meth c H locs cells slots Q (F0 m (pc + 1) ls (.int 60 :: rest))) : W p l e R s m args below meth c H locs cells slots Q (F0 m pc ls (.ref (a 5) :: rest)) := r_alen C G (q0 := 5) rfl rfl hdg kk
theorem aM_6 {p : Program} {l : Launch} {e : Env} {R : Room} {s : State} {m : MethodId} {args : Array Value} {below : List Frame} {meth : Method} {c : Code} {H : Heap} {locs : List Loc} {cells slots : Nat} {Q : State → Prop} {own : String} {cc : ByteArray} {nL : Nat} {D : va_G} {a : Nat → Nat} {cI cJ : ClassId} {tk : Nat} {tf : Nat → Int32} {A : Nat → Prop} {S : St} {pc : Nat} {ls : Array Slot} {rest : List Value} {i : Int32} (C : Cx p s m args meth c own cc nL D cI cJ tk tf A) (G : Wd D (wM a cI cJ) A s S H locs) (hin : vp_in i 40) (hdg : decode cc pc = .ok (.iaload, 1)) (kk : W p l e R s m args below meth c H locs cells slots Q (F0 m (pc + 1) ls (.int (S.1 6 i.toNatClampNeg) :: rest))) : W p l e R s m args below meth c H locs cells slots Q (F0 m pc ls (.int i :: .ref (a 6) :: rest)) := r_iald C G (q0 := 6) rfl hin hdg kk
theorem sM_6 {p : Program} {l : Launch} {e : Env} {R : Room} {s : State} {m : MethodId} {args : Array Value} {below : List Frame} {meth : Method} {c : Code} {H : Heap} {locs : List Loc} {cells slots : Nat} {Q : State → Prop} {own : String} {cc : ByteArray} {nL : Nat} {D : va_G} {a : Nat → Nat} {cI cJ : ClassId} {tk : Nat} {tf : Nat → Int32} {A : Nat → Prop} {S : St} {pc : Nat} {ls : Array Slot} {rest : List Value} {i v : Int32} (C : Cx p s m args meth c own cc nL D cI cJ tk tf A) (G : Wd D (wM a cI cJ) A s S H locs) (hin : vp_in i 40) (hdg : decode cc pc = .ok (.iastore, 1)) (kk : ∀ (H : Heap) (locs : List Loc), Wd D (wM a cI cJ) A s (si S 6 i.toNatClampNeg v) H locs → W p l e R s m args below meth c H locs cells slots Q (F0 m (pc + 1) ls rest)) : W p l e R s m args below meth c H locs cells slots Q (F0 m pc ls (.int v :: .int i :: .ref (a 6) :: rest)) := r_iast C G (q0 := 6) rfl hin rfl hdg kk
theorem nM_6 {p : Program} {l : Launch} {e : Env} {R : Room} {s : State} {m : MethodId} {args : Array Value} {below : List Frame} {meth : Method} {c : Code} {H : Heap} {locs : List Loc} {cells slots : Nat} {Q : State → Prop} {own : String} {cc : ByteArray} {nL : Nat} {D : va_G} {a : Nat → Nat} {cI cJ : ClassId} {tk : Nat} {tf : Nat → Int32} {A : Nat → Prop} {S : St} {pc : Nat} {ls : Array Slot} {rest : List Value} (C : Cx p s m args meth c own cc nL D cI cJ tk tf A) (G : Wd D (wM a cI cJ) A s S H locs) (hdg : decode cc pc = .ok (.arraylength, 1)) (kk : W p l e R s m args below meth c H locs cells slots Q (F0 m (pc + 1) ls (.int 40 :: rest))) : W p l e R s m args below meth c H locs cells slots Q (F0 m pc ls (.ref (a 6) :: rest)) := r_alen C G (q0 := 6) rfl rfl hdg kk
theorem aM_7 {p : Program} {l : Launch} {e : Env} {R : Room} {s : State} {m : MethodId} {args : Array Value} {below : List Frame} {meth : Method} {c : Code} {H : Heap} {locs : List Loc} {cells slots : Nat} {Q : State → Prop} {own : String} {cc : ByteArray} {nL : Nat} {D : va_G} {a : Nat → Nat} {cI cJ : ClassId} {tk : Nat} {tf : Nat → Int32} {A : Nat → Prop} {S : St} {pc : Nat} {ls : Array Slot} {rest : List Value} {i : Int32} (C : Cx p s m args meth c own cc nL D cI cJ tk tf A) (G : Wd D (wM a cI cJ) A s S H locs) (hin : vp_in i 40) (hdg : decode cc pc = .ok (.iaload, 1)) (kk : W p l e R s m args below meth c H locs cells slots Q (F0 m (pc + 1) ls (.int (S.1 7 i.toNatClampNeg) :: rest))) : W p l e R s m args below meth c H locs cells slots Q (F0 m pc ls (.int i :: .ref (a 7) :: rest)) := r_iald C G (q0 := 7) rfl hin hdg kk
theorem sM_7 {p : Program} {l : Launch} {e : Env} {R : Room} {s : State} {m : MethodId} {args : Array Value} {below : List Frame} {meth : Method} {c : Code} {H : Heap} {locs : List Loc} {cells slots : Nat} {Q : State → Prop} {own : String} {cc : ByteArray} {nL : Nat} {D : va_G} {a : Nat → Nat} {cI cJ : ClassId} {tk : Nat} {tf : Nat → Int32} {A : Nat → Prop} {S : St} {pc : Nat} {ls : Array Slot} {rest : List Value} {i v : Int32} (C : Cx p s m args meth c own cc nL D cI cJ tk tf A) (G : Wd D (wM a cI cJ) A s S H locs) (hin : vp_in i 40) (hdg : decode cc pc = .ok (.iastore, 1)) (kk : ∀ (H : Heap) (locs : List Loc), Wd D (wM a cI cJ) A s (si S 7 i.toNatClampNeg v) H locs → W p l e R s m args below meth c H locs cells slots Q (F0 m (pc + 1) ls rest)) : W p l e R s m args below meth c H locs cells slots Q (F0 m pc ls (.int v :: .int i :: .ref (a 7) :: rest)) := r_iast C G (q0 := 7) rfl hin rfl hdg kk
theorem nM_7 {p : Program} {l : Launch} {e : Env} {R : Room} {s : State} {m : MethodId} {args : Array Value} {below : List Frame} {meth : Method} {c : Code} {H : Heap} {locs : List Loc} {cells slots : Nat} {Q : State → Prop} {own : String} {cc : ByteArray} {nL : Nat} {D : va_G} {a : Nat → Nat} {cI cJ : ClassId} {tk : Nat} {tf : Nat → Int32} {A : Nat → Prop} {S : St} {pc : Nat} {ls : Array Slot} {rest : List Value} (C : Cx p s m args meth c own cc nL D cI cJ tk tf A) (G : Wd D (wM a cI cJ) A s S H locs) (hdg : decode cc pc = .ok (.arraylength, 1)) (kk : W p l e R s m args below meth c H locs cells slots Q (F0 m (pc + 1) ls (.int 40 :: rest))) : W p l e R s m args below meth c H locs cells slots Q (F0 m pc ls (.ref (a 7) :: rest)) := r_alen C G (q0 := 7) rfl rfl hdg kk
theorem aM_8 {p : Program} {l : Launch} {e : Env} {R : Room} {s : State} {m : MethodId} {args : Array Value} {below : List Frame} {meth : Method} {c : Code} {H : Heap} {locs : List Loc} {cells slots : Nat} {Q : State → Prop} {own : String} {cc : ByteArray} {nL : Nat} {D : va_G} {a : Nat → Nat} {cI cJ : ClassId} {tk : Nat} {tf : Nat → Int32} {A : Nat → Prop} {S : St} {pc : Nat} {ls : Array Slot} {rest : List Value} {i : Int32} (C : Cx p s m args meth c own cc nL D cI cJ tk tf A) (G : Wd D (wM a cI cJ) A s S H locs) (hin : vp_in i 12) (hdg : decode cc pc = .ok (.iaload, 1)) (kk : W p l e R s m args below meth c H locs cells slots Q (F0 m (pc + 1) ls (.int (S.1 8 i.toNatClampNeg) :: rest))) : W p l e R s m args below meth c H locs cells slots Q (F0 m pc ls (.int i :: .ref (a 8) :: rest)) := r_iald C G (q0 := 8) rfl hin hdg kk
theorem sM_8 {p : Program} {l : Launch} {e : Env} {R : Room} {s : State} {m : MethodId} {args : Array Value} {below : List Frame} {meth : Method} {c : Code} {H : Heap} {locs : List Loc} {cells slots : Nat} {Q : State → Prop} {own : String} {cc : ByteArray} {nL : Nat} {D : va_G} {a : Nat → Nat} {cI cJ : ClassId} {tk : Nat} {tf : Nat → Int32} {A : Nat → Prop} {S : St} {pc : Nat} {ls : Array Slot} {rest : List Value} {i v : Int32} (C : Cx p s m args meth c own cc nL D cI cJ tk tf A) (G : Wd D (wM a cI cJ) A s S H locs) (hin : vp_in i 12) (hdg : decode cc pc = .ok (.iastore, 1)) (kk : ∀ (H : Heap) (locs : List Loc), Wd D (wM a cI cJ) A s (si S 8 i.toNatClampNeg v) H locs → W p l e R s m args below meth c H locs cells slots Q (F0 m (pc + 1) ls rest)) : W p l e R s m args below meth c H locs cells slots Q (F0 m pc ls (.int v :: .int i :: .ref (a 8) :: rest)) := r_iast C G (q0 := 8) rfl hin rfl hdg kk
theorem nM_8 {p : Program} {l : Launch} {e : Env} {R : Room} {s : State} {m : MethodId} {args : Array Value} {below : List Frame} {meth : Method} {c : Code} {H : Heap} {locs : List Loc} {cells slots : Nat} {Q : State → Prop} {own : String} {cc : ByteArray} {nL : Nat} {D : va_G} {a : Nat → Nat} {cI cJ : ClassId} {tk : Nat} {tf : Nat → Int32} {A : Nat → Prop} {S : St} {pc : Nat} {ls : Array Slot} {rest : List Value} (C : Cx p s m args meth c own cc nL D cI cJ tk tf A) (G : Wd D (wM a cI cJ) A s S H locs) (hdg : decode cc pc = .ok (.arraylength, 1)) (kk : W p l e R s m args below meth c H locs cells slots Q (F0 m (pc + 1) ls (.int 12 :: rest))) : W p l e R s m args below meth c H locs cells slots Q (F0 m pc ls (.ref (a 8) :: rest)) := r_alen C G (q0 := 8) rfl rfl hdg kk
theorem aM_9 {p : Program} {l : Launch} {e : Env} {R : Room} {s : State} {m : MethodId} {args : Array Value} {below : List Frame} {meth : Method} {c : Code} {H : Heap} {locs : List Loc} {cells slots : Nat} {Q : State → Prop} {own : String} {cc : ByteArray} {nL : Nat} {D : va_G} {a : Nat → Nat} {cI cJ : ClassId} {tk : Nat} {tf : Nat → Int32} {A : Nat → Prop} {S : St} {pc : Nat} {ls : Array Slot} {rest : List Value} {i : Int32} (C : Cx p s m args meth c own cc nL D cI cJ tk tf A) (G : Wd D (wM a cI cJ) A s S H locs) (hin : vp_in i 60) (hdg : decode cc pc = .ok (.iaload, 1)) (kk : W p l e R s m args below meth c H locs cells slots Q (F0 m (pc + 1) ls (.int (S.1 9 i.toNatClampNeg) :: rest))) : W p l e R s m args below meth c H locs cells slots Q (F0 m pc ls (.int i :: .ref (a 9) :: rest)) := r_iald C G (q0 := 9) rfl hin hdg kk
theorem sM_9 {p : Program} {l : Launch} {e : Env} {R : Room} {s : State} {m : MethodId} {args : Array Value} {below : List Frame} {meth : Method} {c : Code} {H : Heap} {locs : List Loc} {cells slots : Nat} {Q : State → Prop} {own : String} {cc : ByteArray} {nL : Nat} {D : va_G} {a : Nat → Nat} {cI cJ : ClassId} {tk : Nat} {tf : Nat → Int32} {A : Nat → Prop} {S : St} {pc : Nat} {ls : Array Slot} {rest : List Value} {i v : Int32} (C : Cx p s m args meth c own cc nL D cI cJ tk tf A) (G : Wd D (wM a cI cJ) A s S H locs) (hin : vp_in i 60) (hdg : decode cc pc = .ok (.iastore, 1)) (kk : ∀ (H : Heap) (locs : List Loc), Wd D (wM a cI cJ) A s (si S 9 i.toNatClampNeg v) H locs → W p l e R s m args below meth c H locs cells slots Q (F0 m (pc + 1) ls rest)) : W p l e R s m args below meth c H locs cells slots Q (F0 m pc ls (.int v :: .int i :: .ref (a 9) :: rest)) := r_iast C G (q0 := 9) rfl hin rfl hdg kk
theorem nM_9 {p : Program} {l : Launch} {e : Env} {R : Room} {s : State} {m : MethodId} {args : Array Value} {below : List Frame} {meth : Method} {c : Code} {H : Heap} {locs : List Loc} {cells slots : Nat} {Q : State → Prop} {own : String} {cc : ByteArray} {nL : Nat} {D : va_G} {a : Nat → Nat} {cI cJ : ClassId} {tk : Nat} {tf : Nat → Int32} {A : Nat → Prop} {S : St} {pc : Nat} {ls : Array Slot} {rest : List Value} (C : Cx p s m args meth c own cc nL D cI cJ tk tf A) (G : Wd D (wM a cI cJ) A s S H locs) (hdg : decode cc pc = .ok (.arraylength, 1)) (kk : W p l e R s m args below meth c H locs cells slots Q (F0 m (pc + 1) ls (.int 60 :: rest))) : W p l e R s m args below meth c H locs cells slots Q (F0 m pc ls (.ref (a 9) :: rest)) := r_alen C G (q0 := 9) rfl rfl hdg kk
theorem aM_10 {p : Program} {l : Launch} {e : Env} {R : Room} {s : State} {m : MethodId} {args : Array Value} {below : List Frame} {meth : Method} {c : Code} {H : Heap} {locs : List Loc} {cells slots : Nat} {Q : State → Prop} {own : String} {cc : ByteArray} {nL : Nat} {D : va_G} {a : Nat → Nat} {cI cJ : ClassId} {tk : Nat} {tf : Nat → Int32} {A : Nat → Prop} {S : St} {pc : Nat} {ls : Array Slot} {rest : List Value} {i : Int32} (C : Cx p s m args meth c own cc nL D cI cJ tk tf A) (G : Wd D (wM a cI cJ) A s S H locs) (hin : vp_in i 60) (hdg : decode cc pc = .ok (.iaload, 1)) (kk : W p l e R s m args below meth c H locs cells slots Q (F0 m (pc + 1) ls (.int (S.1 10 i.toNatClampNeg) :: rest))) : W p l e R s m args below meth c H locs cells slots Q (F0 m pc ls (.int i :: .ref (a 10) :: rest)) := r_iald C G (q0 := 10) rfl hin hdg kk
theorem sM_10 {p : Program} {l : Launch} {e : Env} {R : Room} {s : State} {m : MethodId} {args : Array Value} {below : List Frame} {meth : Method} {c : Code} {H : Heap} {locs : List Loc} {cells slots : Nat} {Q : State → Prop} {own : String} {cc : ByteArray} {nL : Nat} {D : va_G} {a : Nat → Nat} {cI cJ : ClassId} {tk : Nat} {tf : Nat → Int32} {A : Nat → Prop} {S : St} {pc : Nat} {ls : Array Slot} {rest : List Value} {i v : Int32} (C : Cx p s m args meth c own cc nL D cI cJ tk tf A) (G : Wd D (wM a cI cJ) A s S H locs) (hin : vp_in i 60) (hdg : decode cc pc = .ok (.iastore, 1)) (kk : ∀ (H : Heap) (locs : List Loc), Wd D (wM a cI cJ) A s (si S 10 i.toNatClampNeg v) H locs → W p l e R s m args below meth c H locs cells slots Q (F0 m (pc + 1) ls rest)) : W p l e R s m args below meth c H locs cells slots Q (F0 m pc ls (.int v :: .int i :: .ref (a 10) :: rest)) := r_iast C G (q0 := 10) rfl hin rfl hdg kk
theorem nM_10 {p : Program} {l : Launch} {e : Env} {R : Room} {s : State} {m : MethodId} {args : Array Value} {below : List Frame} {meth : Method} {c : Code} {H : Heap} {locs : List Loc} {cells slots : Nat} {Q : State → Prop} {own : String} {cc : ByteArray} {nL : Nat} {D : va_G} {a : Nat → Nat} {cI cJ : ClassId} {tk : Nat} {tf : Nat → Int32} {A : Nat → Prop} {S : St} {pc : Nat} {ls : Array Slot} {rest : List Value} (C : Cx p s m args meth c own cc nL D cI cJ tk tf A) (G : Wd D (wM a cI cJ) A s S H locs) (hdg : decode cc pc = .ok (.arraylength, 1)) (kk : W p l e R s m args below meth c H locs cells slots Q (F0 m (pc + 1) ls (.int 60 :: rest))) : W p l e R s m args below meth c H locs cells slots Q (F0 m pc ls (.ref (a 10) :: rest)) := r_alen C G (q0 := 10) rfl rfl hdg kk
theorem aM_11 {p : Program} {l : Launch} {e : Env} {R : Room} {s : State} {m : MethodId} {args : Array Value} {below : List Frame} {meth : Method} {c : Code} {H : Heap} {locs : List Loc} {cells slots : Nat} {Q : State → Prop} {own : String} {cc : ByteArray} {nL : Nat} {D : va_G} {a : Nat → Nat} {cI cJ : ClassId} {tk : Nat} {tf : Nat → Int32} {A : Nat → Prop} {S : St} {pc : Nat} {ls : Array Slot} {rest : List Value} {i : Int32} (C : Cx p s m args meth c own cc nL D cI cJ tk tf A) (G : Wd D (wM a cI cJ) A s S H locs) (hin : vp_in i 30) (hdg : decode cc pc = .ok (.iaload, 1)) (kk : W p l e R s m args below meth c H locs cells slots Q (F0 m (pc + 1) ls (.int (S.1 11 i.toNatClampNeg) :: rest))) : W p l e R s m args below meth c H locs cells slots Q (F0 m pc ls (.int i :: .ref (a 11) :: rest)) := r_iald C G (q0 := 11) rfl hin hdg kk
theorem sM_11 {p : Program} {l : Launch} {e : Env} {R : Room} {s : State} {m : MethodId} {args : Array Value} {below : List Frame} {meth : Method} {c : Code} {H : Heap} {locs : List Loc} {cells slots : Nat} {Q : State → Prop} {own : String} {cc : ByteArray} {nL : Nat} {D : va_G} {a : Nat → Nat} {cI cJ : ClassId} {tk : Nat} {tf : Nat → Int32} {A : Nat → Prop} {S : St} {pc : Nat} {ls : Array Slot} {rest : List Value} {i v : Int32} (C : Cx p s m args meth c own cc nL D cI cJ tk tf A) (G : Wd D (wM a cI cJ) A s S H locs) (hin : vp_in i 30) (hdg : decode cc pc = .ok (.iastore, 1)) (kk : ∀ (H : Heap) (locs : List Loc), Wd D (wM a cI cJ) A s (si S 11 i.toNatClampNeg v) H locs → W p l e R s m args below meth c H locs cells slots Q (F0 m (pc + 1) ls rest)) : W p l e R s m args below meth c H locs cells slots Q (F0 m pc ls (.int v :: .int i :: .ref (a 11) :: rest)) := r_iast C G (q0 := 11) rfl hin rfl hdg kk
theorem nM_11 {p : Program} {l : Launch} {e : Env} {R : Room} {s : State} {m : MethodId} {args : Array Value} {below : List Frame} {meth : Method} {c : Code} {H : Heap} {locs : List Loc} {cells slots : Nat} {Q : State → Prop} {own : String} {cc : ByteArray} {nL : Nat} {D : va_G} {a : Nat → Nat} {cI cJ : ClassId} {tk : Nat} {tf : Nat → Int32} {A : Nat → Prop} {S : St} {pc : Nat} {ls : Array Slot} {rest : List Value} (C : Cx p s m args meth c own cc nL D cI cJ tk tf A) (G : Wd D (wM a cI cJ) A s S H locs) (hdg : decode cc pc = .ok (.arraylength, 1)) (kk : W p l e R s m args below meth c H locs cells slots Q (F0 m (pc + 1) ls (.int 30 :: rest))) : W p l e R s m args below meth c H locs cells slots Q (F0 m pc ls (.ref (a 11) :: rest)) := r_alen C G (q0 := 11) rfl rfl hdg kk
theorem aM_12 {p : Program} {l : Launch} {e : Env} {R : Room} {s : State} {m : MethodId} {args : Array Value} {below : List Frame} {meth : Method} {c : Code} {H : Heap} {locs : List Loc} {cells slots : Nat} {Q : State → Prop} {own : String} {cc : ByteArray} {nL : Nat} {D : va_G} {a : Nat → Nat} {cI cJ : ClassId} {tk : Nat} {tf : Nat → Int32} {A : Nat → Prop} {S : St} {pc : Nat} {ls : Array Slot} {rest : List Value} {i : Int32} (C : Cx p s m args meth c own cc nL D cI cJ tk tf A) (G : Wd D (wM a cI cJ) A s S H locs) (hin : vp_in i 30) (hdg : decode cc pc = .ok (.iaload, 1)) (kk : W p l e R s m args below meth c H locs cells slots Q (F0 m (pc + 1) ls (.int (S.1 12 i.toNatClampNeg) :: rest))) : W p l e R s m args below meth c H locs cells slots Q (F0 m pc ls (.int i :: .ref (a 12) :: rest)) := r_iald C G (q0 := 12) rfl hin hdg kk
theorem sM_12 {p : Program} {l : Launch} {e : Env} {R : Room} {s : State} {m : MethodId} {args : Array Value} {below : List Frame} {meth : Method} {c : Code} {H : Heap} {locs : List Loc} {cells slots : Nat} {Q : State → Prop} {own : String} {cc : ByteArray} {nL : Nat} {D : va_G} {a : Nat → Nat} {cI cJ : ClassId} {tk : Nat} {tf : Nat → Int32} {A : Nat → Prop} {S : St} {pc : Nat} {ls : Array Slot} {rest : List Value} {i v : Int32} (C : Cx p s m args meth c own cc nL D cI cJ tk tf A) (G : Wd D (wM a cI cJ) A s S H locs) (hin : vp_in i 30) (hdg : decode cc pc = .ok (.iastore, 1)) (kk : ∀ (H : Heap) (locs : List Loc), Wd D (wM a cI cJ) A s (si S 12 i.toNatClampNeg v) H locs → W p l e R s m args below meth c H locs cells slots Q (F0 m (pc + 1) ls rest)) : W p l e R s m args below meth c H locs cells slots Q (F0 m pc ls (.int v :: .int i :: .ref (a 12) :: rest)) := r_iast C G (q0 := 12) rfl hin rfl hdg kk
theorem nM_12 {p : Program} {l : Launch} {e : Env} {R : Room} {s : State} {m : MethodId} {args : Array Value} {below : List Frame} {meth : Method} {c : Code} {H : Heap} {locs : List Loc} {cells slots : Nat} {Q : State → Prop} {own : String} {cc : ByteArray} {nL : Nat} {D : va_G} {a : Nat → Nat} {cI cJ : ClassId} {tk : Nat} {tf : Nat → Int32} {A : Nat → Prop} {S : St} {pc : Nat} {ls : Array Slot} {rest : List Value} (C : Cx p s m args meth c own cc nL D cI cJ tk tf A) (G : Wd D (wM a cI cJ) A s S H locs) (hdg : decode cc pc = .ok (.arraylength, 1)) (kk : W p l e R s m args below meth c H locs cells slots Q (F0 m (pc + 1) ls (.int 30 :: rest))) : W p l e R s m args below meth c H locs cells slots Q (F0 m pc ls (.ref (a 12) :: rest)) := r_alen C G (q0 := 12) rfl rfl hdg kk
theorem aM_13 {p : Program} {l : Launch} {e : Env} {R : Room} {s : State} {m : MethodId} {args : Array Value} {below : List Frame} {meth : Method} {c : Code} {H : Heap} {locs : List Loc} {cells slots : Nat} {Q : State → Prop} {own : String} {cc : ByteArray} {nL : Nat} {D : va_G} {a : Nat → Nat} {cI cJ : ClassId} {tk : Nat} {tf : Nat → Int32} {A : Nat → Prop} {S : St} {pc : Nat} {ls : Array Slot} {rest : List Value} {i : Int32} (C : Cx p s m args meth c own cc nL D cI cJ tk tf A) (G : Wd D (wM a cI cJ) A s S H locs) (hin : vp_in i 30) (hdg : decode cc pc = .ok (.iaload, 1)) (kk : W p l e R s m args below meth c H locs cells slots Q (F0 m (pc + 1) ls (.int (S.1 13 i.toNatClampNeg) :: rest))) : W p l e R s m args below meth c H locs cells slots Q (F0 m pc ls (.int i :: .ref (a 13) :: rest)) := r_iald C G (q0 := 13) rfl hin hdg kk
theorem sM_13 {p : Program} {l : Launch} {e : Env} {R : Room} {s : State} {m : MethodId} {args : Array Value} {below : List Frame} {meth : Method} {c : Code} {H : Heap} {locs : List Loc} {cells slots : Nat} {Q : State → Prop} {own : String} {cc : ByteArray} {nL : Nat} {D : va_G} {a : Nat → Nat} {cI cJ : ClassId} {tk : Nat} {tf : Nat → Int32} {A : Nat → Prop} {S : St} {pc : Nat} {ls : Array Slot} {rest : List Value} {i v : Int32} (C : Cx p s m args meth c own cc nL D cI cJ tk tf A) (G : Wd D (wM a cI cJ) A s S H locs) (hin : vp_in i 30) (hdg : decode cc pc = .ok (.iastore, 1)) (kk : ∀ (H : Heap) (locs : List Loc), Wd D (wM a cI cJ) A s (si S 13 i.toNatClampNeg v) H locs → W p l e R s m args below meth c H locs cells slots Q (F0 m (pc + 1) ls rest)) : W p l e R s m args below meth c H locs cells slots Q (F0 m pc ls (.int v :: .int i :: .ref (a 13) :: rest)) := r_iast C G (q0 := 13) rfl hin rfl hdg kk
theorem nM_13 {p : Program} {l : Launch} {e : Env} {R : Room} {s : State} {m : MethodId} {args : Array Value} {below : List Frame} {meth : Method} {c : Code} {H : Heap} {locs : List Loc} {cells slots : Nat} {Q : State → Prop} {own : String} {cc : ByteArray} {nL : Nat} {D : va_G} {a : Nat → Nat} {cI cJ : ClassId} {tk : Nat} {tf : Nat → Int32} {A : Nat → Prop} {S : St} {pc : Nat} {ls : Array Slot} {rest : List Value} (C : Cx p s m args meth c own cc nL D cI cJ tk tf A) (G : Wd D (wM a cI cJ) A s S H locs) (hdg : decode cc pc = .ok (.arraylength, 1)) (kk : W p l e R s m args below meth c H locs cells slots Q (F0 m (pc + 1) ls (.int 30 :: rest))) : W p l e R s m args below meth c H locs cells slots Q (F0 m pc ls (.ref (a 13) :: rest)) := r_alen C G (q0 := 13) rfl rfl hdg kk
theorem aM_14 {p : Program} {l : Launch} {e : Env} {R : Room} {s : State} {m : MethodId} {args : Array Value} {below : List Frame} {meth : Method} {c : Code} {H : Heap} {locs : List Loc} {cells slots : Nat} {Q : State → Prop} {own : String} {cc : ByteArray} {nL : Nat} {D : va_G} {a : Nat → Nat} {cI cJ : ClassId} {tk : Nat} {tf : Nat → Int32} {A : Nat → Prop} {S : St} {pc : Nat} {ls : Array Slot} {rest : List Value} {i : Int32} (C : Cx p s m args meth c own cc nL D cI cJ tk tf A) (G : Wd D (wM a cI cJ) A s S H locs) (hin : vp_in i 30) (hdg : decode cc pc = .ok (.laload, 1)) (kk : W p l e R s m args below meth c H locs cells slots Q (F0 m (pc + 1) ls (.long (S.2 i.toNatClampNeg) :: rest))) : W p l e R s m args below meth c H locs cells slots Q (F0 m pc ls (.int i :: .ref (a 14) :: rest)) := r_lald C G (q0 := 14) rfl hin hdg kk
theorem sM_14 {p : Program} {l : Launch} {e : Env} {R : Room} {s : State} {m : MethodId} {args : Array Value} {below : List Frame} {meth : Method} {c : Code} {H : Heap} {locs : List Loc} {cells slots : Nat} {Q : State → Prop} {own : String} {cc : ByteArray} {nL : Nat} {D : va_G} {a : Nat → Nat} {cI cJ : ClassId} {tk : Nat} {tf : Nat → Int32} {A : Nat → Prop} {S : St} {pc : Nat} {ls : Array Slot} {rest : List Value} {i : Int32} {v : Int64} (C : Cx p s m args meth c own cc nL D cI cJ tk tf A) (G : Wd D (wM a cI cJ) A s S H locs) (hin : vp_in i 30) (hdg : decode cc pc = .ok (.lastore, 1)) (kk : ∀ (H : Heap) (locs : List Loc), Wd D (wM a cI cJ) A s (sl S i.toNatClampNeg v) H locs → W p l e R s m args below meth c H locs cells slots Q (F0 m (pc + 1) ls rest)) : W p l e R s m args below meth c H locs cells slots Q (F0 m pc ls (.long v :: .int i :: .ref (a 14) :: rest)) := r_last C G (q0 := 14) rfl hin rfl hdg kk
theorem aM_15 {p : Program} {l : Launch} {e : Env} {R : Room} {s : State} {m : MethodId} {args : Array Value} {below : List Frame} {meth : Method} {c : Code} {H : Heap} {locs : List Loc} {cells slots : Nat} {Q : State → Prop} {own : String} {cc : ByteArray} {nL : Nat} {D : va_G} {a : Nat → Nat} {cI cJ : ClassId} {tk : Nat} {tf : Nat → Int32} {A : Nat → Prop} {S : St} {pc : Nat} {ls : Array Slot} {rest : List Value} {i : Int32} (C : Cx p s m args meth c own cc nL D cI cJ tk tf A) (G : Wd D (wM a cI cJ) A s S H locs) (hin : vp_in i 30) (hdg : decode cc pc = .ok (.iaload, 1)) (kk : W p l e R s m args below meth c H locs cells slots Q (F0 m (pc + 1) ls (.int (S.1 15 i.toNatClampNeg) :: rest))) : W p l e R s m args below meth c H locs cells slots Q (F0 m pc ls (.int i :: .ref (a 15) :: rest)) := r_iald C G (q0 := 15) rfl hin hdg kk
theorem sM_15 {p : Program} {l : Launch} {e : Env} {R : Room} {s : State} {m : MethodId} {args : Array Value} {below : List Frame} {meth : Method} {c : Code} {H : Heap} {locs : List Loc} {cells slots : Nat} {Q : State → Prop} {own : String} {cc : ByteArray} {nL : Nat} {D : va_G} {a : Nat → Nat} {cI cJ : ClassId} {tk : Nat} {tf : Nat → Int32} {A : Nat → Prop} {S : St} {pc : Nat} {ls : Array Slot} {rest : List Value} {i v : Int32} (C : Cx p s m args meth c own cc nL D cI cJ tk tf A) (G : Wd D (wM a cI cJ) A s S H locs) (hin : vp_in i 30) (hdg : decode cc pc = .ok (.iastore, 1)) (kk : ∀ (H : Heap) (locs : List Loc), Wd D (wM a cI cJ) A s (si S 15 i.toNatClampNeg v) H locs → W p l e R s m args below meth c H locs cells slots Q (F0 m (pc + 1) ls rest)) : W p l e R s m args below meth c H locs cells slots Q (F0 m pc ls (.int v :: .int i :: .ref (a 15) :: rest)) := r_iast C G (q0 := 15) rfl hin rfl hdg kk
theorem nM_15 {p : Program} {l : Launch} {e : Env} {R : Room} {s : State} {m : MethodId} {args : Array Value} {below : List Frame} {meth : Method} {c : Code} {H : Heap} {locs : List Loc} {cells slots : Nat} {Q : State → Prop} {own : String} {cc : ByteArray} {nL : Nat} {D : va_G} {a : Nat → Nat} {cI cJ : ClassId} {tk : Nat} {tf : Nat → Int32} {A : Nat → Prop} {S : St} {pc : Nat} {ls : Array Slot} {rest : List Value} (C : Cx p s m args meth c own cc nL D cI cJ tk tf A) (G : Wd D (wM a cI cJ) A s S H locs) (hdg : decode cc pc = .ok (.arraylength, 1)) (kk : W p l e R s m args below meth c H locs cells slots Q (F0 m (pc + 1) ls (.int 30 :: rest))) : W p l e R s m args below meth c H locs cells slots Q (F0 m pc ls (.ref (a 15) :: rest)) := r_alen C G (q0 := 15) rfl rfl hdg kk
theorem aM_16 {p : Program} {l : Launch} {e : Env} {R : Room} {s : State} {m : MethodId} {args : Array Value} {below : List Frame} {meth : Method} {c : Code} {H : Heap} {locs : List Loc} {cells slots : Nat} {Q : State → Prop} {own : String} {cc : ByteArray} {nL : Nat} {D : va_G} {a : Nat → Nat} {cI cJ : ClassId} {tk : Nat} {tf : Nat → Int32} {A : Nat → Prop} {S : St} {pc : Nat} {ls : Array Slot} {rest : List Value} {i : Int32} (C : Cx p s m args meth c own cc nL D cI cJ tk tf A) (G : Wd D (wM a cI cJ) A s S H locs) (hin : vp_in i 30) (hdg : decode cc pc = .ok (.iaload, 1)) (kk : W p l e R s m args below meth c H locs cells slots Q (F0 m (pc + 1) ls (.int (S.1 16 i.toNatClampNeg) :: rest))) : W p l e R s m args below meth c H locs cells slots Q (F0 m pc ls (.int i :: .ref (a 16) :: rest)) := r_iald C G (q0 := 16) rfl hin hdg kk
theorem sM_16 {p : Program} {l : Launch} {e : Env} {R : Room} {s : State} {m : MethodId} {args : Array Value} {below : List Frame} {meth : Method} {c : Code} {H : Heap} {locs : List Loc} {cells slots : Nat} {Q : State → Prop} {own : String} {cc : ByteArray} {nL : Nat} {D : va_G} {a : Nat → Nat} {cI cJ : ClassId} {tk : Nat} {tf : Nat → Int32} {A : Nat → Prop} {S : St} {pc : Nat} {ls : Array Slot} {rest : List Value} {i v : Int32} (C : Cx p s m args meth c own cc nL D cI cJ tk tf A) (G : Wd D (wM a cI cJ) A s S H locs) (hin : vp_in i 30) (hdg : decode cc pc = .ok (.iastore, 1)) (kk : ∀ (H : Heap) (locs : List Loc), Wd D (wM a cI cJ) A s (si S 16 i.toNatClampNeg v) H locs → W p l e R s m args below meth c H locs cells slots Q (F0 m (pc + 1) ls rest)) : W p l e R s m args below meth c H locs cells slots Q (F0 m pc ls (.int v :: .int i :: .ref (a 16) :: rest)) := r_iast C G (q0 := 16) rfl hin rfl hdg kk
theorem nM_16 {p : Program} {l : Launch} {e : Env} {R : Room} {s : State} {m : MethodId} {args : Array Value} {below : List Frame} {meth : Method} {c : Code} {H : Heap} {locs : List Loc} {cells slots : Nat} {Q : State → Prop} {own : String} {cc : ByteArray} {nL : Nat} {D : va_G} {a : Nat → Nat} {cI cJ : ClassId} {tk : Nat} {tf : Nat → Int32} {A : Nat → Prop} {S : St} {pc : Nat} {ls : Array Slot} {rest : List Value} (C : Cx p s m args meth c own cc nL D cI cJ tk tf A) (G : Wd D (wM a cI cJ) A s S H locs) (hdg : decode cc pc = .ok (.arraylength, 1)) (kk : W p l e R s m args below meth c H locs cells slots Q (F0 m (pc + 1) ls (.int 30 :: rest))) : W p l e R s m args below meth c H locs cells slots Q (F0 m pc ls (.ref (a 16) :: rest)) := r_alen C G (q0 := 16) rfl rfl hdg kk
end
section
/-! ===== BEGIN exceptions that leave a method, and their catching by the caller (launches without stack traces) ===== -/
section VXA
/-! The laws vx_back, vx_callV, vx_callS, vx_callSW, vx_throw0, vx_throwS follow proofs of the library, with one case more: JvmDerived/Free/Laws.lean (Back.of_free), Shelf42/LK1.lean (callV, callS), Shelf/KitTraced.lean (throwNew0V, throwNewS). -/
/-- where a method has thrown q: the class by its name, the cell, what was written, the world -/
def vx_T (XC : String → State → State → Prop) (st : State) (q : Addr) (t : State) (mc ms : Nat) (free : Addr → Prop) : Prop :=
  ∃ (E : String) (ce : Cell) (L : List Loc), XC E st t ∧ t.heap[q]? = some ce ∧ ce.vm = .none ∧ st.vm.findClass E = some ce.cls ∧ st.WarmedH t.vm ∧ st.sameButNew ({ t with vm := st.vm } : State) L mc ms ∧ ∀ z ∈ L, free z.base
def vx_Q (Qc : Array Value → State → Outcome → State → Prop) (XC : String → State → State → Prop) (mc ms : Nat) (free : Addr → Prop) : Array Value → State → Outcome → State → Prop := fun a st o t =>
  (Qc a st o t ∧ ∃ L, FrameEnd st o t L mc ms ∧ ∀ q ∈ L, free q.base) ∨ ∃ q, o = .threw q ∧ vx_T XC st q t mc ms free
/-- a callee that returns or throws -/
def vx_Met (l : Launch) (y : MethodName) (ws : List Cond) (rm : Room) (Pc : Array Value → State → Prop) (Qc : Array Value → State → Outcome → State → Prop) (XC : String → State → State → Prop) (mc ms : Nat) (free : Addr → Prop) : Prop :=
  MetFree l y (headSpec ws rm) Pc (fun _ _ _ _ _ => True) (vx_Q Qc XC mc ms free)
def vx_Post (XC : String → State → State → Prop) (mc ms : Nat) (free : Addr → Prop) : Pt → Array Value → Addr → Pt → Prop := fun A a q B =>
  ∃ (g : JFrame) (mk : MethodId) (t : State) (L : List Loc) (E : String) (ce : Cell), B.U.heap = t.heap ∧ B.U.vm = t.vm ∧ XC E (A.U.calling g mk a) t ∧ t.heap[q]? = some ce ∧ ce.vm = .none ∧ A.U.vm.findClass E = some ce.cls ∧ B.locs = A.locs ++ L ∧ (∀ z ∈ L, free z.base) ∧ B.cells = A.cells + mc ∧ B.slots = A.slots + ms
def vx_Back (l : Launch) (R : Room) (p : Program) (e : Env) (below : List Frame) (s : State) (sargs : Array Value) (y : MethodName) (len W9 : Nat)
    (Pre : Pt → Array Value → Prop) (Post : Pt → Array Value → Option Value → Pt → Prop) (PostX : Pt → Array Value → Addr → Pt → Prop) : Prop :=
  ∀ (m : MethodId) (meth : Method) (c : Code) (A : Pt) (g : JFrame) (ig : Instr) (mk : MethodId) (a : Array Value),
    Stand p l e R s m sargs below meth c A.U A.locs A.cells A.slots → g.method = m → g.locals.size = c.maxLocals → decode c.code g.pc = .ok (ig, len) →
    2 * g.monitorRoom + (g.stack.map fun v => v.category).sum ≤ W9 → A.U.methodNamed? y = some mk → Pre A a →
    (∃ (v : Option Value) (B : Pt), Stand p l e R s m sargs below meth c B.U B.locs B.cells B.slots ∧ Post A a v B ∧
      Steps p.tables e below (doInvoke e (A.U.setTop g) [] mk a).1 (B.U.setTop { g with pc := g.pc + len, stack := v.toList ++ g.stack })) ∨
    (∃ (q : Addr) (B : Pt), Stand p l e R s m sargs below meth c B.U B.locs B.cells B.slots ∧ PostX A a q B ∧
      Steps p.tables e below (doInvoke e (A.U.setTop g) [] mk a).1 ((B.U.setTop g).pushFrame (.throwing q)))
section Payer
variable {l : Launch} {R : Room} {p : Program} {e : Env} {below : List Frame} {s : State} {sargs : Array Value} {y : MethodName} {len W9 : Nat}
theorem vx_back {ws : List Cond} {rm : Room} {Pc : Array Value → State → Prop} {Qc : Array Value → State → Outcome → State → Prop} {XC : String → State → State → Prop} {mc ms : Nat} {free : Addr → Prop} {bytes : ByteArray} {maxL : Nat} {ret : Option FieldType}
    (hM : vx_Met l y ws rm Pc Qc XC mc ms free) (hblind : FrameBlind Pc) (hrc : rm.cells = mc) (hrs : rm.slots = ms)
    (hframes : rm.frames + 1 ≤ R.frames) (hlocals : W9 + (maxL + 11) + rm.locals ≤ R.locals)
    (hws : ∀ w ∈ ws, ∀ a' U, s.WarmedH U.vm → w.before a' U = true) (hcode : Cond.code y bytes maxL ret ∈ ws) (hinit : ∀ a' U, s.WarmedH U.vm → (Cond.initialized y.cls).before a' U = true) :
    vx_Back l R p e below s sargs y len W9 (PreOf R mc ms Pc) (PostOf Qc mc ms free) (vx_Post XC mc ms free) := by
  intro m meth c A g ig mk a X hg hsize hdg hW hn hp
  have h1 : (headSpec ws rm).pre.before a A.U = true := atoms_intro fun w hw => hws w hw _ _ X.warmed
  have h2 : (Cond.code y bytes maxL ret).before a A.U = true := hws _ hcode _ _ X.warmed
  have h3 : (Cond.initialized y.cls).before a A.U = true := hinit _ _ X.warmed
  have h4 : A.cells + (headSpec ws rm).room.cells ≤ R.cells := by rw [show (headSpec ws rm).room.cells = mc from hrc]; exact hp.1
  have h5 : A.slots + (headSpec ws rm).room.slots ≤ R.slots := by rw [show (headSpec ws rm).room.slots = ms from hrs]; exact hp.2.1
  have hPc : Pc a (A.U.calling g mk a) := hblind _ _ _ _ hp.2.2
  obtain ⟨U, Ls, c0, s0⟩ := A
  dsimp only [Pt.U, Pt.locs, Pt.cells, Pt.slots] at h1 h2 h3 h4 h5 X hn hPc ⊢
  obtain ⟨methY, cY, hmY, hcY, -, hlY, -, -, -, -⟩ := Cond.code_spec hn h2
  obtain ⟨kY, hkY, -⟩ := className_of_methodNamed hn
  have hinitY : kY.init = .initialized := Cond.initialized_spec (findClass_of_methodNamed hn) hkY h3
  have h : At U g.method c below := by rw [hg]; exact X.here
  have hlocals9 : W9 + (maxL + 11) + (headSpec ws rm).room.locals ≤ R.locals := hlocals
  have happ : (headSpec ws rm).appliesLoose y e.platform (U.calling g mk a) = true :=
    Spec.appliesLoose_calling (g := g) h hdg hn hkY hinitY
      (X.room_calling (g := g) (R' := (headSpec ws rm).room) hsize hmY hcY hframes (by rw [hlY]; omega) h4 h5) h1
  obtain ⟨mid, hmid⟩ := h.above
  have hfr : (U.setTop g).frames = (.java g :: mid) ++ below := by rw [State.frames_setTop' g h.top, hmid]; rfl
  obtain ⟨o, s₂, hsteps, -, hend, hq⟩ := Steps.callFree hM p X.admits X.cas X.clock (acts := []) hfr happ hPc trivial
  have hq' : vx_Q Qc XC mc ms free a (U.calling g mk a) o s₂ := hq
  rw [State.frames_setTop' g h.top] at hend
  obtain ⟨g₀, hg0⟩ := Option.isSome_iff_exists.mp h.top
  obtain ⟨r, hr⟩ := State.topJava?_eq_some.mp hg0
  have hr' : (({ U with heap := s₂.heap, slotsUsed := s₂.slotsUsed } : State).setVm s₂.vm).frames = .java g₀ :: r := hr
  rcases hq' with ⟨hqc, L, hfe, hL⟩ | ⟨q, rfl, E, ce, L, hx, hce, hcv, hcl, hW₂, hsm, hL⟩
  · obtain ⟨⟨v, rfl⟩, hW₂, e2, q2, q3, q4, q5, q6⟩ := id hfe
    have e3 : s₂ = ({ (U.calling g mk a).setFrames s₂.frames with heap := s₂.heap, slotsUsed := s₂.slotsUsed } : State).setVm s₂.vm := by
      have : s₂ = ({ s₂ with vm := (U.calling g mk a).vm } : State).setVm s₂.vm := rfl
      rw [e2] at this
      exact this
    obtain ⟨c₂, i₂, len₂, hc₂, hd₂, hf₂⟩ := hend
    have hW' : U.WarmedH s₂.vm := hW₂
    have hcc : c₂ = c := by
      have h1 : s₂.code? g.method = U.code? g.method := by
        rw [State.code?_eq, State.code?_eq, hW'.alike.method?]
      exact Option.some.inj (hc₂.symm.trans (h1.trans h.code))
    subst hcc
    have hlen : len₂ = len := by rw [hdg] at hd₂; cases hd₂; rfl
    subst hlen
    have hs₂ : s₂ = (({ U with heap := s₂.heap, slotsUsed := s₂.slotsUsed } : State).setVm s₂.vm).setTop { g with pc := g.pc + len₂, stack := v.toList ++ g.stack } := by
      refine e3.trans ?_
      rw [hf₂, State.calling_eq h.top, State.setFrames_setFrames, State.setTop_of_frames _ hr', hr]
      rfl
    have hsame : U.sameButNew ({ U with heap := s₂.heap, slotsUsed := s₂.slotsUsed } : State) L mc ms := by
      refine ⟨?_, q2, q3, q4, q5, q6⟩
      obtain ⟨t, ht, -⟩ := State.frames_cons hr
      show ({ U with heap := s₂.heap, slotsUsed := s₂.slotsUsed } : State) = { U.setFrames U.frames with heap := s₂.heap, slotsUsed := s₂.slotsUsed }
      rw [State.setFrames_self ht]
    subst hg
    refine Or.inl ⟨v, ⟨(({ U with heap := s₂.heap, slotsUsed := s₂.slotsUsed } : State).setVm s₂.vm), Ls ++ L, c0 + mc, s0 + ms⟩,
      ⟨X.admits, X.cas, X.clock, X.frames, X.room, X.hears, X.method, X.code, (X.here.setHeapUsed s₂.heap s₂.slotsUsed).setVm hW'.alike, X.tail, State.WarmedH.trans X.warmed hW', X.limits, X.bytes, X.same.trans (hsame.setVm s.vm)⟩,
      ⟨g, mk, s₂, L, rfl, rfl, hqc, rfl, hL, rfl, rfl⟩, ?_⟩
    show Steps p.tables e below _ ((({ U with heap := s₂.heap, slotsUsed := s₂.slotsUsed } : State).setVm s₂.vm).setTop { g with pc := g.pc + len₂, stack := v.toList ++ g.stack })
    rw [← hs₂]
    exact hsteps
  · obtain ⟨e2, q2, q3, q4, q5, q6⟩ := id hsm
    have e3 : s₂ = ({ (U.calling g mk a).setFrames s₂.frames with heap := s₂.heap, slotsUsed := s₂.slotsUsed } : State).setVm s₂.vm := by
      have : s₂ = ({ s₂ with vm := (U.calling g mk a).vm } : State).setVm s₂.vm := rfl
      rw [e2] at this
      exact this
    have hf₂ : s₂.frames = .throwing q :: .java g :: U.frames.tail := hend
    have hW' : U.WarmedH s₂.vm := hW₂
    have hs₂ : s₂ = ((({ U with heap := s₂.heap, slotsUsed := s₂.slotsUsed } : State).setVm s₂.vm).setTop g).pushFrame (.throwing q) := by
      refine e3.trans ?_
      rw [hf₂, State.calling_eq h.top, State.setFrames_setFrames, State.pushFrame, State.frames_setTop _ hr', State.setTop_of_frames _ hr', State.setFrames_setFrames, hr]
      rfl
    have hsame : U.sameButNew ({ U with heap := s₂.heap, slotsUsed := s₂.slotsUsed } : State) L mc ms := by
      refine ⟨?_, q2, q3, q4, q5, q6⟩
      obtain ⟨t, ht, -⟩ := State.frames_cons hr
      show ({ U with heap := s₂.heap, slotsUsed := s₂.slotsUsed } : State) = { U.setFrames U.frames with heap := s₂.heap, slotsUsed := s₂.slotsUsed }
      rw [State.setFrames_self ht]
    subst hg
    refine Or.inr ⟨q, ⟨(({ U with heap := s₂.heap, slotsUsed := s₂.slotsUsed } : State).setVm s₂.vm), Ls ++ L, c0 + mc, s0 + ms⟩,
      ⟨X.admits, X.cas, X.clock, X.frames, X.room, X.hears, X.method, X.code, (X.here.setHeapUsed s₂.heap s₂.slotsUsed).setVm hW'.alike, X.tail, State.WarmedH.trans X.warmed hW', X.limits, X.bytes, X.same.trans (hsame.setVm s.vm)⟩,
      ⟨g, mk, s₂, L, E, ce, rfl, rfl, hx, hce, hcv, hcl, rfl, hL, rfl, rfl⟩, ?_⟩
    show Steps p.tables e below _ (((({ U with heap := s₂.heap, slotsUsed := s₂.slotsUsed } : State).setVm s₂.vm).setTop g).pushFrame (.throwing q))
    rw [← hs₂]
    exact hsteps
end Payer
section Calls
variable {p : Program} {l : Launch} {e : Env} {R : Room} {s : State} {m : MethodId} {args : Array Value} {below : List Frame} {meth : Method} {c : Code} {T : State} {locs : List Loc} {cells slots : Nat}
theorem vx_callV (X : Stand p l e R s m args below meth c T locs cells slots) (hexec : p.tables.exec = Jvm.exec) {own C : String} {index : Nat} {y : MethodName} {bytes : ByteArray} {maxL : Nat} {ret : Option FieldType}
    (hown : s.vm.findClass own = some m.cls) (hlink : (Cond.methodLink own index y).before args s = true) (hinst : (Cond.instanceMethod y).before args s = true) (hsel : (Cond.selects C y y).before args s = true)
    (hcode : (Cond.code y bytes maxL ret).before args s = true) (hy : y.cls ≠ "java/lang/invoke/MethodHandle" ∧ y.cls ≠ "java/lang/invoke/VarHandle")
    {W9 : Nat} {Pre : Pt → Array Value → Prop} {Post : Pt → Array Value → Option Value → Pt → Prop} {PostX : Pt → Array Value → Addr → Pt → Prop} (hK : vx_Back l R p e below s args y 3 W9 Pre Post PostX)
    {b : Addr} {cellB : Cell} (hcell : T.heap[b]? = some cellB) (hobj : cellB.vm.isStatics = false) (hcls : s.vm.findClass C = some cellB.cls)
    {g : JFrame} (hg : g.method = m) (hsize : g.locals.size = c.maxLocals) {argsL rest : List Value} (hlen : ∀ sig, parseMethodDescriptor y.desc = some sig → argsL.length = sig.parameters.length)
    (hstack : g.stack = argsL.reverse ++ .ref b :: rest) (hW : 2 * g.monitorRoom + (rest.map fun v => v.category).sum ≤ W9) (hdg : decode c.code g.pc = .ok (.invokevirtual index, 3))
    (hpre : ∀ vm₁, s.WarmedH vm₁ → Pre ⟨T.setVm vm₁, locs, cells, slots⟩ (Value.ref b :: argsL).toArray) :
    (∃ (v : Option Value) (vm₁ : Vm) (B : Pt), s.WarmedH vm₁ ∧ Stand p l e R s m args below meth c B.U B.locs B.cells B.slots ∧ Post ⟨T.setVm vm₁, locs, cells, slots⟩ (Value.ref b :: argsL).toArray v B ∧
      ∀ target, Steps p.tables e below (B.U.setTop { g with pc := g.pc + 3, stack := v.toList ++ rest }) target → Steps p.tables e below (T.setTop g) target) ∨
    (∃ (q : Addr) (vm₁ : Vm) (B : Pt), s.WarmedH vm₁ ∧ Stand p l e R s m args below meth c B.U B.locs B.cells B.slots ∧ PostX ⟨T.setVm vm₁, locs, cells, slots⟩ (Value.ref b :: argsL).toArray q B ∧
      Steps p.tables e below (T.setTop g) ((B.U.setTop { g with stack := rest }).pushFrame (.throwing q))) := by
  obtain ⟨mk, methM, hnamed, hmethM, hstM, habM⟩ := Cond.instanceMethod_spec hinst
  obtain ⟨methM', cM, hmethM', -, -, -, -, -, -, hsigM⟩ := Cond.code_spec hnamed hcode
  cases hmethM.symm.trans hmethM'
  obtain ⟨c2, r2, m2, q1, q2, q3, q4, kP, hkP, hkPi⟩ := Cond.selects_spec hsel
  cases hcls.symm.trans q1
  cases (State.methodFound?_of_named hnamed hy).symm.trans q2
  cases hnamed.symm.trans q3
  have hselP : selectMethod e.platform s.vm cellB.cls mk = .method mk := by rw [Launch.admits_selectMethod X.admits]; exact q4
  obtain ⟨vm₁, X₁, hstep₁⟩ := X.invokevirtual hexec hown hlink hnamed hmethM hstM hkP hkPi hy (a := b) (cell := cellB) hcell
    (fun z h => by rw [h] at hobj; cases hobj) hselP hmethM habM hkP hkPi (g := g) hg (argsL := argsL) (rest := rest) (hlen _ hsigM) hstack hdg
  rcases hK m meth c ⟨T.setVm vm₁, locs, cells, slots⟩ { g with stack := rest } (.invokevirtual index) mk (Value.ref b :: argsL).toArray X₁ hg hsize hdg hW (X₁.named hnamed) (hpre vm₁ X₁.warmed) with ⟨v, B, X', hpost, hsteps⟩ | ⟨q, B, X', hpost, hsteps⟩
  · exact Or.inl ⟨v, vm₁, B, X₁.warmed, X', hpost, fun target h => hstep₁ _ fun acts => by rw [doInvoke_state]; exact hsteps.trans h⟩
  · exact Or.inr ⟨q, vm₁, B, X₁.warmed, X', hpost, hstep₁ _ fun acts => by rw [doInvoke_state]; exact hsteps⟩
theorem vx_callS (X : Stand p l e R s m args below meth c T locs cells slots) (hexec : p.tables.exec = Jvm.exec) {own : String} {index : Nat} {y : MethodName} {bytes : ByteArray} {maxL : Nat} {ret : Option FieldType}
    (hown : s.vm.findClass own = some m.cls) (hlink : (Cond.methodLink own index y).before args s = true) (hstat : (Cond.static y).before args s = true) (hinit : (Cond.initialized y.cls).before args s = true)
    (hcode : (Cond.code y bytes maxL ret).before args s = true) (hy : y.cls ≠ "java/lang/invoke/MethodHandle" ∧ y.cls ≠ "java/lang/invoke/VarHandle")
    {W9 : Nat} {Pre : Pt → Array Value → Prop} {Post : Pt → Array Value → Option Value → Pt → Prop} {PostX : Pt → Array Value → Addr → Pt → Prop} (hK : vx_Back l R p e below s args y 3 W9 Pre Post PostX)
    {g : JFrame} (hg : g.method = m) (hsize : g.locals.size = c.maxLocals) {argsL rest : List Value} (hlen : ∀ sig, parseMethodDescriptor y.desc = some sig → argsL.length = sig.parameters.length)
    (hstack : g.stack = argsL.reverse ++ rest) (hW : 2 * g.monitorRoom + (rest.map fun v => v.category).sum ≤ W9) (hdg : decode c.code g.pc = .ok (.invokestatic index, 3))
    (hpre : ∀ vm₁, s.WarmedH vm₁ → Pre ⟨T.setVm vm₁, locs, cells, slots⟩ argsL.toArray) :
    (∃ (v : Option Value) (vm₁ : Vm) (B : Pt), s.WarmedH vm₁ ∧ Stand p l e R s m args below meth c B.U B.locs B.cells B.slots ∧ Post ⟨T.setVm vm₁, locs, cells, slots⟩ argsL.toArray v B ∧
      ∀ target, Steps p.tables e below (B.U.setTop { g with pc := g.pc + 3, stack := v.toList ++ rest }) target → Steps p.tables e below (T.setTop g) target) ∨
    (∃ (q : Addr) (vm₁ : Vm) (B : Pt), s.WarmedH vm₁ ∧ Stand p l e R s m args below meth c B.U B.locs B.cells B.slots ∧ PostX ⟨T.setVm vm₁, locs, cells, slots⟩ argsL.toArray q B ∧
      Steps p.tables e below (T.setTop g) ((B.U.setTop { g with stack := rest }).pushFrame (.throwing q))) := by
  obtain ⟨mk, hnamed⟩ := Cond.code_named hcode
  obtain ⟨methM, cM, hmethM, -, -, -, -, -, -, hsigM⟩ := Cond.code_spec hnamed hcode
  have hstatic : methM.isStatic = true := Cond.static_spec hnamed hmethM hstat
  obtain ⟨kP, hkP, -⟩ := className_of_methodNamed hnamed
  have hinitP : kP.init = .initialized := Cond.initialized_spec (findClass_of_methodNamed hnamed) hkP hinit
  obtain ⟨vm₁, X₁, hstep₁⟩ := X.invokestatic hexec hown hlink hnamed hmethM hstatic hkP hinitP hy (g := g) hg (argsL := argsL) (rest := rest) (hlen _ hsigM) hstack hdg
  rcases hK m meth c ⟨T.setVm vm₁, locs, cells, slots⟩ { g with stack := rest } (.invokestatic index) mk argsL.toArray X₁ hg hsize hdg hW (X₁.named hnamed) (hpre vm₁ X₁.warmed) with ⟨v, B, X', hpost, hsteps⟩ | ⟨q, B, X', hpost, hsteps⟩
  · exact Or.inl ⟨v, vm₁, B, X₁.warmed, X', hpost, fun target h => hstep₁ _ fun acts => by rw [doInvoke_state]; exact hsteps.trans h⟩
  · exact Or.inr ⟨q, vm₁, B, X₁.warmed, X', hpost, hstep₁ _ fun acts => by rw [doInvoke_state]; exact hsteps⟩
end Calls
theorem vx_cls {s : State} {T : State} {vm₁ : Vm} {E : String} {k : ClassId} (hW : s.WarmedH vm₁) (h : (T.setVm vm₁).vm.findClass E = some k) : s.vm.findClass E = some k := by
  have h1 : vm₁.findClass E = some k := h
  rw [hW.alike.findClass] at h1
  exact h1
/-- the method's frame g, with q thrown over it -/
def vx_W (p : Program) (l : Launch) (e : Env) (R : Room) (s : State) (m : MethodId) (args : Array Value) (below : List Frame) (meth : Method) (c : Code) (H : Heap) (locs : List Loc) (cells slots : Nat) (Q : State → Prop) (g : JFrame) (q : Addr) : Prop :=
  ∀ T : State, T.heap = H → Stand p l e R s m args below meth c T locs cells slots → ∃ t, Steps p.tables e below ((T.setTop g).pushFrame (.throwing q)) t ∧ Q t
def vx_Run (p : Program) (l : Launch) (e : Env) (R : Room) (s : State) (m : MethodId) (args : Array Value) (below : List Frame) (meth : Method) (c : Code) (H : Heap) (locs : List Loc) (cells slots mc ms : Nat) (g : JFrame) (rest : List Value) (Qa : State → Outcome → State → Prop) (XC : String → State → State → Prop) (free : Addr → Prop) : Prop :=
  ∀ T : State, T.heap = H → Stand p l e R s m args below meth c T locs cells slots →
    (∃ (v : Option Value) (st₀ t T' : State) (L : List Loc), st₀.heap = H ∧ Stand p l e R s m args below meth c T' (locs ++ L) (cells + mc) (slots + ms) ∧ (∀ q ∈ L, free q.base) ∧ T'.heap = t.heap ∧ T'.vm = t.vm ∧ Qa st₀ (.returned v) t ∧
      Goes p e below T g T' { g with pc := g.pc + 3, stack := v.toList ++ rest }) ∨
    (∃ (q : Addr) (st₀ t T' : State) (L : List Loc) (E : String) (ce : Cell), st₀.heap = H ∧ Stand p l e R s m args below meth c T' (locs ++ L) (cells + mc) (slots + ms) ∧ (∀ z ∈ L, free z.base) ∧ T'.heap = t.heap ∧ T'.vm = t.vm ∧ XC E st₀ t ∧ t.heap[q]? = some ce ∧ ce.vm = .none ∧ s.vm.findClass E = some ce.cls ∧
      Steps p.tables e below (T.setTop g) ((T'.setTop { g with stack := rest }).pushFrame (.throwing q)))
def vx_X {S : Type} (px : S → Prop) (B : String → S → State → Prop) (A : Nat → Prop) : String → State → State → Prop := fun E st t => ∃ u : S, px u ∧ B E u t ∧ va_F A st t
section Runs
variable {p : Program} {l : Launch} {e : Env} {R : Room} {s : State} {m : MethodId} {args : Array Value} {below : List Frame} {meth : Method} {c : Code} {H : Heap} {locs : List Loc} {cells slots : Nat}
variable {y : MethodName} {bytes cc : ByteArray} {maxL nL mc ms n index : Nat} {ret : Option FieldType} {ws : List Cond} {rm : Room} {Pc : Array Value → State → Prop} {Qc : Array Value → State → Outcome → State → Prop} {XC : String → State → State → Prop} {free : Addr → Prop} {Ts : List Cond} {own C : String} {b : Addr} {As rest : List Value} {g : JFrame}
theorem vx_callBack (cb : CallB R s args own index y bytes maxL ret ws rm mc ms n) (hM : vx_Met l y ws rm Pc Qc XC mc ms free) (hbl : FrameBlind Pc) : vx_Back l R p e below s args y 3 8 (PreOf R mc ms Pc) (PostOf Qc mc ms free) (vx_Post XC mc ms free) := by
  obtain ⟨hrc, hrs, hfr, hlo, hws, hcw, -, hini, -⟩ := cb
  exact vx_back (bytes := bytes) (maxL := maxL) (ret := ret) hM hbl hrc hrs hfr hlo hws hcw (fun a' U hW => word_at hW (Or.inl (by first | rfl | simp [Cond.onTables, Cond.keeps, Cond.steady])) hini)
theorem vx_runV (S : CallFix p m c cc nL s args Ts own) (hM : vx_Met l y ws rm Pc Qc XC mc ms free) (cw : CallW R s args own C index y bytes maxL ret ws rm mc ms n) (hp : PreV s H C b Pc As)
    (hg : g.method = m) (hn : As.length = n) (hsize : g.locals.size = nL) (hstack : g.stack = As.reverse ++ .ref b :: rest) (hW : 2 * g.monitorRoom + (rest.map fun v => v.category).sum ≤ 8) (hdg : decode cc g.pc = .ok (.invokevirtual index, 3)) (hf : cells + mc ≤ R.cells ∧ slots + ms ≤ R.slots) :
    vx_Run p l e R s m args below meth c H locs cells slots mc ms g rest (Qc (Value.ref b :: As).toArray) XC free := by
  have hK : vx_Back l R p e below s args y 3 8 (PreOf R mc ms Pc) (PostOf Qc mc ms free) (vx_Post XC mc ms free) := vx_callBack cw.1 hM hp.1
  obtain ⟨⟨-, -, -, -, -, -, hcode, -, hy, hlen, hl⟩, hin, hse⟩ := cw
  obtain ⟨hx, hb, hml, ho, -⟩ := S
  obtain ⟨-, ⟨cellB, hcB, hoB, hclB⟩, hPc⟩ := hp
  intro T hT X
  rcases vx_callV X hx (C := C) (bytes := bytes) (maxL := maxL) (ret := ret) ho hl hin hse hcode hy hK (by rw [hT]; exact hcB) hoB hclB hg (hsize.trans hml.symm) (argsL := As) (rest := rest) (fun sig h => hn.trans (hlen sig h)) hstack hW (by rw [hb]; exact hdg)
    (fun vm₁ hW₁ => ⟨hf.1, hf.2, hPc (T.setVm vm₁) hT hW₁⟩) with ⟨v, vm₁, ⟨U', l2, c2, s2⟩, hW₁, X', ⟨g', mk, t, L, e1, e2, hq, h1, hL, h2, h3⟩, st⟩ | ⟨q, vm₁, ⟨U', l2, c2, s2⟩, hW₁, X', ⟨g', mk, t, L, E, ce, e1, e2, hq, hce, hcv, hcl, h1, hL, h2, h3⟩, st⟩
  · dsimp only [Pt.U, Pt.locs, Pt.cells, Pt.slots] at X' e1 e2 h1 h2 h3 st
    subst h1; subst h2; subst h3
    exact Or.inl ⟨v, (T.setVm vm₁).calling g' mk (Value.ref b :: As).toArray, t, U', L, hT, X', hL, e1, e2, hq, st⟩
  · dsimp only [Pt.U, Pt.locs, Pt.cells, Pt.slots] at X' e1 e2 h1 h2 h3 st hcl
    subst h1; subst h2; subst h3
    exact Or.inr ⟨q, (T.setVm vm₁).calling g' mk (Value.ref b :: As).toArray, t, U', L, E, ce, hT, X', hL, e1, e2, hq, hce, hcv, vx_cls hW₁ hcl, st⟩
theorem vx_runS (S : CallFix p m c cc nL s args Ts own) (hM : vx_Met l y ws rm Pc Qc XC mc ms free) (cw : CallB R s args own index y bytes maxL ret ws rm mc ms n ∧ (Cond.static y).before args s = true) (hp : PreS s H Pc As)
    (hg : g.method = m) (hn : As.length = n) (hsize : g.locals.size = nL) (hstack : g.stack = As.reverse ++ rest) (hW : 2 * g.monitorRoom + (rest.map fun v => v.category).sum ≤ 8) (hdg : decode cc g.pc = .ok (.invokestatic index, 3)) (hf : cells + mc ≤ R.cells ∧ slots + ms ≤ R.slots) :
    vx_Run p l e R s m args below meth c H locs cells slots mc ms g rest (Qc As.toArray) XC free := by
  have hK : vx_Back l R p e below s args y 3 8 (PreOf R mc ms Pc) (PostOf Qc mc ms free) (vx_Post XC mc ms free) := vx_callBack cw.1 hM hp.1
  obtain ⟨⟨-, -, -, -, -, -, hcode, hini, hy, hlen, hl⟩, hstt⟩ := cw
  obtain ⟨hx, hb, hml, ho, -⟩ := S
  intro T hT X
  rcases vx_callS X hx (bytes := bytes) (maxL := maxL) (ret := ret) ho hl hstt hini hcode hy hK hg (hsize.trans hml.symm) (argsL := As) (rest := rest) (fun sig h => hn.trans (hlen sig h)) hstack hW (by rw [hb]; exact hdg)
    (fun vm₁ hW₁ => ⟨hf.1, hf.2, hp.2 (T.setVm vm₁) hT hW₁⟩) with ⟨v, vm₁, ⟨U', l2, c2, s2⟩, hW₁, X', ⟨g', mk, t, L, e1, e2, hq, h1, hL, h2, h3⟩, st⟩ | ⟨q, vm₁, ⟨U', l2, c2, s2⟩, hW₁, X', ⟨g', mk, t, L, E, ce, e1, e2, hq, hce, hcv, hcl, h1, hL, h2, h3⟩, st⟩
  · dsimp only [Pt.U, Pt.locs, Pt.cells, Pt.slots] at X' e1 e2 h1 h2 h3 st
    subst h1; subst h2; subst h3
    exact Or.inl ⟨v, (T.setVm vm₁).calling g' mk As.toArray, t, U', L, hT, X', hL, e1, e2, hq, st⟩
  · dsimp only [Pt.U, Pt.locs, Pt.cells, Pt.slots] at X' e1 e2 h1 h2 h3 st hcl
    subst h1; subst h2; subst h3
    exact Or.inr ⟨q, (T.setVm vm₁).calling g' mk As.toArray, t, U', L, E, ce, hT, X', hL, e1, e2, hq, hce, hcv, vx_cls hW₁ hcl, st⟩
end Runs
section Rows
variable {p : Program} {l : Launch} {e : Env} {R : Room} {s : State} {m : MethodId} {args : Array Value} {below : List Frame} {meth : Method} {c : Code} {H : Heap} {locs : List Loc} {cells slots : Nat} {Q : State → Prop}
variable {mc ms : Nat} {free : Addr → Prop} {A0 A1 : Nat → Prop} {H0 : Heap} {a : Array Value} {pc : Nat} {ls : Array Slot} {st0 rest : List Value}
theorem vx_keep {st₀ t T' : State} {L : List Loc} (h0 : st₀.heap = H) (e1 : T'.heap = t.heap) (hS : va_S A0 H0 H locs) (hA : ∀ q, q < H.size → A1 q → A0 q) (hf : ∀ q, free q → A0 q) (hL : ∀ q ∈ L, free q.base) (hF : va_F A1 st₀ t) :
    H.size ≤ T'.heap.size ∧ (∀ q : Nat, q < H.size → ¬ A1 q → T'.heap[q]? = H[q]?) ∧ va_S A0 H0 T'.heap (locs ++ L) := by
  obtain ⟨hz, hk⟩ := hF
  rw [h0] at hz hk
  exact ⟨by rw [e1]; exact hz, fun q h1 h2 => by rw [e1]; exact hk q h1 h2,
    ⟨Nat.le_trans hS.1 (by rw [e1]; exact hz), fun q h1 h2 => by rw [e1, hk q (Nat.lt_of_lt_of_le h1 hS.1) (fun z => h2 (hA q (Nat.lt_of_lt_of_le h1 hS.1) z))]; exact hS.2.1 q h1 h2, fun q hq => by
      rcases List.mem_append.mp hq with h | h
      · exact hS.2.2 q h
      · exact hf _ (hL q h)⟩⟩
theorem vx_calli {S SX : Type} {post : Int32 → S → Prop} {px : SX → Prop} {B : S → State → Prop} {BX : String → SX → State → Prop} {AX : Nat → Prop} (hr : vx_Run p l e R s m args below meth c H locs cells slots mc ms (F0 m pc ls st0) rest (va_Qi post B A1 a) (vx_X px BX AX) free) (hS : va_S A0 H0 H locs) (hA : ∀ q, q < H.size → A1 q → A0 q) (hf : ∀ q, free q → A0 q) (hAX : ∀ q, q < H.size → AX q → A0 q)
    (kx : ∀ (E : String) (ce : Cell) (q9 : Addr) (u : SX) (t : State) (H1 : Heap) (locs1 : List Loc), t.heap = H1 → s.vm.Alike t.vm → px u → BX E u t → H.size ≤ H1.size → (∀ q : Nat, q < H.size → ¬ AX q → H1[q]? = H[q]?) → va_S A0 H0 H1 locs1 → H1[q9]? = some ce → ce.vm = .none → s.vm.findClass E = some ce.cls → vx_W p l e R s m args below meth c H1 locs1 (cells + mc) (slots + ms) Q (F0 m pc ls rest) q9)
    (kk : ∀ (r : Int32) (u : S) (t : State) (H1 : Heap) (locs1 : List Loc), t.heap = H1 → s.vm.Alike t.vm → post r u → B u t → H.size ≤ H1.size → (∀ q : Nat, q < H.size → ¬ A1 q → H1[q]? = H[q]?) → va_S A0 H0 H1 locs1 → W p l e R s m args below meth c H1 locs1 (cells + mc) (slots + ms) Q (F0 m (pc + 3) ls (.int r :: rest))) : W p l e R s m args below meth c H locs cells slots Q (F0 m pc ls st0) := by
  intro T hT X
  rcases hr T hT X with ⟨v, st₀, t, T', L, h0, X', hL, e1, e2, ⟨⟨r, u, hv, hp, hb⟩, hF⟩, st⟩ | ⟨q, st₀, t, T', L, E, ce, h0, X', hL, e1, e2, ⟨u, hp, hb, hF⟩, hce, hcv, hcl, st⟩
  · cases hv
    obtain ⟨k1, k2, k3⟩ := vx_keep h0 e1 hS hA hf hL hF
    obtain ⟨t2, a1, b1⟩ := kk r u t T'.heap (locs ++ L) e1.symm (by rw [← e2]; exact X'.warmed.alike) hp hb k1 k2 k3 T' rfl X'
    exact ⟨t2, st t2 a1, b1⟩
  · obtain ⟨k1, k2, k3⟩ := vx_keep h0 e1 hS hAX hf hL hF
    obtain ⟨t2, a1, b1⟩ := kx E ce q u t T'.heap (locs ++ L) e1.symm (by rw [← e2]; exact X'.warmed.alike) hp hb k1 k2 k3 (by rw [e1]; exact hce) hcv hcl T' rfl X'
    exact ⟨t2, st.trans a1, b1⟩
theorem vx_calll {S SX : Type} {post : Int64 → S → Prop} {px : SX → Prop} {B : S → State → Prop} {BX : String → SX → State → Prop} {AX : Nat → Prop} (hr : vx_Run p l e R s m args below meth c H locs cells slots mc ms (F0 m pc ls st0) rest (va_Ql post B A1 a) (vx_X px BX AX) free) (hS : va_S A0 H0 H locs) (hA : ∀ q, q < H.size → A1 q → A0 q) (hf : ∀ q, free q → A0 q) (hAX : ∀ q, q < H.size → AX q → A0 q)
    (kx : ∀ (E : String) (ce : Cell) (q9 : Addr) (u : SX) (t : State) (H1 : Heap) (locs1 : List Loc), t.heap = H1 → s.vm.Alike t.vm → px u → BX E u t → H.size ≤ H1.size → (∀ q : Nat, q < H.size → ¬ AX q → H1[q]? = H[q]?) → va_S A0 H0 H1 locs1 → H1[q9]? = some ce → ce.vm = .none → s.vm.findClass E = some ce.cls → vx_W p l e R s m args below meth c H1 locs1 (cells + mc) (slots + ms) Q (F0 m pc ls rest) q9)
    (kk : ∀ (r : Int64) (u : S) (t : State) (H1 : Heap) (locs1 : List Loc), t.heap = H1 → s.vm.Alike t.vm → post r u → B u t → H.size ≤ H1.size → (∀ q : Nat, q < H.size → ¬ A1 q → H1[q]? = H[q]?) → va_S A0 H0 H1 locs1 → W p l e R s m args below meth c H1 locs1 (cells + mc) (slots + ms) Q (F0 m (pc + 3) ls (.long r :: rest))) : W p l e R s m args below meth c H locs cells slots Q (F0 m pc ls st0) := by
  intro T hT X
  rcases hr T hT X with ⟨v, st₀, t, T', L, h0, X', hL, e1, e2, ⟨⟨r, u, hv, hp, hb⟩, hF⟩, st⟩ | ⟨q, st₀, t, T', L, E, ce, h0, X', hL, e1, e2, ⟨u, hp, hb, hF⟩, hce, hcv, hcl, st⟩
  · cases hv
    obtain ⟨k1, k2, k3⟩ := vx_keep h0 e1 hS hA hf hL hF
    obtain ⟨t2, a1, b1⟩ := kk r u t T'.heap (locs ++ L) e1.symm (by rw [← e2]; exact X'.warmed.alike) hp hb k1 k2 k3 T' rfl X'
    exact ⟨t2, st t2 a1, b1⟩
  · obtain ⟨k1, k2, k3⟩ := vx_keep h0 e1 hS hAX hf hL hF
    obtain ⟨t2, a1, b1⟩ := kx E ce q u t T'.heap (locs ++ L) e1.symm (by rw [← e2]; exact X'.warmed.alike) hp hb k1 k2 k3 (by rw [e1]; exact hce) hcv hcl T' rfl X'
    exact ⟨t2, st.trans a1, b1⟩
theorem vx_callf {S SX : Type} {post : UInt32 → S → Prop} {px : SX → Prop} {B : S → State → Prop} {BX : String → SX → State → Prop} {AX : Nat → Prop} (hr : vx_Run p l e R s m args below meth c H locs cells slots mc ms (F0 m pc ls st0) rest (va_Qf post B A1 a) (vx_X px BX AX) free) (hS : va_S A0 H0 H locs) (hA : ∀ q, q < H.size → A1 q → A0 q) (hf : ∀ q, free q → A0 q) (hAX : ∀ q, q < H.size → AX q → A0 q)
    (kx : ∀ (E : String) (ce : Cell) (q9 : Addr) (u : SX) (t : State) (H1 : Heap) (locs1 : List Loc), t.heap = H1 → s.vm.Alike t.vm → px u → BX E u t → H.size ≤ H1.size → (∀ q : Nat, q < H.size → ¬ AX q → H1[q]? = H[q]?) → va_S A0 H0 H1 locs1 → H1[q9]? = some ce → ce.vm = .none → s.vm.findClass E = some ce.cls → vx_W p l e R s m args below meth c H1 locs1 (cells + mc) (slots + ms) Q (F0 m pc ls rest) q9)
    (kk : ∀ (r : UInt32) (u : S) (t : State) (H1 : Heap) (locs1 : List Loc), t.heap = H1 → s.vm.Alike t.vm → post r u → B u t → H.size ≤ H1.size → (∀ q : Nat, q < H.size → ¬ A1 q → H1[q]? = H[q]?) → va_S A0 H0 H1 locs1 → W p l e R s m args below meth c H1 locs1 (cells + mc) (slots + ms) Q (F0 m (pc + 3) ls (.float r :: rest))) : W p l e R s m args below meth c H locs cells slots Q (F0 m pc ls st0) := by
  intro T hT X
  rcases hr T hT X with ⟨v, st₀, t, T', L, h0, X', hL, e1, e2, ⟨⟨r, u, hv, hp, hb⟩, hF⟩, st⟩ | ⟨q, st₀, t, T', L, E, ce, h0, X', hL, e1, e2, ⟨u, hp, hb, hF⟩, hce, hcv, hcl, st⟩
  · cases hv
    obtain ⟨k1, k2, k3⟩ := vx_keep h0 e1 hS hA hf hL hF
    obtain ⟨t2, a1, b1⟩ := kk r u t T'.heap (locs ++ L) e1.symm (by rw [← e2]; exact X'.warmed.alike) hp hb k1 k2 k3 T' rfl X'
    exact ⟨t2, st t2 a1, b1⟩
  · obtain ⟨k1, k2, k3⟩ := vx_keep h0 e1 hS hAX hf hL hF
    obtain ⟨t2, a1, b1⟩ := kx E ce q u t T'.heap (locs ++ L) e1.symm (by rw [← e2]; exact X'.warmed.alike) hp hb k1 k2 k3 (by rw [e1]; exact hce) hcv hcl T' rfl X'
    exact ⟨t2, st.trans a1, b1⟩
theorem vx_calld {S SX : Type} {post : UInt64 → S → Prop} {px : SX → Prop} {B : S → State → Prop} {BX : String → SX → State → Prop} {AX : Nat → Prop} (hr : vx_Run p l e R s m args below meth c H locs cells slots mc ms (F0 m pc ls st0) rest (va_Qd post B A1 a) (vx_X px BX AX) free) (hS : va_S A0 H0 H locs) (hA : ∀ q, q < H.size → A1 q → A0 q) (hf : ∀ q, free q → A0 q) (hAX : ∀ q, q < H.size → AX q → A0 q)
    (kx : ∀ (E : String) (ce : Cell) (q9 : Addr) (u : SX) (t : State) (H1 : Heap) (locs1 : List Loc), t.heap = H1 → s.vm.Alike t.vm → px u → BX E u t → H.size ≤ H1.size → (∀ q : Nat, q < H.size → ¬ AX q → H1[q]? = H[q]?) → va_S A0 H0 H1 locs1 → H1[q9]? = some ce → ce.vm = .none → s.vm.findClass E = some ce.cls → vx_W p l e R s m args below meth c H1 locs1 (cells + mc) (slots + ms) Q (F0 m pc ls rest) q9)
    (kk : ∀ (r : UInt64) (u : S) (t : State) (H1 : Heap) (locs1 : List Loc), t.heap = H1 → s.vm.Alike t.vm → post r u → B u t → H.size ≤ H1.size → (∀ q : Nat, q < H.size → ¬ A1 q → H1[q]? = H[q]?) → va_S A0 H0 H1 locs1 → W p l e R s m args below meth c H1 locs1 (cells + mc) (slots + ms) Q (F0 m (pc + 3) ls (.double r :: rest))) : W p l e R s m args below meth c H locs cells slots Q (F0 m pc ls st0) := by
  intro T hT X
  rcases hr T hT X with ⟨v, st₀, t, T', L, h0, X', hL, e1, e2, ⟨⟨r, u, hv, hp, hb⟩, hF⟩, st⟩ | ⟨q, st₀, t, T', L, E, ce, h0, X', hL, e1, e2, ⟨u, hp, hb, hF⟩, hce, hcv, hcl, st⟩
  · cases hv
    obtain ⟨k1, k2, k3⟩ := vx_keep h0 e1 hS hA hf hL hF
    obtain ⟨t2, a1, b1⟩ := kk r u t T'.heap (locs ++ L) e1.symm (by rw [← e2]; exact X'.warmed.alike) hp hb k1 k2 k3 T' rfl X'
    exact ⟨t2, st t2 a1, b1⟩
  · obtain ⟨k1, k2, k3⟩ := vx_keep h0 e1 hS hAX hf hL hF
    obtain ⟨t2, a1, b1⟩ := kx E ce q u t T'.heap (locs ++ L) e1.symm (by rw [← e2]; exact X'.warmed.alike) hp hb k1 k2 k3 (by rw [e1]; exact hce) hcv hcl T' rfl X'
    exact ⟨t2, st.trans a1, b1⟩
theorem vx_callv {S SX : Type} {post : S → Prop} {px : SX → Prop} {B : S → State → Prop} {BX : String → SX → State → Prop} {AX : Nat → Prop} (hr : vx_Run p l e R s m args below meth c H locs cells slots mc ms (F0 m pc ls st0) rest (va_Qv post B A1 a) (vx_X px BX AX) free) (hS : va_S A0 H0 H locs) (hA : ∀ q, q < H.size → A1 q → A0 q) (hf : ∀ q, free q → A0 q) (hAX : ∀ q, q < H.size → AX q → A0 q)
    (kx : ∀ (E : String) (ce : Cell) (q9 : Addr) (u : SX) (t : State) (H1 : Heap) (locs1 : List Loc), t.heap = H1 → s.vm.Alike t.vm → px u → BX E u t → H.size ≤ H1.size → (∀ q : Nat, q < H.size → ¬ AX q → H1[q]? = H[q]?) → va_S A0 H0 H1 locs1 → H1[q9]? = some ce → ce.vm = .none → s.vm.findClass E = some ce.cls → vx_W p l e R s m args below meth c H1 locs1 (cells + mc) (slots + ms) Q (F0 m pc ls rest) q9)
    (kk : ∀ (u : S) (t : State) (H1 : Heap) (locs1 : List Loc), t.heap = H1 → s.vm.Alike t.vm → post u → B u t → H.size ≤ H1.size → (∀ q : Nat, q < H.size → ¬ A1 q → H1[q]? = H[q]?) → va_S A0 H0 H1 locs1 → W p l e R s m args below meth c H1 locs1 (cells + mc) (slots + ms) Q (F0 m (pc + 3) ls (rest))) : W p l e R s m args below meth c H locs cells slots Q (F0 m pc ls st0) := by
  intro T hT X
  rcases hr T hT X with ⟨v, st₀, t, T', L, h0, X', hL, e1, e2, ⟨⟨u, hv, hp, hb⟩, hF⟩, st⟩ | ⟨q, st₀, t, T', L, E, ce, h0, X', hL, e1, e2, ⟨u, hp, hb, hF⟩, hce, hcv, hcl, st⟩
  · cases hv
    obtain ⟨k1, k2, k3⟩ := vx_keep h0 e1 hS hA hf hL hF
    obtain ⟨t2, a1, b1⟩ := kk u t T'.heap (locs ++ L) e1.symm (by rw [← e2]; exact X'.warmed.alike) hp hb k1 k2 k3 T' rfl X'
    exact ⟨t2, st t2 a1, b1⟩
  · obtain ⟨k1, k2, k3⟩ := vx_keep h0 e1 hS hAX hf hL hF
    obtain ⟨t2, a1, b1⟩ := kx E ce q u t T'.heap (locs ++ L) e1.symm (by rw [← e2]; exact X'.warmed.alike) hp hb k1 k2 k3 (by rw [e1]; exact hce) hcv hcl T' rfl X'
    exact ⟨t2, st.trans a1, b1⟩
end Rows
section Ends
variable {p : Program} {l : Launch} {e : Env} {R : Room} {s : State} {m : MethodId} {args : Array Value} {below : List Frame} {meth : Method} {c : Code} {H : Heap} {locs : List Loc} {cells slots : Nat} {Q : State → Prop}
variable {mc ms : Nat} {free : Addr → Prop} {A0 A1 : Nat → Prop} {H0 : Heap} {a : Array Value} {ls : Array Slot} {st0 rest : List Value}
variable {Qc : Array Value → State → Outcome → State → Prop} {XC : String → State → State → Prop}
/-- what a body that may throw owes at its end -/
def vx_MQ (below : List Frame) (Qc : Array Value → State → Outcome → State → Prop) (XC : String → State → State → Prop) (a : Array Value) (s : State) (mc ms : Nat) (free : Addr → Prop) : State → Prop := fun t =>
  ∃ o, t.status = .running ∧ Ended t below o ∧ vx_Q Qc XC mc ms free a s o t
theorem vx_ret {g : JFrame} {mc ms : Nat} (k : W p l e R s m args below meth c H locs cells slots (MQ below Qc args s mc ms free) g) : W p l e R s m args below meth c H locs cells slots (vx_MQ below Qc XC args s mc ms free) g := by
  intro T hT X
  obtain ⟨t, a1, o, b1, b2, b3, b4⟩ := k T hT X
  exact ⟨t, a1, o, b1, b2, Or.inl ⟨b3, b4⟩⟩
/-- not caught here: it goes on to the caller -/
theorem vx_widen {g : JFrame} {q : Addr} {k n : Nat} (h1 : cells ≤ k) (h2 : slots ≤ n) (kk : vx_W p l e R s m args below meth c H locs k n Q g q) : vx_W p l e R s m args below meth c H locs cells slots Q g q := fun T hT X => kk T hT (stand_widen X h1 h2)
theorem vx_out {pc : Nat} {E : String} {ce : Cell} {q : Addr} {mc ms : Nat} (hout : ∀ x ∈ c.exceptionTable.toList, covers x pc = false) (hlocks : meth.locks = false) (hcell : H[q]? = some ce) (hv : ce.vm = .none) (hcl : s.vm.findClass E = some ce.cls)
    (hx : ∀ t : State, t.heap = H → s.vm.Alike t.vm → XC E s t) (hf : ∀ z ∈ locs, free z.base) (hc : cells ≤ mc) (hs : slots ≤ ms) :
    vx_W p l e R s m args below meth c H locs cells slots (vx_MQ below Qc XC args s mc ms free) (F0 m pc ls rest) q := by
  intro T hT X
  obtain ⟨st1, hrun, hend, hW, hsm⟩ := X.leaveThrown q (g := F0 m pc ls rest) rfl rfl rfl hout hlocks
  have hcell9 : (T.setFrames (.throwing q :: below)).heap[q]? = some ce := by
    show T.heap[q]? = some ce
    rw [hT]; exact hcell
  exact ⟨_, st1, .threw q, hrun, hend, Or.inr ⟨q, rfl, E, ce, locs, hx _ hT hW.alike, hcell9, hv, hcl, hW, hsm.mono hc hs, hf⟩⟩
theorem vx_frame {U : State} {k n : Nat} (h : s.sameButNew ({ U with vm := s.vm } : State) locs k n) : s.heap.size ≤ U.heap.size ∧ ∀ q : Nat, q < s.heap.size → (∀ z ∈ locs, z.base ≠ q) → U.heap[q]? = s.heap[q]? := by
  obtain ⟨-, h2, -, -, -, h6⟩ := h
  refine ⟨h2, fun q hq hz => ?_⟩
  obtain ⟨c9, e1, e2, e3, e4⟩ := h6 q _ (Array.getElem?_eq_getElem hq)
  have hs : c9.slots = (s.heap[q]).slots := Array.ext_getElem? fun i => e4 i fun hm => hz _ hm rfl
  have h9 : c9 = s.heap[q] := by
    rw [hs] at e2
    exact e2
  have e5 : U.heap[q]? = some c9 := e1
  rw [e5, h9, Array.getElem?_eq_getElem hq]
/-- the words of a throw but the four that speak of the heap -/
def vx_no (w : Cond) : Bool := decide (w ≠ .isRef (.static Bundle.tN "UNASSIGNED_STACK" Bundle.steD)) && decide (w ≠ .isRef (.static Bundle.tN "SUPPRESSED_SENTINEL" Bundle.listD)) && decide (w ≠ .laysStatic Bundle.tN "UNASSIGNED_STACK" Bundle.steD) && decide (w ≠ .laysStatic Bundle.tN "SUPPRESSED_SENTINEL" Bundle.listD)
def vx_at0 (own : String) (ic : Nat) (X : String) (names : List String) : List Cond := (Bundle.ownAtoms0 own ic X names).filter vx_no
def vx_atS (own : String) (ic : Nat) (X : String) (names : List String) : List Cond := (Bundle.ownAtoms own ic X names).filter vx_no
/-- a word that the tables alone decide, or a good one -/
def vx_ot (w : Cond) : Bool := w.onTables || goodWord w
theorem vx_ot_at {args a' : Array Value} {s U : State} {w : Cond} (hW : s.WarmedH U.vm) (hvm : s.vm = U.vm) (hg : vx_ot w = true) (h : w.before args s = true) : w.before a' U = true := by
  simp only [vx_ot, Bool.or_eq_true] at hg
  rcases hg with hg | hg
  · exact va_tabs hg hvm h
  · exact word_at hW (good_of_word hg) h
/-- a list's words: the good ones out of the method's own list, the others by premises of their own -/
theorem vx_hat {args : Array Value} {s : State} {L B : List Cond} (h1 : ∀ w ∈ L.filter goodWord, w.before args s = true) (h2 : ∀ w ∈ L.filter (fun w => !goodWord w), w ∈ B) (h3 : ∀ w ∈ B, w.before args s = true) : ∀ w ∈ L, w.before args s = true := by
  intro w hw
  by_cases g : goodWord w = true
  · exact h1 w (List.mem_filter.mpr ⟨hw, g⟩)
  · refine h3 w (h2 w (List.mem_filter.mpr ⟨hw, ?_⟩))
    show (!goodWord w) = true
    cases hgw : goodWord w
    · rfl
    · exact absurd hgw g
theorem vx_c {args : Array Value} {s : State} {w : Cond} {B : List Cond} (h : w.before args s = true) (t : ∀ w ∈ B, w.before args s = true) : ∀ w' ∈ w :: B, w'.before args s = true := fun w' h' => (List.mem_cons.mp h').elim (fun e => by rw [e]; exact h) (t w')
theorem vx_n {args : Array Value} {s : State} : ∀ w ∈ ([] : List Cond), w.before args s = true := fun _ h => nomatch h
theorem vx_own {args : Array Value} {s : State} {L : List Cond} (h1 : ∀ w ∈ L.filter vx_no, w.before args s = true)
    (hU : (Cond.isRef (.static Bundle.tN "UNASSIGNED_STACK" Bundle.steD)).before args s = true) (hN : (Cond.isRef (.static Bundle.tN "SUPPRESSED_SENTINEL" Bundle.listD)).before args s = true)
    (lU : (Cond.laysStatic Bundle.tN "UNASSIGNED_STACK" Bundle.steD).before args s = true) (lN : (Cond.laysStatic Bundle.tN "SUPPRESSED_SENTINEL" Bundle.listD).before args s = true) : ∀ w ∈ L, w.before args s = true := by
  intro w hw
  by_cases e1 : w = .isRef (.static Bundle.tN "UNASSIGNED_STACK" Bundle.steD)
  · rw [e1]; exact hU
  · by_cases e2 : w = .isRef (.static Bundle.tN "SUPPRESSED_SENTINEL" Bundle.listD)
    · rw [e2]; exact hN
    · by_cases e3 : w = .laysStatic Bundle.tN "UNASSIGNED_STACK" Bundle.steD
      · rw [e3]; exact lU
      · by_cases e4 : w = .laysStatic Bundle.tN "SUPPRESSED_SENTINEL" Bundle.listD
        · rw [e4]; exact lN
        · exact h1 w (List.mem_filter.mpr ⟨hw, by unfold vx_no; rw [decide_eq_true e1, decide_eq_true e2, decide_eq_true e3, decide_eq_true e4]; rfl⟩)
/-- where a static field lies, its class's statics cell in H -/
def vx_L (C n d : String) (A : Nat → Prop) (U : State) (H : Heap) : Prop := ∃ (c : ClassId) (k : Class) (i : Nat) (f : Field) (a : Nat) (cell : Cell), U.vm.findClass C = some c ∧ U.fieldFound? C n d = some (c, k, i, f) ∧ f.isStatic = true ∧ k.statics = some a ∧ H[a]? = some cell ∧ cell.vm.isStatics = true ∧ cell.cls = c ∧ f.slot < cell.slots.size ∧ k.staticTypes[f.slot]? = some f.type ∧ ¬ A a
theorem vx_L.moved {C n d : String} {A : Nat → Prop} {u U : State} {H : Heap} (hvm : u.vm.Alike U.vm) (h : vx_L C n d A u H) : vx_L C n d A U H := by
  obtain ⟨c, k, i, f, a, cell, h1, h2, h3, h4, h5, h6, h7, h8, h9, h10⟩ := h
  obtain ⟨k', hi', he⟩ := State.fieldFound?_setVm hvm h2
  exact ⟨c, k', i, f, a, cell, by rw [hvm.findClass]; exact h1, hi', h3, by rw [he]; exact h4, h5, h6, h7, h8, by rw [he]; exact h9, h10⟩
theorem vx_L.kept {C n d : String} {A : Nat → Prop} {U : State} {H H1 : Heap} (h : vx_L C n d A U H) (hq : ∀ a : Nat, a < H.size → ¬ A a → H1[a]? = H[a]?) : vx_L C n d A U H1 := by
  obtain ⟨c, k, i, f, a, cell, h1, h2, h3, h4, h5, h6, h7, h8, h9, h10⟩ := h
  exact ⟨c, k, i, f, a, cell, h1, h2, h3, h4, by rw [hq a (Array.getElem?_eq_some_iff.mp h5).1 h10]; exact h5, h6, h7, h8, h9, h10⟩
theorem vx_L.narrow {C n d : String} {A B : Nat → Prop} {U : State} {H : Heap} (h : vx_L C n d A U H) (hAB : ∀ q, B q → A q) : vx_L C n d B U H := by
  obtain ⟨c, k, i, f, a, cell, h1, h2, h3, h4, h5, h6, h7, h8, h9, h10⟩ := h
  exact ⟨c, k, i, f, a, cell, h1, h2, h3, h4, h5, h6, h7, h8, h9, fun z => h10 (hAB _ z)⟩
theorem vx_L.word {C n d : String} {A : Nat → Prop} {s : State} {args : Array Value} (h : vx_L C n d A s s.heap) : (Cond.laysStatic C n d).before args s = true := by
  obtain ⟨c, k, i, f, a, cell, h1, h2, h3, h4, h5, h6, h7, h8, h9, -⟩ := h
  show (Cond.laysStatic C n d).holds args s none s [] = true
  exact Cond.laysStatic_of h1 h2 h3 h4 h5 h6 h7 h8 h9
/-- .. and what it holds: null or some reference -/
def vx_Zq (C n d : String) (A : Nat → Prop) (U : State) (H : Heap) : Prop := va_Zq C n d A U H ∧ vx_L C n d A U H
theorem vx_Zq.moved {C n d : String} {A : Nat → Prop} {u U : State} {H : Heap} (hvm : u.vm.Alike U.vm) (h : vx_Zq C n d A u H) : vx_Zq C n d A U H := ⟨va_Zq.moved hvm h.1, vx_L.moved hvm h.2⟩
theorem vx_Zq.kept {C n d : String} {A : Nat → Prop} {U : State} {H H1 : Heap} (h : vx_Zq C n d A U H) (hq : ∀ a : Nat, a < H.size → ¬ A a → H1[a]? = H[a]?) : vx_Zq C n d A U H1 := ⟨va_Zq.kept h.1 hq, vx_L.kept h.2 hq⟩
theorem vx_Zq.narrow {C n d : String} {A B : Nat → Prop} {U : State} {H : Heap} (h : vx_Zq C n d A U H) (hAB : ∀ q, B q → A q) : vx_Zq C n d B U H := ⟨va_Zq.narrow h.1 hAB, vx_L.narrow h.2 hAB⟩
theorem vx_Zqof {args : Array Value} {s : State} {C n d : String} {A : Nat → Prop} (hl : (Cond.laysStatic C n d).before args s = true) (hini : (Cond.initialized C).before args s = true) (h : (Cond.isRef (.static C n d)).before args s = true) (hA : ∀ a : Nat, a < s.heap.size → ¬ A a) : vx_Zq C n d A s s.heap := by
  refine ⟨va_Zqof hl hini h hA, ?_⟩
  obtain ⟨c, k, i, f, a, cell, h1, h2, h3, h4, h5, h6, h7, h8, h9⟩ := Cond.laysStatic_spec hl
  exact ⟨c, k, i, f, a, cell, h1, h2, h3, h4, h5, h6, h7, h8, h9, hA a (Array.getElem?_eq_some_iff.mp h5).1⟩
theorem vx_isRef {C n d : String} {v : Value} {A : Nat → Prop} {s : State} {args : Array Value} (h : va_Z C n d v A s s.heap) (hv : v.isRef = true) : (Cond.isRef (.static C n d)).before args s = true := by
  obtain ⟨cf, kf, fi, f, a, cell, h1, h2, h3, h4, h5, h6, h7, -⟩ := h
  have he : (Term.static C n d).eval args s none [] s = some v := by
    simp [Term.eval, State.fieldNamed?, h1, h2, h4, h5, h6, h7]
  simp only [Cond.before, Cond.holds, Cond.value, he]
  cases v <;> simp_all [Value.isRef]
theorem vx_isRefq {C n d : String} {A : Nat → Prop} {s : State} {args : Array Value} (h : va_Zq C n d A s s.heap) : (Cond.isRef (.static C n d)).before args s = true := by
  rcases h with h | ⟨t, h⟩
  · exact vx_isRef h rfl
  · exact vx_isRef h rfl
/-- the same frame, seen from here: as if the method were called anew in this heap -/
theorem vx_rebase {T : State} (X : Stand p l e R s m args below meth c T locs cells slots) {R' : Room} (hf : R'.frames ≤ R.frames) (hl : R'.locals ≤ R.locals) (hc : cells + R'.cells ≤ R.cells) (hs : slots + R'.slots ≤ R.slots) :
    Stand p l e R' ((T.setVm s.vm).setFrames (.invoking m args :: below)) m args below meth c T [] 0 0 := by
  have htop : (T.setVm s.vm).topJava?.isSome := X.here.top
  have hF : ((T.setVm s.vm).setFrames (.invoking m args :: below)).frames = .invoking m args :: below := State.frames_setFrames _ (State.cur_lt_of_top htop)
  obtain ⟨g₀, hg0⟩ := Option.isSome_iff_exists.mp htop
  obtain ⟨r, hr⟩ := State.topJava?_eq_some.mp hg0
  have hl9 : e.platform.stackLimits (T.setVm s.vm).me = e.platform.stackLimits s.me := X.limits
  have hb9 : (T.setVm s.vm).me.stackBytes = s.me.stackBytes := X.bytes
  refine ⟨X.admits, X.cas, X.clock, hF, ?_, X.hears, X.method, X.code, X.here, X.tail, X.warmed, ?_, ?_, ?_⟩
  · have h := X.room
    have hU : ((T.setVm s.vm).setFrames (.invoking m args :: below)).localsInUse = s.localsInUse := by
      rw [State.localsInUse_invoking hF (meth := meth) (c := c) X.method X.code, State.localsInUse_invoking X.frames X.method X.code]
    simp only [State.hasRoom, Bool.and_eq_true, decide_eq_true_eq] at h ⊢
    obtain ⟨⟨⟨⟨h1, h2, h3, h4, h5, h6⟩, h7⟩, h8⟩, h9⟩ := h
    rw [X.frames, List.length_cons] at h2 h3
    have q1 := X.heapSize
    have q2 := X.used
    simp only [hF, hU, List.length_cons, State.stackLimits_setFrames, State.stackBytes_setFrames, hl9, hb9]
    refine ⟨⟨⟨⟨by omega, by omega, by omega, by omega, by omega, h6⟩, ?_⟩, ?_⟩, X.book⟩
    · show T.heap.size + R'.cells ≤ e.platform.maxCells
      omega
    · show T.slotsUsed + R'.slots ≤ e.platform.maxSlots
      omega
  · rw [State.stackLimits_setFrames]; rfl
  · rw [State.stackBytes_setFrames]; rfl
  · refine ⟨?_, Nat.le_refl _, Nat.le_refl _, ?_, ?_, fun a c9 h9 => ⟨c9, h9, rfl, rfl, fun _ _ => rfl⟩⟩
    · obtain ⟨t, ht, -⟩ := State.frames_cons hr
      show T.setVm s.vm = { ((T.setVm s.vm).setFrames (.invoking m args :: below)).setFrames (T.setVm s.vm).frames with heap := T.heap, slotsUsed := T.slotsUsed }
      rw [State.setFrames_setFrames, State.setFrames_self ht]
      rfl
    · show T.slotsUsed = T.slotsUsed + ((T.heap.toList.drop T.heap.size).map (·.slots.size)).sum
      rw [List.drop_eq_nil_of_le (Nat.le_of_eq Array.length_toList)]
      rfl
    · show ((T.heap.toList.drop T.heap.size).map (·.slots.size)).sum ≤ 0
      rw [List.drop_eq_nil_of_le (Nat.le_of_eq Array.length_toList)]
      exact Nat.le_refl _
/-- 'throw new E()': new; dup; invokespecial; athrow -/
theorem vx_throw0 {cc : ByteArray} {pc : Nat} (hexec : p.tables.exec = Jvm.exec) (hb : c.code = cc) (hl : l.stackTraces = false) {own cls : String} {names : List String} {ik ic mc ms : Nat} {A : Nat → Prop}
    (hown : s.vm.findClass own = some m.cls) (hcls : Bundle.fit cls = true) (hnames : ∀ n ∈ names, Bundle.fit n = true)
    (hk : (Cond.classLink own ik cls).before args s = true) (hini : (Cond.initialized cls).before args s = true) (hat : ∀ w ∈ vx_at0 own ic cls names, w.before args s = true)
    (hgood : ∀ w ∈ Cond.classLink own ik cls :: Cond.initialized cls :: vx_at0 own ic cls names, vx_ot w = true)
    (hU : vx_Zq Bundle.tN "UNASSIGNED_STACK" Bundle.steD A s s.heap) (hN : vx_Zq Bundle.tN "SUPPRESSED_SENTINEL" Bundle.listD A s s.heap) (hS : va_S A s.heap H locs) (hsize : ls.size = c.maxLocals)
    (d0 : decode cc pc = .ok (.new ik, 3)) (d3 : decode cc (pc + 3) = .ok (.dup, 1)) (d4 : decode cc (pc + 4) = .ok (.invokespecial ic, 3)) (d7 : decode cc (pc + 7) = .ok (.athrow, 1))
    (hout : ∀ x ∈ c.exceptionTable.toList, covers x (pc + 7) = false)
    (hRframes : names.length + 3 < R.frames) (hRlocals : (rest.map fun v => v.category).sum + (13 * (names.length + 1) + 42) ≤ R.locals) (hRcells : cells + 1 ≤ R.cells) (hRslots : slots + 6 ≤ R.slots) (hlocks : meth.locks = false)
    (hx : ∀ t : State, s.vm.Alike t.vm → H.size ≤ t.heap.size → (∀ q : Nat, q < H.size → t.heap[q]? = H[q]?) → XC cls s t)
    (hf : ∀ z ∈ locs, free z.base) (hc : cells + 1 ≤ mc) (hs : slots + 6 ≤ ms) :
    W p l e R s m args below meth c H locs cells slots (vx_MQ below Qc XC args s mc ms free) (F0 m pc ls rest) := by
  intro T hT X
  have htr : e.platform.stackTraces = false := (show e.platform.stackTraces = l.stackTraces by rw [X.admits.platform]).trans hl
  have Y := vx_rebase X (R' := { frames := R.frames, locals := R.locals, cells := 1, slots := 6 }) (Nat.le_refl _) (Nat.le_refl _) hRcells hRslots
  obtain ⟨s', hA⟩ : ∃ z, z = (T.setVm s.vm).setFrames (.invoking m args :: below) := ⟨_, rfl⟩
  rw [← hA] at Y
  have hvm : s'.vm = s.vm := by rw [hA]; rfl
  have hhp : s'.heap = H := by rw [hA]; exact hT
  have hW0 : s.WarmedH s'.vm := by rw [hvm]; exact State.WarmedH.refl s
  have hat' : ∀ w ∈ vx_at0 own ic cls names, w.before args s' = true := fun w hw => vx_ot_at hW0 hvm.symm (hgood w (List.mem_cons_of_mem _ (List.mem_cons_of_mem _ hw))) (hat w hw)
  have hk' : (Cond.classLink own ik cls).before args s' = true := vx_ot_at hW0 hvm.symm (hgood _ List.mem_cons_self) hk
  have hini' : (Cond.initialized cls).before args s' = true := vx_ot_at hW0 hvm.symm (hgood _ (List.mem_cons_of_mem _ List.mem_cons_self)) hini
  have hU' : vx_Zq Bundle.tN "UNASSIGNED_STACK" Bundle.steD A s' s'.heap := by rw [hhp]; exact vx_Zq.moved hW0.alike (hU.kept hS.2.1)
  have hN' : vx_Zq Bundle.tN "SUPPRESSED_SENTINEL" Bundle.listD A s' s'.heap := by rw [hhp]; exact vx_Zq.moved hW0.alike (hN.kept hS.2.1)
  have h : ∀ w ∈ Bundle.ownAtoms0 own ic cls names, w.before args s' = true := vx_own hat' (vx_isRefq hU'.1) (vx_isRefq hN'.1) hU'.2.word hN'.2.word
  have hown' : s'.vm.findClass own = some m.cls := by rw [hvm]; exact hown
  have hins : (Cond.instantiable cls 6).before args s' = true := h _ (by simp [Bundle.ownAtoms0])
  obtain ⟨vm₁, cX, kX, hfX, hkX, -, -, X₁, st1⟩ := Y.newCold hexec (own := own) (C := cls) (index := ik) (n := 6) hown' hk' hins hini'
    (g := F0 m pc ls rest) rfl (by rw [hb]; exact d0) (Nat.le_refl _) (Nat.le_refl _)
  generalize hT1 : (T.setVm vm₁).pushCell { cls := cX, slots := kX.instanceTypes.map defaultValue, vm := .none } = T1 at X₁ st1
  have hcat : (Value.ref T.heap.size).category = 1 := rfl
  have hcellA : T1.heap[T.heap.size]? = some (freshCell cX kX) := by rw [← hT1]; exact State.heap_pushCell_size _ _
  have d3' : decode c.code (pc + 3) = .ok (.dup, 1) := by rw [hb]; exact d3
  obtain ⟨U, hsteps, hrun, hend, hW, hsame, ce, hce, hO⟩ := X₁.ctorThrow0 hexec htr (own := own) (cls := cls) (names := names) (ic := ic) hown' hcls hnames h (fun x hx => nomatch hx) hfX hkX hcellA (by rw [hhp, hT]; exact Nat.le_refl _)
    (g := { method := m, pc := pc + 4, locals := ls, stack := .ref T.heap.size :: .ref T.heap.size :: rest, locked := none }) rfl hsize rfl rfl (rest := rest) rfl
    (by rw [hb]; exact d4) (by rw [hb]; exact d7) hout hRframes (by simp only [List.map_cons, List.sum_cons, hcat]; omega) hlocks
  obtain ⟨f1, f2⟩ := vx_frame hsame
  rw [hhp] at f1 f2
  have hWs : s.WarmedH U.vm := State.WarmedH.trans hW0 hW
  have hcl : s.vm.findClass cls = some ce.cls := by
    have h9 := hO.cls
    rw [hvm] at h9
    exact h9
  have hall : s.sameButNew ({ U with vm := s.vm } : State) locs mc ms := by
    subst hA
    obtain ⟨e1, e2⟩ := hsame
    rw [State.setFrames_setFrames] at e1
    have h2 : (T.setVm s.vm).sameButNew ({ U with vm := s.vm } : State) [] (0 + 1) (0 + 6) := ⟨e1, e2⟩
    have h3 := X.same.trans h2
    rw [List.append_nil] at h3
    exact h3.mono hc hs
  refine ⟨U, ?_, .threw T.heap.size, hrun, hend, Or.inr ⟨T.heap.size, rfl, cls, ce, locs, hx U hWs.alike f1 (fun q hq => f2 q hq (fun z hz => nomatch hz)), hce, hO.vm, hcl, hWs, hall, hf⟩⟩
  refine st1 _ ?_
  show Steps p.tables e below (T1.setTop { method := m, pc := pc + 3, locals := ls, stack := .ref T.heap.size :: rest, locked := none }) _
  jvm_step X₁.here [X₁.here.top, hexec, d3', Value.category]
  exact hsteps
/-- 'throw new E("text")': new; dup; ldc; invokespecial; athrow -/
theorem vx_throwS {cc : ByteArray} {pc : Nat} (hexec : p.tables.exec = Jvm.exec) (hb : c.code = cc) (hl : l.stackTraces = false) {own cls text : String} {names : List String} {ik is ic mc ms sa : Nat} {A : Nat → Prop}
    (hown : s.vm.findClass own = some m.cls) (hcls : Bundle.fit cls = true) (hnames : ∀ n ∈ names, Bundle.fit n = true)
    (hk : (Cond.classLink own ik cls).before args s = true) (hini : (Cond.initialized cls).before args s = true) (hstr : vk_R own is text sa s) (hat : ∀ w ∈ vx_atS own ic cls names, w.before args s = true)
    (hgood : ∀ w ∈ Cond.classLink own ik cls :: Cond.initialized cls :: vx_atS own ic cls names, vx_ot w = true)
    (hU : vx_Zq Bundle.tN "UNASSIGNED_STACK" Bundle.steD A s s.heap) (hN : vx_Zq Bundle.tN "SUPPRESSED_SENTINEL" Bundle.listD A s s.heap) (hS : va_S A s.heap H locs) (hsize : ls.size = c.maxLocals)
    (d0 : decode cc pc = .ok (.new ik, 3)) (d3 : decode cc (pc + 3) = .ok (.dup, 1)) (d4 : decode cc (pc + 4) = .ok (.ldc is, 2)) (d6 : decode cc (pc + 6) = .ok (.invokespecial ic, 3)) (d9 : decode cc (pc + 9) = .ok (.athrow, 1))
    (hout : ∀ x ∈ c.exceptionTable.toList, covers x (pc + 9) = false)
    (hRframes : names.length + 3 < R.frames) (hRlocals : (rest.map fun v => v.category).sum + (13 * (names.length + 1) + 43) ≤ R.locals) (hRcells : cells + 1 ≤ R.cells) (hRslots : slots + 6 ≤ R.slots) (hlocks : meth.locks = false)
    (hx : ∀ t : State, s.vm.Alike t.vm → H.size ≤ t.heap.size → (∀ q : Nat, q < H.size → t.heap[q]? = H[q]?) → XC cls s t)
    (hf : ∀ z ∈ locs, free z.base) (hc : cells + 1 ≤ mc) (hs : slots + 6 ≤ ms) :
    W p l e R s m args below meth c H locs cells slots (vx_MQ below Qc XC args s mc ms free) (F0 m pc ls rest) := by
  intro T hT X
  have htr : e.platform.stackTraces = false := (show e.platform.stackTraces = l.stackTraces by rw [X.admits.platform]).trans hl
  have Y := vx_rebase X (R' := { frames := R.frames, locals := R.locals, cells := 1, slots := 6 }) (Nat.le_refl _) (Nat.le_refl _) hRcells hRslots
  obtain ⟨s', hA⟩ : ∃ z, z = (T.setVm s.vm).setFrames (.invoking m args :: below) := ⟨_, rfl⟩
  rw [← hA] at Y
  have hvm : s'.vm = s.vm := by rw [hA]; rfl
  have hhp : s'.heap = H := by rw [hA]; exact hT
  have hW0 : s.WarmedH s'.vm := by rw [hvm]; exact State.WarmedH.refl s
  have hat' : ∀ w ∈ vx_atS own ic cls names, w.before args s' = true := fun w hw => vx_ot_at hW0 hvm.symm (hgood w (List.mem_cons_of_mem _ (List.mem_cons_of_mem _ hw))) (hat w hw)
  have hk' : (Cond.classLink own ik cls).before args s' = true := vx_ot_at hW0 hvm.symm (hgood _ List.mem_cons_self) hk
  have hini' : (Cond.initialized cls).before args s' = true := vx_ot_at hW0 hvm.symm (hgood _ (List.mem_cons_of_mem _ List.mem_cons_self)) hini
  have hU' : vx_Zq Bundle.tN "UNASSIGNED_STACK" Bundle.steD A s' s'.heap := by rw [hhp]; exact vx_Zq.moved hW0.alike (hU.kept hS.2.1)
  have hN' : vx_Zq Bundle.tN "SUPPRESSED_SENTINEL" Bundle.listD A s' s'.heap := by rw [hhp]; exact vx_Zq.moved hW0.alike (hN.kept hS.2.1)
  have h : ∀ w ∈ Bundle.ownAtoms own ic cls names, w.before args s' = true := vx_own hat' (vx_isRefq hU'.1) (vx_isRefq hN'.1) hU'.2.word hN'.2.word
  have hown' : s'.vm.findClass own = some m.cls := by rw [hvm]; exact hown
  have hins : (Cond.instantiable cls 6).before args s' = true := h _ (by simp [Bundle.ownAtoms])
  obtain ⟨vm₁, cX, kX, hfX, hkX, -, -, X₁, st1⟩ := Y.newCold hexec (own := own) (C := cls) (index := ik) (n := 6) hown' hk' hins hini'
    (g := F0 m pc ls rest) rfl (by rw [hb]; exact d0) (Nat.le_refl _) (Nat.le_refl _)
  generalize hT1 : (T.setVm vm₁).pushCell { cls := cX, slots := kX.instanceTypes.map defaultValue, vm := .none } = T1 at X₁ st1
  have hcat : (Value.ref T.heap.size).category = 1 := rfl
  have hcellA : T1.heap[T.heap.size]? = some (freshCell cX kX) := by rw [← hT1]; exact State.heap_pushCell_size _ _
  have d3' : decode c.code (pc + 3) = .ok (.dup, 1) := by rw [hb]; exact d3
  have d4' : decode c.code (pc + 4) = .ok (.ldc is, 2) := by rw [hb]; exact d4
  have hstr' : vk_R own is text sa s' := vk_R.warm hW0 hstr
  obtain ⟨U, hsteps, hrun, hend, hW, hsame, ce, hce, hO⟩ := X₁.ctorThrowS hexec htr (own := own) (cls := cls) (names := names) (ic := ic) hown' hcls hnames h (fun x hx => nomatch hx) hfX hkX hcellA (by rw [hhp, hT]; exact Nat.le_refl _) (msg := .ref sa) rfl
    (g := { method := m, pc := pc + 6, locals := ls, stack := .ref sa :: .ref T.heap.size :: .ref T.heap.size :: rest, locked := none }) rfl hsize rfl rfl (rest := rest) rfl
    (by rw [hb]; exact d6) (by rw [hb]; exact d9) hout hRframes (by simp only [List.map_cons, List.sum_cons, hcat]; omega) hlocks
  obtain ⟨f1, f2⟩ := vx_frame hsame
  rw [hhp] at f1 f2
  have hWs : s.WarmedH U.vm := State.WarmedH.trans hW0 hW
  have hcl : s.vm.findClass cls = some ce.cls := by
    have h9 := hO.cls
    rw [hvm] at h9
    exact h9
  have hall : s.sameButNew ({ U with vm := s.vm } : State) locs mc ms := by
    subst hA
    obtain ⟨e1, e2⟩ := hsame
    rw [State.setFrames_setFrames] at e1
    have h2 : (T.setVm s.vm).sameButNew ({ U with vm := s.vm } : State) [] (0 + 1) (0 + 6) := ⟨e1, e2⟩
    have h3 := X.same.trans h2
    rw [List.append_nil] at h3
    exact h3.mono hc hs
  refine ⟨U, ?_, .threw T.heap.size, hrun, hend, Or.inr ⟨T.heap.size, rfl, cls, ce, locs, hx U hWs.alike f1 (fun q hq => f2 q hq (fun z hz => nomatch hz)), hce, hO.vm, hcl, hWs, hall, hf⟩⟩
  refine st1 _ ?_
  show Steps p.tables e below (T1.setTop { method := m, pc := pc + 3, locals := ls, stack := .ref T.heap.size :: rest, locked := none }) _
  jvm_step X₁.here [X₁.here.top, hexec, d3', Value.category]
  exact X₁.ldcString hexec (own := own) (text := text) (index := is) (a := sa) hown' hstr'.1 hstr'.2
    (g := { method := m, pc := pc + 4, locals := ls, stack := .ref T.heap.size :: .ref T.heap.size :: rest, locked := none }) rfl d4' _ hsteps
/-- 'throw new E("text")', the text by a wide index -/
theorem vx_throwSW {cc : ByteArray} {pc : Nat} (hexec : p.tables.exec = Jvm.exec) (hb : c.code = cc) (hl : l.stackTraces = false) {own cls text : String} {names : List String} {ik is ic mc ms sa : Nat} {A : Nat → Prop}
    (hown : s.vm.findClass own = some m.cls) (hcls : Bundle.fit cls = true) (hnames : ∀ n ∈ names, Bundle.fit n = true)
    (hk : (Cond.classLink own ik cls).before args s = true) (hini : (Cond.initialized cls).before args s = true) (hstr : vk_R own is text sa s) (hat : ∀ w ∈ vx_atS own ic cls names, w.before args s = true)
    (hgood : ∀ w ∈ Cond.classLink own ik cls :: Cond.initialized cls :: vx_atS own ic cls names, vx_ot w = true)
    (hU : vx_Zq Bundle.tN "UNASSIGNED_STACK" Bundle.steD A s s.heap) (hN : vx_Zq Bundle.tN "SUPPRESSED_SENTINEL" Bundle.listD A s s.heap) (hS : va_S A s.heap H locs) (hsize : ls.size = c.maxLocals)
    (d0 : decode cc pc = .ok (.new ik, 3)) (d3 : decode cc (pc + 3) = .ok (.dup, 1)) (d4 : decode cc (pc + 4) = .ok (.ldc_w is, 3)) (d7 : decode cc (pc + 7) = .ok (.invokespecial ic, 3)) (d10 : decode cc (pc + 10) = .ok (.athrow, 1))
    (hout : ∀ x ∈ c.exceptionTable.toList, covers x (pc + 10) = false)
    (hRframes : names.length + 3 < R.frames) (hRlocals : (rest.map fun v => v.category).sum + (13 * (names.length + 1) + 43) ≤ R.locals) (hRcells : cells + 1 ≤ R.cells) (hRslots : slots + 6 ≤ R.slots) (hlocks : meth.locks = false)
    (hx : ∀ t : State, s.vm.Alike t.vm → H.size ≤ t.heap.size → (∀ q : Nat, q < H.size → t.heap[q]? = H[q]?) → XC cls s t)
    (hf : ∀ z ∈ locs, free z.base) (hc : cells + 1 ≤ mc) (hs : slots + 6 ≤ ms) :
    W p l e R s m args below meth c H locs cells slots (vx_MQ below Qc XC args s mc ms free) (F0 m pc ls rest) := by
  intro T hT X
  have htr : e.platform.stackTraces = false := (show e.platform.stackTraces = l.stackTraces by rw [X.admits.platform]).trans hl
  have Y := vx_rebase X (R' := { frames := R.frames, locals := R.locals, cells := 1, slots := 6 }) (Nat.le_refl _) (Nat.le_refl _) hRcells hRslots
  obtain ⟨s', hA⟩ : ∃ z, z = (T.setVm s.vm).setFrames (.invoking m args :: below) := ⟨_, rfl⟩
  rw [← hA] at Y
  have hvm : s'.vm = s.vm := by rw [hA]; rfl
  have hhp : s'.heap = H := by rw [hA]; exact hT
  have hW0 : s.WarmedH s'.vm := by rw [hvm]; exact State.WarmedH.refl s
  have hat' : ∀ w ∈ vx_atS own ic cls names, w.before args s' = true := fun w hw => vx_ot_at hW0 hvm.symm (hgood w (List.mem_cons_of_mem _ (List.mem_cons_of_mem _ hw))) (hat w hw)
  have hk' : (Cond.classLink own ik cls).before args s' = true := vx_ot_at hW0 hvm.symm (hgood _ List.mem_cons_self) hk
  have hini' : (Cond.initialized cls).before args s' = true := vx_ot_at hW0 hvm.symm (hgood _ (List.mem_cons_of_mem _ List.mem_cons_self)) hini
  have hU' : vx_Zq Bundle.tN "UNASSIGNED_STACK" Bundle.steD A s' s'.heap := by rw [hhp]; exact vx_Zq.moved hW0.alike (hU.kept hS.2.1)
  have hN' : vx_Zq Bundle.tN "SUPPRESSED_SENTINEL" Bundle.listD A s' s'.heap := by rw [hhp]; exact vx_Zq.moved hW0.alike (hN.kept hS.2.1)
  have h : ∀ w ∈ Bundle.ownAtoms own ic cls names, w.before args s' = true := vx_own hat' (vx_isRefq hU'.1) (vx_isRefq hN'.1) hU'.2.word hN'.2.word
  have hown' : s'.vm.findClass own = some m.cls := by rw [hvm]; exact hown
  have hins : (Cond.instantiable cls 6).before args s' = true := h _ (by simp [Bundle.ownAtoms])
  obtain ⟨vm₁, cX, kX, hfX, hkX, -, -, X₁, st1⟩ := Y.newCold hexec (own := own) (C := cls) (index := ik) (n := 6) hown' hk' hins hini'
    (g := F0 m pc ls rest) rfl (by rw [hb]; exact d0) (Nat.le_refl _) (Nat.le_refl _)
  generalize hT1 : (T.setVm vm₁).pushCell { cls := cX, slots := kX.instanceTypes.map defaultValue, vm := .none } = T1 at X₁ st1
  have hcat : (Value.ref T.heap.size).category = 1 := rfl
  have hcellA : T1.heap[T.heap.size]? = some (freshCell cX kX) := by rw [← hT1]; exact State.heap_pushCell_size _ _
  have d3' : decode c.code (pc + 3) = .ok (.dup, 1) := by rw [hb]; exact d3
  have d4' : decode c.code (pc + 4) = .ok (.ldc_w is, 3) := by rw [hb]; exact d4
  have hstr' : vk_R own is text sa s' := vk_R.warm hW0 hstr
  obtain ⟨U, hsteps, hrun, hend, hW, hsame, ce, hce, hO⟩ := X₁.ctorThrowS hexec htr (own := own) (cls := cls) (names := names) (ic := ic) hown' hcls hnames h (fun x hx => nomatch hx) hfX hkX hcellA (by rw [hhp, hT]; exact Nat.le_refl _) (msg := .ref sa) rfl
    (g := { method := m, pc := pc + 7, locals := ls, stack := .ref sa :: .ref T.heap.size :: .ref T.heap.size :: rest, locked := none }) rfl hsize rfl rfl (rest := rest) rfl
    (by rw [hb]; exact d7) (by rw [hb]; exact d10) hout hRframes (by simp only [List.map_cons, List.sum_cons, hcat]; omega) hlocks
  obtain ⟨f1, f2⟩ := vx_frame hsame
  rw [hhp] at f1 f2
  have hWs : s.WarmedH U.vm := State.WarmedH.trans hW0 hW
  have hcl : s.vm.findClass cls = some ce.cls := by
    have h9 := hO.cls
    rw [hvm] at h9
    exact h9
  have hall : s.sameButNew ({ U with vm := s.vm } : State) locs mc ms := by
    subst hA
    obtain ⟨e1, e2⟩ := hsame
    rw [State.setFrames_setFrames] at e1
    have h2 : (T.setVm s.vm).sameButNew ({ U with vm := s.vm } : State) [] (0 + 1) (0 + 6) := ⟨e1, e2⟩
    have h3 := X.same.trans h2
    rw [List.append_nil] at h3
    exact h3.mono hc hs
  refine ⟨U, ?_, .threw T.heap.size, hrun, hend, Or.inr ⟨T.heap.size, rfl, cls, ce, locs, hx U hWs.alike f1 (fun q hq => f2 q hq (fun z hz => nomatch hz)), hce, hO.vm, hcl, hWs, hall, hf⟩⟩
  refine st1 _ ?_
  show Steps p.tables e below (T1.setTop { method := m, pc := pc + 3, locals := ls, stack := .ref T.heap.size :: rest, locked := none }) _
  jvm_step X₁.here [X₁.here.top, hexec, d3', Value.category]
  exact X₁.ldcStringW hexec (own := own) (text := text) (index := is) (a := sa) hown' hstr'.1 hstr'.2
    (g := { method := m, pc := pc + 4, locals := ls, stack := .ref T.heap.size :: .ref T.heap.size :: rest, locked := none }) rfl d4' _ hsteps
end Ends
section Bodies
variable {l : Launch}
theorem vx_ofW {y : MethodName} {ws ws' : List Cond} {rm : Room} {Pc : Array Value → State → Prop} {Qc : Array Value → State → Outcome → State → Prop} {XC : String → State → State → Prop} {mc ms : Nat} {free : Addr → Prop} {cc : ByteArray} {maxL : Nat} {ret : Option FieldType}
    (hy : plainName y.cls = true) (hw : ws = Cond.code y cc maxL ret :: ws')
    (body : ∀ p e s m args below meth c s₁, BodyLoose p l y (headSpec ws rm) cc maxL ret e s m args below meth c s₁ → c.maxLocals = maxL → (∀ x ∈ c.exceptionTable.toList, False) → Pc args s →
      W p l e (headSpec ws rm).room s m args below meth c s.heap [] 0 0 (vx_MQ below Qc XC args s mc ms free) (entryFrame m args maxL)) : vx_Met l y ws rm Pc Qc XC mc ms free := by
  refine MetFree.of_bodyS (code := cc) (maxLocals := maxL) (ret := ret) hy ?_ ?_
  · intro args s m h hn
    obtain ⟨meth, c, h1, h2, h3, h4, h5, h6, -, -⟩ := Cond.code_spec hn (atoms_spec (ws := ws) h _ (by rw [hw]; exact List.mem_cons_self))
    exact ⟨meth, c, h1, h2, h3, h4, h5, h6⟩
  · intro p e s m args below meth c s₁ B hml hP _
    have hh0 : s₁.heap = s.heap := by rw [B.state]; rfl
    have ht : ∀ x ∈ c.exceptionTable.toList, False := by
      obtain ⟨meth9, c9, h1, h2, -, -, -, -, h7, -⟩ := Cond.code_spec B.named (atoms_spec (ws := ws) B.pre _ (by rw [hw]; exact List.mem_cons_self))
      cases Option.some.inj (h1.symm.trans B.method)
      cases Option.some.inj (h2.symm.trans (Stand.of_body B).code)
      intro x hx
      rw [Array.isEmpty_iff.mp h7] at hx
      cases hx
    obtain ⟨t, a1, o, b1, b2, b3⟩ := body p e s m args below meth c s₁ B hml ht hP s₁ hh0 (Stand.of_body B)
    exact ⟨t, o, a1, b1, b2, b3⟩
/-- the table of a body with handlers -/
theorem vx_table {p : Program} {x y : MethodName} {S : Spec} {cc bytes : ByteArray} {maxL maxL' : Nat} {ret ret' : Option FieldType} {e : Env} {s s₁ : State} {m : MethodId} {args : Array Value} {below : List Frame} {meth : Method} {c : Code} {hh : List (Nat × Nat × Nat × Nat)}
    (B : BodyLoose p l y S cc maxL ret e s m args below meth c s₁) (h : (Cond.codeWith y bytes maxL' ret' hh).before args s = true) : c.exceptionTable.toList = tableOf hh := by
  obtain ⟨m9, meth9, c9, hn9, h1, h2, -, -, h6, -⟩ := Cond.codeWith_spec h
  cases Option.some.inj (hn9.symm.trans B.named)
  cases Option.some.inj (h1.symm.trans B.method)
  cases Option.some.inj (h2.symm.trans (Stand.of_body B).code)
  rw [← h6, table_eq]
end Bodies
end VXA
/-! ===== END ===== -/
/-! ===== BEGIN a static call of a method with an exception table ===== -/
section VXS
variable {p : Program} {l : Launch} {e : Env} {R : Room} {s : State} {m : MethodId} {args : Array Value} {below : List Frame} {meth : Method} {c : Code} {T : State} {H : Heap} {locs : List Loc} {cells slots : Nat}
abbrev vx_CSW (R : Room) (s : State) (args : Array Value) (own : String) (index : Nat) (y : MethodName) (bytes : ByteArray) (maxL : Nat) (ret : Option FieldType) (hh : List (Nat × Nat × Nat × Nat)) (ws : List Cond) (rm : Room) (mc ms n : Nat) : Prop :=
  (rm.cells = mc ∧ rm.slots = ms ∧ rm.frames + 1 ≤ R.frames ∧ 8 + (maxL + 11) + rm.locals ≤ R.locals ∧ (∀ w ∈ ws, ∀ (a' : Array Value) (U : State), s.WarmedH U.vm → w.before a' U = true) ∧ Cond.codeWith y bytes maxL ret hh ∈ ws) ∧
  (Cond.codeWith y bytes maxL ret hh).before args s = true ∧ (Cond.initialized y.cls).before args s = true ∧ (y.cls ≠ "java/lang/invoke/MethodHandle" ∧ y.cls ≠ "java/lang/invoke/VarHandle") ∧
  (∀ sig, parseMethodDescriptor y.desc = some sig → n = sig.parameters.length) ∧ (Cond.methodLink own index y).before args s = true ∧ (Cond.static y).before args s = true
theorem vx_cwSW {own : String} {index maxL mc ms : Nat} {y : MethodName} {bytes : ByteArray} {ret : Option FieldType} {hh : List (Nat × Nat × Nat × Nat)} {Ts ws ws' : List Cond} {rm : Room} (n : Nat) (ht : ∀ w ∈ Ts, w.before args s = true) (hT : GoodIn Ts (va_wsS own index y ws)) (hw : ws = Cond.codeWith y bytes maxL ret hh :: ws') (hrc : rm.cells = mc) (hrs : rm.slots = ms)
    (hd : y.cls ≠ "java/lang/invoke/MethodHandle" ∧ y.cls ≠ "java/lang/invoke/VarHandle" ∧ (parseMethodDescriptor y.desc).map (fun d => d.parameters.length) = some n) (hR : rm.frames + 1 ≤ R.frames ∧ 8 + (maxL + 11) + rm.locals ≤ R.locals) :
    vx_CSW R s args own index y bytes maxL ret hh ws rm mc ms n := by
  have ok : ∀ w ∈ va_wsS own index y ws, w.before args s = true := fun w h => ht w (hT w h).1
  have hG : GoodIn Ts ws := fun w h => hT w (by unfold va_wsS; exact List.mem_append_right _ h)
  have hc : Cond.codeWith y bytes maxL ret hh ∈ ws := by rw [hw]; exact List.mem_cons_self
  refine ⟨⟨hrc, hrs, hR.1, hR.2, pay_in ht hG, hc⟩, ht _ (hG _ hc).1, ok _ (by simp [va_wsS]), ⟨hd.1, hd.2.1⟩, fun sig h => ?_, ok _ (by simp [va_wsS]), ok _ (by simp [va_wsS])⟩
  have h2 := hd.2.2
  rw [h] at h2
  exact (Option.some.inj h2).symm
theorem vx_callSW (X : Stand p l e R s m args below meth c T locs cells slots) (hexec : p.tables.exec = Jvm.exec) {own : String} {index : Nat} {y : MethodName} {bytes : ByteArray} {maxL : Nat} {ret : Option FieldType} {hh : List (Nat × Nat × Nat × Nat)}
    (hown : s.vm.findClass own = some m.cls) (hlink : (Cond.methodLink own index y).before args s = true) (hstat : (Cond.static y).before args s = true) (hinit : (Cond.initialized y.cls).before args s = true)
    (hcode : (Cond.codeWith y bytes maxL ret hh).before args s = true) (hy : y.cls ≠ "java/lang/invoke/MethodHandle" ∧ y.cls ≠ "java/lang/invoke/VarHandle")
    {W9 : Nat} {Pre : Pt → Array Value → Prop} {Post : Pt → Array Value → Option Value → Pt → Prop} (hK : Back l R p e below s args y 3 W9 Pre Post)
    {g : JFrame} (hg : g.method = m) (hsize : g.locals.size = c.maxLocals) {argsL rest : List Value} (hlen : ∀ sig, parseMethodDescriptor y.desc = some sig → argsL.length = sig.parameters.length)
    (hstack : g.stack = argsL.reverse ++ rest) (hW : 2 * g.monitorRoom + (rest.map fun v => v.category).sum ≤ W9) (hdg : decode c.code g.pc = .ok (.invokestatic index, 3))
    (hpre : ∀ vm₁, s.WarmedH vm₁ → Pre ⟨T.setVm vm₁, locs, cells, slots⟩ argsL.toArray) :
    ∃ (v : Option Value) (vm₁ : Vm) (B : Pt), s.WarmedH vm₁ ∧ Stand p l e R s m args below meth c B.U B.locs B.cells B.slots ∧ Post ⟨T.setVm vm₁, locs, cells, slots⟩ argsL.toArray v B ∧
      ∀ target, Steps p.tables e below (B.U.setTop { g with pc := g.pc + 3, stack := v.toList ++ rest }) target → Steps p.tables e below (T.setTop g) target := by
  obtain ⟨mk, methM, cM, hnamed, hmethM, -, -, -, -, -, -, hsigM⟩ := Cond.codeWith_spec hcode
  have hstatic : methM.isStatic = true := Cond.static_spec hnamed hmethM hstat
  obtain ⟨kP, hkP, -⟩ := className_of_methodNamed hnamed
  have hinitP : kP.init = .initialized := Cond.initialized_spec (findClass_of_methodNamed hnamed) hkP hinit
  obtain ⟨vm₁, X₁, hstep₁⟩ := X.invokestatic hexec hown hlink hnamed hmethM hstatic hkP hinitP hy (g := g) hg (argsL := argsL) (rest := rest) (hlen _ hsigM) hstack hdg
  obtain ⟨v, B, X', hpost, hsteps⟩ := hK m meth c ⟨T.setVm vm₁, locs, cells, slots⟩ { g with stack := rest } (.invokestatic index) mk argsL.toArray X₁ hg hsize hdg hW (X₁.named hnamed) (hpre vm₁ X₁.warmed)
  exact ⟨v, vm₁, B, X₁.warmed, X', hpost, fun target h => hstep₁ _ fun acts => by rw [doInvoke_state]; exact hsteps.trans h⟩
theorem vx_runSW {y : MethodName} {bytes cc : ByteArray} {maxL nL mc ms n index : Nat} {ret : Option FieldType} {hh : List (Nat × Nat × Nat × Nat)} {ws : List Cond} {rm : Room} {Pc : Array Value → State → Prop} {Qc : Array Value → State → Outcome → State → Prop} {free : Addr → Prop} {Ts : List Cond} {own : String} {As rest : List Value} {g : JFrame}
    (S : CallFix p m c cc nL s args Ts own) (hM : Met l y ws rm Pc Qc mc ms free) (cw : vx_CSW R s args own index y bytes maxL ret hh ws rm mc ms n) (hp : PreS s H Pc As)
    (hg : g.method = m) (hn : As.length = n) (hsize : g.locals.size = nL) (hstack : g.stack = As.reverse ++ rest) (hW : 2 * g.monitorRoom + (rest.map fun v => v.category).sum ≤ 8) (hdg : decode cc g.pc = .ok (.invokestatic index, 3)) (hf : cells + mc ≤ R.cells ∧ slots + ms ≤ R.slots) :
    va_Run p l e R s m args below meth c H locs cells slots mc ms g rest (Qc As.toArray) (free) := by
  obtain ⟨⟨hrc, hrs, hfr, hlo, hws, hcw⟩, hcode, hini, hy, hlen, hl, hstt⟩ := cw
  have hK : Back l R p e below s args y 3 8 (PreOf R mc ms Pc) (PostOf Qc mc ms free) := va_backW (hh := hh) (bytes := bytes) (maxL := maxL) (ret := ret) hM hp.1 hrc hrs hfr hlo hws hcw (fun a' U hW => word_at hW (Or.inl (by first | rfl | simp [Cond.onTables, Cond.keeps, Cond.steady])) hini)
  obtain ⟨hx, hb, hml, ho, -⟩ := S
  intro T hT X
  obtain ⟨v, vm₁, ⟨U', l2, c2, s2⟩, hW₁, X', ⟨g', mk, t, L, e1, e2, hq, h1, hL, h2, h3⟩, st⟩ := vx_callSW X hx (hh := hh) (bytes := bytes) (maxL := maxL) (ret := ret) ho hl hstt hini hcode hy hK hg (hsize.trans hml.symm) (argsL := As) (rest := rest) (fun sig h => hn.trans (hlen sig h)) hstack hW (by rw [hb]; exact hdg)
    (fun vm₁ hW₁ => ⟨hf.1, hf.2, hp.2 (T.setVm vm₁) hT hW₁⟩)
  dsimp only [Pt.U, Pt.locs, Pt.cells, Pt.slots] at X' e1 e2 h1 h2 h3 st
  subst h1; subst h2; subst h3
  exact ⟨v, (T.setVm vm₁).calling g' mk As.toArray, t, U', L, hT, X', hL, e1, e2, hq, st⟩
/-- a thing of a world lies in the heap -/
theorem vx_lt {D : va_G} {cl : List vw_C} {ws : va_W} {H1 : Heap} (h : va_P D cl ws H1) {k : Nat} {q : Nat × va_E} (hk : ws[k]? = some q) : q.1 < H1.size := (h k q hk).lt
end VXS
/-! ===== END ===== -/
end
section
/-! what a method with ONE row in its table catches: the search finds the row, the class of the row is linked on the way -/
section XC
theorem xc_find {e : Env} {s : State} {f : JFrame} {a : Addr} {meth : Method} {code : Code} {x : ExceptionTableEntry} {k : ClassId} {cell : Cell} (hm : s.vm.method? f.method = some meth) (hc : meth.code = some code) (hs : code.exceptionTable.toList = [x])
    (hx : covers x f.pc = true) (h0 : x.catchType ≠ 0) (hl : s.vm.ClassLinks e.platform f.method.cls x.catchType k) (hcell : s.heap[a]? = some cell) (hobj : ∀ z, cell.vm ≠ .statics z)
    (hk : ∃ z, s.vm.classes[cell.cls]? = some z) (hk2 : ∃ z, s.vm.classes[k]? = some z) (hfit : s.vm.assignable cell.cls k = true) (Q : Handler → Pre) (E : CtlPost) (d : Bool) (acts : List Action) :
    wp (findHandler f a) Q E e d acts s ↔ Q (.found x.handlerPc) d acts (s.setVm (s.vm.noted f.method.cls x.catchType (.cls k))) := by
  rw [W.findHandler_eq hm hc, hs]
  simp only [covers] at hx
  obtain ⟨o1, o2⟩ := (resolveClass_links e.toSetting hl).op (op := VmOp.resolveClass f.method.cls x.catchType) rfl
  have al : s.vm.Alike (s.vm.noted f.method.cls x.catchType (.cls k)) := (Vm.Alike.refl s.vm).noted _ _ _
  obtain ⟨z1, hz1⟩ := hk
  obtain ⟨z2, hz2⟩ := hk2
  obtain ⟨y1, hy1, -⟩ := al.2.2 _ _ hz1
  obtain ⟨y2, hy2, -⟩ := al.2.2 _ _ hz2
  have hft : (s.vm.noted f.method.cls x.catchType (.cls k)).assignable cell.cls k = true := by rw [al.assignable]; exact hfit
  simp [findHandler.go, hx, h0, o1, o2, hcell, hobj, hy1, hy2, hft, VmOp.dirties, VmOp.acts]
theorem xc_go {tb9 : Tables} {e : Env} {s target : State} {g : JFrame} {c : Code} {below : List Frame} {a : Addr} (h : At s g.method c below) {pc : Nat} {vm' : Vm}
    (hfind : ∀ (Q : Handler → Pre) (E : CtlPost) (d : Bool) (acts : List Action), wp (findHandler g a) Q E e d acts ((s.setTop g).pushFrame (.throwing a)) ↔ Q (.found pc) d acts (((s.setTop g).pushFrame (.throwing a)).setVm vm'))
    (hrest : Steps tb9 e below ((s.setVm vm').setTop { g with pc := pc, stack := [.ref a] }) target) : Steps tb9 e below ((s.setTop g).pushFrame (.throwing a)) target := by
  have key : ∀ (u : State) (r : List Frame), (∀ (Q : Handler → Pre) (E : CtlPost) (d : Bool) (acts : List Action), wp (findHandler g a) Q E e d acts u ↔ Q (.found pc) d acts (u.setVm vm')) → (stepThrowing e u a (.java g :: r)).Is ((u.setVm vm').setFrames (.java { g with pc := pc, stack := [.ref a] } :: r)) [] := by
    intro u r hu
    simp only [stepThrowing, searchFrame, vmDo]
    generalize hr : Sem.go _ e false [] u = res
    obtain ⟨as, rfl, ha⟩ := Sem.eq_ok_of hr (a := Handler.found pc) (s' := u.setVm vm') (acts' := []) (by simp [hu _ _ _ _])
    exact ⟨rfl, ha⟩
  obtain ⟨hgo, hw⟩ := h.throwing a
  refine Steps.head hgo hw ?_
  rw [stepThread_throwing (frames_entered h.top _), (key ((s.setTop g).pushFrame (.throwing a)) _ hfind).1]
  obtain ⟨g₀, hg⟩ := Option.isSome_iff_exists.mp h.top
  obtain ⟨r, hr⟩ := State.topJava?_eq_some.mp hg
  have hr2 : (s.setVm vm').frames = .java g₀ :: r := hr
  have fl : ∀ (u : State) (F G : List Frame), ((u.setFrames F).setVm vm').setFrames G = (u.setVm vm').setFrames G := by
    intro u F G
    have h1 : (u.setFrames F).setVm vm' = (u.setVm vm').setFrames F := rfl
    rw [h1, State.setFrames_setFrames]
  rw [State.setTop_of_frames _ hr2] at hrest
  rw [hr, List.tail_cons, State.pushFrame, fl, State.setTop_of_frames _ hr, fl]
  exact hrest
variable {p : Program} {l : Launch} {e : Env} {R : Room} {s : State} {m : MethodId} {args : Array Value} {below : List Frame} {meth : Method} {c : Code} {H : Heap} {locs : List Loc} {cells slots : Nat} {Q : State → Prop} {pc : Nat} {ls : Array Slot} {rest : List Value}
theorem xc_catch {own name E : String} {ce : Cell} {q : Addr} (hown : s.vm.findClass own = some m.cls) (x : ExceptionTableEntry) (hs : c.exceptionTable.toList = [x]) (hx : covers x pc = true) (h0 : x.catchType ≠ 0)
    (hlink : (Cond.classLink own x.catchType name).before args s = true) (hcast : (Cond.castable E name).before args s = true) (hcell : H[q]? = some ce) (hv : ce.vm = .none) (hcl : s.vm.findClass E = some ce.cls)
    (kk : W p l e R s m args below meth c H locs cells slots Q (F0 m x.handlerPc ls [.ref q])) : vx_W p l e R s m args below meth c H locs cells slots Q (F0 m pc ls rest) q := by
  intro T hT X
  have hpl : e.platform.magicAccessors = ({} : Platform).magicAccessors := by rw [X.admits.platform]
  obtain ⟨c3, c4, hc3, hc4, hasg⟩ := Cond.castable_spec hcast
  cases Option.some.inj (hc3.symm.trans hcl)
  obtain ⟨c5, hc5, hcl5⟩ := Cond.classLink_spec hown hlink e.platform hpl
  cases Option.some.inj (hc4.symm.trans hc5)
  obtain ⟨dk, _, _, kt, hd, _, _, _, _, hkt, _, hopen⟩ := hcl5.here
  have hal := X.warmed.alike
  obtain ⟨kt2, hkt2, -⟩ := hal.2.2 _ _ hkt
  have hfit : T.vm.assignable ce.cls c4 = true := by rw [hal.assignable]; exact hasg
  have hW2 : s.WarmedH (T.vm.noted m.cls x.catchType (.cls c4)) := X.warmed.noted hd hopen (State.rightAt_cls hcl5)
  obtain ⟨t, a1, b1⟩ := kk (T.setVm (T.vm.noted m.cls x.catchType (.cls c4))) hT (X.noted hW2)
  refine ⟨t, ?_, b1⟩
  exact xc_go (g := F0 m pc ls rest) X.here (xc_find (s := (T.setTop (F0 m pc ls rest)).pushFrame (.throwing q)) (f := F0 m pc ls rest) (meth := meth) (code := c) X.method' X.code hs hx h0 (X.warmed.classLinks hcl5) (by show T.heap[q]? = some ce; rw [hT]; exact hcell) (fun z h => by rw [hv] at h; cases h)
    (Vm.classAt_of_assignable hfit ⟨kt2, hkt2⟩) ⟨kt2, hkt2⟩ hfit) a1
end XC
end
section
/-! methods that answer an int or throw IndexOutOfBoundsException with a written text -/
abbrev ioob : String := "java/lang/IndexOutOfBoundsException"
/-- what a throw needs of the state beyond the words: two statics of Throwable, words that speak of the tables as they are, the text -/
def TX (is : Nat) (text : String) (A : Nat → Prop) (U : State) : Prop :=
  vx_Zq Bundle.tN "UNASSIGNED_STACK" Bundle.steD A U U.heap ∧ vx_Zq Bundle.tN "SUPPRESSED_SENTINEL" Bundle.listD A U U.heap ∧ va_Nw (.castable ioob ioob) U ∧ va_Nw (.declares (Bundle.initS "java/lang/RuntimeException")) U ∧ va_Nw (.declares (Bundle.initS "java/lang/Exception")) U ∧ va_Nw (.declares (Bundle.initS Bundle.tN)) U ∧ ∃ sa, vk_R RX7 is text sa U
theorem TX.moved {is : Nat} {text : String} {A B : Nat → Prop} {s U : State} {locs : List Loc} (h : TX is text A s) (hS : va_S A s.heap U.heap locs) (hW : s.WarmedH U.vm) (hAB : ∀ q, B q → A q) : TX is text B U := by
  obtain ⟨h1, h2, h3, h4, h5, h6, sa, h7⟩ := h
  have hq : ∀ a : Nat, a < s.heap.size → ¬ A a → U.heap[a]? = s.heap[a]? := fun a h1 h2 => hS.2.1 a h1 h2
  exact ⟨((h1.kept hq).moved hW.alike).narrow hAB, ((h2.kept hq).moved hW.alike).narrow hAB, h3.warmC hW, h4.warmD hW, h5.warmD hW, h6.warmD hW, sa, h7.warm hW⟩
theorem tx_good : ∀ w ∈ (vx_atS RX7 122 ioob ["java/lang/RuntimeException", "java/lang/Exception"]).filter goodWord, w ∈ tb := fun w h => List.mem_filter.mpr ⟨(by decide +kernel : ∀ w ∈ (vx_atS RX7 122 ioob ["java/lang/RuntimeException", "java/lang/Exception"]).filter goodWord, w ∈ lw_tbl) w h, (List.mem_filter.mp h).2⟩
theorem tx_rest : ∀ w ∈ (vx_atS RX7 122 ioob ["java/lang/RuntimeException", "java/lang/Exception"]).filter (fun w => !goodWord w), w ∈ [Cond.castable ioob ioob, Cond.declares (Bundle.initS "java/lang/RuntimeException"), Cond.declares (Bundle.initS "java/lang/Exception"), Cond.declares (Bundle.initS Bundle.tN)] := by decide +kernel
theorem tx_ot : ∀ w ∈ Cond.classLink RX7 118 ioob :: Cond.initialized ioob :: vx_atS RX7 122 ioob ["java/lang/RuntimeException", "java/lang/Exception"], vx_ot w = true := by decide +kernel
abbrev Qo (D : va_G) (w : St → va_W) (A : Nat → Prop) (x : Option Int32 × St) : Array Value → State → Outcome → State → Prop := va_Qi (fun (r : Int32) (u : St) => (some r, u) = x) (Bo D w A) A
abbrev Xo (D : va_G) (w : St → va_W) (A : Nat → Prop) (x : Option Int32 × St) : String → State → State → Prop := vx_X (fun (u : St) => ((none : Option Int32), u) = x) (fun (E : String) (u : St) (t : State) => E = ioob ∧ Bo D w A u t) A
/-- the contract of a method that answers or throws -/
def Mx (l : Launch) (D : va_G) (w : St → va_W) (a : Nat → Nat) (n : Nat) (cI cJ : ClassId) (tk : Nat) (tf : Nat → Int32) (is : Nat) (text : String) (y : MethodName) (cc : ByteArray) (mL : Nat) (ret : Option FieldType) (rm : Room) (As : List Value) (S : St) (x : Option Int32 × St) : Prop :=
  ∀ sz, vx_Met l y (.code y cc mL ret :: tb) rm (va_Pc As (fun U => Pr D w a n cI cJ tk tf sz S U ∧ TX is text (AR a n sz) U)) (Qo D w (AR a n sz) x) (Xo D w (AR a n sz) x) 1 6 (AR a n sz)
section RT
variable {p : Program} {l : Launch} {e : Env} {R : Room} {s : State} {m : MethodId} {args : Array Value} {below : List Frame} {meth : Method} {c : Code} {H : Heap} {locs : List Loc} {cells slots : Nat} {Q : State → Prop}
variable {cc : ByteArray} {nL : Nat} {D : va_G} {cI cJ : ClassId} {tk : Nat} {tf : Nat → Int32} {A : Nat → Prop} {w : St → va_W} {S : St} {pc : Nat} {ls : Array Slot} {rest : List Value}
theorem r_xret {own : String} {x : Option Int32 × St} {v : Int32} {XC : String → State → State → Prop} (C : Cx p s m args meth c own cc nL D cI cJ tk tf A) (hr : meth.sig.returnType = some .int) (G : Wd D w A s S H locs) (hf : some (some v, S) = some x) (hdg : decode cc pc = .ok (.ireturn, 1)) (hz : cells ≤ 1 ∧ slots ≤ 6) : W p l e R s m args below meth c H locs cells slots (vx_MQ below (Qo D w A x) XC args s 1 6 A) (F0 m pc ls [.int v]) := by
  obtain ⟨hx, hb, -, -, -, -, hlocks, -⟩ := C
  refine vx_ret (W.widen (k := 1) (n := 6) hz.1 hz.2 ?_)
  exact W.iret hx hb hr (fun t ht _ => ⟨⟨v, S, rfl, Option.some.inj hf, by rw [ht]; exact G.1, G.2.1⟩, G.2.2.F ht⟩) G.2.2.2.2 hdg hlocks
theorem r_thr {x : Option Int32 × St} {is : Nat} {text : String} {Qc : Array Value → State → Outcome → State → Prop} (hlx : l.stackTraces = false) (C : Cx p s m args meth c RX7 cc nL D cI cJ tk tf A) (hno : ∀ z ∈ c.exceptionTable.toList, False) (X : TX is text A s) (G : Wd D w A s S H locs) (hf : some ((none : Option Int32), S) = some x) (hsize : ls.size = nL)
    (d0 : decode cc pc = .ok (.new 118, 3)) (d3 : decode cc (pc + 3) = .ok (.dup, 1)) (d4 : decode cc (pc + 4) = .ok (.ldc is, 2)) (d6 : decode cc (pc + 6) = .ok (.invokespecial 122, 3)) (d9 : decode cc (pc + 9) = .ok (.athrow, 1))
    (hRf : 5 < R.frames) (hRl : (rest.map fun v => v.category).sum + 82 ≤ R.locals) (hRc : cells + 1 ≤ R.cells) (hRs : slots + 6 ≤ R.slots) (hz : cells = 0 ∧ slots = 0) :
    W p l e R s m args below meth c H locs cells slots (vx_MQ below Qc (Xo D w A x) args s 1 6 A) (F0 m pc ls rest) := by
  obtain ⟨hx, hb, hml, hown, hts, -, hlocks, -⟩ := C
  obtain ⟨hU, hN, x1, x2, x3, x4, sa, hstr⟩ := X
  obtain ⟨rfl, rfl⟩ := hz
  refine vx_throwS (own := RX7) (cls := ioob) (names := ["java/lang/RuntimeException", "java/lang/Exception"]) (A := A) hx hb hlx hown (by decide +kernel) (by decide +kernel) (hts _ k_618) (hts _ k_72) hstr
    (vx_hat (fun w hw => hts w (tx_good w hw)) tx_rest (vx_c (va_Nw.use rfl x1) (vx_c (va_Nw.use rfl x2) (vx_c (va_Nw.use rfl x3) (vx_c (va_Nw.use rfl x4) vx_n))))) tx_ot hU hN G.2.2 (by rw [hsize, hml]) d0 d3 d4 d6 d9 (fun z hz => (hno z hz).elim) hRf hRl hRc hRs hlocks
    (fun t hal hsz hk => ⟨S, Option.some.inj hf, ⟨rfl, G.1.kept (fun k q hq => hk q.1 (G.1 k q hq).lt), G.2.1⟩, Nat.le_trans G.2.2.1 hsz, fun q h1 h2 => by rw [hk q (Nat.lt_of_lt_of_le h1 G.2.2.1)]; exact G.2.2.2.1 q h1 h2⟩) G.2.2.2.2 (Nat.le_refl _) (Nat.le_refl _)
end RT
theorem TX.blind {is : Nat} {text : String} {A : Nat → Prop} {U : State} {g : JFrame} {mk : MethodId} {v : Array Value} (h : TX is text A U) : TX is text A (U.calling g mk v) := by
  obtain ⟨h1, h2, h3, h4, h5, h6, sa, h7⟩ := h
  have al : U.vm.Alike (U.calling g mk v).vm := Vm.Alike.refl U.vm
  exact ⟨h1.moved al, h2.moved al, h3.same rfl rfl, h4.same rfl rfl, h5.same rfl rfl, h6.same rfl rfl, sa, h7.same rfl⟩
theorem opn_x {l : Launch} {D : va_G} {w : St → va_W} {a : Nat → Nat} {n : Nat} {cI cJ : ClassId} {tk : Nat} {tf : Nat → Int32} {is : Nat} {text : String} {y : MethodName} {cc : ByteArray} {mL : Nat} {ret : Option FieldType} {rm : Room} {As : List Value} {S : St} {x : Option Int32 × St} (hy : plainName y.cls = true) (hn : (lg_sl As).length ≤ mL)
    (h : ∀ (p : Program) (e : Env) (s : State) (m : MethodId) (below : List Frame) (meth : Method) (c : Code), Cx p s m As.toArray meth c y.cls cc mL D cI cJ tk tf (AR a n s.heap.size) → TX is text (AR a n s.heap.size) s → (∀ z ∈ c.exceptionTable.toList, False) → meth.sig.returnType = ret → Wd D w (AR a n s.heap.size) s S s.heap [] → ∀ ls, lv_has ls mL (lv_args 0 As) →
      W p l e rm s m As.toArray below meth c s.heap [] 0 0 (vx_MQ below (Qo D w (AR a n s.heap.size) x) (Xo D w (AR a n s.heap.size) x) As.toArray s 1 6 (AR a n s.heap.size)) (F0 m 0 ls [])) : Mx l D w a n cI cJ tk tf is text y cc mL ret rm As S x := by
  intro sz
  refine vx_ofW (cc := cc) (maxL := mL) (ret := ret) hy rfl ?_
  intro p e s m args below meth c s₁ B hml hno hv
  obtain ⟨rfl, ⟨hsz, hP, hK, hD, hT⟩, hX⟩ := hv
  subst hsz
  rw [lg_entry_eq]
  exact h p e s m below meth c ⟨B.exec, B.bytes, hml, findClass_of_methodNamed B.named, fun w hw => atoms_spec (ws := .code y cc mL ret :: tb) B.pre w (List.mem_cons_of_mem _ hw), hK, B.notSynchronized, hT⟩ hX hno B.returns ⟨hP, hD, va_S.rf⟩ _ (lv_entry As hn)
end
section
theorem dJ7_fill_53178_0 : decode cJ7_fill_53178 0 = .ok (.iconst 0, 1) := by decide +kernel
theorem dJ7_fill_53178_1 : decode cJ7_fill_53178 1 = .ok (.istore_n 2, 1) := by decide +kernel
theorem dJ7_fill_53178_2 : decode cJ7_fill_53178 2 = .ok (.aload_n 0, 1) := by decide +kernel
theorem dJ7_fill_53178_3 : decode cJ7_fill_53178 3 = .ok (.arraylength, 1) := by decide +kernel
theorem dJ7_fill_53178_4 : decode cJ7_fill_53178 4 = .ok (.istore_n 3, 1) := by decide +kernel
theorem dJ7_fill_53178_5 : decode cJ7_fill_53178 5 = .ok (.iload_n 2, 1) := by decide +kernel
theorem dJ7_fill_53178_6 : decode cJ7_fill_53178 6 = .ok (.iload_n 3, 1) := by decide +kernel
theorem dJ7_fill_53178_7 : decode cJ7_fill_53178 7 = .ok (.if_icmp .ge 13, 3) := by decide +kernel
theorem dJ7_fill_53178_10 : decode cJ7_fill_53178 10 = .ok (.aload_n 0, 1) := by decide +kernel
theorem dJ7_fill_53178_11 : decode cJ7_fill_53178 11 = .ok (.iload_n 2, 1) := by decide +kernel
theorem dJ7_fill_53178_12 : decode cJ7_fill_53178 12 = .ok (.iload_n 1, 1) := by decide +kernel
theorem dJ7_fill_53178_13 : decode cJ7_fill_53178 13 = .ok (.iastore, 1) := by decide +kernel
theorem dJ7_fill_53178_14 : decode cJ7_fill_53178 14 = .ok (.iinc 2 1, 3) := by decide +kernel
theorem dJ7_fill_53178_17 : decode cJ7_fill_53178 17 = .ok (.goto (-12), 3) := by decide +kernel
theorem dJ7_fill_53178_20 : decode cJ7_fill_53178 20 = .ok (.return_, 1) := by decide +kernel
end
section
/-! walks over a world that is a plain list of cells: constructors, the law -/
def Wl (D : va_G) (A : Nat → Prop) (s : State) (ws : va_W) (H : Heap) (locs : List Loc) : Prop := va_P D vwCl ws H ∧ va_D A ws ∧ va_S A s.heap H locs
/-- the links of constructors that are closed to all but their nest -/
def nestW : List Cond := [.methodLinkNest RX7 9 yX4_init "ErrorNames", .methodLinkNest RX7 18 yX2_init "ErrorNames", .methodLinkNest RX7 39 yX0_init "ErrorNames", .methodLinkNest RX7 46 yX5_init "ErrorNames", .methodLinkNest RX5 11 yX2_init "ErrorNames"]
def NL (U : State) : Prop := va_Nw (.methodLinkNest RX7 9 yX4_init "ErrorNames") U ∧ va_Nw (.methodLinkNest RX7 18 yX2_init "ErrorNames") U ∧ va_Nw (.methodLinkNest RX7 39 yX0_init "ErrorNames") U ∧ va_Nw (.methodLinkNest RX7 46 yX5_init "ErrorNames") U ∧ va_Nw (.methodLinkNest RX5 11 yX2_init "ErrorNames") U
theorem NL.warm {s U : State} (h : NL s) (hW : s.WarmedH U.vm) : NL U := ⟨h.1.warmM hW, h.2.1.warmM hW, h.2.2.1.warmM hW, h.2.2.2.1.warmM hW, h.2.2.2.2.warmM hW⟩
theorem NL.blind {U : State} {g : JFrame} {mk : MethodId} {v : Array Value} (h : NL U) : NL (U.calling g mk v) := ⟨h.1.same rfl rfl, h.2.1.same rfl rfl, h.2.2.1.same rfl rfl, h.2.2.2.1.same rfl rfl, h.2.2.2.2.same rfl rfl⟩
/-- a constructor's start, over the cells ws0 -/
def Pk (D : va_G) (cI cJ : ClassId) (tk : Nat) (tf : Nat → Int32) (sz : Nat) (ws0 : va_W) (U : State) : Prop :=
  U.heap.size = sz ∧ va_P D vwCl ws0 U.heap ∧ va_K D vwCl [(cI, .int), (cJ, .long)] U ∧ va_D (va_A ws0 sz) ws0 ∧ TK tk tf (va_A ws0 sz) U ∧ NL U
/-- a constructor's contract: the cells behind it, by the addresses of the new ones -/
def Mk (l : Launch) (D : va_G) (cI cJ : ClassId) (tk : Nat) (tf : Nat → Int32) (y : MethodName) (cc : ByteArray) (mL : Nat) (rm : Room) (As : List Value) (ws0 : va_W) (post : (Nat → Nat) → va_W) (mc ms : Nat) : Prop :=
  ∀ sz, Met l y (.code y cc mL none :: tb) rm (va_Pc As (Pk D cI cJ tk tf sz ws0)) (va_Qv (fun _ : Nat → Nat => True) (fun b t => va_P D vwCl (post b) t.heap ∧ va_D (va_A ws0 sz) (post b)) (va_A ws0 sz)) mc ms (va_A ws0 sz)
theorem Pk.blind {D : va_G} {cI cJ : ClassId} {tk : Nat} {tf : Nat → Int32} {sz : Nat} {ws0 : va_W} {As : List Value} : FrameBlind (va_Pc As (Pk D cI cJ tk tf sz ws0)) := by
  intro v U g mk hq
  obtain ⟨h1, h2, h3, h4, h5, ⟨h6, h7⟩, h8⟩ := hq
  exact ⟨h1, h2, h3, va_K.moved (u := U) (U := U.calling g mk v) (Vm.Alike.refl U.vm) h4, h5, ⟨va_Z.moved (u := U) (U := U.calling g mk v) (Vm.Alike.refl U.vm) h6, va_T.moved (u := U) (U := U.calling g mk v) (Vm.Alike.refl U.vm) h7⟩, h8.blind⟩
theorem ar_same {D : va_G} {cI cJ cA : ClassId} {s : State} (h : va_K D vwCl ([(cI, .int), (cJ, .long)] ++ [(cA, .int)]) s) : cA = cI := by
  have h1 : s.vm.findClass ("[" ++ FieldType.int.toString) = some cI := (h.2 0 _ rfl).2
  have h2 : s.vm.findClass ("[" ++ FieldType.int.toString) = some cA := (h.2 2 _ rfl).2
  exact Option.some.inj (h2.symm.trans h1)
theorem ar_sameJ {D : va_G} {cI cJ cA : ClassId} {s : State} (h : va_K D vwCl ([(cI, .int), (cJ, .long)] ++ [(cA, .long)]) s) : cA = cJ := by
  have h1 : s.vm.findClass ("[" ++ FieldType.long.toString) = some cJ := (h.2 1 _ rfl).2
  have h2 : s.vm.findClass ("[" ++ FieldType.long.toString) = some cA := (h.2 2 _ rfl).2
  exact Option.some.inj (h2.symm.trans h1)
section LW
variable {p : Program} {l : Launch} {e : Env} {R : Room} {s : State} {m : MethodId} {args : Array Value} {below : List Frame} {meth : Method} {c : Code} {H : Heap} {locs : List Loc} {cells slots : Nat} {Q : State → Prop}
variable {own : String} {cc : ByteArray} {nL : Nat} {D : va_G} {cI cJ : ClassId} {tk : Nat} {tf : Nat → Int32} {A : Nat → Prop} {ws : va_W} {pc : Nat} {ls : Array Slot} {rest : List Value}
theorem l_newI (C : Cx p s m args meth c own cc nL D cI cJ tk tf A) (hA : ∀ q, s.heap.size ≤ q → A q) (G : Wl D A s ws H locs) {n : Int32} (N : Nat) (hn : ¬ n < 0) (hN : n.toNatClampNeg = N) (hby : N * componentBytes .int ≤ 536870912) (hc : cells + 1 ≤ R.cells) (hs : slots + N ≤ R.slots) (hdg : decode cc pc = .ok (.newarray .int, 2))
    (kk : ∀ (q : Nat) (H : Heap), Wl D A s (ws ++ [(q, .inl (cI, N, .inl (fun _ => 0)))]) H locs → W p l e R s m args below meth c H locs (cells + 1) (slots + N) Q (F0 m (pc + 2) ls (.ref q :: rest))) : W p l e R s m args below meth c H locs cells slots Q (F0 m pc ls (.int n :: rest)) := by
  obtain ⟨hx, hb, -, -, hts, hK, -, -⟩ := C
  refine va_newa (atype := .int) (ty := .int) (a0 := (N, .inl (fun _ => 0))) hx hb (hts _ k_97) rfl hK G.1 G.2.1 G.2.2 hA (fun _ => rfl) hn hN hby hc hs hdg (fun q cA H1 hK1 hP hD hS => ?_)
  obtain rfl := ar_same hK1
  exact kk q H1 ⟨hP, hD, hS⟩
theorem l_newJ (C : Cx p s m args meth c own cc nL D cI cJ tk tf A) (hA : ∀ q, s.heap.size ≤ q → A q) (G : Wl D A s ws H locs) {n : Int32} (N : Nat) (hn : ¬ n < 0) (hN : n.toNatClampNeg = N) (hby : N * componentBytes .long ≤ 536870912) (hc : cells + 1 ≤ R.cells) (hs : slots + N ≤ R.slots) (hdg : decode cc pc = .ok (.newarray .long, 2))
    (kk : ∀ (q : Nat) (H : Heap), Wl D A s (ws ++ [(q, .inl (cJ, N, .inr (.inl (fun _ => 0))))]) H locs → W p l e R s m args below meth c H locs (cells + 1) (slots + N) Q (F0 m (pc + 2) ls (.ref q :: rest))) : W p l e R s m args below meth c H locs cells slots Q (F0 m pc ls (.int n :: rest)) := by
  obtain ⟨hx, hb, -, -, hts, hK, -, -⟩ := C
  refine va_newa (atype := .long) (ty := .long) (a0 := (N, .inr (.inl (fun _ => 0)))) hx hb (hts _ k_172) rfl hK G.1 G.2.1 G.2.2 hA (fun _ => rfl) hn hN hby hc hs hdg (fun q cA H1 hK1 hP hD hS => ?_)
  obtain rfl := ar_sameJ hK1
  exact kk q H1 ⟨hP, hD, hS⟩
theorem l_new (C : Cx p s m args meth c own cc nL D cI cJ tk tf A) (hA : ∀ q, s.heap.size ≤ q → A q) (G : Wl D A s ws H locs) {Cn : String} {T : u_T} {N ci index : Nat} {fs : List Value} (hin : ∀ w' ∈ u_ws Cn T N, w' ∈ tb) (ty0 : Nat → FieldType) (hty : ∀ k, k < N → parseFieldDescriptor (T k).2.2.1 = some (ty0 k)) (h1 : Cond.classLink own index Cn ∈ tb) (h2 : Cond.instantiable Cn N ∈ tb) (h3 : Cond.initialized Cn ∈ tb) (hci : vwCl[ci]? = some (Cn, T, N)) (hfs : ∀ j, j < N → defaultValue (ty0 j) = vp_V fs j) (hc : cells + 1 ≤ R.cells) (hs : slots + N ≤ R.slots) (hdg : decode cc pc = .ok (.new index, 3))
    (kk : ∀ (q : Nat) (H : Heap), Wl D A s (ws ++ [(q, .inr (ci, fs))]) H locs → W p l e R s m args below meth c H locs (cells + 1) (slots + N) Q (F0 m (pc + 3) ls (.ref q :: rest))) : W p l e R s m args below meth c H locs cells slots Q (F0 m pc ls rest) := by
  obtain ⟨hx, hb, -, hown, hts, hK, -, -⟩ := C
  exact va_new (C := Cn) (T := T) (N := N) (fs := fs) hx hb hts hin ty0 hty hown (hts _ h1) (hts _ h2) (hts _ h3) hK G.1 G.2.1 G.2.2 hA hci hfs hc hs hdg (fun q H1 hP hD hS => kk q H1 ⟨hP, hD, hS⟩)
theorem l_get (C : Cx p s m args meth c own cc nL D cI cJ tk tf A) (G : Wl D A s ws H locs) {Cn ref : String} {T : u_T} {N ci index a : Nat} (q0 k : Nat) {fs : List Value} {v : Value} (hin : ∀ w' ∈ u_ws Cn T N, w' ∈ tb) (he : ws[q0]? = some (a, .inr (ci, fs))) (hc : vwCl[ci]? = some (Cn, T, N)) (hk : k < N) (hl : Cond.fieldLink own index ref (T k).2.1 (T k).2.2.1 ∈ tb) (hr : (T k).1 = ref) (hv : fs[k]? = some v) (hdg : decode cc pc = .ok (.getfield index, 3))
    (kk : W p l e R s m args below meth c H locs cells slots Q (F0 m (pc + 3) ls (v :: rest))) : W p l e R s m args below meth c H locs cells slots Q (F0 m pc ls (.ref a :: rest)) := by
  obtain ⟨hx, hb, -, hown, hts, hK, -, -⟩ := C
  subst hr
  exact va_get (ci := ci) (v := v) (C := Cn) (T := T) (N := N) hx hb hts hin hown hK G.1 q0 he hc k hk (hts _ hl) (fun _ h9 => h9) hv hdg kk
theorem l_putF (C : Cx p s m args meth c own cc nL D cI cJ tk tf A) (hin2 : meth.name = "<init>") (G : Wl D A s ws H locs) {Cn ref : String} {T : u_T} {N ci index a : Nat} (q0 k : Nat) {fs : List Value} {v : Value} {ws' : va_W} {ty : FieldType} (hin : ∀ w' ∈ u_ws Cn T N, w' ∈ tb) (ty0 : Nat → FieldType) (hty : ∀ k, k < N → parseFieldDescriptor (T k).2.2.1 = some (ty0 k)) (hnm : ∀ a, a < N → ∀ b, b < N → a ≠ b → (T a).2.1 ≠ (T b).2.1) (he : ws[q0]? = some (a, .inr (ci, fs))) (hc : vwCl[ci]? = some (Cn, T, N)) (hk : k < N) (hl : Cond.fieldLink own index ref (T k).2.1 (T k).2.2.1 ∈ tb) (hr : (T k).1 = ref) (hfin : (T k).2.2.2 = true) (hdecl : (T k).1 = own) (hd : parseFieldDescriptor (T k).2.2.1 = some ty) (hn : narrow ty v = v) (hfit : fits ty v = true) (hlen : k < fs.length) (hset : ws.set q0 (a, .inr (ci, fs.set k v)) = ws') (hdg : decode cc pc = .ok (.putfield index, 3))
    (kk : ∀ (H : Heap) (locs : List Loc), Wl D A s ws' H locs → W p l e R s m args below meth c H locs cells slots Q (F0 m (pc + 3) ls rest)) : W p l e R s m args below meth c H locs cells slots Q (F0 m pc ls (v :: .ref a :: rest)) := by
  obtain ⟨hx, hb, -, hown, hts, hK, -, -⟩ := C
  subst hr
  subst hset
  exact va_putF (ci := ci) (v := v) (ty := ty) (C := Cn) (T := T) (N := N) hx hb hts hin ty0 hty hnm hown hK G.1 G.2.1 G.2.2 q0 he hc k hk (hts _ hl) (fun _ h9 => h9) hfin hin2 hdecl hd hn hfit hlen hdg (fun H1 locs1 hP hD hS => kk H1 locs1 ⟨hP, hD, hS⟩)
theorem l_put (C : Cx p s m args meth c own cc nL D cI cJ tk tf A) (G : Wl D A s ws H locs) {Cn ref : String} {T : u_T} {N ci index a : Nat} (q0 k : Nat) {fs : List Value} {v : Value} {ws' : va_W} {ty : FieldType} (hin : ∀ w' ∈ u_ws Cn T N, w' ∈ tb) (ty0 : Nat → FieldType) (hty : ∀ k, k < N → parseFieldDescriptor (T k).2.2.1 = some (ty0 k)) (hnm : ∀ a, a < N → ∀ b, b < N → a ≠ b → (T a).2.1 ≠ (T b).2.1) (he : ws[q0]? = some (a, .inr (ci, fs))) (hc : vwCl[ci]? = some (Cn, T, N)) (hk : k < N) (hl : Cond.fieldLink own index ref (T k).2.1 (T k).2.2.1 ∈ tb) (hr : (T k).1 = ref) (hfin : (T k).2.2.2 = false) (hd : parseFieldDescriptor (T k).2.2.1 = some ty) (hn : narrow ty v = v) (hfit : fits ty v = true) (hlen : k < fs.length) (hset : ws.set q0 (a, .inr (ci, fs.set k v)) = ws') (hdg : decode cc pc = .ok (.putfield index, 3))
    (kk : ∀ (H : Heap) (locs : List Loc), Wl D A s ws' H locs → W p l e R s m args below meth c H locs cells slots Q (F0 m (pc + 3) ls rest)) : W p l e R s m args below meth c H locs cells slots Q (F0 m pc ls (v :: .ref a :: rest)) := by
  obtain ⟨hx, hb, -, hown, hts, hK, -, -⟩ := C
  subst hr
  subst hset
  exact va_put (ci := ci) (v := v) (ty := ty) (C := Cn) (T := T) (N := N) hx hb hts hin ty0 hty hnm hown hK G.1 G.2.1 G.2.2 q0 he hc k hk (hts _ hl) (fun _ h9 => h9) hfin hd hn hfit hlen hdg (fun H1 locs1 hP hD hS => kk H1 locs1 ⟨hP, hD, hS⟩)
theorem l_obj (C : Cx p s m args meth c own cc nL D cI cJ tk tf A) {idx a : Nat} (h1 : Cond.methodLink own idx objectInit ∈ tb) (h2 : Cond.instanceMethod objectInit ∈ tb) (h3 : Cond.code objectInit ⟨#[0xb1]⟩ 1 none ∈ tb) (hsize : ls.size = nL) (hd : decode cc pc = .ok (.invokespecial idx, 3)) (hf : 1 ≤ R.frames) (hlo : (rest.map fun v => v.category).sum + 12 ≤ R.locals)
    (kk : W p l e R s m args below meth c H locs cells slots Q (F0 m (pc + 3) ls rest)) : W p l e R s m args below meth c H locs cells slots Q (F0 m pc ls (.ref a :: rest)) := by
  obtain ⟨hx, hb, hml, hown, hts, hK, -, -⟩ := C
  exact W.objInit (g := F0 m pc ls (.ref a :: rest)) hx hb hown (hts _ h1) (hts _ h2) (hts _ h3) rfl (by rw [hml]; exact hsize) rfl hd hf (by show 2 * 0 + _ + 12 ≤ _; omega) kk
/-- what a constructor's call needs of the caller's list: its cells, cut out -/
theorem l_prek {wc : va_W} {As : List Value} (C : Cx p s m args meth c own cc nL D cI cJ tk tf A) (hA : ∀ q, s.heap.size ≤ q → A q) (hN : NL s) (G : Wl D A s ws H locs) (isC : List Nat) (hnd : va_nd isC = true) (hC : isC.map (fun i => ws[i]?) = wc.map some) : ∀ U : State, U.heap = H → s.WarmedH U.vm → va_Pc As (Pk D cI cJ tk tf H.size wc) As.toArray U := by
  intro U hU hW
  obtain ⟨-, -, -, -, -, hK, -, hT⟩ := C
  have hF := va_free G.2.1 G.2.2 hA isC hC
  have hDc := G.2.1.sub isC hnd hC
  have hsub : isC.filterMap (fun i => ws[i]?) = wc := by
    have h9 := congrArg (List.filterMap id) hC
    rwa [List.filterMap_map, List.filterMap_map, show (id ∘ some : Nat × va_E → Option (Nat × va_E)) = some from rfl, List.filterMap_some, show (id ∘ fun i => ws[i]?) = fun i => ws[i]? from rfl] at h9
  exact ⟨rfl, by rw [hU], by rw [hU]; exact G.1.sub isC hsub, va_K.moved hW.alike hK, hDc.self, hT.moved rfl (by rw [hU]; exact G.2.2) hW.alike hF, hN.warm hW⟩
theorem l_ctor {y : MethodName} {bytes : ByteArray} {mL na index b mc ms : Nat} {rm : Room} {As : List Value} {wc wr : va_W} {post : (Nat → Nat) → va_W} {st : List Value}
    (C : Cx p s m args meth c own cc nL D cI cJ tk tf A) (hA : ∀ q, s.heap.size ≤ q → A q) (hN : NL s) (G : Wl D A s ws H locs) (hM : Mk l D cI cJ tk tf y bytes mL rm (.ref b :: As) wc post mc ms)
    (h1 : Cond.methodLink own index y ∈ tb) (h2 : Cond.instanceMethod y ∈ tb) (h4 : Cond.initialized y.cls ∈ tb) (h5 : Cond.code y bytes mL none ∈ tb) (hyn : y.name = "<init>")
    (isC isR : List Nat) (hC : isC.map (fun i => ws[i]?) = wc.map some) (hR9 : isR.map (fun i => ws[i]?) = wr.map some) (hnC : va_nd isC = true) (hnR : va_nd isR = true) (hdis : ∀ i ∈ isR, i ∉ isC)
    (hd : y.cls ≠ "java/lang/invoke/MethodHandle" ∧ y.cls ≠ "java/lang/invoke/VarHandle" ∧ (parseMethodDescriptor y.desc).map (fun d => d.parameters.length) = some na) (hR : rm.frames + 1 ≤ R.frames ∧ 8 + (mL + 11) + rm.locals ≤ R.locals) (hrc : rm.cells = mc) (hrs : rm.slots = ms)
    (hz : cells + mc ≤ R.cells ∧ slots + ms ≤ R.slots) (hna : As.length = na) (hsize : ls.size = nL) (hst : st = As.reverse ++ .ref b :: rest) (hW : (rest.map fun v => v.category).sum ≤ 8) (hdg : decode cc pc = .ok (.invokespecial index, 3))
    (kk : ∀ (b' : Nat → Nat) (H : Heap) (locs : List Loc), Wl D A s (wr ++ post b') H locs → W p l e R s m args below meth c H locs (cells + mc) (slots + ms) Q (F0 m (pc + 3) ls rest)) : W p l e R s m args below meth c H locs cells slots Q (F0 m pc ls st) := by
  have hpre := l_prek (As := .ref b :: As) C hA hN G isC hnC hC
  have hF := va_free G.2.1 G.2.2 hA isC hC
  obtain ⟨hx, hb, hml, hown, hts, hK, -, -⟩ := C
  refine va_callv (va_runI (g := F0 m pc ls st) (As := As) (rest := rest) ⟨hx, hb, hml, hown, hts⟩ (hM H.size) (cwI na hts (gd (fun _ h => h) h5) rfl hrc hrs (hts _ h4) (hts _ h1) (hts _ h2) hyn hd hR) ⟨Pk.blind, hpre⟩ rfl hna hsize hst (lv_room hW) hdg hz) G.2.2 (fun q _ h => hF q h) hF (fun b' t H1 locs1 ht hvm hp hB _ hk1 hS1 => ?_)
  obtain ⟨hP1, hD1⟩ := hB
  rw [ht] at hP1
  obtain ⟨hP, hD⟩ := va_join (wr := wr) (w1 := post b') G.1 G.2.1 isC isR hC hR9 hnR hdis hk1 hF hP1 hD1
  exact kk b' H1 locs1 ⟨hP, hD, hS1⟩
theorem l_ctorN {host : String} {y : MethodName} {bytes : ByteArray} {mL na index b mc ms : Nat} {rm : Room} {As : List Value} {wc wr : va_W} {post : (Nat → Nat) → va_W} {st : List Value}
    (C : Cx p s m args meth c own cc nL D cI cJ tk tf A) (hA : ∀ q, s.heap.size ≤ q → A q) (hN : NL s) (G : Wl D A s ws H locs) (hM : Mk l D cI cJ tk tf y bytes mL rm (.ref b :: As) wc post mc ms)
    (h1 : va_Nw (.methodLinkNest own index y host) s) (h2 : Cond.instanceMethod y ∈ tb) (h4 : Cond.initialized y.cls ∈ tb) (h5 : Cond.code y bytes mL none ∈ tb) (hyn : y.name = "<init>")
    (isC isR : List Nat) (hC : isC.map (fun i => ws[i]?) = wc.map some) (hR9 : isR.map (fun i => ws[i]?) = wr.map some) (hnC : va_nd isC = true) (hnR : va_nd isR = true) (hdis : ∀ i ∈ isR, i ∉ isC)
    (hd : y.cls ≠ "java/lang/invoke/MethodHandle" ∧ y.cls ≠ "java/lang/invoke/VarHandle" ∧ (parseMethodDescriptor y.desc).map (fun d => d.parameters.length) = some na) (hR : rm.frames + 1 ≤ R.frames ∧ 8 + (mL + 11) + rm.locals ≤ R.locals) (hrc : rm.cells = mc) (hrs : rm.slots = ms)
    (hz : cells + mc ≤ R.cells ∧ slots + ms ≤ R.slots) (hna : As.length = na) (hsize : ls.size = nL) (hst : st = As.reverse ++ .ref b :: rest) (hW : (rest.map fun v => v.category).sum ≤ 8) (hdg : decode cc pc = .ok (.invokespecial index, 3))
    (kk : ∀ (b' : Nat → Nat) (H : Heap) (locs : List Loc), Wl D A s (wr ++ post b') H locs → W p l e R s m args below meth c H locs (cells + mc) (slots + ms) Q (F0 m (pc + 3) ls rest)) : W p l e R s m args below meth c H locs cells slots Q (F0 m pc ls st) := by
  have hpre := l_prek (As := .ref b :: As) C hA hN G isC hnC hC
  have hF := va_free G.2.1 G.2.2 hA isC hC
  obtain ⟨hx, hb, hml, hown, hts, hK, -, -⟩ := C
  refine va_callv (va_runIN (g := F0 m pc ls st) (As := As) (rest := rest) ⟨hx, hb, hml, hown, hts⟩ (hM H.size) ⟨va_cnB na hts (gd (fun _ h => h) h5) rfl hrc hrs h1 (hts _ h4) hd hR, hyn, hts _ h2⟩ ⟨Pk.blind, hpre⟩ rfl hna hsize hst (lv_room hW) hdg hz) G.2.2 (fun q _ h => hF q h) hF (fun b' t H1 locs1 ht hvm hp hB _ hk1 hS1 => ?_)
  obtain ⟨hP1, hD1⟩ := hB
  rw [ht] at hP1
  obtain ⟨hP, hD⟩ := va_join (wr := wr) (w1 := post b') G.1 G.2.1 isC isR hC hR9 hnR hdis hk1 hF hP1 hD1
  exact kk b' H1 locs1 ⟨hP, hD, hS1⟩
theorem l_stat {y : MethodName} {bytes : ByteArray} {mL na index mc ms : Nat} {rm : Room} {As : List Value} {wc wr : va_W} {post : (Nat → Nat) → va_W} {st : List Value}
    (C : Cx p s m args meth c own cc nL D cI cJ tk tf A) (hA : ∀ q, s.heap.size ≤ q → A q) (hN : NL s) (G : Wl D A s ws H locs) (hM : Mk l D cI cJ tk tf y bytes mL rm As wc post mc ms)
    (h1 : Cond.methodLink own index y ∈ tb) (h2 : Cond.static y ∈ tb) (h4 : Cond.initialized y.cls ∈ tb) (h5 : Cond.code y bytes mL none ∈ tb)
    (isC isR : List Nat) (hC : isC.map (fun i => ws[i]?) = wc.map some) (hR9 : isR.map (fun i => ws[i]?) = wr.map some) (hnC : va_nd isC = true) (hnR : va_nd isR = true) (hdis : ∀ i ∈ isR, i ∉ isC)
    (hd : y.cls ≠ "java/lang/invoke/MethodHandle" ∧ y.cls ≠ "java/lang/invoke/VarHandle" ∧ (parseMethodDescriptor y.desc).map (fun d => d.parameters.length) = some na) (hR : rm.frames + 1 ≤ R.frames ∧ 8 + (mL + 11) + rm.locals ≤ R.locals) (hrc : rm.cells = mc) (hrs : rm.slots = ms)
    (hz : cells + mc ≤ R.cells ∧ slots + ms ≤ R.slots) (hna : As.length = na) (hsize : ls.size = nL) (hst : st = As.reverse ++ rest) (hW : (rest.map fun v => v.category).sum ≤ 8) (hdg : decode cc pc = .ok (.invokestatic index, 3))
    (kk : ∀ (b' : Nat → Nat) (H : Heap) (locs : List Loc), Wl D A s (wr ++ post b') H locs → W p l e R s m args below meth c H locs (cells + mc) (slots + ms) Q (F0 m (pc + 3) ls rest)) : W p l e R s m args below meth c H locs cells slots Q (F0 m pc ls st) := by
  have hpre := l_prek (As := As) C hA hN G isC hnC hC
  have hF := va_free G.2.1 G.2.2 hA isC hC
  obtain ⟨hx, hb, hml, hown, hts, hK, -, -⟩ := C
  refine va_callv (va_runS (g := F0 m pc ls st) (As := As) (rest := rest) ⟨hx, hb, hml, hown, hts⟩ (hM H.size) (va_cwS na hts (gdS (fun _ h => h) h1 h2 h4 h5) rfl hrc hrs hd hR) ⟨Pk.blind, hpre⟩ rfl hna hsize hst (lv_room hW) hdg hz) G.2.2 (fun q _ h => hF q h) hF (fun b' t H1 locs1 ht hvm hp hB _ hk1 hS1 => ?_)
  obtain ⟨hP1, hD1⟩ := hB
  rw [ht] at hP1
  obtain ⟨hP, hD⟩ := va_join (wr := wr) (w1 := post b') G.1 G.2.1 isC isR hC hR9 hnR hdis hk1 hF hP1 hD1
  exact kk b' H1 locs1 ⟨hP, hD, hS1⟩
theorem l_end {ws0 : va_W} {sz mc ms : Nat} {post : (Nat → Nat) → va_W} (b : Nat → Nat) (C : Cx p s m args meth c own cc nL D cI cJ tk tf (va_A ws0 sz)) (hr : meth.sig.returnType = none) (G : Wl D (va_A ws0 sz) s (post b) H locs) (hdg : decode cc pc = .ok (.return_, 1)) (hz : cells ≤ mc ∧ slots ≤ ms) :
    W p l e R s m args below meth c H locs cells slots (MQ below (va_Qv (fun _ : Nat → Nat => True) (fun b t => va_P D vwCl (post b) t.heap ∧ va_D (va_A ws0 sz) (post b)) (va_A ws0 sz)) args s mc ms (va_A ws0 sz)) (F0 m pc ls []) := by
  obtain ⟨hx, hb, -, -, -, -, hlocks, -⟩ := C
  refine W.widen (k := mc) (n := ms) hz.1 hz.2 ?_
  exact W.vret hx hb hr (fun t ht _ => ⟨⟨b, rfl, trivial, by rw [ht]; exact G.1, G.2.1⟩, G.2.2.F ht⟩) G.2.2.2.2 hdg hlocks
end LW
theorem opn_k {l : Launch} {D : va_G} {cI cJ : ClassId} {tk : Nat} {tf : Nat → Int32} {y : MethodName} {cc : ByteArray} {mL mc ms : Nat} {rm : Room} {As : List Value} {ws0 : va_W} {post : (Nat → Nat) → va_W} (hy : plainName y.cls = true) (hn : (lg_sl As).length ≤ mL)
    (h : ∀ (p : Program) (e : Env) (s : State) (m : MethodId) (below : List Frame) (meth : Method) (c : Code), Cx p s m As.toArray meth c y.cls cc mL D cI cJ tk tf (va_A ws0 s.heap.size) → NL s → meth.name = y.name → meth.sig.returnType = none → Wl D (va_A ws0 s.heap.size) s ws0 s.heap [] → ∀ ls, lv_has ls mL (lv_args 0 As) →
      W p l e rm s m As.toArray below meth c s.heap [] 0 0 (MQ below (va_Qv (fun _ : Nat → Nat => True) (fun b t => va_P D vwCl (post b) t.heap ∧ va_D (va_A ws0 s.heap.size) (post b)) (va_A ws0 s.heap.size)) As.toArray s mc ms (va_A ws0 s.heap.size)) (F0 m 0 ls [])) : Mk l D cI cJ tk tf y cc mL rm As ws0 post mc ms := by
  intro sz
  refine Met.ofW (cc := cc) (maxL := mL) (ret := none) hy rfl ?_
  intro p e s m args below meth c s₁ B hml hv
  obtain ⟨rfl, hsz, hP, hK, hD, hT, hN⟩ := hv
  subst hsz
  rw [lg_entry_eq]
  exact h p e s m below meth c ⟨B.exec, B.bytes, hml, findClass_of_methodNamed B.named, fun w hw => atoms_spec (ws := .code y cc mL none :: tb) B.pre w (List.mem_cons_of_mem _ hw), hK, B.notSynchronized, hT⟩ hN (name_of_methodNamed B.named B.method).1 B.returns ⟨hP, hD, va_S.rf⟩ _ (lv_entry As hn)
end
section
theorem dX0_init_0 : decode cX0_init 0 = .ok (.aload_n 0, 1) := by decide +kernel
theorem dX0_init_1 : decode cX0_init 1 = .ok (.invokespecial 3, 3) := by decide +kernel
theorem dX0_init_4 : decode cX0_init 4 = .ok (.aload_n 0, 1) := by decide +kernel
theorem dX0_init_5 : decode cX0_init 5 = .ok (.bipush 30, 2) := by decide +kernel
theorem dX0_init_7 : decode cX0_init 7 = .ok (.newarray .int, 2) := by decide +kernel
theorem dX0_init_9 : decode cX0_init 9 = .ok (.putfield 9, 3) := by decide +kernel
theorem dX0_init_12 : decode cX0_init 12 = .ok (.aload_n 0, 1) := by decide +kernel
theorem dX0_init_13 : decode cX0_init 13 = .ok (.bipush 30, 2) := by decide +kernel
theorem dX0_init_15 : decode cX0_init 15 = .ok (.newarray .int, 2) := by decide +kernel
theorem dX0_init_17 : decode cX0_init 17 = .ok (.putfield 15, 3) := by decide +kernel
theorem dX0_init_20 : decode cX0_init 20 = .ok (.aload_n 0, 1) := by decide +kernel
theorem dX0_init_21 : decode cX0_init 21 = .ok (.bipush 30, 2) := by decide +kernel
theorem dX0_init_23 : decode cX0_init 23 = .ok (.newarray .int, 2) := by decide +kernel
theorem dX0_init_25 : decode cX0_init 25 = .ok (.putfield 18, 3) := by decide +kernel
theorem dX0_init_28 : decode cX0_init 28 = .ok (.aload_n 0, 1) := by decide +kernel
theorem dX0_init_29 : decode cX0_init 29 = .ok (.bipush 30, 2) := by decide +kernel
theorem dX0_init_31 : decode cX0_init 31 = .ok (.newarray .long, 2) := by decide +kernel
theorem dX0_init_33 : decode cX0_init 33 = .ok (.putfield 21, 3) := by decide +kernel
theorem dX0_init_36 : decode cX0_init 36 = .ok (.aload_n 0, 1) := by decide +kernel
theorem dX0_init_37 : decode cX0_init 37 = .ok (.bipush 30, 2) := by decide +kernel
theorem dX0_init_39 : decode cX0_init 39 = .ok (.newarray .int, 2) := by decide +kernel
theorem dX0_init_41 : decode cX0_init 41 = .ok (.putfield 25, 3) := by decide +kernel
theorem dX0_init_44 : decode cX0_init 44 = .ok (.aload_n 0, 1) := by decide +kernel
theorem dX0_init_45 : decode cX0_init 45 = .ok (.bipush 30, 2) := by decide +kernel
theorem dX0_init_47 : decode cX0_init 47 = .ok (.newarray .int, 2) := by decide +kernel
theorem dX0_init_49 : decode cX0_init 49 = .ok (.putfield 28, 3) := by decide +kernel
theorem dX0_init_52 : decode cX0_init 52 = .ok (.return_, 1) := by decide +kernel
theorem dX1_init_0 : decode cX1_init 0 = .ok (.aload_n 0, 1) := by decide +kernel
theorem dX1_init_1 : decode cX1_init 1 = .ok (.invokespecial 3, 3) := by decide +kernel
theorem dX1_init_4 : decode cX1_init 4 = .ok (.aload_n 0, 1) := by decide +kernel
theorem dX1_init_5 : decode cX1_init 5 = .ok (.bipush 12, 2) := by decide +kernel
theorem dX1_init_7 : decode cX1_init 7 = .ok (.newarray .int, 2) := by decide +kernel
theorem dX1_init_9 : decode cX1_init 9 = .ok (.putfield 9, 3) := by decide +kernel
theorem dX1_init_12 : decode cX1_init 12 = .ok (.aload_n 0, 1) := by decide +kernel
theorem dX1_init_13 : decode cX1_init 13 = .ok (.getfield 9, 3) := by decide +kernel
theorem dX1_init_16 : decode cX1_init 16 = .ok (.iconst (-1), 1) := by decide +kernel
theorem dX1_init_17 : decode cX1_init 17 = .ok (.invokestatic 15, 3) := by decide +kernel
theorem dX1_init_20 : decode cX1_init 20 = .ok (.return_, 1) := by decide +kernel
theorem dX2_init_0 : decode cX2_init 0 = .ok (.aload_n 0, 1) := by decide +kernel
theorem dX2_init_1 : decode cX2_init 1 = .ok (.invokespecial 3, 3) := by decide +kernel
theorem dX2_init_4 : decode cX2_init 4 = .ok (.aload_n 0, 1) := by decide +kernel
theorem dX2_init_5 : decode cX2_init 5 = .ok (.bipush 60, 2) := by decide +kernel
theorem dX2_init_7 : decode cX2_init 7 = .ok (.newarray .int, 2) := by decide +kernel
theorem dX2_init_9 : decode cX2_init 9 = .ok (.putfield 9, 3) := by decide +kernel
theorem dX2_init_12 : decode cX2_init 12 = .ok (.aload_n 0, 1) := by decide +kernel
theorem dX2_init_13 : decode cX2_init 13 = .ok (.bipush 60, 2) := by decide +kernel
theorem dX2_init_15 : decode cX2_init 15 = .ok (.newarray .int, 2) := by decide +kernel
theorem dX2_init_17 : decode cX2_init 17 = .ok (.putfield 15, 3) := by decide +kernel
theorem dX2_init_20 : decode cX2_init 20 = .ok (.return_, 1) := by decide +kernel
theorem dX3_init_0 : decode cX3_init 0 = .ok (.aload_n 0, 1) := by decide +kernel
theorem dX3_init_1 : decode cX3_init 1 = .ok (.invokespecial 3, 3) := by decide +kernel
theorem dX3_init_4 : decode cX3_init 4 = .ok (.aload_n 0, 1) := by decide +kernel
theorem dX3_init_5 : decode cX3_init 5 = .ok (.aload_n 1, 1) := by decide +kernel
theorem dX3_init_6 : decode cX3_init 6 = .ok (.putfield 9, 3) := by decide +kernel
theorem dX3_init_9 : decode cX3_init 9 = .ok (.aload_n 0, 1) := by decide +kernel
theorem dX3_init_10 : decode cX3_init 10 = .ok (.aload_n 2, 1) := by decide +kernel
theorem dX3_init_11 : decode cX3_init 11 = .ok (.putfield 15, 3) := by decide +kernel
theorem dX3_init_14 : decode cX3_init 14 = .ok (.return_, 1) := by decide +kernel
theorem dX4_init_0 : decode cX4_init 0 = .ok (.aload_n 0, 1) := by decide +kernel
theorem dX4_init_1 : decode cX4_init 1 = .ok (.invokespecial 3, 3) := by decide +kernel
theorem dX4_init_4 : decode cX4_init 4 = .ok (.aload_n 0, 1) := by decide +kernel
theorem dX4_init_5 : decode cX4_init 5 = .ok (.sipush 480, 3) := by decide +kernel
theorem dX4_init_8 : decode cX4_init 8 = .ok (.newarray .int, 2) := by decide +kernel
theorem dX4_init_10 : decode cX4_init 10 = .ok (.putfield 9, 3) := by decide +kernel
theorem dX4_init_13 : decode cX4_init 13 = .ok (.aload_n 0, 1) := by decide +kernel
theorem dX4_init_14 : decode cX4_init 14 = .ok (.sipush 480, 3) := by decide +kernel
theorem dX4_init_17 : decode cX4_init 17 = .ok (.newarray .int, 2) := by decide +kernel
theorem dX4_init_19 : decode cX4_init 19 = .ok (.putfield 15, 3) := by decide +kernel
theorem dX4_init_22 : decode cX4_init 22 = .ok (.aload_n 0, 1) := by decide +kernel
theorem dX4_init_23 : decode cX4_init 23 = .ok (.bipush 20, 2) := by decide +kernel
theorem dX4_init_25 : decode cX4_init 25 = .ok (.newarray .int, 2) := by decide +kernel
theorem dX4_init_27 : decode cX4_init 27 = .ok (.putfield 18, 3) := by decide +kernel
theorem dX4_init_30 : decode cX4_init 30 = .ok (.return_, 1) := by decide +kernel
theorem dX5_init_0 : decode cX5_init 0 = .ok (.aload_n 0, 1) := by decide +kernel
theorem dX5_init_1 : decode cX5_init 1 = .ok (.invokespecial 3, 3) := by decide +kernel
theorem dX5_init_4 : decode cX5_init 4 = .ok (.aload_n 0, 1) := by decide +kernel
theorem dX5_init_5 : decode cX5_init 5 = .ok (.new 9, 3) := by decide +kernel
theorem dX5_init_8 : decode cX5_init 8 = .ok (.dup, 1) := by decide +kernel
theorem dX5_init_9 : decode cX5_init 9 = .ok (.invokespecial 11, 3) := by decide +kernel
theorem dX5_init_12 : decode cX5_init 12 = .ok (.putfield 12, 3) := by decide +kernel
theorem dX5_init_15 : decode cX5_init 15 = .ok (.aload_n 0, 1) := by decide +kernel
theorem dX5_init_16 : decode cX5_init 16 = .ok (.iconst (-1), 1) := by decide +kernel
theorem dX5_init_17 : decode cX5_init 17 = .ok (.putfield 18, 3) := by decide +kernel
theorem dX5_init_20 : decode cX5_init 20 = .ok (.return_, 1) := by decide +kernel
theorem dX6_init_0 : decode cX6_init 0 = .ok (.aload_n 0, 1) := by decide +kernel
theorem dX6_init_1 : decode cX6_init 1 = .ok (.invokespecial 3, 3) := by decide +kernel
theorem dX6_init_4 : decode cX6_init 4 = .ok (.aload_n 0, 1) := by decide +kernel
theorem dX6_init_5 : decode cX6_init 5 = .ok (.bipush 40, 2) := by decide +kernel
theorem dX6_init_7 : decode cX6_init 7 = .ok (.newarray .int, 2) := by decide +kernel
theorem dX6_init_9 : decode cX6_init 9 = .ok (.putfield 9, 3) := by decide +kernel
theorem dX6_init_12 : decode cX6_init 12 = .ok (.aload_n 0, 1) := by decide +kernel
theorem dX6_init_13 : decode cX6_init 13 = .ok (.bipush 40, 2) := by decide +kernel
theorem dX6_init_15 : decode cX6_init 15 = .ok (.newarray .int, 2) := by decide +kernel
theorem dX6_init_17 : decode cX6_init 17 = .ok (.putfield 15, 3) := by decide +kernel
theorem dX6_init_20 : decode cX6_init 20 = .ok (.aload_n 0, 1) := by decide +kernel
theorem dX6_init_21 : decode cX6_init 21 = .ok (.getfield 9, 3) := by decide +kernel
theorem dX6_init_24 : decode cX6_init 24 = .ok (.iconst (-1), 1) := by decide +kernel
theorem dX6_init_25 : decode cX6_init 25 = .ok (.invokestatic 18, 3) := by decide +kernel
theorem dX6_init_28 : decode cX6_init 28 = .ok (.return_, 1) := by decide +kernel
theorem dX7_init_0 : decode cX7_init 0 = .ok (.aload_n 0, 1) := by decide +kernel
theorem dX7_init_1 : decode cX7_init 1 = .ok (.invokespecial 1, 3) := by decide +kernel
theorem dX7_init_4 : decode cX7_init 4 = .ok (.aload_n 0, 1) := by decide +kernel
theorem dX7_init_5 : decode cX7_init 5 = .ok (.new 7, 3) := by decide +kernel
theorem dX7_init_8 : decode cX7_init 8 = .ok (.dup, 1) := by decide +kernel
theorem dX7_init_9 : decode cX7_init 9 = .ok (.invokespecial 9, 3) := by decide +kernel
theorem dX7_init_12 : decode cX7_init 12 = .ok (.putfield 10, 3) := by decide +kernel
theorem dX7_init_15 : decode cX7_init 15 = .ok (.aload_n 0, 1) := by decide +kernel
theorem dX7_init_16 : decode cX7_init 16 = .ok (.new 16, 3) := by decide +kernel
theorem dX7_init_19 : decode cX7_init 19 = .ok (.dup, 1) := by decide +kernel
theorem dX7_init_20 : decode cX7_init 20 = .ok (.invokespecial 18, 3) := by decide +kernel
theorem dX7_init_23 : decode cX7_init 23 = .ok (.putfield 19, 3) := by decide +kernel
theorem dX7_init_26 : decode cX7_init 26 = .ok (.aload_n 0, 1) := by decide +kernel
theorem dX7_init_27 : decode cX7_init 27 = .ok (.new 23, 3) := by decide +kernel
theorem dX7_init_30 : decode cX7_init 30 = .ok (.dup, 1) := by decide +kernel
theorem dX7_init_31 : decode cX7_init 31 = .ok (.invokespecial 25, 3) := by decide +kernel
theorem dX7_init_34 : decode cX7_init 34 = .ok (.putfield 26, 3) := by decide +kernel
theorem dX7_init_37 : decode cX7_init 37 = .ok (.aload_n 0, 1) := by decide +kernel
theorem dX7_init_38 : decode cX7_init 38 = .ok (.new 30, 3) := by decide +kernel
theorem dX7_init_41 : decode cX7_init 41 = .ok (.dup, 1) := by decide +kernel
theorem dX7_init_42 : decode cX7_init 42 = .ok (.invokespecial 32, 3) := by decide +kernel
theorem dX7_init_45 : decode cX7_init 45 = .ok (.putfield 33, 3) := by decide +kernel
theorem dX7_init_48 : decode cX7_init 48 = .ok (.aload_n 0, 1) := by decide +kernel
theorem dX7_init_49 : decode cX7_init 49 = .ok (.new 37, 3) := by decide +kernel
theorem dX7_init_52 : decode cX7_init 52 = .ok (.dup, 1) := by decide +kernel
theorem dX7_init_53 : decode cX7_init 53 = .ok (.invokespecial 39, 3) := by decide +kernel
theorem dX7_init_56 : decode cX7_init 56 = .ok (.putfield 40, 3) := by decide +kernel
theorem dX7_init_59 : decode cX7_init 59 = .ok (.aload_n 0, 1) := by decide +kernel
theorem dX7_init_60 : decode cX7_init 60 = .ok (.new 44, 3) := by decide +kernel
theorem dX7_init_63 : decode cX7_init 63 = .ok (.dup, 1) := by decide +kernel
theorem dX7_init_64 : decode cX7_init 64 = .ok (.invokespecial 46, 3) := by decide +kernel
theorem dX7_init_67 : decode cX7_init 67 = .ok (.putfield 47, 3) := by decide +kernel
theorem dX7_init_70 : decode cX7_init 70 = .ok (.aload_n 0, 1) := by decide +kernel
theorem dX7_init_71 : decode cX7_init 71 = .ok (.new 51, 3) := by decide +kernel
theorem dX7_init_74 : decode cX7_init 74 = .ok (.dup, 1) := by decide +kernel
theorem dX7_init_75 : decode cX7_init 75 = .ok (.aload_n 0, 1) := by decide +kernel
theorem dX7_init_76 : decode cX7_init 76 = .ok (.getfield 19, 3) := by decide +kernel
theorem dX7_init_79 : decode cX7_init 79 = .ok (.aload_n 0, 1) := by decide +kernel
theorem dX7_init_80 : decode cX7_init 80 = .ok (.getfield 26, 3) := by decide +kernel
theorem dX7_init_83 : decode cX7_init 83 = .ok (.invokespecial 53, 3) := by decide +kernel
theorem dX7_init_86 : decode cX7_init 86 = .ok (.putfield 56, 3) := by decide +kernel
theorem dX7_init_89 : decode cX7_init 89 = .ok (.return_, 1) := by decide +kernel
set_option maxRecDepth 100000 in
set_option maxHeartbeats 4000000 in
/-- Arrays.fill: all N places hold v -/
theorem mJ7_fillK (l : Launch) (D : va_G) (cI cJ : ClassId) (tk : Nat) (tf : Nat → Int32) (q N : Nat) (hN9 : N < 2 ^ 31) (v : Int32) (f : Nat → Int32) : Mk l D cI cJ tk tf yJ7_fill_53178 cJ7_fill_53178 4 { frames := 0, cells := 0, slots := 0, locals := 0 } [.ref q, .int v] [(q, .inl (cI, N, .inl f))] (fun _ => [(q, .inl (cI, N, .inl (fun j => if j < N then v else f j)))]) 0 0 := by
  refine opn_k (by decide +kernel) (Nat.le_of_ble_eq_true rfl) (fun p e s m below meth c C hN hnm hr G ls hl => ?_)
  replace hl : lv_has ls 4 [(0, .ref q), (1, .int v)] := hl
  refine lv_iconst (v := 0) C.1 C.2.1 dJ7_fill_53178_0 (by decide) ?_
  refine lv_istore_n (lv' := [(2, .int 0), (0, .ref q), (1, .int v)]) C.1 C.2.1 dJ7_fill_53178_1 rfl hl (by decide) rfl (fun ls hl => ?_)
  refine lv_aload_n C.1 C.2.1 dJ7_fill_53178_2 rfl (lv_at hl 1 rfl) ?_
  refine va_alen C.1 C.2.1 C.2.2.2.2.2.1 G.1 0 0 rfl (ty := .int) rfl (v := nI N) rfl dJ7_fill_53178_3 ?_
  refine lv_istore_n (lv' := [(3, .int (nI N)), (2, .int 0), (0, .ref q), (1, .int v)]) C.1 C.2.1 dJ7_fill_53178_4 rfl hl (by decide) rfl (fun ls hl => ?_)
  have loop : ∀ (k i : Nat) (y : Int32) (H : Heap) (locs : List Loc) (ls : Array Slot), i ≤ N → N - i < k → y = nI i → Wl D (va_A [(q, .inl (cI, N, .inl f))] s.heap.size) s [(q, .inl (cI, N, .inl (fun j => if j < i then v else f j)))] H locs → lv_has ls 4 [(3, .int (nI N)), (2, .int y), (0, .ref q), (1, .int v)] →
      W p l e { frames := 0, cells := 0, slots := 0, locals := 0 } s m #[.ref q, .int v] below meth c H locs 0 0 (MQ below (va_Qv (fun _ : Nat → Nat => True) (fun b t => va_P D vwCl ((fun _ => [(q, .inl (cI, N, .inl (fun j => if j < N then v else f j)))]) b) t.heap ∧ va_D (va_A [(q, .inl (cI, N, .inl f))] s.heap.size) ((fun _ => [(q, .inl (cI, N, .inl (fun j => if j < N then v else f j)))]) b)) (va_A [(q, .inl (cI, N, .inl f))] s.heap.size)) #[.ref q, .int v] s 0 0 (va_A [(q, .inl (cI, N, .inl f))] s.heap.size)) (F0 m 5 ls []) := by
    intro k
    induction k with
    | zero => intro i y H locs ls h1 h2; exact absurd h2 (Nat.not_lt_zero _)
    | succ k ih =>
      intro i y H locs ls h1 h2 hy G hl
      refine lv_iload_n C.1 C.2.1 dJ7_fill_53178_5 rfl (lv_at hl 1 rfl) ?_
      refine lv_iload_n C.1 C.2.1 dJ7_fill_53178_6 rfl (lv_at hl 0 rfl) ?_
      refine lv_icmp_ge (tgt := 20) C.1 C.2.1 dJ7_fill_53178_7 (by decide) (fun c1 => ?_) (fun c1 => ?_)
      · rw [hy, nI_leI hN9 (by omega)] at c1
        obtain rfl : i = N := by omega
        exact l_end (post := fun _ => [(q, .inl (cI, i, .inl (fun j => if j < i then v else f j)))]) (fun _ => 0) C hr G dJ7_fill_53178_20 ⟨Nat.le_refl _, Nat.le_refl _⟩
      · rw [hy, nI_leI hN9 (by omega)] at c1
        have hin : vp_in y N := by rw [hy]; exact vp_in_nI (by omega) hN9
        refine lv_aload_n C.1 C.2.1 dJ7_fill_53178_10 rfl (lv_at hl 2 rfl) ?_
        refine lv_iload_n C.1 C.2.1 dJ7_fill_53178_11 rfl (lv_at hl 1 rfl) ?_
        refine lv_iload_n C.1 C.2.1 dJ7_fill_53178_12 rfl (lv_at hl 3 rfl) ?_
        refine va_iast C.1 C.2.1 C.2.2.2.2.2.1 G.1 G.2.1 G.2.2 0 0 rfl rfl hin dJ7_fill_53178_13 (fun H locs hP hD hS => ?_)
        obtain ⟨y2, ey2⟩ : ∃ z : Int32, z = y + 1 := ⟨_, rfl⟩
        refine lv_iinc (v := y2) (lv' := [(2, .int y2), (3, .int (nI N)), (0, .ref q), (1, .int v)]) C.1 C.2.1 dJ7_fill_53178_14 hl (k := 1) rfl (by rw [ey2]; rfl) (by decide) rfl (fun ls hl => ?_)
        refine lv_goto (tgt := 5) C.1 C.2.1 dJ7_fill_53178_17 (by decide) ?_
        have hw : upd (fun j => if j < i then v else f j) y.toNatClampNeg v = fun j => if j < i + 1 then v else f j := by
          funext j
          rw [hy, nI_clamp (by omega)]
          unfold upd
          dsimp only
          by_cases e1 : j = i
          · rw [if_pos e1, if_pos (by omega)]
          · by_cases e2 : j < i
            · rw [if_neg e1, if_pos e2, if_pos (by omega)]
            · rw [if_neg e1, if_neg e2, if_neg (by omega)]
        have G2 : Wl D (va_A [(q, .inl (cI, N, .inl f))] s.heap.size) s [(q, .inl (cI, N, .inl (fun j => if j < i + 1 then v else f j)))] H locs := by
          rw [← hw]
          exact ⟨hP, hD, hS⟩
        exact ih (i + 1) y2 H locs ls (by omega) (by omega) (by rw [ey2, hy, nI_1]) G2 (lv_sub hl [1, 0, 2, 3] rfl)
  exact loop (N + 1) 0 0 s.heap [] ls (Nat.zero_le _) (by omega) nI_0.symm (by
    have h9 : (fun j => if j < 0 then v else f j) = f := by funext j; rw [if_neg (Nat.not_lt_zero _)]
    rw [h9]; exact G) hl
set_option maxRecDepth 100000 in
set_option maxHeartbeats 4000000 in
theorem mX0_init (l : Launch) (D : va_G) (cI cJ : ClassId) (tk : Nat) (tf : Nat → Int32) (h0 : Nat) : Mk l D cI cJ tk tf yX0_init cX0_init 1 { frames := 1, cells := 6, slots := 180, locals := 12 } [.ref h0] [(h0, .inr (0, [.null, .null, .null, .null, .null, .null, .int 0, .int 0]))] (fun (b : Nat → Nat) => [(h0, .inr (0, [.ref (b 0), .ref (b 1), .ref (b 2), .ref (b 3), .ref (b 4), .ref (b 5), .int 0, .int 0])), ((b 0), .inl (cI, 30, .inl (fun _ => 0))), ((b 1), .inl (cI, 30, .inl (fun _ => 0))), ((b 2), .inl (cI, 30, .inl (fun _ => 0))), ((b 3), .inl (cJ, 30, .inr (.inl (fun _ => 0)))), ((b 4), .inl (cI, 30, .inl (fun _ => 0))), ((b 5), .inl (cI, 30, .inl (fun _ => 0)))]) 6 180 := by
  refine opn_k (by decide +kernel) (Nat.le_of_ble_eq_true rfl) (fun p e s m below meth c C hN hnm hr G ls hl => ?_)
  replace hl : lv_has ls 1 [(0, .ref h0)] := hl
  have hA : ∀ q, s.heap.size ≤ q → va_A [(h0, .inr (0, [.null, .null, .null, .null, .null, .null, .int 0, .int 0]))] s.heap.size q := fun q h => Or.inr h
  refine lv_aload_n C.1 C.2.1 dX0_init_0 rfl (lv_at hl 0 rfl) ?_
  refine l_obj C k_146 k_79 k_80 hl.1 dX0_init_1 (by decide) (by decide) ?_
  refine lv_aload_n C.1 C.2.1 dX0_init_4 rfl (lv_at hl 0 rfl) ?_
  refine lv_bipush (v := (30)) C.1 C.2.1 dX0_init_5 (by decide) ?_
  refine l_newI C hA G 30 (by decide) (by decide) (by decide) (by decide) (by decide) dX0_init_7 (fun q1 H G => ?_)
  refine l_putF (ty := .array .int) (Cn := RX0) (T := TX0) (N := 8) (ci := 0) C hnm G 0 0 inX0 tyX0 tyX0_ok nmX0 rfl rfl (by decide) k_147 rfl rfl rfl (by decide +kernel) rfl rfl (Nat.le_of_ble_eq_true rfl) rfl dX0_init_9 (fun H locs G => ?_)
  replace G : Wl D (va_A [(h0, .inr (0, [.null, .null, .null, .null, .null, .null, .int 0, .int 0]))] s.heap.size) s [(h0, .inr (0, [.ref q1, .null, .null, .null, .null, .null, .int 0, .int 0])), (q1, .inl (cI, 30, .inl (fun _ => 0)))] H locs := G
  refine lv_aload_n C.1 C.2.1 dX0_init_12 rfl (lv_at hl 0 rfl) ?_
  refine lv_bipush (v := (30)) C.1 C.2.1 dX0_init_13 (by decide) ?_
  refine l_newI C hA G 30 (by decide) (by decide) (by decide) (by decide) (by decide) dX0_init_15 (fun q2 H G => ?_)
  refine l_putF (ty := .array .int) (Cn := RX0) (T := TX0) (N := 8) (ci := 0) C hnm G 0 1 inX0 tyX0 tyX0_ok nmX0 rfl rfl (by decide) k_148 rfl rfl rfl (by decide +kernel) rfl rfl (Nat.le_of_ble_eq_true rfl) rfl dX0_init_17 (fun H locs G => ?_)
  replace G : Wl D (va_A [(h0, .inr (0, [.null, .null, .null, .null, .null, .null, .int 0, .int 0]))] s.heap.size) s [(h0, .inr (0, [.ref q1, .ref q2, .null, .null, .null, .null, .int 0, .int 0])), (q1, .inl (cI, 30, .inl (fun _ => 0))), (q2, .inl (cI, 30, .inl (fun _ => 0)))] H locs := G
  refine lv_aload_n C.1 C.2.1 dX0_init_20 rfl (lv_at hl 0 rfl) ?_
  refine lv_bipush (v := (30)) C.1 C.2.1 dX0_init_21 (by decide) ?_
  refine l_newI C hA G 30 (by decide) (by decide) (by decide) (by decide) (by decide) dX0_init_23 (fun q3 H G => ?_)
  refine l_putF (ty := .array .int) (Cn := RX0) (T := TX0) (N := 8) (ci := 0) C hnm G 0 2 inX0 tyX0 tyX0_ok nmX0 rfl rfl (by decide) k_149 rfl rfl rfl (by decide +kernel) rfl rfl (Nat.le_of_ble_eq_true rfl) rfl dX0_init_25 (fun H locs G => ?_)
  replace G : Wl D (va_A [(h0, .inr (0, [.null, .null, .null, .null, .null, .null, .int 0, .int 0]))] s.heap.size) s [(h0, .inr (0, [.ref q1, .ref q2, .ref q3, .null, .null, .null, .int 0, .int 0])), (q1, .inl (cI, 30, .inl (fun _ => 0))), (q2, .inl (cI, 30, .inl (fun _ => 0))), (q3, .inl (cI, 30, .inl (fun _ => 0)))] H locs := G
  refine lv_aload_n C.1 C.2.1 dX0_init_28 rfl (lv_at hl 0 rfl) ?_
  refine lv_bipush (v := (30)) C.1 C.2.1 dX0_init_29 (by decide) ?_
  refine l_newJ C hA G 30 (by decide) (by decide) (by decide) (by decide) (by decide) dX0_init_31 (fun q4 H G => ?_)
  refine l_putF (ty := .array .long) (Cn := RX0) (T := TX0) (N := 8) (ci := 0) C hnm G 0 3 inX0 tyX0 tyX0_ok nmX0 rfl rfl (by decide) k_150 rfl rfl rfl (by decide +kernel) rfl rfl (Nat.le_of_ble_eq_true rfl) rfl dX0_init_33 (fun H locs G => ?_)
  replace G : Wl D (va_A [(h0, .inr (0, [.null, .null, .null, .null, .null, .null, .int 0, .int 0]))] s.heap.size) s [(h0, .inr (0, [.ref q1, .ref q2, .ref q3, .ref q4, .null, .null, .int 0, .int 0])), (q1, .inl (cI, 30, .inl (fun _ => 0))), (q2, .inl (cI, 30, .inl (fun _ => 0))), (q3, .inl (cI, 30, .inl (fun _ => 0))), (q4, .inl (cJ, 30, .inr (.inl (fun _ => 0))))] H locs := G
  refine lv_aload_n C.1 C.2.1 dX0_init_36 rfl (lv_at hl 0 rfl) ?_
  refine lv_bipush (v := (30)) C.1 C.2.1 dX0_init_37 (by decide) ?_
  refine l_newI C hA G 30 (by decide) (by decide) (by decide) (by decide) (by decide) dX0_init_39 (fun q5 H G => ?_)
  refine l_putF (ty := .array .int) (Cn := RX0) (T := TX0) (N := 8) (ci := 0) C hnm G 0 4 inX0 tyX0 tyX0_ok nmX0 rfl rfl (by decide) k_151 rfl rfl rfl (by decide +kernel) rfl rfl (Nat.le_of_ble_eq_true rfl) rfl dX0_init_41 (fun H locs G => ?_)
  replace G : Wl D (va_A [(h0, .inr (0, [.null, .null, .null, .null, .null, .null, .int 0, .int 0]))] s.heap.size) s [(h0, .inr (0, [.ref q1, .ref q2, .ref q3, .ref q4, .ref q5, .null, .int 0, .int 0])), (q1, .inl (cI, 30, .inl (fun _ => 0))), (q2, .inl (cI, 30, .inl (fun _ => 0))), (q3, .inl (cI, 30, .inl (fun _ => 0))), (q4, .inl (cJ, 30, .inr (.inl (fun _ => 0)))), (q5, .inl (cI, 30, .inl (fun _ => 0)))] H locs := G
  refine lv_aload_n C.1 C.2.1 dX0_init_44 rfl (lv_at hl 0 rfl) ?_
  refine lv_bipush (v := (30)) C.1 C.2.1 dX0_init_45 (by decide) ?_
  refine l_newI C hA G 30 (by decide) (by decide) (by decide) (by decide) (by decide) dX0_init_47 (fun q6 H G => ?_)
  refine l_putF (ty := .array .int) (Cn := RX0) (T := TX0) (N := 8) (ci := 0) C hnm G 0 5 inX0 tyX0 tyX0_ok nmX0 rfl rfl (by decide) k_152 rfl rfl rfl (by decide +kernel) rfl rfl (Nat.le_of_ble_eq_true rfl) rfl dX0_init_49 (fun H locs G => ?_)
  replace G : Wl D (va_A [(h0, .inr (0, [.null, .null, .null, .null, .null, .null, .int 0, .int 0]))] s.heap.size) s [(h0, .inr (0, [.ref q1, .ref q2, .ref q3, .ref q4, .ref q5, .ref q6, .int 0, .int 0])), (q1, .inl (cI, 30, .inl (fun _ => 0))), (q2, .inl (cI, 30, .inl (fun _ => 0))), (q3, .inl (cI, 30, .inl (fun _ => 0))), (q4, .inl (cJ, 30, .inr (.inl (fun _ => 0)))), (q5, .inl (cI, 30, .inl (fun _ => 0))), (q6, .inl (cI, 30, .inl (fun _ => 0)))] H locs := G
  have G2 : Wl D (va_A [(h0, .inr (0, [.null, .null, .null, .null, .null, .null, .int 0, .int 0]))] s.heap.size) s ((fun (b : Nat → Nat) => [(h0, .inr (0, [.ref (b 0), .ref (b 1), .ref (b 2), .ref (b 3), .ref (b 4), .ref (b 5), .int 0, .int 0])), ((b 0), .inl (cI, 30, .inl (fun _ => 0))), ((b 1), .inl (cI, 30, .inl (fun _ => 0))), ((b 2), .inl (cI, 30, .inl (fun _ => 0))), ((b 3), .inl (cJ, 30, .inr (.inl (fun _ => 0)))), ((b 4), .inl (cI, 30, .inl (fun _ => 0))), ((b 5), .inl (cI, 30, .inl (fun _ => 0)))]) (fun j => match j with | 0 => q1 | 1 => q2 | 2 => q3 | 3 => q4 | 4 => q5 | 5 => q6 | _ => 0)) H locs := ⟨G.1.sub [0, 1, 2, 3, 4, 5, 6] rfl, G.2.1.sub [0, 1, 2, 3, 4, 5, 6] (by decide) rfl, G.2.2⟩
  exact l_end (post := fun (b : Nat → Nat) => [(h0, .inr (0, [.ref (b 0), .ref (b 1), .ref (b 2), .ref (b 3), .ref (b 4), .ref (b 5), .int 0, .int 0])), ((b 0), .inl (cI, 30, .inl (fun _ => 0))), ((b 1), .inl (cI, 30, .inl (fun _ => 0))), ((b 2), .inl (cI, 30, .inl (fun _ => 0))), ((b 3), .inl (cJ, 30, .inr (.inl (fun _ => 0)))), ((b 4), .inl (cI, 30, .inl (fun _ => 0))), ((b 5), .inl (cI, 30, .inl (fun _ => 0)))]) (fun j => match j with | 0 => q1 | 1 => q2 | 2 => q3 | 3 => q4 | 4 => q5 | 5 => q6 | _ => 0) C hr G2 dX0_init_52 ⟨Nat.le_of_ble_eq_true rfl, Nat.le_of_ble_eq_true rfl⟩
set_option maxRecDepth 100000 in
set_option maxHeartbeats 4000000 in
theorem mX1_init (l : Launch) (D : va_G) (cI cJ : ClassId) (tk : Nat) (tf : Nat → Int32) (h0 : Nat) : Mk l D cI cJ tk tf yX1_init cX1_init 1 { frames := 1, cells := 1, slots := 12, locals := 23 } [.ref h0] [(h0, .inr (1, [.null]))] (fun (b : Nat → Nat) => [(h0, .inr (1, [.ref (b 0)])), ((b 0), .inl (cI, 12, .inl (fun j => if j < 12 then (-1) else 0)))]) 1 12 := by
  refine opn_k (by decide +kernel) (Nat.le_of_ble_eq_true rfl) (fun p e s m below meth c C hN hnm hr G ls hl => ?_)
  replace hl : lv_has ls 1 [(0, .ref h0)] := hl
  have hA : ∀ q, s.heap.size ≤ q → va_A [(h0, .inr (1, [.null]))] s.heap.size q := fun q h => Or.inr h
  refine lv_aload_n C.1 C.2.1 dX1_init_0 rfl (lv_at hl 0 rfl) ?_
  refine l_obj C k_135 k_79 k_80 hl.1 dX1_init_1 (by decide) (by decide) ?_
  refine lv_aload_n C.1 C.2.1 dX1_init_4 rfl (lv_at hl 0 rfl) ?_
  refine lv_bipush (v := (12)) C.1 C.2.1 dX1_init_5 (by decide) ?_
  refine l_newI C hA G 12 (by decide) (by decide) (by decide) (by decide) (by decide) dX1_init_7 (fun q1 H G => ?_)
  refine l_putF (ty := .array .int) (Cn := RX1) (T := TX1) (N := 1) (ci := 1) C hnm G 0 0 inX1 tyX1 tyX1_ok nmX1 rfl rfl (by decide) k_137 rfl rfl rfl (by decide +kernel) rfl rfl (Nat.le_of_ble_eq_true rfl) rfl dX1_init_9 (fun H locs G => ?_)
  replace G : Wl D (va_A [(h0, .inr (1, [.null]))] s.heap.size) s [(h0, .inr (1, [.ref q1])), (q1, .inl (cI, 12, .inl (fun _ => 0)))] H locs := G
  refine lv_aload_n C.1 C.2.1 dX1_init_12 rfl (lv_at hl 0 rfl) ?_
  refine l_get (Cn := RX1) (T := TX1) (N := 1) (ci := 1) C G 0 0 inX1 rfl rfl (by decide) k_137 rfl rfl dX1_init_13 ?_
  refine lv_iconst (v := (-1)) C.1 C.2.1 dX1_init_16 (by decide) ?_
  refine l_stat (As := [.ref q1, .int (-1)]) (na := 2) (wr := [(h0, .inr (1, [.ref q1]))]) C hA hN G (mJ7_fillK l D cI cJ tk tf q1 12 (by decide) (-1) (fun _ => 0)) k_136 k_121 k_63 k_122 [1] [0] rfl rfl (by decide) (by decide) (by decide) (by decide +kernel) ⟨Nat.le_of_ble_eq_true rfl, Nat.le_of_ble_eq_true rfl⟩ rfl rfl ⟨Nat.le_of_ble_eq_true rfl, Nat.le_of_ble_eq_true rfl⟩ rfl hl.1 rfl (Nat.le_of_ble_eq_true rfl) dX1_init_17 (fun b2 H locs G => ?_)
  replace G : Wl D (va_A [(h0, .inr (1, [.null]))] s.heap.size) s [(h0, .inr (1, [.ref q1])), (q1, .inl (cI, 12, .inl (fun j => if j < 12 then (-1) else 0)))] H locs := G
  have G2 : Wl D (va_A [(h0, .inr (1, [.null]))] s.heap.size) s ((fun (b : Nat → Nat) => [(h0, .inr (1, [.ref (b 0)])), ((b 0), .inl (cI, 12, .inl (fun j => if j < 12 then (-1) else 0)))]) (fun j => match j with | 0 => q1 | _ => 0)) H locs := ⟨G.1.sub [0, 1] rfl, G.2.1.sub [0, 1] (by decide) rfl, G.2.2⟩
  exact l_end (post := fun (b : Nat → Nat) => [(h0, .inr (1, [.ref (b 0)])), ((b 0), .inl (cI, 12, .inl (fun j => if j < 12 then (-1) else 0)))]) (fun j => match j with | 0 => q1 | _ => 0) C hr G2 dX1_init_20 ⟨Nat.le_of_ble_eq_true rfl, Nat.le_of_ble_eq_true rfl⟩
set_option maxRecDepth 100000 in
set_option maxHeartbeats 4000000 in
theorem mX2_init (l : Launch) (D : va_G) (cI cJ : ClassId) (tk : Nat) (tf : Nat → Int32) (h0 : Nat) : Mk l D cI cJ tk tf yX2_init cX2_init 1 { frames := 1, cells := 2, slots := 120, locals := 12 } [.ref h0] [(h0, .inr (2, [.null, .null, .int 0]))] (fun (b : Nat → Nat) => [(h0, .inr (2, [.ref (b 0), .ref (b 1), .int 0])), ((b 0), .inl (cI, 60, .inl (fun _ => 0))), ((b 1), .inl (cI, 60, .inl (fun _ => 0)))]) 2 120 := by
  refine opn_k (by decide +kernel) (Nat.le_of_ble_eq_true rfl) (fun p e s m below meth c C hN hnm hr G ls hl => ?_)
  replace hl : lv_has ls 1 [(0, .ref h0)] := hl
  have hA : ∀ q, s.heap.size ≤ q → va_A [(h0, .inr (2, [.null, .null, .int 0]))] s.heap.size q := fun q h => Or.inr h
  refine lv_aload_n C.1 C.2.1 dX2_init_0 rfl (lv_at hl 0 rfl) ?_
  refine l_obj C k_103 k_79 k_80 hl.1 dX2_init_1 (by decide) (by decide) ?_
  refine lv_aload_n C.1 C.2.1 dX2_init_4 rfl (lv_at hl 0 rfl) ?_
  refine lv_bipush (v := (60)) C.1 C.2.1 dX2_init_5 (by decide) ?_
  refine l_newI C hA G 60 (by decide) (by decide) (by decide) (by decide) (by decide) dX2_init_7 (fun q1 H G => ?_)
  refine l_putF (ty := .array .int) (Cn := RX2) (T := TX2) (N := 3) (ci := 2) C hnm G 0 0 inX2 tyX2 tyX2_ok nmX2 rfl rfl (by decide) k_104 rfl rfl rfl (by decide +kernel) rfl rfl (Nat.le_of_ble_eq_true rfl) rfl dX2_init_9 (fun H locs G => ?_)
  replace G : Wl D (va_A [(h0, .inr (2, [.null, .null, .int 0]))] s.heap.size) s [(h0, .inr (2, [.ref q1, .null, .int 0])), (q1, .inl (cI, 60, .inl (fun _ => 0)))] H locs := G
  refine lv_aload_n C.1 C.2.1 dX2_init_12 rfl (lv_at hl 0 rfl) ?_
  refine lv_bipush (v := (60)) C.1 C.2.1 dX2_init_13 (by decide) ?_
  refine l_newI C hA G 60 (by decide) (by decide) (by decide) (by decide) (by decide) dX2_init_15 (fun q2 H G => ?_)
  refine l_putF (ty := .array .int) (Cn := RX2) (T := TX2) (N := 3) (ci := 2) C hnm G 0 1 inX2 tyX2 tyX2_ok nmX2 rfl rfl (by decide) k_105 rfl rfl rfl (by decide +kernel) rfl rfl (Nat.le_of_ble_eq_true rfl) rfl dX2_init_17 (fun H locs G => ?_)
  replace G : Wl D (va_A [(h0, .inr (2, [.null, .null, .int 0]))] s.heap.size) s [(h0, .inr (2, [.ref q1, .ref q2, .int 0])), (q1, .inl (cI, 60, .inl (fun _ => 0))), (q2, .inl (cI, 60, .inl (fun _ => 0)))] H locs := G
  have G2 : Wl D (va_A [(h0, .inr (2, [.null, .null, .int 0]))] s.heap.size) s ((fun (b : Nat → Nat) => [(h0, .inr (2, [.ref (b 0), .ref (b 1), .int 0])), ((b 0), .inl (cI, 60, .inl (fun _ => 0))), ((b 1), .inl (cI, 60, .inl (fun _ => 0)))]) (fun j => match j with | 0 => q1 | 1 => q2 | _ => 0)) H locs := ⟨G.1.sub [0, 1, 2] rfl, G.2.1.sub [0, 1, 2] (by decide) rfl, G.2.2⟩
  exact l_end (post := fun (b : Nat → Nat) => [(h0, .inr (2, [.ref (b 0), .ref (b 1), .int 0])), ((b 0), .inl (cI, 60, .inl (fun _ => 0))), ((b 1), .inl (cI, 60, .inl (fun _ => 0)))]) (fun j => match j with | 0 => q1 | 1 => q2 | _ => 0) C hr G2 dX2_init_20 ⟨Nat.le_of_ble_eq_true rfl, Nat.le_of_ble_eq_true rfl⟩
set_option maxRecDepth 100000 in
set_option maxHeartbeats 4000000 in
theorem mX3_init (l : Launch) (D : va_G) (cI cJ : ClassId) (tk : Nat) (tf : Nat → Int32) (h0 u1 u2 : Nat) : Mk l D cI cJ tk tf yX3_init cX3_init 3 { frames := 1, cells := 0, slots := 0, locals := 12 } [.ref h0, .ref u1, .ref u2] [(h0, .inr (3, [.null, .null]))] (fun (b : Nat → Nat) => [(h0, .inr (3, [.ref u1, .ref u2]))]) 0 0 := by
  refine opn_k (by decide +kernel) (Nat.le_of_ble_eq_true rfl) (fun p e s m below meth c C hN hnm hr G ls hl => ?_)
  replace hl : lv_has ls 3 [(0, .ref h0), (1, .ref u1), (2, .ref u2)] := hl
  have hA : ∀ q, s.heap.size ≤ q → va_A [(h0, .inr (3, [.null, .null]))] s.heap.size q := fun q h => Or.inr h
  refine lv_aload_n C.1 C.2.1 dX3_init_0 rfl (lv_at hl 0 rfl) ?_
  refine l_obj C k_205 k_79 k_80 hl.1 dX3_init_1 (by decide) (by decide) ?_
  refine lv_aload_n C.1 C.2.1 dX3_init_4 rfl (lv_at hl 0 rfl) ?_
  refine lv_aload_n C.1 C.2.1 dX3_init_5 rfl (lv_at hl 1 rfl) ?_
  refine l_putF (ty := .object "ErrorNames$Pile") (Cn := RX3) (T := TX3) (N := 2) (ci := 3) C hnm G 0 0 inX3 tyX3 tyX3_ok nmX3 rfl rfl (by decide) k_206 rfl rfl rfl (by decide +kernel) rfl rfl (Nat.le_of_ble_eq_true rfl) rfl dX3_init_6 (fun H locs G => ?_)
  replace G : Wl D (va_A [(h0, .inr (3, [.null, .null]))] s.heap.size) s [(h0, .inr (3, [.ref u1, .null]))] H locs := G
  refine lv_aload_n C.1 C.2.1 dX3_init_9 rfl (lv_at hl 0 rfl) ?_
  refine lv_aload_n C.1 C.2.1 dX3_init_10 rfl (lv_at hl 2 rfl) ?_
  refine l_putF (ty := .object "ErrorNames$Table") (Cn := RX3) (T := TX3) (N := 2) (ci := 3) C hnm G 0 1 inX3 tyX3 tyX3_ok nmX3 rfl rfl (by decide) k_207 rfl rfl rfl (by decide +kernel) rfl rfl (Nat.le_of_ble_eq_true rfl) rfl dX3_init_11 (fun H locs G => ?_)
  replace G : Wl D (va_A [(h0, .inr (3, [.null, .null]))] s.heap.size) s [(h0, .inr (3, [.ref u1, .ref u2]))] H locs := G
  have G2 : Wl D (va_A [(h0, .inr (3, [.null, .null]))] s.heap.size) s ((fun (b : Nat → Nat) => [(h0, .inr (3, [.ref u1, .ref u2]))]) (fun _ => 0)) H locs := ⟨G.1.sub [0] rfl, G.2.1.sub [0] (by decide) rfl, G.2.2⟩
  exact l_end (post := fun (b : Nat → Nat) => [(h0, .inr (3, [.ref u1, .ref u2]))]) (fun _ => 0) C hr G2 dX3_init_14 ⟨Nat.le_of_ble_eq_true rfl, Nat.le_of_ble_eq_true rfl⟩
set_option maxRecDepth 100000 in
set_option maxHeartbeats 4000000 in
theorem mX4_init (l : Launch) (D : va_G) (cI cJ : ClassId) (tk : Nat) (tf : Nat → Int32) (h0 : Nat) : Mk l D cI cJ tk tf yX4_init cX4_init 1 { frames := 1, cells := 3, slots := 980, locals := 12 } [.ref h0] [(h0, .inr (4, [.null, .null, .null]))] (fun (b : Nat → Nat) => [(h0, .inr (4, [.ref (b 0), .ref (b 1), .ref (b 2)])), ((b 0), .inl (cI, 480, .inl (fun _ => 0))), ((b 1), .inl (cI, 480, .inl (fun _ => 0))), ((b 2), .inl (cI, 20, .inl (fun _ => 0)))]) 3 980 := by
  refine opn_k (by decide +kernel) (Nat.le_of_ble_eq_true rfl) (fun p e s m below meth c C hN hnm hr G ls hl => ?_)
  replace hl : lv_has ls 1 [(0, .ref h0)] := hl
  have hA : ∀ q, s.heap.size ≤ q → va_A [(h0, .inr (4, [.null, .null, .null]))] s.heap.size q := fun q h => Or.inr h
  refine lv_aload_n C.1 C.2.1 dX4_init_0 rfl (lv_at hl 0 rfl) ?_
  refine l_obj C k_86 k_79 k_80 hl.1 dX4_init_1 (by decide) (by decide) ?_
  refine lv_aload_n C.1 C.2.1 dX4_init_4 rfl (lv_at hl 0 rfl) ?_
  refine lv_sipush (v := (480)) C.1 C.2.1 dX4_init_5 (by decide) ?_
  refine l_newI C hA G 480 (by decide) (by decide) (by decide) (by decide) (by decide) dX4_init_8 (fun q1 H G => ?_)
  refine l_putF (ty := .array .int) (Cn := RX4) (T := TX4) (N := 3) (ci := 4) C hnm G 0 0 inX4 tyX4 tyX4_ok nmX4 rfl rfl (by decide) k_87 rfl rfl rfl (by decide +kernel) rfl rfl (Nat.le_of_ble_eq_true rfl) rfl dX4_init_10 (fun H locs G => ?_)
  replace G : Wl D (va_A [(h0, .inr (4, [.null, .null, .null]))] s.heap.size) s [(h0, .inr (4, [.ref q1, .null, .null])), (q1, .inl (cI, 480, .inl (fun _ => 0)))] H locs := G
  refine lv_aload_n C.1 C.2.1 dX4_init_13 rfl (lv_at hl 0 rfl) ?_
  refine lv_sipush (v := (480)) C.1 C.2.1 dX4_init_14 (by decide) ?_
  refine l_newI C hA G 480 (by decide) (by decide) (by decide) (by decide) (by decide) dX4_init_17 (fun q2 H G => ?_)
  refine l_putF (ty := .array .int) (Cn := RX4) (T := TX4) (N := 3) (ci := 4) C hnm G 0 1 inX4 tyX4 tyX4_ok nmX4 rfl rfl (by decide) k_88 rfl rfl rfl (by decide +kernel) rfl rfl (Nat.le_of_ble_eq_true rfl) rfl dX4_init_19 (fun H locs G => ?_)
  replace G : Wl D (va_A [(h0, .inr (4, [.null, .null, .null]))] s.heap.size) s [(h0, .inr (4, [.ref q1, .ref q2, .null])), (q1, .inl (cI, 480, .inl (fun _ => 0))), (q2, .inl (cI, 480, .inl (fun _ => 0)))] H locs := G
  refine lv_aload_n C.1 C.2.1 dX4_init_22 rfl (lv_at hl 0 rfl) ?_
  refine lv_bipush (v := (20)) C.1 C.2.1 dX4_init_23 (by decide) ?_
  refine l_newI C hA G 20 (by decide) (by decide) (by decide) (by decide) (by decide) dX4_init_25 (fun q3 H G => ?_)
  refine l_putF (ty := .array .int) (Cn := RX4) (T := TX4) (N := 3) (ci := 4) C hnm G 0 2 inX4 tyX4 tyX4_ok nmX4 rfl rfl (by decide) k_89 rfl rfl rfl (by decide +kernel) rfl rfl (Nat.le_of_ble_eq_true rfl) rfl dX4_init_27 (fun H locs G => ?_)
  replace G : Wl D (va_A [(h0, .inr (4, [.null, .null, .null]))] s.heap.size) s [(h0, .inr (4, [.ref q1, .ref q2, .ref q3])), (q1, .inl (cI, 480, .inl (fun _ => 0))), (q2, .inl (cI, 480, .inl (fun _ => 0))), (q3, .inl (cI, 20, .inl (fun _ => 0)))] H locs := G
  have G2 : Wl D (va_A [(h0, .inr (4, [.null, .null, .null]))] s.heap.size) s ((fun (b : Nat → Nat) => [(h0, .inr (4, [.ref (b 0), .ref (b 1), .ref (b 2)])), ((b 0), .inl (cI, 480, .inl (fun _ => 0))), ((b 1), .inl (cI, 480, .inl (fun _ => 0))), ((b 2), .inl (cI, 20, .inl (fun _ => 0)))]) (fun j => match j with | 0 => q1 | 1 => q2 | 2 => q3 | _ => 0)) H locs := ⟨G.1.sub [0, 1, 2, 3] rfl, G.2.1.sub [0, 1, 2, 3] (by decide) rfl, G.2.2⟩
  exact l_end (post := fun (b : Nat → Nat) => [(h0, .inr (4, [.ref (b 0), .ref (b 1), .ref (b 2)])), ((b 0), .inl (cI, 480, .inl (fun _ => 0))), ((b 1), .inl (cI, 480, .inl (fun _ => 0))), ((b 2), .inl (cI, 20, .inl (fun _ => 0)))]) (fun j => match j with | 0 => q1 | 1 => q2 | 2 => q3 | _ => 0) C hr G2 dX4_init_30 ⟨Nat.le_of_ble_eq_true rfl, Nat.le_of_ble_eq_true rfl⟩
set_option maxRecDepth 100000 in
set_option maxHeartbeats 4000000 in
theorem mX5_init (l : Launch) (D : va_G) (cI cJ : ClassId) (tk : Nat) (tf : Nat → Int32) (h0 : Nat) : Mk l D cI cJ tk tf yX5_init cX5_init 1 { frames := 2, cells := 3, slots := 123, locals := 32 } [.ref h0] [(h0, .inr (5, [.null, .int 0, .int 0, .int 0, .int 0, .int 0]))] (fun (b : Nat → Nat) => [(h0, .inr (5, [.ref (b 0), .int 0, .int (-1), .int 0, .int 0, .int 0])), ((b 0), .inr (2, [.ref (b 1), .ref (b 2), .int 0])), ((b 1), .inl (cI, 60, .inl (fun _ => 0))), ((b 2), .inl (cI, 60, .inl (fun _ => 0)))]) 3 123 := by
  refine opn_k (by decide +kernel) (Nat.le_of_ble_eq_true rfl) (fun p e s m below meth c C hN hnm hr G ls hl => ?_)
  replace hl : lv_has ls 1 [(0, .ref h0)] := hl
  have hA : ∀ q, s.heap.size ≤ q → va_A [(h0, .inr (5, [.null, .int 0, .int 0, .int 0, .int 0, .int 0]))] s.heap.size q := fun q h => Or.inr h
  refine lv_aload_n C.1 C.2.1 dX5_init_0 rfl (lv_at hl 0 rfl) ?_
  refine l_obj C k_178 k_79 k_80 hl.1 dX5_init_1 (by decide) (by decide) ?_
  refine lv_aload_n C.1 C.2.1 dX5_init_4 rfl (lv_at hl 0 rfl) ?_
  refine l_new (ci := 2) (fs := [.null, .null, .int 0]) (Cn := RX2) (T := TX2) (N := 3) C hA G inX2 tyX2 tyX2_ok k_179 k_99 k_61 rfl (fun j hj => by rcases (show j = 0 ∨ j = 1 ∨ j = 2 by omega) with rfl | rfl | rfl <;> rfl) (by decide) (by decide) dX5_init_5 (fun q1 H G => ?_)
  refine lv_dup C.1 C.2.1 dX5_init_8 rfl ?_
  refine l_ctorN (As := []) (na := 0) (wr := [(h0, .inr (5, [.null, .int 0, .int 0, .int 0, .int 0, .int 0]))]) C hA hN G (mX2_init l D cI cJ tk tf q1) hN.2.2.2.2 k_101 k_61 k_102 rfl [1] [0] rfl rfl (by decide) (by decide) (by decide) (by decide +kernel) ⟨Nat.le_of_ble_eq_true rfl, Nat.le_of_ble_eq_true rfl⟩ rfl rfl ⟨Nat.le_of_ble_eq_true rfl, Nat.le_of_ble_eq_true rfl⟩ rfl hl.1 rfl (Nat.le_of_ble_eq_true rfl) dX5_init_9 (fun b2 H locs G => ?_)
  replace G : Wl D (va_A [(h0, .inr (5, [.null, .int 0, .int 0, .int 0, .int 0, .int 0]))] s.heap.size) s [(h0, .inr (5, [.null, .int 0, .int 0, .int 0, .int 0, .int 0])), (q1, .inr (2, [.ref (b2 0), .ref (b2 1), .int 0])), ((b2 0), .inl (cI, 60, .inl (fun _ => 0))), ((b2 1), .inl (cI, 60, .inl (fun _ => 0)))] H locs := G
  refine l_putF (ty := .object "ErrorNames$Pile") (Cn := RX5) (T := TX5) (N := 6) (ci := 5) C hnm G 0 0 inX5 tyX5 tyX5_ok nmX5 rfl rfl (by decide) k_181 rfl rfl rfl (by decide +kernel) rfl rfl (Nat.le_of_ble_eq_true rfl) rfl dX5_init_12 (fun H locs G => ?_)
  replace G : Wl D (va_A [(h0, .inr (5, [.null, .int 0, .int 0, .int 0, .int 0, .int 0]))] s.heap.size) s [(h0, .inr (5, [.ref q1, .int 0, .int 0, .int 0, .int 0, .int 0])), (q1, .inr (2, [.ref (b2 0), .ref (b2 1), .int 0])), ((b2 0), .inl (cI, 60, .inl (fun _ => 0))), ((b2 1), .inl (cI, 60, .inl (fun _ => 0)))] H locs := G
  refine lv_aload_n C.1 C.2.1 dX5_init_15 rfl (lv_at hl 0 rfl) ?_
  refine lv_iconst (v := (-1)) C.1 C.2.1 dX5_init_16 (by decide) ?_
  refine l_put (ty := .int) (Cn := RX5) (T := TX5) (N := 6) (ci := 5) C G 0 2 inX5 tyX5 tyX5_ok nmX5 rfl rfl (by decide) k_183 rfl rfl (by decide +kernel) rfl rfl (Nat.le_of_ble_eq_true rfl) rfl dX5_init_17 (fun H locs G => ?_)
  replace G : Wl D (va_A [(h0, .inr (5, [.null, .int 0, .int 0, .int 0, .int 0, .int 0]))] s.heap.size) s [(h0, .inr (5, [.ref q1, .int 0, .int (-1), .int 0, .int 0, .int 0])), (q1, .inr (2, [.ref (b2 0), .ref (b2 1), .int 0])), ((b2 0), .inl (cI, 60, .inl (fun _ => 0))), ((b2 1), .inl (cI, 60, .inl (fun _ => 0)))] H locs := G
  have G2 : Wl D (va_A [(h0, .inr (5, [.null, .int 0, .int 0, .int 0, .int 0, .int 0]))] s.heap.size) s ((fun (b : Nat → Nat) => [(h0, .inr (5, [.ref (b 0), .int 0, .int (-1), .int 0, .int 0, .int 0])), ((b 0), .inr (2, [.ref (b 1), .ref (b 2), .int 0])), ((b 1), .inl (cI, 60, .inl (fun _ => 0))), ((b 2), .inl (cI, 60, .inl (fun _ => 0)))]) (fun j => match j with | 0 => q1 | 1 => (b2 0) | 2 => (b2 1) | _ => 0)) H locs := ⟨G.1.sub [0, 1, 2, 3] rfl, G.2.1.sub [0, 1, 2, 3] (by decide) rfl, G.2.2⟩
  exact l_end (post := fun (b : Nat → Nat) => [(h0, .inr (5, [.ref (b 0), .int 0, .int (-1), .int 0, .int 0, .int 0])), ((b 0), .inr (2, [.ref (b 1), .ref (b 2), .int 0])), ((b 1), .inl (cI, 60, .inl (fun _ => 0))), ((b 2), .inl (cI, 60, .inl (fun _ => 0)))]) (fun j => match j with | 0 => q1 | 1 => (b2 0) | 2 => (b2 1) | _ => 0) C hr G2 dX5_init_20 ⟨Nat.le_of_ble_eq_true rfl, Nat.le_of_ble_eq_true rfl⟩
set_option maxRecDepth 100000 in
set_option maxHeartbeats 4000000 in
theorem mX6_init (l : Launch) (D : va_G) (cI cJ : ClassId) (tk : Nat) (tf : Nat → Int32) (h0 : Nat) : Mk l D cI cJ tk tf yX6_init cX6_init 1 { frames := 1, cells := 2, slots := 80, locals := 23 } [.ref h0] [(h0, .inr (6, [.null, .null]))] (fun (b : Nat → Nat) => [(h0, .inr (6, [.ref (b 0), .ref (b 1)])), ((b 0), .inl (cI, 40, .inl (fun j => if j < 40 then (-1) else 0))), ((b 1), .inl (cI, 40, .inl (fun _ => 0)))]) 2 80 := by
  refine opn_k (by decide +kernel) (Nat.le_of_ble_eq_true rfl) (fun p e s m below meth c C hN hnm hr G ls hl => ?_)
  replace hl : lv_has ls 1 [(0, .ref h0)] := hl
  have hA : ∀ q, s.heap.size ≤ q → va_A [(h0, .inr (6, [.null, .null]))] s.heap.size q := fun q h => Or.inr h
  refine lv_aload_n C.1 C.2.1 dX6_init_0 rfl (lv_at hl 0 rfl) ?_
  refine l_obj C k_119 k_79 k_80 hl.1 dX6_init_1 (by decide) (by decide) ?_
  refine lv_aload_n C.1 C.2.1 dX6_init_4 rfl (lv_at hl 0 rfl) ?_
  refine lv_bipush (v := (40)) C.1 C.2.1 dX6_init_5 (by decide) ?_
  refine l_newI C hA G 40 (by decide) (by decide) (by decide) (by decide) (by decide) dX6_init_7 (fun q1 H G => ?_)
  refine l_putF (ty := .array .int) (Cn := RX6) (T := TX6) (N := 2) (ci := 6) C hnm G 0 0 inX6 tyX6 tyX6_ok nmX6 rfl rfl (by decide) k_123 rfl rfl rfl (by decide +kernel) rfl rfl (Nat.le_of_ble_eq_true rfl) rfl dX6_init_9 (fun H locs G => ?_)
  replace G : Wl D (va_A [(h0, .inr (6, [.null, .null]))] s.heap.size) s [(h0, .inr (6, [.ref q1, .null])), (q1, .inl (cI, 40, .inl (fun _ => 0)))] H locs := G
  refine lv_aload_n C.1 C.2.1 dX6_init_12 rfl (lv_at hl 0 rfl) ?_
  refine lv_bipush (v := (40)) C.1 C.2.1 dX6_init_13 (by decide) ?_
  refine l_newI C hA G 40 (by decide) (by decide) (by decide) (by decide) (by decide) dX6_init_15 (fun q2 H G => ?_)
  refine l_putF (ty := .array .int) (Cn := RX6) (T := TX6) (N := 2) (ci := 6) C hnm G 0 1 inX6 tyX6 tyX6_ok nmX6 rfl rfl (by decide) k_124 rfl rfl rfl (by decide +kernel) rfl rfl (Nat.le_of_ble_eq_true rfl) rfl dX6_init_17 (fun H locs G => ?_)
  replace G : Wl D (va_A [(h0, .inr (6, [.null, .null]))] s.heap.size) s [(h0, .inr (6, [.ref q1, .ref q2])), (q1, .inl (cI, 40, .inl (fun _ => 0))), (q2, .inl (cI, 40, .inl (fun _ => 0)))] H locs := G
  refine lv_aload_n C.1 C.2.1 dX6_init_20 rfl (lv_at hl 0 rfl) ?_
  refine l_get (Cn := RX6) (T := TX6) (N := 2) (ci := 6) C G 0 0 inX6 rfl rfl (by decide) k_123 rfl rfl dX6_init_21 ?_
  refine lv_iconst (v := (-1)) C.1 C.2.1 dX6_init_24 (by decide) ?_
  refine l_stat (As := [.ref q1, .int (-1)]) (na := 2) (wr := [(h0, .inr (6, [.ref q1, .ref q2])), (q2, .inl (cI, 40, .inl (fun _ => 0)))]) C hA hN G (mJ7_fillK l D cI cJ tk tf q1 40 (by decide) (-1) (fun _ => 0)) k_120 k_121 k_63 k_122 [1] [0, 2] rfl rfl (by decide) (by decide) (by decide) (by decide +kernel) ⟨Nat.le_of_ble_eq_true rfl, Nat.le_of_ble_eq_true rfl⟩ rfl rfl ⟨Nat.le_of_ble_eq_true rfl, Nat.le_of_ble_eq_true rfl⟩ rfl hl.1 rfl (Nat.le_of_ble_eq_true rfl) dX6_init_25 (fun b3 H locs G => ?_)
  replace G : Wl D (va_A [(h0, .inr (6, [.null, .null]))] s.heap.size) s [(h0, .inr (6, [.ref q1, .ref q2])), (q2, .inl (cI, 40, .inl (fun _ => 0))), (q1, .inl (cI, 40, .inl (fun j => if j < 40 then (-1) else 0)))] H locs := G
  have G2 : Wl D (va_A [(h0, .inr (6, [.null, .null]))] s.heap.size) s ((fun (b : Nat → Nat) => [(h0, .inr (6, [.ref (b 0), .ref (b 1)])), ((b 0), .inl (cI, 40, .inl (fun j => if j < 40 then (-1) else 0))), ((b 1), .inl (cI, 40, .inl (fun _ => 0)))]) (fun j => match j with | 0 => q1 | 1 => q2 | _ => 0)) H locs := ⟨G.1.sub [0, 2, 1] rfl, G.2.1.sub [0, 2, 1] (by decide) rfl, G.2.2⟩
  exact l_end (post := fun (b : Nat → Nat) => [(h0, .inr (6, [.ref (b 0), .ref (b 1)])), ((b 0), .inl (cI, 40, .inl (fun j => if j < 40 then (-1) else 0))), ((b 1), .inl (cI, 40, .inl (fun _ => 0)))]) (fun j => match j with | 0 => q1 | 1 => q2 | _ => 0) C hr G2 dX6_init_28 ⟨Nat.le_of_ble_eq_true rfl, Nat.le_of_ble_eq_true rfl⟩
set_option maxRecDepth 100000 in
set_option maxHeartbeats 4000000 in
theorem mX7_init (l : Launch) (D : va_G) (cI cJ : ClassId) (tk : Nat) (tf : Nat → Int32) (h0 : Nat) : Mk l D cI cJ tk tf yX7_init cX7_init 1 { frames := 3, cells := 24, slots := 1520, locals := 52 } [.ref h0] [(h0, .inr (7, [.null, .null, .null, .null, .null, .null, .null, .int 0, .int 0, .int 0, .int 0]))] (fun (b : Nat → Nat) => [(h0, .inr (7, [.ref (b 0), .ref (b 4), .ref (b 7), .ref (b 10), .ref (b 12), .ref (b 19), .ref (b 23), .int 0, .int 0, .int 0, .int 0])), ((b 0), .inr (4, [.ref (b 1), .ref (b 2), .ref (b 3)])), ((b 1), .inl (cI, 480, .inl (fun _ => 0))), ((b 2), .inl (cI, 480, .inl (fun _ => 0))), ((b 3), .inl (cI, 20, .inl (fun _ => 0))), ((b 4), .inr (2, [.ref (b 5), .ref (b 6), .int 0])), ((b 5), .inl (cI, 60, .inl (fun _ => 0))), ((b 6), .inl (cI, 60, .inl (fun _ => 0))), ((b 7), .inr (6, [.ref (b 8), .ref (b 9)])), ((b 8), .inl (cI, 40, .inl (fun j => if j < 40 then (-1) else 0))), ((b 9), .inl (cI, 40, .inl (fun _ => 0))), ((b 10), .inr (1, [.ref (b 11)])), ((b 11), .inl (cI, 12, .inl (fun j => if j < 12 then (-1) else 0))), ((b 12), .inr (0, [.ref (b 13), .ref (b 14), .ref (b 15), .ref (b 16), .ref (b 17), .ref (b 18), .int 0, .int 0])), ((b 13), .inl (cI, 30, .inl (fun _ => 0))), ((b 14), .inl (cI, 30, .inl (fun _ => 0))), ((b 15), .inl (cI, 30, .inl (fun _ => 0))), ((b 16), .inl (cJ, 30, .inr (.inl (fun _ => 0)))), ((b 17), .inl (cI, 30, .inl (fun _ => 0))), ((b 18), .inl (cI, 30, .inl (fun _ => 0))), ((b 19), .inr (5, [.ref (b 20), .int 0, .int (-1), .int 0, .int 0, .int 0])), ((b 20), .inr (2, [.ref (b 21), .ref (b 22), .int 0])), ((b 21), .inl (cI, 60, .inl (fun _ => 0))), ((b 22), .inl (cI, 60, .inl (fun _ => 0))), ((b 23), .inr (3, [.ref (b 4), .ref (b 7)]))]) 24 1520 := by
  refine opn_k (by decide +kernel) (Nat.le_of_ble_eq_true rfl) (fun p e s m below meth c C hN hnm hr G ls hl => ?_)
  replace hl : lv_has ls 1 [(0, .ref h0)] := hl
  have hA : ∀ q, s.heap.size ≤ q → va_A [(h0, .inr (7, [.null, .null, .null, .null, .null, .null, .null, .int 0, .int 0, .int 0, .int 0]))] s.heap.size q := fun q h => Or.inr h
  refine lv_aload_n C.1 C.2.1 dX7_init_0 rfl (lv_at hl 0 rfl) ?_
  refine l_obj C k_78 k_79 k_80 hl.1 dX7_init_1 (by decide) (by decide) ?_
  refine lv_aload_n C.1 C.2.1 dX7_init_4 rfl (lv_at hl 0 rfl) ?_
  refine l_new (ci := 4) (fs := [.null, .null, .null]) (Cn := RX4) (T := TX4) (N := 3) C hA G inX4 tyX4 tyX4_ok k_81 k_82 k_60 rfl (fun j hj => by rcases (show j = 0 ∨ j = 1 ∨ j = 2 by omega) with rfl | rfl | rfl <;> rfl) (by decide) (by decide) dX7_init_5 (fun q1 H G => ?_)
  refine lv_dup C.1 C.2.1 dX7_init_8 rfl ?_
  refine l_ctorN (As := []) (na := 0) (wr := [(h0, .inr (7, [.null, .null, .null, .null, .null, .null, .null, .int 0, .int 0, .int 0, .int 0]))]) C hA hN G (mX4_init l D cI cJ tk tf q1) hN.1 k_84 k_60 k_85 rfl [1] [0] rfl rfl (by decide) (by decide) (by decide) (by decide +kernel) ⟨Nat.le_of_ble_eq_true rfl, Nat.le_of_ble_eq_true rfl⟩ rfl rfl ⟨Nat.le_of_ble_eq_true rfl, Nat.le_of_ble_eq_true rfl⟩ rfl hl.1 rfl (Nat.le_of_ble_eq_true rfl) dX7_init_9 (fun b2 H locs G => ?_)
  replace G : Wl D (va_A [(h0, .inr (7, [.null, .null, .null, .null, .null, .null, .null, .int 0, .int 0, .int 0, .int 0]))] s.heap.size) s [(h0, .inr (7, [.null, .null, .null, .null, .null, .null, .null, .int 0, .int 0, .int 0, .int 0])), (q1, .inr (4, [.ref (b2 0), .ref (b2 1), .ref (b2 2)])), ((b2 0), .inl (cI, 480, .inl (fun _ => 0))), ((b2 1), .inl (cI, 480, .inl (fun _ => 0))), ((b2 2), .inl (cI, 20, .inl (fun _ => 0)))] H locs := G
  refine l_putF (ty := .object "ErrorNames$Procedures") (Cn := RX7) (T := TX7) (N := 11) (ci := 7) C hnm G 0 0 inX7 tyX7 tyX7_ok nmX7 rfl rfl (by decide) k_213 rfl rfl rfl (by decide +kernel) rfl rfl (Nat.le_of_ble_eq_true rfl) rfl dX7_init_12 (fun H locs G => ?_)
  replace G : Wl D (va_A [(h0, .inr (7, [.null, .null, .null, .null, .null, .null, .null, .int 0, .int 0, .int 0, .int 0]))] s.heap.size) s [(h0, .inr (7, [.ref q1, .null, .null, .null, .null, .null, .null, .int 0, .int 0, .int 0, .int 0])), (q1, .inr (4, [.ref (b2 0), .ref (b2 1), .ref (b2 2)])), ((b2 0), .inl (cI, 480, .inl (fun _ => 0))), ((b2 1), .inl (cI, 480, .inl (fun _ => 0))), ((b2 2), .inl (cI, 20, .inl (fun _ => 0)))] H locs := G
  refine lv_aload_n C.1 C.2.1 dX7_init_15 rfl (lv_at hl 0 rfl) ?_
  refine l_new (ci := 2) (fs := [.null, .null, .int 0]) (Cn := RX2) (T := TX2) (N := 3) C hA G inX2 tyX2 tyX2_ok k_98 k_99 k_61 rfl (fun j hj => by rcases (show j = 0 ∨ j = 1 ∨ j = 2 by omega) with rfl | rfl | rfl <;> rfl) (by decide) (by decide) dX7_init_16 (fun q3 H G => ?_)
  refine lv_dup C.1 C.2.1 dX7_init_19 rfl ?_
  refine l_ctorN (As := []) (na := 0) (wr := [(h0, .inr (7, [.ref q1, .null, .null, .null, .null, .null, .null, .int 0, .int 0, .int 0, .int 0])), (q1, .inr (4, [.ref (b2 0), .ref (b2 1), .ref (b2 2)])), ((b2 0), .inl (cI, 480, .inl (fun _ => 0))), ((b2 1), .inl (cI, 480, .inl (fun _ => 0))), ((b2 2), .inl (cI, 20, .inl (fun _ => 0)))]) C hA hN G (mX2_init l D cI cJ tk tf q3) hN.2.1 k_101 k_61 k_102 rfl [5] [0, 1, 2, 3, 4] rfl rfl (by decide) (by decide) (by decide) (by decide +kernel) ⟨Nat.le_of_ble_eq_true rfl, Nat.le_of_ble_eq_true rfl⟩ rfl rfl ⟨Nat.le_of_ble_eq_true rfl, Nat.le_of_ble_eq_true rfl⟩ rfl hl.1 rfl (Nat.le_of_ble_eq_true rfl) dX7_init_20 (fun b4 H locs G => ?_)
  replace G : Wl D (va_A [(h0, .inr (7, [.null, .null, .null, .null, .null, .null, .null, .int 0, .int 0, .int 0, .int 0]))] s.heap.size) s [(h0, .inr (7, [.ref q1, .null, .null, .null, .null, .null, .null, .int 0, .int 0, .int 0, .int 0])), (q1, .inr (4, [.ref (b2 0), .ref (b2 1), .ref (b2 2)])), ((b2 0), .inl (cI, 480, .inl (fun _ => 0))), ((b2 1), .inl (cI, 480, .inl (fun _ => 0))), ((b2 2), .inl (cI, 20, .inl (fun _ => 0))), (q3, .inr (2, [.ref (b4 0), .ref (b4 1), .int 0])), ((b4 0), .inl (cI, 60, .inl (fun _ => 0))), ((b4 1), .inl (cI, 60, .inl (fun _ => 0)))] H locs := G
  refine l_putF (ty := .object "ErrorNames$Pile") (Cn := RX7) (T := TX7) (N := 11) (ci := 7) C hnm G 0 1 inX7 tyX7 tyX7_ok nmX7 rfl rfl (by decide) k_214 rfl rfl rfl (by decide +kernel) rfl rfl (Nat.le_of_ble_eq_true rfl) rfl dX7_init_23 (fun H locs G => ?_)
  replace G : Wl D (va_A [(h0, .inr (7, [.null, .null, .null, .null, .null, .null, .null, .int 0, .int 0, .int 0, .int 0]))] s.heap.size) s [(h0, .inr (7, [.ref q1, .ref q3, .null, .null, .null, .null, .null, .int 0, .int 0, .int 0, .int 0])), (q1, .inr (4, [.ref (b2 0), .ref (b2 1), .ref (b2 2)])), ((b2 0), .inl (cI, 480, .inl (fun _ => 0))), ((b2 1), .inl (cI, 480, .inl (fun _ => 0))), ((b2 2), .inl (cI, 20, .inl (fun _ => 0))), (q3, .inr (2, [.ref (b4 0), .ref (b4 1), .int 0])), ((b4 0), .inl (cI, 60, .inl (fun _ => 0))), ((b4 1), .inl (cI, 60, .inl (fun _ => 0)))] H locs := G
  refine lv_aload_n C.1 C.2.1 dX7_init_26 rfl (lv_at hl 0 rfl) ?_
  refine l_new (ci := 6) (fs := [.null, .null]) (Cn := RX6) (T := TX6) (N := 2) C hA G inX6 tyX6 tyX6_ok k_114 k_115 k_62 rfl (fun j hj => by rcases (show j = 0 ∨ j = 1 by omega) with rfl | rfl <;> rfl) (by decide) (by decide) dX7_init_27 (fun q5 H G => ?_)
  refine lv_dup C.1 C.2.1 dX7_init_30 rfl ?_
  refine l_ctor (As := []) (na := 0) (wr := [(h0, .inr (7, [.ref q1, .ref q3, .null, .null, .null, .null, .null, .int 0, .int 0, .int 0, .int 0])), (q1, .inr (4, [.ref (b2 0), .ref (b2 1), .ref (b2 2)])), ((b2 0), .inl (cI, 480, .inl (fun _ => 0))), ((b2 1), .inl (cI, 480, .inl (fun _ => 0))), ((b2 2), .inl (cI, 20, .inl (fun _ => 0))), (q3, .inr (2, [.ref (b4 0), .ref (b4 1), .int 0])), ((b4 0), .inl (cI, 60, .inl (fun _ => 0))), ((b4 1), .inl (cI, 60, .inl (fun _ => 0)))]) C hA hN G (mX6_init l D cI cJ tk tf q5) k_116 k_117 k_62 k_118 rfl [8] [0, 1, 2, 3, 4, 5, 6, 7] rfl rfl (by decide) (by decide) (by decide) (by decide +kernel) ⟨Nat.le_of_ble_eq_true rfl, Nat.le_of_ble_eq_true rfl⟩ rfl rfl ⟨Nat.le_of_ble_eq_true rfl, Nat.le_of_ble_eq_true rfl⟩ rfl hl.1 rfl (Nat.le_of_ble_eq_true rfl) dX7_init_31 (fun b6 H locs G => ?_)
  replace G : Wl D (va_A [(h0, .inr (7, [.null, .null, .null, .null, .null, .null, .null, .int 0, .int 0, .int 0, .int 0]))] s.heap.size) s [(h0, .inr (7, [.ref q1, .ref q3, .null, .null, .null, .null, .null, .int 0, .int 0, .int 0, .int 0])), (q1, .inr (4, [.ref (b2 0), .ref (b2 1), .ref (b2 2)])), ((b2 0), .inl (cI, 480, .inl (fun _ => 0))), ((b2 1), .inl (cI, 480, .inl (fun _ => 0))), ((b2 2), .inl (cI, 20, .inl (fun _ => 0))), (q3, .inr (2, [.ref (b4 0), .ref (b4 1), .int 0])), ((b4 0), .inl (cI, 60, .inl (fun _ => 0))), ((b4 1), .inl (cI, 60, .inl (fun _ => 0))), (q5, .inr (6, [.ref (b6 0), .ref (b6 1)])), ((b6 0), .inl (cI, 40, .inl (fun j => if j < 40 then (-1) else 0))), ((b6 1), .inl (cI, 40, .inl (fun _ => 0)))] H locs := G
  refine l_putF (ty := .object "ErrorNames$Table") (Cn := RX7) (T := TX7) (N := 11) (ci := 7) C hnm G 0 2 inX7 tyX7 tyX7_ok nmX7 rfl rfl (by decide) k_215 rfl rfl rfl (by decide +kernel) rfl rfl (Nat.le_of_ble_eq_true rfl) rfl dX7_init_34 (fun H locs G => ?_)
  replace G : Wl D (va_A [(h0, .inr (7, [.null, .null, .null, .null, .null, .null, .null, .int 0, .int 0, .int 0, .int 0]))] s.heap.size) s [(h0, .inr (7, [.ref q1, .ref q3, .ref q5, .null, .null, .null, .null, .int 0, .int 0, .int 0, .int 0])), (q1, .inr (4, [.ref (b2 0), .ref (b2 1), .ref (b2 2)])), ((b2 0), .inl (cI, 480, .inl (fun _ => 0))), ((b2 1), .inl (cI, 480, .inl (fun _ => 0))), ((b2 2), .inl (cI, 20, .inl (fun _ => 0))), (q3, .inr (2, [.ref (b4 0), .ref (b4 1), .int 0])), ((b4 0), .inl (cI, 60, .inl (fun _ => 0))), ((b4 1), .inl (cI, 60, .inl (fun _ => 0))), (q5, .inr (6, [.ref (b6 0), .ref (b6 1)])), ((b6 0), .inl (cI, 40, .inl (fun j => if j < 40 then (-1) else 0))), ((b6 1), .inl (cI, 40, .inl (fun _ => 0)))] H locs := G
  refine lv_aload_n C.1 C.2.1 dX7_init_37 rfl (lv_at hl 0 rfl) ?_
  refine l_new (ci := 1) (fs := [.null]) (Cn := RX1) (T := TX1) (N := 1) C hA G inX1 tyX1 tyX1_ok k_130 k_131 k_64 rfl (fun j hj => by rcases (show j = 0 by omega) with rfl <;> rfl) (by decide) (by decide) dX7_init_38 (fun q7 H G => ?_)
  refine lv_dup C.1 C.2.1 dX7_init_41 rfl ?_
  refine l_ctor (As := []) (na := 0) (wr := [(h0, .inr (7, [.ref q1, .ref q3, .ref q5, .null, .null, .null, .null, .int 0, .int 0, .int 0, .int 0])), (q1, .inr (4, [.ref (b2 0), .ref (b2 1), .ref (b2 2)])), ((b2 0), .inl (cI, 480, .inl (fun _ => 0))), ((b2 1), .inl (cI, 480, .inl (fun _ => 0))), ((b2 2), .inl (cI, 20, .inl (fun _ => 0))), (q3, .inr (2, [.ref (b4 0), .ref (b4 1), .int 0])), ((b4 0), .inl (cI, 60, .inl (fun _ => 0))), ((b4 1), .inl (cI, 60, .inl (fun _ => 0))), (q5, .inr (6, [.ref (b6 0), .ref (b6 1)])), ((b6 0), .inl (cI, 40, .inl (fun j => if j < 40 then (-1) else 0))), ((b6 1), .inl (cI, 40, .inl (fun _ => 0)))]) C hA hN G (mX1_init l D cI cJ tk tf q7) k_132 k_133 k_64 k_134 rfl [11] [0, 1, 2, 3, 4, 5, 6, 7, 8, 9, 10] rfl rfl (by decide) (by decide) (by decide) (by decide +kernel) ⟨Nat.le_of_ble_eq_true rfl, Nat.le_of_ble_eq_true rfl⟩ rfl rfl ⟨Nat.le_of_ble_eq_true rfl, Nat.le_of_ble_eq_true rfl⟩ rfl hl.1 rfl (Nat.le_of_ble_eq_true rfl) dX7_init_42 (fun b8 H locs G => ?_)
  replace G : Wl D (va_A [(h0, .inr (7, [.null, .null, .null, .null, .null, .null, .null, .int 0, .int 0, .int 0, .int 0]))] s.heap.size) s [(h0, .inr (7, [.ref q1, .ref q3, .ref q5, .null, .null, .null, .null, .int 0, .int 0, .int 0, .int 0])), (q1, .inr (4, [.ref (b2 0), .ref (b2 1), .ref (b2 2)])), ((b2 0), .inl (cI, 480, .inl (fun _ => 0))), ((b2 1), .inl (cI, 480, .inl (fun _ => 0))), ((b2 2), .inl (cI, 20, .inl (fun _ => 0))), (q3, .inr (2, [.ref (b4 0), .ref (b4 1), .int 0])), ((b4 0), .inl (cI, 60, .inl (fun _ => 0))), ((b4 1), .inl (cI, 60, .inl (fun _ => 0))), (q5, .inr (6, [.ref (b6 0), .ref (b6 1)])), ((b6 0), .inl (cI, 40, .inl (fun j => if j < 40 then (-1) else 0))), ((b6 1), .inl (cI, 40, .inl (fun _ => 0))), (q7, .inr (1, [.ref (b8 0)])), ((b8 0), .inl (cI, 12, .inl (fun j => if j < 12 then (-1) else 0)))] H locs := G
  refine l_putF (ty := .object "ErrorNames$Handlers") (Cn := RX7) (T := TX7) (N := 11) (ci := 7) C hnm G 0 3 inX7 tyX7 tyX7_ok nmX7 rfl rfl (by decide) k_216 rfl rfl rfl (by decide +kernel) rfl rfl (Nat.le_of_ble_eq_true rfl) rfl dX7_init_45 (fun H locs G => ?_)
  replace G : Wl D (va_A [(h0, .inr (7, [.null, .null, .null, .null, .null, .null, .null, .int 0, .int 0, .int 0, .int 0]))] s.heap.size) s [(h0, .inr (7, [.ref q1, .ref q3, .ref q5, .ref q7, .null, .null, .null, .int 0, .int 0, .int 0, .int 0])), (q1, .inr (4, [.ref (b2 0), .ref (b2 1), .ref (b2 2)])), ((b2 0), .inl (cI, 480, .inl (fun _ => 0))), ((b2 1), .inl (cI, 480, .inl (fun _ => 0))), ((b2 2), .inl (cI, 20, .inl (fun _ => 0))), (q3, .inr (2, [.ref (b4 0), .ref (b4 1), .int 0])), ((b4 0), .inl (cI, 60, .inl (fun _ => 0))), ((b4 1), .inl (cI, 60, .inl (fun _ => 0))), (q5, .inr (6, [.ref (b6 0), .ref (b6 1)])), ((b6 0), .inl (cI, 40, .inl (fun j => if j < 40 then (-1) else 0))), ((b6 1), .inl (cI, 40, .inl (fun _ => 0))), (q7, .inr (1, [.ref (b8 0)])), ((b8 0), .inl (cI, 12, .inl (fun j => if j < 12 then (-1) else 0)))] H locs := G
  refine lv_aload_n C.1 C.2.1 dX7_init_48 rfl (lv_at hl 0 rfl) ?_
  refine l_new (ci := 0) (fs := [.null, .null, .null, .null, .null, .null, .int 0, .int 0]) (Cn := RX0) (T := TX0) (N := 8) C hA G inX0 tyX0 tyX0_ok k_141 k_142 k_65 rfl (fun j hj => by rcases (show j = 0 ∨ j = 1 ∨ j = 2 ∨ j = 3 ∨ j = 4 ∨ j = 5 ∨ j = 6 ∨ j = 7 by omega) with rfl | rfl | rfl | rfl | rfl | rfl | rfl | rfl <;> rfl) (by decide) (by decide) dX7_init_49 (fun q9 H G => ?_)
  refine lv_dup C.1 C.2.1 dX7_init_52 rfl ?_
  refine l_ctorN (As := []) (na := 0) (wr := [(h0, .inr (7, [.ref q1, .ref q3, .ref q5, .ref q7, .null, .null, .null, .int 0, .int 0, .int 0, .int 0])), (q1, .inr (4, [.ref (b2 0), .ref (b2 1), .ref (b2 2)])), ((b2 0), .inl (cI, 480, .inl (fun _ => 0))), ((b2 1), .inl (cI, 480, .inl (fun _ => 0))), ((b2 2), .inl (cI, 20, .inl (fun _ => 0))), (q3, .inr (2, [.ref (b4 0), .ref (b4 1), .int 0])), ((b4 0), .inl (cI, 60, .inl (fun _ => 0))), ((b4 1), .inl (cI, 60, .inl (fun _ => 0))), (q5, .inr (6, [.ref (b6 0), .ref (b6 1)])), ((b6 0), .inl (cI, 40, .inl (fun j => if j < 40 then (-1) else 0))), ((b6 1), .inl (cI, 40, .inl (fun _ => 0))), (q7, .inr (1, [.ref (b8 0)])), ((b8 0), .inl (cI, 12, .inl (fun j => if j < 12 then (-1) else 0)))]) C hA hN G (mX0_init l D cI cJ tk tf q9) hN.2.2.1 k_144 k_65 k_145 rfl [13] [0, 1, 2, 3, 4, 5, 6, 7, 8, 9, 10, 11, 12] rfl rfl (by decide) (by decide) (by decide) (by decide +kernel) ⟨Nat.le_of_ble_eq_true rfl, Nat.le_of_ble_eq_true rfl⟩ rfl rfl ⟨Nat.le_of_ble_eq_true rfl, Nat.le_of_ble_eq_true rfl⟩ rfl hl.1 rfl (Nat.le_of_ble_eq_true rfl) dX7_init_53 (fun b10 H locs G => ?_)
  replace G : Wl D (va_A [(h0, .inr (7, [.null, .null, .null, .null, .null, .null, .null, .int 0, .int 0, .int 0, .int 0]))] s.heap.size) s [(h0, .inr (7, [.ref q1, .ref q3, .ref q5, .ref q7, .null, .null, .null, .int 0, .int 0, .int 0, .int 0])), (q1, .inr (4, [.ref (b2 0), .ref (b2 1), .ref (b2 2)])), ((b2 0), .inl (cI, 480, .inl (fun _ => 0))), ((b2 1), .inl (cI, 480, .inl (fun _ => 0))), ((b2 2), .inl (cI, 20, .inl (fun _ => 0))), (q3, .inr (2, [.ref (b4 0), .ref (b4 1), .int 0])), ((b4 0), .inl (cI, 60, .inl (fun _ => 0))), ((b4 1), .inl (cI, 60, .inl (fun _ => 0))), (q5, .inr (6, [.ref (b6 0), .ref (b6 1)])), ((b6 0), .inl (cI, 40, .inl (fun j => if j < 40 then (-1) else 0))), ((b6 1), .inl (cI, 40, .inl (fun _ => 0))), (q7, .inr (1, [.ref (b8 0)])), ((b8 0), .inl (cI, 12, .inl (fun j => if j < 12 then (-1) else 0))), (q9, .inr (0, [.ref (b10 0), .ref (b10 1), .ref (b10 2), .ref (b10 3), .ref (b10 4), .ref (b10 5), .int 0, .int 0])), ((b10 0), .inl (cI, 30, .inl (fun _ => 0))), ((b10 1), .inl (cI, 30, .inl (fun _ => 0))), ((b10 2), .inl (cI, 30, .inl (fun _ => 0))), ((b10 3), .inl (cJ, 30, .inr (.inl (fun _ => 0)))), ((b10 4), .inl (cI, 30, .inl (fun _ => 0))), ((b10 5), .inl (cI, 30, .inl (fun _ => 0)))] H locs := G
  refine l_putF (ty := .object "ErrorNames$Frames") (Cn := RX7) (T := TX7) (N := 11) (ci := 7) C hnm G 0 4 inX7 tyX7 tyX7_ok nmX7 rfl rfl (by decide) k_217 rfl rfl rfl (by decide +kernel) rfl rfl (Nat.le_of_ble_eq_true rfl) rfl dX7_init_56 (fun H locs G => ?_)
  replace G : Wl D (va_A [(h0, .inr (7, [.null, .null, .null, .null, .null, .null, .null, .int 0, .int 0, .int 0, .int 0]))] s.heap.size) s [(h0, .inr (7, [.ref q1, .ref q3, .ref q5, .ref q7, .ref q9, .null, .null, .int 0, .int 0, .int 0, .int 0])), (q1, .inr (4, [.ref (b2 0), .ref (b2 1), .ref (b2 2)])), ((b2 0), .inl (cI, 480, .inl (fun _ => 0))), ((b2 1), .inl (cI, 480, .inl (fun _ => 0))), ((b2 2), .inl (cI, 20, .inl (fun _ => 0))), (q3, .inr (2, [.ref (b4 0), .ref (b4 1), .int 0])), ((b4 0), .inl (cI, 60, .inl (fun _ => 0))), ((b4 1), .inl (cI, 60, .inl (fun _ => 0))), (q5, .inr (6, [.ref (b6 0), .ref (b6 1)])), ((b6 0), .inl (cI, 40, .inl (fun j => if j < 40 then (-1) else 0))), ((b6 1), .inl (cI, 40, .inl (fun _ => 0))), (q7, .inr (1, [.ref (b8 0)])), ((b8 0), .inl (cI, 12, .inl (fun j => if j < 12 then (-1) else 0))), (q9, .inr (0, [.ref (b10 0), .ref (b10 1), .ref (b10 2), .ref (b10 3), .ref (b10 4), .ref (b10 5), .int 0, .int 0])), ((b10 0), .inl (cI, 30, .inl (fun _ => 0))), ((b10 1), .inl (cI, 30, .inl (fun _ => 0))), ((b10 2), .inl (cI, 30, .inl (fun _ => 0))), ((b10 3), .inl (cJ, 30, .inr (.inl (fun _ => 0)))), ((b10 4), .inl (cI, 30, .inl (fun _ => 0))), ((b10 5), .inl (cI, 30, .inl (fun _ => 0)))] H locs := G
  refine lv_aload_n C.1 C.2.1 dX7_init_59 rfl (lv_at hl 0 rfl) ?_
  refine l_new (ci := 5) (fs := [.null, .int 0, .int 0, .int 0, .int 0, .int 0]) (Cn := RX5) (T := TX5) (N := 6) C hA G inX5 tyX5 tyX5_ok k_173 k_174 k_66 rfl (fun j hj => by rcases (show j = 0 ∨ j = 1 ∨ j = 2 ∨ j = 3 ∨ j = 4 ∨ j = 5 by omega) with rfl | rfl | rfl | rfl | rfl | rfl <;> rfl) (by decide) (by decide) dX7_init_60 (fun q11 H G => ?_)
  refine lv_dup C.1 C.2.1 dX7_init_63 rfl ?_
  refine l_ctorN (As := []) (na := 0) (wr := [(h0, .inr (7, [.ref q1, .ref q3, .ref q5, .ref q7, .ref q9, .null, .null, .int 0, .int 0, .int 0, .int 0])), (q1, .inr (4, [.ref (b2 0), .ref (b2 1), .ref (b2 2)])), ((b2 0), .inl (cI, 480, .inl (fun _ => 0))), ((b2 1), .inl (cI, 480, .inl (fun _ => 0))), ((b2 2), .inl (cI, 20, .inl (fun _ => 0))), (q3, .inr (2, [.ref (b4 0), .ref (b4 1), .int 0])), ((b4 0), .inl (cI, 60, .inl (fun _ => 0))), ((b4 1), .inl (cI, 60, .inl (fun _ => 0))), (q5, .inr (6, [.ref (b6 0), .ref (b6 1)])), ((b6 0), .inl (cI, 40, .inl (fun j => if j < 40 then (-1) else 0))), ((b6 1), .inl (cI, 40, .inl (fun _ => 0))), (q7, .inr (1, [.ref (b8 0)])), ((b8 0), .inl (cI, 12, .inl (fun j => if j < 12 then (-1) else 0))), (q9, .inr (0, [.ref (b10 0), .ref (b10 1), .ref (b10 2), .ref (b10 3), .ref (b10 4), .ref (b10 5), .int 0, .int 0])), ((b10 0), .inl (cI, 30, .inl (fun _ => 0))), ((b10 1), .inl (cI, 30, .inl (fun _ => 0))), ((b10 2), .inl (cI, 30, .inl (fun _ => 0))), ((b10 3), .inl (cJ, 30, .inr (.inl (fun _ => 0)))), ((b10 4), .inl (cI, 30, .inl (fun _ => 0))), ((b10 5), .inl (cI, 30, .inl (fun _ => 0)))]) C hA hN G (mX5_init l D cI cJ tk tf q11) hN.2.2.2.1 k_176 k_66 k_177 rfl [20] [0, 1, 2, 3, 4, 5, 6, 7, 8, 9, 10, 11, 12, 13, 14, 15, 16, 17, 18, 19] rfl rfl (by decide) (by decide) (by decide) (by decide +kernel) ⟨Nat.le_of_ble_eq_true rfl, Nat.le_of_ble_eq_true rfl⟩ rfl rfl ⟨Nat.le_of_ble_eq_true rfl, Nat.le_of_ble_eq_true rfl⟩ rfl hl.1 rfl (Nat.le_of_ble_eq_true rfl) dX7_init_64 (fun b12 H locs G => ?_)
  replace G : Wl D (va_A [(h0, .inr (7, [.null, .null, .null, .null, .null, .null, .null, .int 0, .int 0, .int 0, .int 0]))] s.heap.size) s [(h0, .inr (7, [.ref q1, .ref q3, .ref q5, .ref q7, .ref q9, .null, .null, .int 0, .int 0, .int 0, .int 0])), (q1, .inr (4, [.ref (b2 0), .ref (b2 1), .ref (b2 2)])), ((b2 0), .inl (cI, 480, .inl (fun _ => 0))), ((b2 1), .inl (cI, 480, .inl (fun _ => 0))), ((b2 2), .inl (cI, 20, .inl (fun _ => 0))), (q3, .inr (2, [.ref (b4 0), .ref (b4 1), .int 0])), ((b4 0), .inl (cI, 60, .inl (fun _ => 0))), ((b4 1), .inl (cI, 60, .inl (fun _ => 0))), (q5, .inr (6, [.ref (b6 0), .ref (b6 1)])), ((b6 0), .inl (cI, 40, .inl (fun j => if j < 40 then (-1) else 0))), ((b6 1), .inl (cI, 40, .inl (fun _ => 0))), (q7, .inr (1, [.ref (b8 0)])), ((b8 0), .inl (cI, 12, .inl (fun j => if j < 12 then (-1) else 0))), (q9, .inr (0, [.ref (b10 0), .ref (b10 1), .ref (b10 2), .ref (b10 3), .ref (b10 4), .ref (b10 5), .int 0, .int 0])), ((b10 0), .inl (cI, 30, .inl (fun _ => 0))), ((b10 1), .inl (cI, 30, .inl (fun _ => 0))), ((b10 2), .inl (cI, 30, .inl (fun _ => 0))), ((b10 3), .inl (cJ, 30, .inr (.inl (fun _ => 0)))), ((b10 4), .inl (cI, 30, .inl (fun _ => 0))), ((b10 5), .inl (cI, 30, .inl (fun _ => 0))), (q11, .inr (5, [.ref (b12 0), .int 0, .int (-1), .int 0, .int 0, .int 0])), ((b12 0), .inr (2, [.ref (b12 1), .ref (b12 2), .int 0])), ((b12 1), .inl (cI, 60, .inl (fun _ => 0))), ((b12 2), .inl (cI, 60, .inl (fun _ => 0)))] H locs := G
  refine l_putF (ty := .object "ErrorNames$Report") (Cn := RX7) (T := TX7) (N := 11) (ci := 7) C hnm G 0 5 inX7 tyX7 tyX7_ok nmX7 rfl rfl (by decide) k_218 rfl rfl rfl (by decide +kernel) rfl rfl (Nat.le_of_ble_eq_true rfl) rfl dX7_init_67 (fun H locs G => ?_)
  replace G : Wl D (va_A [(h0, .inr (7, [.null, .null, .null, .null, .null, .null, .null, .int 0, .int 0, .int 0, .int 0]))] s.heap.size) s [(h0, .inr (7, [.ref q1, .ref q3, .ref q5, .ref q7, .ref q9, .ref q11, .null, .int 0, .int 0, .int 0, .int 0])), (q1, .inr (4, [.ref (b2 0), .ref (b2 1), .ref (b2 2)])), ((b2 0), .inl (cI, 480, .inl (fun _ => 0))), ((b2 1), .inl (cI, 480, .inl (fun _ => 0))), ((b2 2), .inl (cI, 20, .inl (fun _ => 0))), (q3, .inr (2, [.ref (b4 0), .ref (b4 1), .int 0])), ((b4 0), .inl (cI, 60, .inl (fun _ => 0))), ((b4 1), .inl (cI, 60, .inl (fun _ => 0))), (q5, .inr (6, [.ref (b6 0), .ref (b6 1)])), ((b6 0), .inl (cI, 40, .inl (fun j => if j < 40 then (-1) else 0))), ((b6 1), .inl (cI, 40, .inl (fun _ => 0))), (q7, .inr (1, [.ref (b8 0)])), ((b8 0), .inl (cI, 12, .inl (fun j => if j < 12 then (-1) else 0))), (q9, .inr (0, [.ref (b10 0), .ref (b10 1), .ref (b10 2), .ref (b10 3), .ref (b10 4), .ref (b10 5), .int 0, .int 0])), ((b10 0), .inl (cI, 30, .inl (fun _ => 0))), ((b10 1), .inl (cI, 30, .inl (fun _ => 0))), ((b10 2), .inl (cI, 30, .inl (fun _ => 0))), ((b10 3), .inl (cJ, 30, .inr (.inl (fun _ => 0)))), ((b10 4), .inl (cI, 30, .inl (fun _ => 0))), ((b10 5), .inl (cI, 30, .inl (fun _ => 0))), (q11, .inr (5, [.ref (b12 0), .int 0, .int (-1), .int 0, .int 0, .int 0])), ((b12 0), .inr (2, [.ref (b12 1), .ref (b12 2), .int 0])), ((b12 1), .inl (cI, 60, .inl (fun _ => 0))), ((b12 2), .inl (cI, 60, .inl (fun _ => 0)))] H locs := G
  refine lv_aload_n C.1 C.2.1 dX7_init_70 rfl (lv_at hl 0 rfl) ?_
  refine l_new (ci := 3) (fs := [.null, .null]) (Cn := RX3) (T := TX3) (N := 2) C hA G inX3 tyX3 tyX3_ok k_200 k_201 k_67 rfl (fun j hj => by rcases (show j = 0 ∨ j = 1 by omega) with rfl | rfl <;> rfl) (by decide) (by decide) dX7_init_71 (fun q13 H G => ?_)
  refine lv_dup C.1 C.2.1 dX7_init_74 rfl ?_
  refine lv_aload_n C.1 C.2.1 dX7_init_75 rfl (lv_at hl 0 rfl) ?_
  refine l_get (Cn := RX7) (T := TX7) (N := 11) (ci := 7) C G 0 1 inX7 rfl rfl (by decide) k_214 rfl rfl dX7_init_76 ?_
  refine lv_aload_n C.1 C.2.1 dX7_init_79 rfl (lv_at hl 0 rfl) ?_
  refine l_get (Cn := RX7) (T := TX7) (N := 11) (ci := 7) C G 0 2 inX7 rfl rfl (by decide) k_215 rfl rfl dX7_init_80 ?_
  refine l_ctor (As := [.ref q3, .ref q5]) (na := 2) (wr := [(h0, .inr (7, [.ref q1, .ref q3, .ref q5, .ref q7, .ref q9, .ref q11, .null, .int 0, .int 0, .int 0, .int 0])), (q1, .inr (4, [.ref (b2 0), .ref (b2 1), .ref (b2 2)])), ((b2 0), .inl (cI, 480, .inl (fun _ => 0))), ((b2 1), .inl (cI, 480, .inl (fun _ => 0))), ((b2 2), .inl (cI, 20, .inl (fun _ => 0))), (q3, .inr (2, [.ref (b4 0), .ref (b4 1), .int 0])), ((b4 0), .inl (cI, 60, .inl (fun _ => 0))), ((b4 1), .inl (cI, 60, .inl (fun _ => 0))), (q5, .inr (6, [.ref (b6 0), .ref (b6 1)])), ((b6 0), .inl (cI, 40, .inl (fun j => if j < 40 then (-1) else 0))), ((b6 1), .inl (cI, 40, .inl (fun _ => 0))), (q7, .inr (1, [.ref (b8 0)])), ((b8 0), .inl (cI, 12, .inl (fun j => if j < 12 then (-1) else 0))), (q9, .inr (0, [.ref (b10 0), .ref (b10 1), .ref (b10 2), .ref (b10 3), .ref (b10 4), .ref (b10 5), .int 0, .int 0])), ((b10 0), .inl (cI, 30, .inl (fun _ => 0))), ((b10 1), .inl (cI, 30, .inl (fun _ => 0))), ((b10 2), .inl (cI, 30, .inl (fun _ => 0))), ((b10 3), .inl (cJ, 30, .inr (.inl (fun _ => 0)))), ((b10 4), .inl (cI, 30, .inl (fun _ => 0))), ((b10 5), .inl (cI, 30, .inl (fun _ => 0))), (q11, .inr (5, [.ref (b12 0), .int 0, .int (-1), .int 0, .int 0, .int 0])), ((b12 0), .inr (2, [.ref (b12 1), .ref (b12 2), .int 0])), ((b12 1), .inl (cI, 60, .inl (fun _ => 0))), ((b12 2), .inl (cI, 60, .inl (fun _ => 0)))]) C hA hN G (mX3_init l D cI cJ tk tf q13 q3 q5) k_202 k_203 k_67 k_204 rfl [24] [0, 1, 2, 3, 4, 5, 6, 7, 8, 9, 10, 11, 12, 13, 14, 15, 16, 17, 18, 19, 20, 21, 22, 23] rfl rfl (by decide) (by decide) (by decide) (by decide +kernel) ⟨Nat.le_of_ble_eq_true rfl, Nat.le_of_ble_eq_true rfl⟩ rfl rfl ⟨Nat.le_of_ble_eq_true rfl, Nat.le_of_ble_eq_true rfl⟩ rfl hl.1 rfl (Nat.le_of_ble_eq_true rfl) dX7_init_83 (fun b14 H locs G => ?_)
  replace G : Wl D (va_A [(h0, .inr (7, [.null, .null, .null, .null, .null, .null, .null, .int 0, .int 0, .int 0, .int 0]))] s.heap.size) s [(h0, .inr (7, [.ref q1, .ref q3, .ref q5, .ref q7, .ref q9, .ref q11, .null, .int 0, .int 0, .int 0, .int 0])), (q1, .inr (4, [.ref (b2 0), .ref (b2 1), .ref (b2 2)])), ((b2 0), .inl (cI, 480, .inl (fun _ => 0))), ((b2 1), .inl (cI, 480, .inl (fun _ => 0))), ((b2 2), .inl (cI, 20, .inl (fun _ => 0))), (q3, .inr (2, [.ref (b4 0), .ref (b4 1), .int 0])), ((b4 0), .inl (cI, 60, .inl (fun _ => 0))), ((b4 1), .inl (cI, 60, .inl (fun _ => 0))), (q5, .inr (6, [.ref (b6 0), .ref (b6 1)])), ((b6 0), .inl (cI, 40, .inl (fun j => if j < 40 then (-1) else 0))), ((b6 1), .inl (cI, 40, .inl (fun _ => 0))), (q7, .inr (1, [.ref (b8 0)])), ((b8 0), .inl (cI, 12, .inl (fun j => if j < 12 then (-1) else 0))), (q9, .inr (0, [.ref (b10 0), .ref (b10 1), .ref (b10 2), .ref (b10 3), .ref (b10 4), .ref (b10 5), .int 0, .int 0])), ((b10 0), .inl (cI, 30, .inl (fun _ => 0))), ((b10 1), .inl (cI, 30, .inl (fun _ => 0))), ((b10 2), .inl (cI, 30, .inl (fun _ => 0))), ((b10 3), .inl (cJ, 30, .inr (.inl (fun _ => 0)))), ((b10 4), .inl (cI, 30, .inl (fun _ => 0))), ((b10 5), .inl (cI, 30, .inl (fun _ => 0))), (q11, .inr (5, [.ref (b12 0), .int 0, .int (-1), .int 0, .int 0, .int 0])), ((b12 0), .inr (2, [.ref (b12 1), .ref (b12 2), .int 0])), ((b12 1), .inl (cI, 60, .inl (fun _ => 0))), ((b12 2), .inl (cI, 60, .inl (fun _ => 0))), (q13, .inr (3, [.ref q3, .ref q5]))] H locs := G
  refine l_putF (ty := .object "ErrorNames$PileOperators") (Cn := RX7) (T := TX7) (N := 11) (ci := 7) C hnm G 0 6 inX7 tyX7 tyX7_ok nmX7 rfl rfl (by decide) k_219 rfl rfl rfl (by decide +kernel) rfl rfl (Nat.le_of_ble_eq_true rfl) rfl dX7_init_86 (fun H locs G => ?_)
  replace G : Wl D (va_A [(h0, .inr (7, [.null, .null, .null, .null, .null, .null, .null, .int 0, .int 0, .int 0, .int 0]))] s.heap.size) s [(h0, .inr (7, [.ref q1, .ref q3, .ref q5, .ref q7, .ref q9, .ref q11, .ref q13, .int 0, .int 0, .int 0, .int 0])), (q1, .inr (4, [.ref (b2 0), .ref (b2 1), .ref (b2 2)])), ((b2 0), .inl (cI, 480, .inl (fun _ => 0))), ((b2 1), .inl (cI, 480, .inl (fun _ => 0))), ((b2 2), .inl (cI, 20, .inl (fun _ => 0))), (q3, .inr (2, [.ref (b4 0), .ref (b4 1), .int 0])), ((b4 0), .inl (cI, 60, .inl (fun _ => 0))), ((b4 1), .inl (cI, 60, .inl (fun _ => 0))), (q5, .inr (6, [.ref (b6 0), .ref (b6 1)])), ((b6 0), .inl (cI, 40, .inl (fun j => if j < 40 then (-1) else 0))), ((b6 1), .inl (cI, 40, .inl (fun _ => 0))), (q7, .inr (1, [.ref (b8 0)])), ((b8 0), .inl (cI, 12, .inl (fun j => if j < 12 then (-1) else 0))), (q9, .inr (0, [.ref (b10 0), .ref (b10 1), .ref (b10 2), .ref (b10 3), .ref (b10 4), .ref (b10 5), .int 0, .int 0])), ((b10 0), .inl (cI, 30, .inl (fun _ => 0))), ((b10 1), .inl (cI, 30, .inl (fun _ => 0))), ((b10 2), .inl (cI, 30, .inl (fun _ => 0))), ((b10 3), .inl (cJ, 30, .inr (.inl (fun _ => 0)))), ((b10 4), .inl (cI, 30, .inl (fun _ => 0))), ((b10 5), .inl (cI, 30, .inl (fun _ => 0))), (q11, .inr (5, [.ref (b12 0), .int 0, .int (-1), .int 0, .int 0, .int 0])), ((b12 0), .inr (2, [.ref (b12 1), .ref (b12 2), .int 0])), ((b12 1), .inl (cI, 60, .inl (fun _ => 0))), ((b12 2), .inl (cI, 60, .inl (fun _ => 0))), (q13, .inr (3, [.ref q3, .ref q5]))] H locs := G
  have G2 : Wl D (va_A [(h0, .inr (7, [.null, .null, .null, .null, .null, .null, .null, .int 0, .int 0, .int 0, .int 0]))] s.heap.size) s ((fun (b : Nat → Nat) => [(h0, .inr (7, [.ref (b 0), .ref (b 4), .ref (b 7), .ref (b 10), .ref (b 12), .ref (b 19), .ref (b 23), .int 0, .int 0, .int 0, .int 0])), ((b 0), .inr (4, [.ref (b 1), .ref (b 2), .ref (b 3)])), ((b 1), .inl (cI, 480, .inl (fun _ => 0))), ((b 2), .inl (cI, 480, .inl (fun _ => 0))), ((b 3), .inl (cI, 20, .inl (fun _ => 0))), ((b 4), .inr (2, [.ref (b 5), .ref (b 6), .int 0])), ((b 5), .inl (cI, 60, .inl (fun _ => 0))), ((b 6), .inl (cI, 60, .inl (fun _ => 0))), ((b 7), .inr (6, [.ref (b 8), .ref (b 9)])), ((b 8), .inl (cI, 40, .inl (fun j => if j < 40 then (-1) else 0))), ((b 9), .inl (cI, 40, .inl (fun _ => 0))), ((b 10), .inr (1, [.ref (b 11)])), ((b 11), .inl (cI, 12, .inl (fun j => if j < 12 then (-1) else 0))), ((b 12), .inr (0, [.ref (b 13), .ref (b 14), .ref (b 15), .ref (b 16), .ref (b 17), .ref (b 18), .int 0, .int 0])), ((b 13), .inl (cI, 30, .inl (fun _ => 0))), ((b 14), .inl (cI, 30, .inl (fun _ => 0))), ((b 15), .inl (cI, 30, .inl (fun _ => 0))), ((b 16), .inl (cJ, 30, .inr (.inl (fun _ => 0)))), ((b 17), .inl (cI, 30, .inl (fun _ => 0))), ((b 18), .inl (cI, 30, .inl (fun _ => 0))), ((b 19), .inr (5, [.ref (b 20), .int 0, .int (-1), .int 0, .int 0, .int 0])), ((b 20), .inr (2, [.ref (b 21), .ref (b 22), .int 0])), ((b 21), .inl (cI, 60, .inl (fun _ => 0))), ((b 22), .inl (cI, 60, .inl (fun _ => 0))), ((b 23), .inr (3, [.ref (b 4), .ref (b 7)]))]) (fun j => match j with | 0 => q1 | 1 => (b2 0) | 2 => (b2 1) | 3 => (b2 2) | 4 => q3 | 5 => (b4 0) | 6 => (b4 1) | 7 => q5 | 8 => (b6 0) | 9 => (b6 1) | 10 => q7 | 11 => (b8 0) | 12 => q9 | 13 => (b10 0) | 14 => (b10 1) | 15 => (b10 2) | 16 => (b10 3) | 17 => (b10 4) | 18 => (b10 5) | 19 => q11 | 20 => (b12 0) | 21 => (b12 1) | 22 => (b12 2) | 23 => q13 | _ => 0)) H locs := ⟨G.1.sub [0, 1, 2, 3, 4, 5, 6, 7, 8, 9, 10, 11, 12, 13, 14, 15, 16, 17, 18, 19, 20, 21, 22, 23, 24] rfl, G.2.1.sub [0, 1, 2, 3, 4, 5, 6, 7, 8, 9, 10, 11, 12, 13, 14, 15, 16, 17, 18, 19, 20, 21, 22, 23, 24] (by decide) rfl, G.2.2⟩
  exact l_end (post := fun (b : Nat → Nat) => [(h0, .inr (7, [.ref (b 0), .ref (b 4), .ref (b 7), .ref (b 10), .ref (b 12), .ref (b 19), .ref (b 23), .int 0, .int 0, .int 0, .int 0])), ((b 0), .inr (4, [.ref (b 1), .ref (b 2), .ref (b 3)])), ((b 1), .inl (cI, 480, .inl (fun _ => 0))), ((b 2), .inl (cI, 480, .inl (fun _ => 0))), ((b 3), .inl (cI, 20, .inl (fun _ => 0))), ((b 4), .inr (2, [.ref (b 5), .ref (b 6), .int 0])), ((b 5), .inl (cI, 60, .inl (fun _ => 0))), ((b 6), .inl (cI, 60, .inl (fun _ => 0))), ((b 7), .inr (6, [.ref (b 8), .ref (b 9)])), ((b 8), .inl (cI, 40, .inl (fun j => if j < 40 then (-1) else 0))), ((b 9), .inl (cI, 40, .inl (fun _ => 0))), ((b 10), .inr (1, [.ref (b 11)])), ((b 11), .inl (cI, 12, .inl (fun j => if j < 12 then (-1) else 0))), ((b 12), .inr (0, [.ref (b 13), .ref (b 14), .ref (b 15), .ref (b 16), .ref (b 17), .ref (b 18), .int 0, .int 0])), ((b 13), .inl (cI, 30, .inl (fun _ => 0))), ((b 14), .inl (cI, 30, .inl (fun _ => 0))), ((b 15), .inl (cI, 30, .inl (fun _ => 0))), ((b 16), .inl (cJ, 30, .inr (.inl (fun _ => 0)))), ((b 17), .inl (cI, 30, .inl (fun _ => 0))), ((b 18), .inl (cI, 30, .inl (fun _ => 0))), ((b 19), .inr (5, [.ref (b 20), .int 0, .int (-1), .int 0, .int 0, .int 0])), ((b 20), .inr (2, [.ref (b 21), .ref (b 22), .int 0])), ((b 21), .inl (cI, 60, .inl (fun _ => 0))), ((b 22), .inl (cI, 60, .inl (fun _ => 0))), ((b 23), .inr (3, [.ref (b 4), .ref (b 7)]))]) (fun j => match j with | 0 => q1 | 1 => (b2 0) | 2 => (b2 1) | 3 => (b2 2) | 4 => q3 | 5 => (b4 0) | 6 => (b4 1) | 7 => q5 | 8 => (b6 0) | 9 => (b6 1) | 10 => q7 | 11 => (b8 0) | 12 => q9 | 13 => (b10 0) | 14 => (b10 1) | 15 => (b10 2) | 16 => (b10 3) | 17 => (b10 4) | 18 => (b10 5) | 19 => q11 | 20 => (b12 0) | 21 => (b12 1) | 22 => (b12 2) | 23 => q13 | _ => 0) C hr G2 dX7_init_89 ⟨Nat.le_of_ble_eq_true rfl, Nat.le_of_ble_eq_true rfl⟩
end
