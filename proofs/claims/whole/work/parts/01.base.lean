-- ===== PART A: goes FIRST, ahead of the names: the tables' words, and 'selects' of the private methods out of them =====
/-- a private method of a class that the tables say can be made, by its rows of tables_1 -/
def lw_okq (q : MethodName × Nat) : Prop := (q.1.cls ≠ "java/lang/invoke/MethodHandle" ∧ q.1.cls ≠ "java/lang/invoke/VarHandle") ∧ Cond.instantiable q.1.cls q.2 ∈ tables_1 ∧ Cond.privateMethod q.1 ∈ tables_1 ∧ Cond.instanceMethod q.1 ∈ tables_1
theorem lw_p0 : lw_okq (⟨"ErrorNames", "step", "()V"⟩, 11) := ⟨⟨by decide +kernel, by decide +kernel⟩, List.mem_of_getElem? (i := 16) (by decide +kernel), List.mem_of_getElem? (i := 263) (by decide +kernel), List.mem_of_getElem? (i := 264) (by decide +kernel)⟩
theorem lw_p1 : lw_okq (⟨"ErrorNames", "goOn", "()V"⟩, 11) := ⟨⟨by decide +kernel, by decide +kernel⟩, List.mem_of_getElem? (i := 16) (by decide +kernel), List.mem_of_getElem? (i := 271) (by decide +kernel), List.mem_of_getElem? (i := 272) (by decide +kernel)⟩
theorem lw_p2 : lw_okq (⟨"ErrorNames$Procedures", "hasToken", "(II)Z"⟩, 3) := ⟨⟨by decide +kernel, by decide +kernel⟩, List.mem_of_getElem? (i := 24) (by decide +kernel), List.mem_of_getElem? (i := 295) (by decide +kernel), List.mem_of_getElem? (i := 296) (by decide +kernel)⟩
theorem lw_p3 : lw_okq (⟨"ErrorNames", "operate", "(I)I"⟩, 11) := ⟨⟨by decide +kernel, by decide +kernel⟩, List.mem_of_getElem? (i := 16) (by decide +kernel), List.mem_of_getElem? (i := 303) (by decide +kernel), List.mem_of_getElem? (i := 304) (by decide +kernel)⟩
theorem lw_p4 : lw_okq (⟨"ErrorNames", "misfit", "(I)I"⟩, 11) := ⟨⟨by decide +kernel, by decide +kernel⟩, List.mem_of_getElem? (i := 16) (by decide +kernel), List.mem_of_getElem? (i := 307) (by decide +kernel), List.mem_of_getElem? (i := 308) (by decide +kernel)⟩
theorem lw_p5 : lw_okq (⟨"ErrorNames", "execute", "()I"⟩, 11) := ⟨⟨by decide +kernel, by decide +kernel⟩, List.mem_of_getElem? (i := 16) (by decide +kernel), List.mem_of_getElem? (i := 317) (by decide +kernel), List.mem_of_getElem? (i := 318) (by decide +kernel)⟩
theorem lw_p6 : lw_okq (⟨"ErrorNames", "begin", "(II)I"⟩, 11) := ⟨⟨by decide +kernel, by decide +kernel⟩, List.mem_of_getElem? (i := 16) (by decide +kernel), List.mem_of_getElem? (i := 325) (by decide +kernel), List.mem_of_getElem? (i := 326) (by decide +kernel)⟩
theorem lw_p7 : lw_okq (⟨"ErrorNames", "beginIf", "()I"⟩, 11) := ⟨⟨by decide +kernel, by decide +kernel⟩, List.mem_of_getElem? (i := 16) (by decide +kernel), List.mem_of_getElem? (i := 352) (by decide +kernel), List.mem_of_getElem? (i := 353) (by decide +kernel)⟩
theorem lw_p8 : lw_okq (⟨"ErrorNames", "repeat", "(I)I"⟩, 11) := ⟨⟨by decide +kernel, by decide +kernel⟩, List.mem_of_getElem? (i := 16) (by decide +kernel), List.mem_of_getElem? (i := 356) (by decide +kernel), List.mem_of_getElem? (i := 357) (by decide +kernel)⟩
theorem lw_p9 : lw_okq (⟨"ErrorNames", "beginLoop", "(IIIII)I"⟩, 11) := ⟨⟨by decide +kernel, by decide +kernel⟩, List.mem_of_getElem? (i := 16) (by decide +kernel), List.mem_of_getElem? (i := 360) (by decide +kernel), List.mem_of_getElem? (i := 361) (by decide +kernel)⟩
theorem lw_p10 : lw_okq (⟨"ErrorNames", "countThrough", "(III)I"⟩, 11) := ⟨⟨by decide +kernel, by decide +kernel⟩, List.mem_of_getElem? (i := 16) (by decide +kernel), List.mem_of_getElem? (i := 368) (by decide +kernel), List.mem_of_getElem? (i := 369) (by decide +kernel)⟩
theorem lw_p11 : lw_okq (⟨"ErrorNames", "exitLoop", "()I"⟩, 11) := ⟨⟨by decide +kernel, by decide +kernel⟩, List.mem_of_getElem? (i := 16) (by decide +kernel), List.mem_of_getElem? (i := 372) (by decide +kernel), List.mem_of_getElem? (i := 373) (by decide +kernel)⟩
theorem lw_p12 : lw_okq (⟨"ErrorNames", "stopBy", "(I)V"⟩, 11) := ⟨⟨by decide +kernel, by decide +kernel⟩, List.mem_of_getElem? (i := 16) (by decide +kernel), List.mem_of_getElem? (i := 384) (by decide +kernel), List.mem_of_getElem? (i := 385) (by decide +kernel)⟩
theorem lw_p13 : lw_okq (⟨"ErrorNames", "guard", "()I"⟩, 11) := ⟨⟨by decide +kernel, by decide +kernel⟩, List.mem_of_getElem? (i := 16) (by decide +kernel), List.mem_of_getElem? (i := 396) (by decide +kernel), List.mem_of_getElem? (i := 397) (by decide +kernel)⟩
theorem lw_p14 : lw_okq (⟨"ErrorNames", "setHandler", "()I"⟩, 11) := ⟨⟨by decide +kernel, by decide +kernel⟩, List.mem_of_getElem? (i := 16) (by decide +kernel), List.mem_of_getElem? (i := 400) (by decide +kernel), List.mem_of_getElem? (i := 401) (by decide +kernel)⟩
theorem lw_p15 : lw_okq (⟨"ErrorNames", "raise", "(I)I"⟩, 11) := ⟨⟨by decide +kernel, by decide +kernel⟩, List.mem_of_getElem? (i := 16) (by decide +kernel), List.mem_of_getElem? (i := 413) (by decide +kernel), List.mem_of_getElem? (i := 414) (by decide +kernel)⟩
def lw_privs_1 : List (MethodName × Nat) := [(⟨"ErrorNames", "step", "()V"⟩, 11), (⟨"ErrorNames", "goOn", "()V"⟩, 11), (⟨"ErrorNames$Procedures", "hasToken", "(II)Z"⟩, 3), (⟨"ErrorNames", "operate", "(I)I"⟩, 11), (⟨"ErrorNames", "misfit", "(I)I"⟩, 11), (⟨"ErrorNames", "execute", "()I"⟩, 11), (⟨"ErrorNames", "begin", "(II)I"⟩, 11), (⟨"ErrorNames", "beginIf", "()I"⟩, 11), (⟨"ErrorNames", "repeat", "(I)I"⟩, 11), (⟨"ErrorNames", "beginLoop", "(IIIII)I"⟩, 11), (⟨"ErrorNames", "countThrough", "(III)I"⟩, 11), (⟨"ErrorNames", "exitLoop", "()I"⟩, 11), (⟨"ErrorNames", "stopBy", "(I)V"⟩, 11), (⟨"ErrorNames", "guard", "()I"⟩, 11), (⟨"ErrorNames", "setHandler", "()I"⟩, 11), (⟨"ErrorNames", "raise", "(I)I"⟩, 11)]
theorem lw_r1 : ∀ q ∈ lw_privs_1, lw_okq q := List.forall_mem_cons.mpr ⟨lw_p0, List.forall_mem_cons.mpr ⟨lw_p1, List.forall_mem_cons.mpr ⟨lw_p2, List.forall_mem_cons.mpr ⟨lw_p3, List.forall_mem_cons.mpr ⟨lw_p4, List.forall_mem_cons.mpr ⟨lw_p5, List.forall_mem_cons.mpr ⟨lw_p6, List.forall_mem_cons.mpr ⟨lw_p7, List.forall_mem_cons.mpr ⟨lw_p8, List.forall_mem_cons.mpr ⟨lw_p9, List.forall_mem_cons.mpr ⟨lw_p10, List.forall_mem_cons.mpr ⟨lw_p11, List.forall_mem_cons.mpr ⟨lw_p12, List.forall_mem_cons.mpr ⟨lw_p13, List.forall_mem_cons.mpr ⟨lw_p14, List.forall_mem_cons.mpr ⟨lw_p15, fun _ h => absurd h List.not_mem_nil⟩⟩⟩⟩⟩⟩⟩⟩⟩⟩⟩⟩⟩⟩⟩⟩
theorem lw_p16 : lw_okq (⟨"ErrorNames", "tell", "(I)I"⟩, 11) := ⟨⟨by decide +kernel, by decide +kernel⟩, List.mem_of_getElem? (i := 16) (by decide +kernel), List.mem_of_getElem? (i := 417) (by decide +kernel), List.mem_of_getElem? (i := 418) (by decide +kernel)⟩
theorem lw_p17 : lw_okq (⟨"ErrorNames$PileOperators", "reckoned", "(II)I"⟩, 2) := ⟨⟨by decide +kernel, by decide +kernel⟩, List.mem_of_getElem? (i := 41) (by decide +kernel), List.mem_of_getElem? (i := 440) (by decide +kernel), List.mem_of_getElem? (i := 441) (by decide +kernel)⟩
theorem lw_p18 : lw_okq (⟨"ErrorNames$PileOperators", "divide", "(II)I"⟩, 2) := ⟨⟨by decide +kernel, by decide +kernel⟩, List.mem_of_getElem? (i := 41) (by decide +kernel), List.mem_of_getElem? (i := 444) (by decide +kernel), List.mem_of_getElem? (i := 445) (by decide +kernel)⟩
theorem lw_p19 : lw_okq (⟨"ErrorNames$PileOperators", "topTwoAreTheSame", "()Z"⟩, 2) := ⟨⟨by decide +kernel, by decide +kernel⟩, List.mem_of_getElem? (i := 41) (by decide +kernel), List.mem_of_getElem? (i := 448) (by decide +kernel), List.mem_of_getElem? (i := 449) (by decide +kernel)⟩
theorem lw_p20 : lw_okq (⟨"ErrorNames$PileOperators", "more", "(II)I"⟩, 2) := ⟨⟨by decide +kernel, by decide +kernel⟩, List.mem_of_getElem? (i := 41) (by decide +kernel), List.mem_of_getElem? (i := 454) (by decide +kernel), List.mem_of_getElem? (i := 455) (by decide +kernel)⟩
theorem lw_p21 : lw_okq (⟨"ErrorNames$PileOperators", "swap", "()I"⟩, 2) := ⟨⟨by decide +kernel, by decide +kernel⟩, List.mem_of_getElem? (i := 41) (by decide +kernel), List.mem_of_getElem? (i := 459) (by decide +kernel), List.mem_of_getElem? (i := 460) (by decide +kernel)⟩
theorem lw_p22 : lw_okq (⟨"ErrorNames$PileOperators", "pick", "(I)I"⟩, 2) := ⟨⟨by decide +kernel, by decide +kernel⟩, List.mem_of_getElem? (i := 41) (by decide +kernel), List.mem_of_getElem? (i := 463) (by decide +kernel), List.mem_of_getElem? (i := 464) (by decide +kernel)⟩
theorem lw_p23 : lw_okq (⟨"ErrorNames$PileOperators", "countToMark", "()I"⟩, 2) := ⟨⟨by decide +kernel, by decide +kernel⟩, List.mem_of_getElem? (i := 41) (by decide +kernel), List.mem_of_getElem? (i := 468) (by decide +kernel), List.mem_of_getElem? (i := 469) (by decide +kernel)⟩
theorem lw_p24 : lw_okq (⟨"ErrorNames$PileOperators", "clearToMark", "()I"⟩, 2) := ⟨⟨by decide +kernel, by decide +kernel⟩, List.mem_of_getElem? (i := 41) (by decide +kernel), List.mem_of_getElem? (i := 476) (by decide +kernel), List.mem_of_getElem? (i := 477) (by decide +kernel)⟩
theorem lw_p25 : lw_okq (⟨"ErrorNames$PileOperators", "define", "()I"⟩, 2) := ⟨⟨by decide +kernel, by decide +kernel⟩, List.mem_of_getElem? (i := 41) (by decide +kernel), List.mem_of_getElem? (i := 480) (by decide +kernel), List.mem_of_getElem? (i := 481) (by decide +kernel)⟩
theorem lw_p26 : lw_okq (⟨"ErrorNames", "arise", "(II)V"⟩, 11) := ⟨⟨by decide +kernel, by decide +kernel⟩, List.mem_of_getElem? (i := 16) (by decide +kernel), List.mem_of_getElem? (i := 489) (by decide +kernel), List.mem_of_getElem? (i := 490) (by decide +kernel)⟩
theorem lw_p27 : lw_okq (⟨"ErrorNames", "turn", "()V"⟩, 11) := ⟨⟨by decide +kernel, by decide +kernel⟩, List.mem_of_getElem? (i := 16) (by decide +kernel), List.mem_of_getElem? (i := 509) (by decide +kernel), List.mem_of_getElem? (i := 510) (by decide +kernel)⟩
theorem lw_p28 : lw_okq (⟨"ErrorNames", "endStopped", "()V"⟩, 11) := ⟨⟨by decide +kernel, by decide +kernel⟩, List.mem_of_getElem? (i := 16) (by decide +kernel), List.mem_of_getElem? (i := 525) (by decide +kernel), List.mem_of_getElem? (i := 526) (by decide +kernel)⟩
theorem lw_p29 : lw_okq (⟨"java/lang/Throwable", "fillInStackTrace", "(I)Ljava/lang/Throwable;"⟩, 6) := ⟨⟨by decide +kernel, by decide +kernel⟩, List.mem_of_getElem? (i := 605) (by decide +kernel), List.mem_of_getElem? (i := 603) (by decide +kernel), List.mem_of_getElem? (i := 604) (by decide +kernel)⟩
theorem lw_p30 : lw_okq (⟨"ErrorNamesModel", "clearAll", "()V"⟩, 30) := ⟨⟨by decide +kernel, by decide +kernel⟩, List.mem_of_getElem? (i := 691) (by decide +kernel), List.mem_of_getElem? (i := 697) (by decide +kernel), List.mem_of_getElem? (i := 698) (by decide +kernel)⟩
theorem lw_p31 : lw_okq (⟨"ErrorNamesModel", "lay", "(II)V"⟩, 30) := ⟨⟨by decide +kernel, by decide +kernel⟩, List.mem_of_getElem? (i := 691) (by decide +kernel), List.mem_of_getElem? (i := 814) (by decide +kernel), List.mem_of_getElem? (i := 815) (by decide +kernel)⟩
def lw_privs_2 : List (MethodName × Nat) := [(⟨"ErrorNames", "tell", "(I)I"⟩, 11), (⟨"ErrorNames$PileOperators", "reckoned", "(II)I"⟩, 2), (⟨"ErrorNames$PileOperators", "divide", "(II)I"⟩, 2), (⟨"ErrorNames$PileOperators", "topTwoAreTheSame", "()Z"⟩, 2), (⟨"ErrorNames$PileOperators", "more", "(II)I"⟩, 2), (⟨"ErrorNames$PileOperators", "swap", "()I"⟩, 2), (⟨"ErrorNames$PileOperators", "pick", "(I)I"⟩, 2), (⟨"ErrorNames$PileOperators", "countToMark", "()I"⟩, 2), (⟨"ErrorNames$PileOperators", "clearToMark", "()I"⟩, 2), (⟨"ErrorNames$PileOperators", "define", "()I"⟩, 2), (⟨"ErrorNames", "arise", "(II)V"⟩, 11), (⟨"ErrorNames", "turn", "()V"⟩, 11), (⟨"ErrorNames", "endStopped", "()V"⟩, 11), (⟨"java/lang/Throwable", "fillInStackTrace", "(I)Ljava/lang/Throwable;"⟩, 6), (⟨"ErrorNamesModel", "clearAll", "()V"⟩, 30), (⟨"ErrorNamesModel", "lay", "(II)V"⟩, 30)]
theorem lw_r2 : ∀ q ∈ lw_privs_2, lw_okq q := List.forall_mem_cons.mpr ⟨lw_p16, List.forall_mem_cons.mpr ⟨lw_p17, List.forall_mem_cons.mpr ⟨lw_p18, List.forall_mem_cons.mpr ⟨lw_p19, List.forall_mem_cons.mpr ⟨lw_p20, List.forall_mem_cons.mpr ⟨lw_p21, List.forall_mem_cons.mpr ⟨lw_p22, List.forall_mem_cons.mpr ⟨lw_p23, List.forall_mem_cons.mpr ⟨lw_p24, List.forall_mem_cons.mpr ⟨lw_p25, List.forall_mem_cons.mpr ⟨lw_p26, List.forall_mem_cons.mpr ⟨lw_p27, List.forall_mem_cons.mpr ⟨lw_p28, List.forall_mem_cons.mpr ⟨lw_p29, List.forall_mem_cons.mpr ⟨lw_p30, List.forall_mem_cons.mpr ⟨lw_p31, fun _ h => absurd h List.not_mem_nil⟩⟩⟩⟩⟩⟩⟩⟩⟩⟩⟩⟩⟩⟩⟩⟩
theorem lw_p32 : lw_okq (⟨"ErrorNamesModel", "come", "(II)V"⟩, 30) := ⟨⟨by decide +kernel, by decide +kernel⟩, List.mem_of_getElem? (i := 691) (by decide +kernel), List.mem_of_getElem? (i := 830) (by decide +kernel), List.mem_of_getElem? (i := 831) (by decide +kernel)⟩
theorem lw_p33 : lw_okq (⟨"ErrorNamesModel", "step", "()V"⟩, 30) := ⟨⟨by decide +kernel, by decide +kernel⟩, List.mem_of_getElem? (i := 691) (by decide +kernel), List.mem_of_getElem? (i := 834) (by decide +kernel), List.mem_of_getElem? (i := 835) (by decide +kernel)⟩
theorem lw_p34 : lw_okq (⟨"ErrorNamesModel", "isSpent", "()Z"⟩, 30) := ⟨⟨by decide +kernel, by decide +kernel⟩, List.mem_of_getElem? (i := 691) (by decide +kernel), List.mem_of_getElem? (i := 838) (by decide +kernel), List.mem_of_getElem? (i := 839) (by decide +kernel)⟩
theorem lw_p35 : lw_okq (⟨"ErrorNamesModel", "token", "(I)V"⟩, 30) := ⟨⟨by decide +kernel, by decide +kernel⟩, List.mem_of_getElem? (i := 691) (by decide +kernel), List.mem_of_getElem? (i := 842) (by decide +kernel), List.mem_of_getElem? (i := 843) (by decide +kernel)⟩
theorem lw_p36 : lw_okq (⟨"ErrorNamesModel", "wrong", "(I)I"⟩, 30) := ⟨⟨by decide +kernel, by decide +kernel⟩, List.mem_of_getElem? (i := 691) (by decide +kernel), List.mem_of_getElem? (i := 846) (by decide +kernel), List.mem_of_getElem? (i := 847) (by decide +kernel)⟩
theorem lw_p37 : lw_okq (⟨"ErrorNamesModel", "kind", "(I)I"⟩, 30) := ⟨⟨by decide +kernel, by decide +kernel⟩, List.mem_of_getElem? (i := 691) (by decide +kernel), List.mem_of_getElem? (i := 853) (by decide +kernel), List.mem_of_getElem? (i := 854) (by decide +kernel)⟩
theorem lw_p38 : lw_okq (⟨"ErrorNamesModel", "number", "(I)I"⟩, 30) := ⟨⟨by decide +kernel, by decide +kernel⟩, List.mem_of_getElem? (i := 691) (by decide +kernel), List.mem_of_getElem? (i := 857) (by decide +kernel), List.mem_of_getElem? (i := 858) (by decide +kernel)⟩
theorem lw_p39 : lw_okq (⟨"ErrorNamesModel", "areKinds", "(I)Z"⟩, 30) := ⟨⟨by decide +kernel, by decide +kernel⟩, List.mem_of_getElem? (i := 691) (by decide +kernel), List.mem_of_getElem? (i := 861) (by decide +kernel), List.mem_of_getElem? (i := 862) (by decide +kernel)⟩
theorem lw_p40 : lw_okq (⟨"ErrorNamesModel", "mark", "()I"⟩, 30) := ⟨⟨by decide +kernel, by decide +kernel⟩, List.mem_of_getElem? (i := 691) (by decide +kernel), List.mem_of_getElem? (i := 865) (by decide +kernel), List.mem_of_getElem? (i := 866) (by decide +kernel)⟩
theorem lw_p41 : lw_okq (⟨"ErrorNamesModel", "isInRange", "(I)Z"⟩, 30) := ⟨⟨by decide +kernel, by decide +kernel⟩, List.mem_of_getElem? (i := 691) (by decide +kernel), List.mem_of_getElem? (i := 869) (by decide +kernel), List.mem_of_getElem? (i := 870) (by decide +kernel)⟩
theorem lw_p42 : lw_okq (⟨"ErrorNamesModel", "loop", "()I"⟩, 30) := ⟨⟨by decide +kernel, by decide +kernel⟩, List.mem_of_getElem? (i := 691) (by decide +kernel), List.mem_of_getElem? (i := 876) (by decide +kernel), List.mem_of_getElem? (i := 877) (by decide +kernel)⟩
theorem lw_p43 : lw_okq (⟨"ErrorNamesModel", "hasFrames", "(I)Z"⟩, 30) := ⟨⟨by decide +kernel, by decide +kernel⟩, List.mem_of_getElem? (i := 691) (by decide +kernel), List.mem_of_getElem? (i := 880) (by decide +kernel), List.mem_of_getElem? (i := 881) (by decide +kernel)⟩
theorem lw_p44 : lw_okq (⟨"ErrorNamesModel", "procedureOf", "(I)I"⟩, 30) := ⟨⟨by decide +kernel, by decide +kernel⟩, List.mem_of_getElem? (i := 691) (by decide +kernel), List.mem_of_getElem? (i := 884) (by decide +kernel), List.mem_of_getElem? (i := 885) (by decide +kernel)⟩
theorem lw_p45 : lw_okq (⟨"ErrorNamesModel", "mayBegin", "()Z"⟩, 30) := ⟨⟨by decide +kernel, by decide +kernel⟩, List.mem_of_getElem? (i := 691) (by decide +kernel), List.mem_of_getElem? (i := 888) (by decide +kernel), List.mem_of_getElem? (i := 889) (by decide +kernel)⟩
theorem lw_p46 : lw_okq (⟨"ErrorNamesModel", "arise", "(II)V"⟩, 30) := ⟨⟨by decide +kernel, by decide +kernel⟩, List.mem_of_getElem? (i := 691) (by decide +kernel), List.mem_of_getElem? (i := 892) (by decide +kernel), List.mem_of_getElem? (i := 893) (by decide +kernel)⟩
theorem lw_p47 : lw_okq (⟨"ErrorNamesModel", "stop", "(I)V"⟩, 30) := ⟨⟨by decide +kernel, by decide +kernel⟩, List.mem_of_getElem? (i := 691) (by decide +kernel), List.mem_of_getElem? (i := 896) (by decide +kernel), List.mem_of_getElem? (i := 897) (by decide +kernel)⟩
def lw_privs_3 : List (MethodName × Nat) := [(⟨"ErrorNamesModel", "come", "(II)V"⟩, 30), (⟨"ErrorNamesModel", "step", "()V"⟩, 30), (⟨"ErrorNamesModel", "isSpent", "()Z"⟩, 30), (⟨"ErrorNamesModel", "token", "(I)V"⟩, 30), (⟨"ErrorNamesModel", "wrong", "(I)I"⟩, 30), (⟨"ErrorNamesModel", "kind", "(I)I"⟩, 30), (⟨"ErrorNamesModel", "number", "(I)I"⟩, 30), (⟨"ErrorNamesModel", "areKinds", "(I)Z"⟩, 30), (⟨"ErrorNamesModel", "mark", "()I"⟩, 30), (⟨"ErrorNamesModel", "isInRange", "(I)Z"⟩, 30), (⟨"ErrorNamesModel", "loop", "()I"⟩, 30), (⟨"ErrorNamesModel", "hasFrames", "(I)Z"⟩, 30), (⟨"ErrorNamesModel", "procedureOf", "(I)I"⟩, 30), (⟨"ErrorNamesModel", "mayBegin", "()Z"⟩, 30), (⟨"ErrorNamesModel", "arise", "(II)V"⟩, 30), (⟨"ErrorNamesModel", "stop", "(I)V"⟩, 30)]
theorem lw_r3 : ∀ q ∈ lw_privs_3, lw_okq q := List.forall_mem_cons.mpr ⟨lw_p32, List.forall_mem_cons.mpr ⟨lw_p33, List.forall_mem_cons.mpr ⟨lw_p34, List.forall_mem_cons.mpr ⟨lw_p35, List.forall_mem_cons.mpr ⟨lw_p36, List.forall_mem_cons.mpr ⟨lw_p37, List.forall_mem_cons.mpr ⟨lw_p38, List.forall_mem_cons.mpr ⟨lw_p39, List.forall_mem_cons.mpr ⟨lw_p40, List.forall_mem_cons.mpr ⟨lw_p41, List.forall_mem_cons.mpr ⟨lw_p42, List.forall_mem_cons.mpr ⟨lw_p43, List.forall_mem_cons.mpr ⟨lw_p44, List.forall_mem_cons.mpr ⟨lw_p45, List.forall_mem_cons.mpr ⟨lw_p46, List.forall_mem_cons.mpr ⟨lw_p47, fun _ h => absurd h List.not_mem_nil⟩⟩⟩⟩⟩⟩⟩⟩⟩⟩⟩⟩⟩⟩⟩⟩
theorem lw_p48 : lw_okq (⟨"ErrorNamesModel", "work", "(I)V"⟩, 30) := ⟨⟨by decide +kernel, by decide +kernel⟩, List.mem_of_getElem? (i := 691) (by decide +kernel), List.mem_of_getElem? (i := 900) (by decide +kernel), List.mem_of_getElem? (i := 901) (by decide +kernel)⟩
theorem lw_p49 : lw_okq (⟨"ErrorNamesModel", "reckon", "(I)V"⟩, 30) := ⟨⟨by decide +kernel, by decide +kernel⟩, List.mem_of_getElem? (i := 691) (by decide +kernel), List.mem_of_getElem? (i := 904) (by decide +kernel), List.mem_of_getElem? (i := 905) (by decide +kernel)⟩
theorem lw_p50 : lw_okq (⟨"ErrorNamesModel", "handle", "(I)V"⟩, 30) := ⟨⟨by decide +kernel, by decide +kernel⟩, List.mem_of_getElem? (i := 691) (by decide +kernel), List.mem_of_getElem? (i := 908) (by decide +kernel), List.mem_of_getElem? (i := 909) (by decide +kernel)⟩
theorem lw_p51 : lw_okq (⟨"ErrorNamesModel", "perform", "(I)V"⟩, 30) := ⟨⟨by decide +kernel, by decide +kernel⟩, List.mem_of_getElem? (i := 691) (by decide +kernel), List.mem_of_getElem? (i := 912) (by decide +kernel), List.mem_of_getElem? (i := 913) (by decide +kernel)⟩
theorem lw_p52 : lw_okq (⟨"ErrorNamesModel", "begin", "(I)V"⟩, 30) := ⟨⟨by decide +kernel, by decide +kernel⟩, List.mem_of_getElem? (i := 691) (by decide +kernel), List.mem_of_getElem? (i := 916) (by decide +kernel), List.mem_of_getElem? (i := 917) (by decide +kernel)⟩
theorem lw_p53 : lw_okq (⟨"ErrorNamesModel", "loopOf", "(I)V"⟩, 30) := ⟨⟨by decide +kernel, by decide +kernel⟩, List.mem_of_getElem? (i := 691) (by decide +kernel), List.mem_of_getElem? (i := 920) (by decide +kernel), List.mem_of_getElem? (i := 921) (by decide +kernel)⟩
theorem lw_p54 : lw_okq (⟨"ErrorNamesModel", "govern", "(I)V"⟩, 30) := ⟨⟨by decide +kernel, by decide +kernel⟩, List.mem_of_getElem? (i := 691) (by decide +kernel), List.mem_of_getElem? (i := 924) (by decide +kernel), List.mem_of_getElem? (i := 925) (by decide +kernel)⟩
theorem lw_p55 : lw_okq (⟨"ErrorNamesModel", "number0", "()I"⟩, 30) := ⟨⟨by decide +kernel, by decide +kernel⟩, List.mem_of_getElem? (i := 691) (by decide +kernel), List.mem_of_getElem? (i := 928) (by decide +kernel), List.mem_of_getElem? (i := 929) (by decide +kernel)⟩
theorem lw_p56 : lw_okq (⟨"ErrorNamesModel", "told", "(I)I"⟩, 30) := ⟨⟨by decide +kernel, by decide +kernel⟩, List.mem_of_getElem? (i := 691) (by decide +kernel), List.mem_of_getElem? (i := 932) (by decide +kernel), List.mem_of_getElem? (i := 933) (by decide +kernel)⟩
theorem lw_p57 : lw_okq (⟨"ErrorNamesModel", "turn", "(I)V"⟩, 30) := ⟨⟨by decide +kernel, by decide +kernel⟩, List.mem_of_getElem? (i := 691) (by decide +kernel), List.mem_of_getElem? (i := 936) (by decide +kernel), List.mem_of_getElem? (i := 937) (by decide +kernel)⟩
def lw_privs_4 : List (MethodName × Nat) := [(⟨"ErrorNamesModel", "work", "(I)V"⟩, 30), (⟨"ErrorNamesModel", "reckon", "(I)V"⟩, 30), (⟨"ErrorNamesModel", "handle", "(I)V"⟩, 30), (⟨"ErrorNamesModel", "perform", "(I)V"⟩, 30), (⟨"ErrorNamesModel", "begin", "(I)V"⟩, 30), (⟨"ErrorNamesModel", "loopOf", "(I)V"⟩, 30), (⟨"ErrorNamesModel", "govern", "(I)V"⟩, 30), (⟨"ErrorNamesModel", "number0", "()I"⟩, 30), (⟨"ErrorNamesModel", "told", "(I)I"⟩, 30), (⟨"ErrorNamesModel", "turn", "(I)V"⟩, 30)]
theorem lw_r4 : ∀ q ∈ lw_privs_4, lw_okq q := List.forall_mem_cons.mpr ⟨lw_p48, List.forall_mem_cons.mpr ⟨lw_p49, List.forall_mem_cons.mpr ⟨lw_p50, List.forall_mem_cons.mpr ⟨lw_p51, List.forall_mem_cons.mpr ⟨lw_p52, List.forall_mem_cons.mpr ⟨lw_p53, List.forall_mem_cons.mpr ⟨lw_p54, List.forall_mem_cons.mpr ⟨lw_p55, List.forall_mem_cons.mpr ⟨lw_p56, List.forall_mem_cons.mpr ⟨lw_p57, fun _ h => absurd h List.not_mem_nil⟩⟩⟩⟩⟩⟩⟩⟩⟩⟩
def lw_privs : List (MethodName × Nat) := lw_privs_1 ++ (lw_privs_2 ++ (lw_privs_3 ++ (lw_privs_4)))
def lw_tbl : List Cond := k2_sels lw_privs ++ tables_1
theorem lw_privs_ok : ∀ q ∈ lw_privs, lw_okq q := by
  show ∀ q ∈ lw_privs_1 ++ (lw_privs_2 ++ (lw_privs_3 ++ (lw_privs_4))), lw_okq q
  exact List.forall_mem_append.mpr ⟨lw_r1, List.forall_mem_append.mpr ⟨lw_r2, List.forall_mem_append.mpr ⟨lw_r3, lw_r4⟩⟩⟩
def RX0 : String := "ErrorNames$Frames"
def TX0 : u_T := fun k => match k with
  | 0 => ("ErrorNames$Frames", "sorts", "[I", true)
  | 1 => ("ErrorNames$Frames", "subjects", "[I", true)
  | 2 => ("ErrorNames$Frames", "places", "[I", true)
  | 3 => ("ErrorNames$Frames", "nexts", "[J", true)
  | 4 => ("ErrorNames$Frames", "bys", "[I", true)
  | 5 => ("ErrorNames$Frames", "lasts", "[I", true)
  | 6 => ("ErrorNames$Frames", "count", "I", false)
  | _ => ("ErrorNames$Frames", "most", "I", false)
def tyX0 : Nat → FieldType := fun k => match k with
  | 0 => .array .int
  | 1 => .array .int
  | 2 => .array .int
  | 3 => .array .long
  | 4 => .array .int
  | 5 => .array .int
  | 6 => .int
  | _ => .int
abbrev wsX00 : List Cond := u_ws RX0 TX0 8
theorem nmX0 : ∀ a, a < 8 → ∀ b, b < 8 → a ≠ b → (TX0 a).2.1 ≠ (TX0 b).2.1 := by decide +kernel
theorem tyX0_ok : ∀ k, k < 8 → parseFieldDescriptor (TX0 k).2.2.1 = some (tyX0 k) := by decide +kernel
abbrev cX0_init : ByteArray := prog_2_method_1_code
def yX0_init : MethodName := ⟨RX0, "<init>", "()V"⟩
abbrev cX0_count : ByteArray := prog_2_method_2_code
def yX0_count : MethodName := ⟨RX0, "count", "()I"⟩
abbrev cX0_most : ByteArray := prog_2_method_3_code
def yX0_most : MethodName := ⟨RX0, "most", "()I"⟩
abbrev cX0_roomFor : ByteArray := prog_2_method_4_code
def yX0_roomFor : MethodName := ⟨RX0, "roomFor", "(I)Z"⟩
abbrev cX0_startWith : ByteArray := prog_2_method_5_code
def yX0_startWith : MethodName := ⟨RX0, "startWith", "(I)V"⟩
abbrev cX0_cutTo : ByteArray := prog_2_method_6_code
def yX0_cutTo : MethodName := ⟨RX0, "cutTo", "(I)V"⟩
abbrev cX0_takeTop : ByteArray := prog_2_method_7_code
def yX0_takeTop : MethodName := ⟨RX0, "takeTop", "()V"⟩
abbrev cX0_topSort : ByteArray := prog_2_method_8_code
def yX0_topSort : MethodName := ⟨RX0, "topSort", "()I"⟩
abbrev cX0_topSubject : ByteArray := prog_2_method_9_code
def yX0_topSubject : MethodName := ⟨RX0, "topSubject", "()I"⟩
abbrev cX0_topPlace : ByteArray := prog_2_method_10_code
def yX0_topPlace : MethodName := ⟨RX0, "topPlace", "()I"⟩
abbrev cX0_goBy : ByteArray := prog_2_method_11_code
def yX0_goBy : MethodName := ⟨RX0, "goBy", "()V"⟩
abbrev cX0_loopIsOver : ByteArray := prog_2_method_12_code
def yX0_loopIsOver : MethodName := ⟨RX0, "loopIsOver", "()Z"⟩
abbrev cX0_loopNumber : ByteArray := prog_2_method_13_code
def yX0_loopNumber : MethodName := ⟨RX0, "loopNumber", "()I"⟩
abbrev cX0_turnLoop : ByteArray := prog_2_method_14_code
def yX0_turnLoop : MethodName := ⟨RX0, "turnLoop", "()V"⟩
abbrev cX0_add : ByteArray := prog_2_method_15_code
def yX0_add : MethodName := ⟨RX0, "add", "(II)V"⟩
abbrev cX0_countBy : ByteArray := prog_2_method_16_code
def yX0_countBy : MethodName := ⟨RX0, "countBy", "(III)V"⟩
abbrev cX0_topmostStopped : ByteArray := prog_2_method_17_code
def yX0_topmostStopped : MethodName := ⟨RX0, "topmostStopped", "()I"⟩
abbrev cX0_errorHandled : ByteArray := prog_2_method_18_code
def yX0_errorHandled : MethodName := ⟨RX0, "errorHandled", "()I"⟩
abbrev cX0_loopToExit : ByteArray := prog_2_method_19_code
def yX0_loopToExit : MethodName := ⟨RX0, "loopToExit", "()I"⟩
def RX1 : String := "ErrorNames$Handlers"
def TX1 : u_T := fun k => match k with
  | _ => ("ErrorNames$Handlers", "procedures", "[I", true)
def tyX1 : Nat → FieldType := fun k => match k with
  | _ => .array .int
abbrev wsX10 : List Cond := u_ws RX1 TX1 1
theorem nmX1 : ∀ a, a < 1 → ∀ b, b < 1 → a ≠ b → (TX1 a).2.1 ≠ (TX1 b).2.1 := by decide +kernel
theorem tyX1_ok : ∀ k, k < 1 → parseFieldDescriptor (TX1 k).2.2.1 = some (tyX1 k) := by decide +kernel
abbrev cX1_init : ByteArray := prog_3_method_1_code
def yX1_init : MethodName := ⟨RX1, "<init>", "()V"⟩
abbrev cX1_has : ByteArray := prog_3_method_2_code
def yX1_has : MethodName := ⟨RX1, "has", "(I)Z"⟩
abbrev cX1_takes : ByteArray := prog_3_method_3_code
def yX1_takes : MethodName := ⟨RX1, "takes", "(I)Z"⟩
abbrev cX1_of : ByteArray := prog_3_method_4_code
def yX1_of : MethodName := ⟨RX1, "of", "(I)I"⟩
abbrev cX1_set : ByteArray := prog_3_method_5_code
def yX1_set : MethodName := ⟨RX1, "set", "(II)V"⟩
abbrev cX1_wipe : ByteArray := prog_3_method_6_code
def yX1_wipe : MethodName := ⟨RX1, "wipe", "()V"⟩
def RX2 : String := "ErrorNames$Pile"
def TX2 : u_T := fun k => match k with
  | 0 => ("ErrorNames$Pile", "kinds", "[I", true)
  | 1 => ("ErrorNames$Pile", "numbers", "[I", true)
  | _ => ("ErrorNames$Pile", "count", "I", false)
def tyX2 : Nat → FieldType := fun k => match k with
  | 0 => .array .int
  | 1 => .array .int
  | _ => .int
abbrev wsX20 : List Cond := u_ws RX2 TX2 3
theorem nmX2 : ∀ a, a < 3 → ∀ b, b < 3 → a ≠ b → (TX2 a).2.1 ≠ (TX2 b).2.1 := by decide +kernel
theorem tyX2_ok : ∀ k, k < 3 → parseFieldDescriptor (TX2 k).2.2.1 = some (tyX2 k) := by decide +kernel
abbrev cX2_init : ByteArray := prog_4_method_1_code
def yX2_init : MethodName := ⟨RX2, "<init>", "()V"⟩
abbrev cX2_count : ByteArray := prog_4_method_2_code
def yX2_count : MethodName := ⟨RX2, "count", "()I"⟩
abbrev cX2_full : ByteArray := prog_4_method_3_code
def yX2_full : MethodName := ⟨RX2, "full", "()Z"⟩
abbrev cX2_has : ByteArray := prog_4_method_4_code
def yX2_has : MethodName := ⟨RX2, "has", "(I)Z"⟩
abbrev cX2_kindAt : ByteArray := prog_4_method_5_code
def yX2_kindAt : MethodName := ⟨RX2, "kindAt", "(I)I"⟩
abbrev cX2_numberAt : ByteArray := prog_4_method_6_code
def yX2_numberAt : MethodName := ⟨RX2, "numberAt", "(I)I"⟩
abbrev cX2_kindUnder : ByteArray := prog_4_method_7_code
def yX2_kindUnder : MethodName := ⟨RX2, "kindUnder", "(I)I"⟩
abbrev cX2_numberUnder : ByteArray := prog_4_method_8_code
def yX2_numberUnder : MethodName := ⟨RX2, "numberUnder", "(I)I"⟩
abbrev cX2_put : ByteArray := prog_4_method_9_code
def yX2_put : MethodName := ⟨RX2, "put", "(II)Z"⟩
abbrev cX2_replace : ByteArray := prog_4_method_10_code
def yX2_replace : MethodName := ⟨RX2, "replace", "(III)V"⟩
abbrev cX2_takeOff : ByteArray := prog_4_method_11_code
def yX2_takeOff : MethodName := ⟨RX2, "takeOff", "(I)V"⟩
abbrev cX2_topmostMark : ByteArray := prog_4_method_12_code
def yX2_topmostMark : MethodName := ⟨RX2, "topmostMark", "()I"⟩
abbrev cX2_copy : ByteArray := prog_4_method_13_code
def yX2_copy : MethodName := ⟨RX2, "copy", "(LErrorNames$Pile;)V"⟩
def RX3 : String := "ErrorNames$PileOperators"
def TX3 : u_T := fun k => match k with
  | 0 => ("ErrorNames$PileOperators", "pile", "LErrorNames$Pile;", true)
  | _ => ("ErrorNames$PileOperators", "table", "LErrorNames$Table;", true)
def tyX3 : Nat → FieldType := fun k => match k with
  | 0 => .object "ErrorNames$Pile"
  | _ => .object "ErrorNames$Table"
abbrev wsX30 : List Cond := u_ws RX3 TX3 2
theorem nmX3 : ∀ a, a < 2 → ∀ b, b < 2 → a ≠ b → (TX3 a).2.1 ≠ (TX3 b).2.1 := by decide +kernel
theorem tyX3_ok : ∀ k, k < 2 → parseFieldDescriptor (TX3 k).2.2.1 = some (tyX3 k) := by decide +kernel
abbrev cX3_init : ByteArray := prog_5_method_1_code
def yX3_init : MethodName := ⟨RX3, "<init>", "()V"⟩
abbrev cX3_pile : ByteArray := prog_5_method_2_code
def yX3_pile : MethodName := ⟨RX3, "pile", "()LErrorNames$Pile;"⟩
abbrev cX3_table : ByteArray := prog_5_method_3_code
def yX3_table : MethodName := ⟨RX3, "table", "()LErrorNames$Table;"⟩
abbrev cX3_operate : ByteArray := prog_5_method_4_code
def yX3_operate : MethodName := ⟨RX3, "operate", "(I)I"⟩
abbrev cX3_lookUp : ByteArray := prog_5_method_5_code
def yX3_lookUp : MethodName := ⟨RX3, "lookUp", "(I)I"⟩
abbrev cX3_reckoned : ByteArray := prog_5_method_6_code
def yX3_reckoned : MethodName := ⟨RX3, "reckoned", "(II)I"⟩
abbrev cX3_divide : ByteArray := prog_5_method_7_code
def yX3_divide : MethodName := ⟨RX3, "divide", "(II)I"⟩
abbrev cX3_more : ByteArray := prog_5_method_8_code
def yX3_more : MethodName := ⟨RX3, "more", "(II)I"⟩
abbrev cX3_topTwoAreTheSame : ByteArray := prog_5_method_9_code
def yX3_topTwoAreTheSame : MethodName := ⟨RX3, "topTwoAreTheSame", "()Z"⟩
abbrev cX3_swap : ByteArray := prog_5_method_10_code
def yX3_swap : MethodName := ⟨RX3, "swap", "()I"⟩
abbrev cX3_pick : ByteArray := prog_5_method_11_code
def yX3_pick : MethodName := ⟨RX3, "pick", "(I)I"⟩
abbrev cX3_countToMark : ByteArray := prog_5_method_12_code
def yX3_countToMark : MethodName := ⟨RX3, "countToMark", "()I"⟩
abbrev cX3_clearToMark : ByteArray := prog_5_method_13_code
def yX3_clearToMark : MethodName := ⟨RX3, "clearToMark", "()I"⟩
abbrev cX3_define : ByteArray := prog_5_method_14_code
def yX3_define : MethodName := ⟨RX3, "define", "()I"⟩
def RX4 : String := "ErrorNames$Procedures"
def TX4 : u_T := fun k => match k with
  | 0 => ("ErrorNames$Procedures", "kinds", "[I", true)
  | 1 => ("ErrorNames$Procedures", "numbers", "[I", true)
  | _ => ("ErrorNames$Procedures", "lengths", "[I", true)
def tyX4 : Nat → FieldType := fun k => match k with
  | 0 => .array .int
  | 1 => .array .int
  | _ => .array .int
abbrev wsX40 : List Cond := u_ws RX4 TX4 3
theorem nmX4 : ∀ a, a < 3 → ∀ b, b < 3 → a ≠ b → (TX4 a).2.1 ≠ (TX4 b).2.1 := by decide +kernel
theorem tyX4_ok : ∀ k, k < 3 → parseFieldDescriptor (TX4 k).2.2.1 = some (tyX4 k) := by decide +kernel
abbrev cX4_init : ByteArray := prog_6_method_1_code
def yX4_init : MethodName := ⟨RX4, "<init>", "()V"⟩
abbrev cX4_has : ByteArray := prog_6_method_2_code
def yX4_has : MethodName := ⟨RX4, "has", "(I)Z"⟩
abbrev cX4_length : ByteArray := prog_6_method_3_code
def yX4_length : MethodName := ⟨RX4, "length", "(I)I"⟩
abbrev cX4_append : ByteArray := prog_6_method_4_code
def yX4_append : MethodName := ⟨RX4, "append", "(III)I"⟩
abbrev cX4_wipe : ByteArray := prog_6_method_5_code
def yX4_wipe : MethodName := ⟨RX4, "wipe", "(I)I"⟩
abbrev cX4_kindAt : ByteArray := prog_6_method_6_code
def yX4_kindAt : MethodName := ⟨RX4, "kindAt", "(II)I"⟩
abbrev cX4_numberAt : ByteArray := prog_6_method_7_code
def yX4_numberAt : MethodName := ⟨RX4, "numberAt", "(II)I"⟩
abbrev cX4_hasToken : ByteArray := prog_6_method_8_code
def yX4_hasToken : MethodName := ⟨RX4, "hasToken", "(II)Z"⟩
def RX5 : String := "ErrorNames$Report"
def TX5 : u_T := fun k => match k with
  | 0 => ("ErrorNames$Report", "pile", "LErrorNames$Pile;", true)
  | 1 => ("ErrorNames$Report", "error", "I", false)
  | 2 => ("ErrorNames$Report", "command", "I", false)
  | 3 => ("ErrorNames$Report", "within", "I", false)
  | 4 => ("ErrorNames$Report", "inAll", "I", false)
  | _ => ("ErrorNames$Report", "isNew", "Z", false)
def tyX5 : Nat → FieldType := fun k => match k with
  | 0 => .object "ErrorNames$Pile"
  | 1 => .int
  | 2 => .int
  | 3 => .int
  | 4 => .int
  | _ => .boolean
abbrev wsX50 : List Cond := u_ws RX5 TX5 6
theorem nmX5 : ∀ a, a < 6 → ∀ b, b < 6 → a ≠ b → (TX5 a).2.1 ≠ (TX5 b).2.1 := by decide +kernel
theorem tyX5_ok : ∀ k, k < 6 → parseFieldDescriptor (TX5 k).2.2.1 = some (tyX5 k) := by decide +kernel
abbrev cX5_init : ByteArray := prog_7_method_1_code
def yX5_init : MethodName := ⟨RX5, "<init>", "()V"⟩
abbrev cX5_pile : ByteArray := prog_7_method_2_code
def yX5_pile : MethodName := ⟨RX5, "pile", "()LErrorNames$Pile;"⟩
abbrev cX5_has : ByteArray := prog_7_method_3_code
def yX5_has : MethodName := ⟨RX5, "has", "(I)Z"⟩
abbrev cX5_told : ByteArray := prog_7_method_4_code
def yX5_told : MethodName := ⟨RX5, "told", "(I)I"⟩
abbrev cX5_tell : ByteArray := prog_7_method_5_code
def yX5_tell : MethodName := ⟨RX5, "tell", "(IIILErrorNames$Pile;)V"⟩
abbrev cX5_noMoreNew : ByteArray := prog_7_method_6_code
def yX5_noMoreNew : MethodName := ⟨RX5, "noMoreNew", "()V"⟩
abbrev cX5_wipe : ByteArray := prog_7_method_7_code
def yX5_wipe : MethodName := ⟨RX5, "wipe", "()V"⟩
def RX6 : String := "ErrorNames$Table"
def TX6 : u_T := fun k => match k with
  | 0 => ("ErrorNames$Table", "kinds", "[I", true)
  | _ => ("ErrorNames$Table", "numbers", "[I", true)
def tyX6 : Nat → FieldType := fun k => match k with
  | 0 => .array .int
  | _ => .array .int
abbrev wsX60 : List Cond := u_ws RX6 TX6 2
theorem nmX6 : ∀ a, a < 2 → ∀ b, b < 2 → a ≠ b → (TX6 a).2.1 ≠ (TX6 b).2.1 := by decide +kernel
theorem tyX6_ok : ∀ k, k < 2 → parseFieldDescriptor (TX6 k).2.2.1 = some (tyX6 k) := by decide +kernel
abbrev cX6_init : ByteArray := prog_8_method_1_code
def yX6_init : MethodName := ⟨RX6, "<init>", "()V"⟩
abbrev cX6_has : ByteArray := prog_8_method_2_code
def yX6_has : MethodName := ⟨RX6, "has", "(I)Z"⟩
abbrev cX6_kindOf : ByteArray := prog_8_method_3_code
def yX6_kindOf : MethodName := ⟨RX6, "kindOf", "(I)I"⟩
abbrev cX6_numberOf : ByteArray := prog_8_method_4_code
def yX6_numberOf : MethodName := ⟨RX6, "numberOf", "(I)I"⟩
abbrev cX6_give : ByteArray := prog_8_method_5_code
def yX6_give : MethodName := ⟨RX6, "give", "(III)V"⟩
abbrev cX6_wipe : ByteArray := prog_8_method_6_code
def yX6_wipe : MethodName := ⟨RX6, "wipe", "()I"⟩
def RX7 : String := "ErrorNames"
def TX7 : u_T := fun k => match k with
  | 0 => ("ErrorNames", "procedures", "LErrorNames$Procedures;", true)
  | 1 => ("ErrorNames", "pileOperators", "LErrorNames$PileOperators;", true)
  | 2 => ("ErrorNames", "pile", "LErrorNames$Pile;", true)
  | 3 => ("ErrorNames", "table", "LErrorNames$Table;", true)
  | 4 => ("ErrorNames", "handlers", "LErrorNames$Handlers;", true)
  | 5 => ("ErrorNames", "frames", "LErrorNames$Frames;", true)
  | 6 => ("ErrorNames", "report", "LErrorNames$Report;", true)
  | 7 => ("ErrorNames", "interrupted", "Z", false)
  | 8 => ("ErrorNames", "endedBy", "I", false)
  | 9 => ("ErrorNames", "stepsDone", "I", false)
  | _ => ("ErrorNames", "handlersBegun", "I", false)
def tyX7 : Nat → FieldType := fun k => match k with
  | 0 => .object "ErrorNames$Procedures"
  | 1 => .object "ErrorNames$PileOperators"
  | 2 => .object "ErrorNames$Pile"
  | 3 => .object "ErrorNames$Table"
  | 4 => .object "ErrorNames$Handlers"
  | 5 => .object "ErrorNames$Frames"
  | 6 => .object "ErrorNames$Report"
  | 7 => .boolean
  | 8 => .int
  | 9 => .int
  | _ => .int
abbrev wsX70 : List Cond := u_ws RX7 TX7 11
theorem nmX7 : ∀ a, a < 11 → ∀ b, b < 11 → a ≠ b → (TX7 a).2.1 ≠ (TX7 b).2.1 := by decide +kernel
theorem tyX7_ok : ∀ k, k < 11 → parseFieldDescriptor (TX7 k).2.2.1 = some (tyX7 k) := by decide +kernel
abbrev cX7_init : ByteArray := prog_1_method_1_code
def yX7_init : MethodName := ⟨RX7, "<init>", "()V"⟩
abbrev cX7_token : ByteArray := prog_1_method_2_code
def yX7_token : MethodName := ⟨RX7, "token", "(III)I"⟩
abbrev cX7_clear : ByteArray := prog_1_method_3_code
def yX7_clear : MethodName := ⟨RX7, "clear", "(I)I"⟩
abbrev cX7_push : ByteArray := prog_1_method_4_code
def yX7_push : MethodName := ⟨RX7, "push", "(II)I"⟩
abbrev cX7_drop : ByteArray := prog_1_method_5_code
def yX7_drop : MethodName := ⟨RX7, "drop", "()I"⟩
abbrev cX7_run : ByteArray := prog_1_method_6_code
def yX7_run : MethodName := ⟨RX7, "run", "(II)I"⟩
abbrev cX7_interrupt : ByteArray := prog_1_method_7_code
def yX7_interrupt : MethodName := ⟨RX7, "interrupt", "()I"⟩
abbrev cX7_size : ByteArray := prog_1_method_8_code
def yX7_size : MethodName := ⟨RX7, "size", "()I"⟩
abbrev cX7_value : ByteArray := prog_1_method_9_code
def yX7_value : MethodName := ⟨RX7, "value", "(II)I"⟩
abbrev cX7_record : ByteArray := prog_1_method_10_code
def yX7_record : MethodName := ⟨RX7, "record", "(I)I"⟩
abbrev cX7_kept : ByteArray := prog_1_method_11_code
def yX7_kept : MethodName := ⟨RX7, "kept", "(II)I"⟩
abbrev cX7_handler : ByteArray := prog_1_method_12_code
def yX7_handler : MethodName := ⟨RX7, "handler", "(I)I"⟩
abbrev cX7_named : ByteArray := prog_1_method_13_code
def yX7_named : MethodName := ⟨RX7, "named", "(II)I"⟩
abbrev cX7_forget : ByteArray := prog_1_method_14_code
def yX7_forget : MethodName := ⟨RX7, "forget", "()I"⟩
abbrev cX7_isKindOrNumber : ByteArray := prog_1_method_15_code
def yX7_isKindOrNumber : MethodName := ⟨RX7, "isKindOrNumber", "(I)Z"⟩
abbrev cX7_isOfKind : ByteArray := prog_1_method_16_code
def yX7_isOfKind : MethodName := ⟨RX7, "isOfKind", "(II)Z"⟩
abbrev cX7_step : ByteArray := prog_1_method_17_code
def yX7_step : MethodName := ⟨RX7, "step", "()V"⟩
abbrev cX7_goOn : ByteArray := prog_1_method_18_code
def yX7_goOn : MethodName := ⟨RX7, "goOn", "()V"⟩
abbrev cX7_turn : ByteArray := prog_1_method_19_code
def yX7_turn : MethodName := ⟨RX7, "turn", "()V"⟩
abbrev cX7_endStopped : ByteArray := prog_1_method_20_code
def yX7_endStopped : MethodName := ⟨RX7, "endStopped", "()V"⟩
abbrev cX7_arise : ByteArray := prog_1_method_21_code
def yX7_arise : MethodName := ⟨RX7, "arise", "(II)V"⟩
abbrev cX7_stopBy : ByteArray := prog_1_method_22_code
def yX7_stopBy : MethodName := ⟨RX7, "stopBy", "(I)V"⟩
abbrev cX7_misfit : ByteArray := prog_1_method_23_code
def yX7_misfit : MethodName := ⟨RX7, "misfit", "(I)I"⟩
abbrev cX7_operate : ByteArray := prog_1_method_24_code
def yX7_operate : MethodName := ⟨RX7, "operate", "(I)I"⟩
abbrev cX7_execute : ByteArray := prog_1_method_25_code
def yX7_execute : MethodName := ⟨RX7, "execute", "()I"⟩
abbrev cX7_beginIf : ByteArray := prog_1_method_26_code
def yX7_beginIf : MethodName := ⟨RX7, "beginIf", "()I"⟩
abbrev cX7_begin : ByteArray := prog_1_method_27_code
def yX7_begin : MethodName := ⟨RX7, "begin", "(II)I"⟩
abbrev cX7_repeat : ByteArray := prog_1_method_28_code
def yX7_repeat : MethodName := ⟨RX7, "repeat", "(I)I"⟩
abbrev cX7_countThrough : ByteArray := prog_1_method_29_code
def yX7_countThrough : MethodName := ⟨RX7, "countThrough", "(III)I"⟩
abbrev cX7_beginLoop : ByteArray := prog_1_method_30_code
def yX7_beginLoop : MethodName := ⟨RX7, "beginLoop", "(IIIII)I"⟩
abbrev cX7_exitLoop : ByteArray := prog_1_method_31_code
def yX7_exitLoop : MethodName := ⟨RX7, "exitLoop", "()I"⟩
abbrev cX7_guard : ByteArray := prog_1_method_32_code
def yX7_guard : MethodName := ⟨RX7, "guard", "()I"⟩
abbrev cX7_setHandler : ByteArray := prog_1_method_33_code
def yX7_setHandler : MethodName := ⟨RX7, "setHandler", "()I"⟩
abbrev cX7_raise : ByteArray := prog_1_method_34_code
def yX7_raise : MethodName := ⟨RX7, "raise", "(I)I"⟩
abbrev cX7_tell : ByteArray := prog_1_method_35_code
def yX7_tell : MethodName := ⟨RX7, "tell", "(I)I"⟩
def RX8 : String := "ErrorNamesModel"
def TX8 : u_T := fun k => match k with
  | 0 => ("ErrorNamesModel", "thrown", "I", false)
  | 1 => ("ErrorNamesModel", "tokenKinds", "[I", true)
  | 2 => ("ErrorNamesModel", "tokenNumbers", "[I", true)
  | 3 => ("ErrorNamesModel", "tokens", "[I", true)
  | 4 => ("ErrorNamesModel", "kinds", "[I", true)
  | 5 => ("ErrorNamesModel", "numbers", "[I", true)
  | 6 => ("ErrorNamesModel", "size", "I", false)
  | 7 => ("ErrorNamesModel", "tableKinds", "[I", true)
  | 8 => ("ErrorNamesModel", "tableNumbers", "[I", true)
  | 9 => ("ErrorNamesModel", "handlers", "[I", true)
  | 10 => ("ErrorNamesModel", "error", "I", false)
  | 11 => ("ErrorNamesModel", "command", "I", false)
  | 12 => ("ErrorNamesModel", "isNew", "Z", false)
  | 13 => ("ErrorNamesModel", "within", "I", false)
  | 14 => ("ErrorNamesModel", "keptKinds", "[I", true)
  | 15 => ("ErrorNamesModel", "keptNumbers", "[I", true)
  | 16 => ("ErrorNamesModel", "keptSize", "I", false)
  | 17 => ("ErrorNamesModel", "errors", "I", false)
  | 18 => ("ErrorNamesModel", "interrupted", "Z", false)
  | 19 => ("ErrorNamesModel", "frames", "I", false)
  | 20 => ("ErrorNamesModel", "sorts", "[I", true)
  | 21 => ("ErrorNamesModel", "who", "[I", true)
  | 22 => ("ErrorNamesModel", "places", "[I", true)
  | 23 => ("ErrorNamesModel", "nexts", "[J", true)
  | 24 => ("ErrorNamesModel", "bys", "[I", true)
  | 25 => ("ErrorNamesModel", "limits", "[I", true)
  | 26 => ("ErrorNamesModel", "steps", "I", false)
  | 27 => ("ErrorNamesModel", "most", "I", false)
  | 28 => ("ErrorNamesModel", "handled", "I", false)
  | _ => ("ErrorNamesModel", "ended", "I", false)
def tyX8 : Nat → FieldType := fun k => match k with
  | 0 => .int
  | 1 => .array .int
  | 2 => .array .int
  | 3 => .array .int
  | 4 => .array .int
  | 5 => .array .int
  | 6 => .int
  | 7 => .array .int
  | 8 => .array .int
  | 9 => .array .int
  | 10 => .int
  | 11 => .int
  | 12 => .boolean
  | 13 => .int
  | 14 => .array .int
  | 15 => .array .int
  | 16 => .int
  | 17 => .int
  | 18 => .boolean
  | 19 => .int
  | 20 => .array .int
  | 21 => .array .int
  | 22 => .array .int
  | 23 => .array .long
  | 24 => .array .int
  | 25 => .array .int
  | 26 => .int
  | 27 => .int
  | 28 => .int
  | _ => .int
abbrev wsX80 : List Cond := u_ws RX8 TX8 30
theorem nmX8 : ∀ a, a < 30 → ∀ b, b < 30 → a ≠ b → (TX8 a).2.1 ≠ (TX8 b).2.1 := by decide +kernel
theorem tyX8_ok : ∀ k, k < 30 → parseFieldDescriptor (TX8 k).2.2.1 = some (tyX8 k) := by decide +kernel
abbrev cX8_init : ByteArray := prog_10_method_1_code
def yX8_init : MethodName := ⟨RX8, "<init>", "()V"⟩
abbrev cX8_thrown : ByteArray := prog_10_method_2_code
def yX8_thrown : MethodName := ⟨RX8, "thrown", "()I"⟩
abbrev cX8_clearAll : ByteArray := prog_10_method_3_code
def yX8_clearAll : MethodName := ⟨RX8, "clearAll", "()V"⟩
abbrev cX8_in : ByteArray := prog_10_method_4_code
def yX8_in : MethodName := ⟨RX8, "in", "(III)Z"⟩
abbrev cX8_fits : ByteArray := prog_10_method_5_code
def yX8_fits : MethodName := ⟨RX8, "fits", "(II)Z"⟩
abbrev cX8_token : ByteArray := prog_10_method_6_code
def yX8_token : MethodName := ⟨RX8, "token", "(III)I"⟩
abbrev cX8_clear : ByteArray := prog_10_method_7_code
def yX8_clear : MethodName := ⟨RX8, "clear", "(I)I"⟩
abbrev cX8_lay : ByteArray := prog_10_method_8_code
def yX8_lay : MethodName := ⟨RX8, "lay", "(II)V"⟩
abbrev cX8_push : ByteArray := prog_10_method_9_code
def yX8_push : MethodName := ⟨RX8, "push", "(II)I"⟩
abbrev cX8_drop : ByteArray := prog_10_method_10_code
def yX8_drop : MethodName := ⟨RX8, "drop", "()I"⟩
abbrev cX8_interrupt : ByteArray := prog_10_method_11_code
def yX8_interrupt : MethodName := ⟨RX8, "interrupt", "()I"⟩
abbrev cX8_come : ByteArray := prog_10_method_12_code
def yX8_come : MethodName := ⟨RX8, "come", "(II)V"⟩
abbrev cX8_isSpent : ByteArray := prog_10_method_13_code
def yX8_isSpent : MethodName := ⟨RX8, "isSpent", "()Z"⟩
abbrev cX8_mayBegin : ByteArray := prog_10_method_14_code
def yX8_mayBegin : MethodName := ⟨RX8, "mayBegin", "()Z"⟩
abbrev cX8_begin : ByteArray := prog_10_method_15_code
def yX8_begin : MethodName := ⟨RX8, "begin", "(I)V"⟩
abbrev cX8_stop : ByteArray := prog_10_method_16_code
def yX8_stop : MethodName := ⟨RX8, "stop", "(I)V"⟩
abbrev cX8_arise : ByteArray := prog_10_method_17_code
def yX8_arise : MethodName := ⟨RX8, "arise", "(II)V"⟩
abbrev cX8_run : ByteArray := prog_10_method_18_code
def yX8_run : MethodName := ⟨RX8, "run", "(II)I"⟩
abbrev cX8_step : ByteArray := prog_10_method_19_code
def yX8_step : MethodName := ⟨RX8, "step", "()V"⟩
abbrev cX8_token_ : ByteArray := prog_10_method_20_code
def yX8_token_ : MethodName := ⟨RX8, "token", "(I)V"⟩
abbrev cX8_turn : ByteArray := prog_10_method_21_code
def yX8_turn : MethodName := ⟨RX8, "turn", "(I)V"⟩
abbrev cX8_takes : ByteArray := prog_10_method_22_code
def yX8_takes : MethodName := ⟨RX8, "takes", "(I)I"⟩
abbrev cX8_kind : ByteArray := prog_10_method_23_code
def yX8_kind : MethodName := ⟨RX8, "kind", "(I)I"⟩
abbrev cX8_number : ByteArray := prog_10_method_24_code
def yX8_number : MethodName := ⟨RX8, "number", "(I)I"⟩
abbrev cX8_areKinds : ByteArray := prog_10_method_25_code
def yX8_areKinds : MethodName := ⟨RX8, "areKinds", "(I)Z"⟩
abbrev cX8_isError : ByteArray := prog_10_method_26_code
def yX8_isError : MethodName := ⟨RX8, "isError", "(I)Z"⟩
abbrev cX8_isInRange : ByteArray := prog_10_method_27_code
def yX8_isInRange : MethodName := ⟨RX8, "isInRange", "(I)Z"⟩
abbrev cX8_mark : ByteArray := prog_10_method_28_code
def yX8_mark : MethodName := ⟨RX8, "mark", "()I"⟩
abbrev cX8_loop : ByteArray := prog_10_method_29_code
def yX8_loop : MethodName := ⟨RX8, "loop", "()I"⟩
abbrev cX8_wrong : ByteArray := prog_10_method_30_code
def yX8_wrong : MethodName := ⟨RX8, "wrong", "(I)I"⟩
abbrev cX8_procedureOf : ByteArray := prog_10_method_31_code
def yX8_procedureOf : MethodName := ⟨RX8, "procedureOf", "(I)I"⟩
abbrev cX8_hasFrames : ByteArray := prog_10_method_32_code
def yX8_hasFrames : MethodName := ⟨RX8, "hasFrames", "(I)Z"⟩
abbrev cX8_work : ByteArray := prog_10_method_33_code
def yX8_work : MethodName := ⟨RX8, "work", "(I)V"⟩
abbrev cX8_reckon : ByteArray := prog_10_method_34_code
def yX8_reckon : MethodName := ⟨RX8, "reckon", "(I)V"⟩
abbrev cX8_handle : ByteArray := prog_10_method_35_code
def yX8_handle : MethodName := ⟨RX8, "handle", "(I)V"⟩
abbrev cX8_perform : ByteArray := prog_10_method_36_code
def yX8_perform : MethodName := ⟨RX8, "perform", "(I)V"⟩
abbrev cX8_loopOf : ByteArray := prog_10_method_37_code
def yX8_loopOf : MethodName := ⟨RX8, "loopOf", "(I)V"⟩
abbrev cX8_govern : ByteArray := prog_10_method_38_code
def yX8_govern : MethodName := ⟨RX8, "govern", "(I)V"⟩
abbrev cX8_number0 : ByteArray := prog_10_method_39_code
def yX8_number0 : MethodName := ⟨RX8, "number0", "()I"⟩
abbrev cX8_told : ByteArray := prog_10_method_40_code
def yX8_told : MethodName := ⟨RX8, "told", "(I)I"⟩
abbrev cX8_size : ByteArray := prog_10_method_41_code
def yX8_size : MethodName := ⟨RX8, "size", "()I"⟩
abbrev cX8_value : ByteArray := prog_10_method_42_code
def yX8_value : MethodName := ⟨RX8, "value", "(II)I"⟩
abbrev cX8_record : ByteArray := prog_10_method_43_code
def yX8_record : MethodName := ⟨RX8, "record", "(I)I"⟩
abbrev cX8_kept : ByteArray := prog_10_method_44_code
def yX8_kept : MethodName := ⟨RX8, "kept", "(II)I"⟩
abbrev cX8_handler : ByteArray := prog_10_method_45_code
def yX8_handler : MethodName := ⟨RX8, "handler", "(I)I"⟩
abbrev cX8_named : ByteArray := prog_10_method_46_code
def yX8_named : MethodName := ⟨RX8, "named", "(II)I"⟩
abbrev cX8_forget : ByteArray := prog_10_method_47_code
def yX8_forget : MethodName := ⟨RX8, "forget", "()I"⟩
def RJ0 : String := "java/lang/String"
def TJ0 : u_T := fun k => match k with
  | _ => ("", "", "", false)
def tyJ0 : Nat → FieldType := fun k => match k with
  | _ => .int
abbrev wsJ00 : List Cond := u_ws RJ0 TJ0 0
theorem nmJ0 : ∀ a, a < 0 → ∀ b, b < 0 → a ≠ b → (TJ0 a).2.1 ≠ (TJ0 b).2.1 := by decide +kernel
theorem tyJ0_ok : ∀ k, k < 0 → parseFieldDescriptor (TJ0 k).2.2.1 = some (tyJ0 k) := by decide +kernel
def RJ7 : String := "java/util/Arrays"
def TJ7 : u_T := fun k => match k with
  | _ => ("", "", "", false)
def tyJ7 : Nat → FieldType := fun k => match k with
  | _ => .int
abbrev wsJ70 : List Cond := u_ws RJ7 TJ7 0
theorem nmJ7 : ∀ a, a < 0 → ∀ b, b < 0 → a ≠ b → (TJ7 a).2.1 ≠ (TJ7 b).2.1 := by decide +kernel
theorem tyJ7_ok : ∀ k, k < 0 → parseFieldDescriptor (TJ7 k).2.2.1 = some (tyJ7 k) := by decide +kernel
abbrev cJ7_fill_53178 : ByteArray := prog_16_method_103_code
def yJ7_fill_53178 : MethodName := ⟨RJ7, "fill", "([II)V"⟩
def RL : String := "ErrorNamesLaw"
abbrev cL_value : ByteArray := method_3_code
def yL_value : MethodName := ⟨RL, "value", "(LErrorNames;II[J)I"⟩
abbrev cL_record : ByteArray := method_4_code
def yL_record : MethodName := ⟨RL, "record", "(LErrorNames;I[J)I"⟩
abbrev cL_kept : ByteArray := method_5_code
def yL_kept : MethodName := ⟨RL, "kept", "(LErrorNames;II[J)I"⟩
abbrev cL_handler : ByteArray := method_6_code
def yL_handler : MethodName := ⟨RL, "handler", "(LErrorNames;I[J)I"⟩
abbrev cL_named : ByteArray := method_7_code
def yL_named : MethodName := ⟨RL, "named", "(LErrorNames;II[J)I"⟩
abbrev cL_law : ByteArray := code
def yL_law : MethodName := ⟨RL, "law", "([I)Z"⟩
abbrev vwCl : List vw_C := [(RX0, TX0, 8), (RX1, TX1, 1), (RX2, TX2, 3), (RX3, TX3, 2), (RX4, TX4, 3), (RX5, TX5, 6), (RX6, TX6, 2), (RX7, TX7, 11), (RX8, TX8, 30)]

/-- the words that a call may carry on -/
def tb : List Cond := lw_tbl.filter goodWord
theorem tbm (i : Nat) {w : Cond} (h : lw_tbl[i]? = some w) (g : goodWord w = true) : w ∈ tb := List.mem_filter.mpr ⟨List.mem_of_getElem? h, g⟩
theorem tb_in {w : Cond} (h : w ∈ tb) : w ∈ lw_tbl := (List.mem_filter.mp h).1
theorem tb_ok {w : Cond} (h : w ∈ tb) : (w.onTables && w.keeps) = true ∨ ∃ ty, w = .arrayClass ty := good_of_word (List.mem_filter.mp h).2
theorem gd {big : List Cond} (hb : ∀ w ∈ tb, w ∈ big) {w0 : Cond} (h0 : w0 ∈ tb) : GoodIn big (w0 :: tb) := fun w hw => (List.mem_cons.mp hw).elim (fun e => e ▸ ⟨hb _ h0, tb_ok h0⟩) (fun h => ⟨hb _ h, tb_ok h⟩)
theorem gdc {big : List Cond} {w0 : Cond} {ws : List Cond} (hb : ∀ w ∈ tb, w ∈ big) (h0 : w0 ∈ tb) (h : GoodIn big ws) : GoodIn big (w0 :: ws) := fun w hw => (List.mem_cons.mp hw).elim (fun e => e ▸ ⟨hb _ h0, tb_ok h0⟩) (fun q => h _ q)
theorem gdV {big : List Cond} (hb : ∀ w ∈ tb, w ∈ big) {own C : String} {idx n : Nat} {y : MethodName} {bytes : ByteArray} {ret : Option FieldType} (h1 : Cond.methodLink own idx y ∈ tb) (h2 : Cond.instanceMethod y ∈ tb) (h3 : Cond.selects C y y ∈ tb) (h4 : Cond.initialized C ∈ tb) (h5 : Cond.code y bytes n ret ∈ tb) : GoodIn big (wsV own idx C y (.code y bytes n ret :: tb)) :=
  gdc hb h1 (gdc hb h2 (gdc hb h3 (gdc hb h4 (gd hb h5))))

theorem inX0 : ∀ w ∈ wsX00, w ∈ tb := fun w h => List.mem_filter.mpr ⟨(by decide +kernel : ∀ w ∈ wsX00, w ∈ lw_tbl) w h, (by decide +kernel : ∀ w ∈ wsX00, goodWord w = true) w h⟩
theorem inX1 : ∀ w ∈ wsX10, w ∈ tb := fun w h => List.mem_filter.mpr ⟨(by decide +kernel : ∀ w ∈ wsX10, w ∈ lw_tbl) w h, (by decide +kernel : ∀ w ∈ wsX10, goodWord w = true) w h⟩
theorem inX2 : ∀ w ∈ wsX20, w ∈ tb := fun w h => List.mem_filter.mpr ⟨(by decide +kernel : ∀ w ∈ wsX20, w ∈ lw_tbl) w h, (by decide +kernel : ∀ w ∈ wsX20, goodWord w = true) w h⟩
theorem inX3 : ∀ w ∈ wsX30, w ∈ tb := fun w h => List.mem_filter.mpr ⟨(by decide +kernel : ∀ w ∈ wsX30, w ∈ lw_tbl) w h, (by decide +kernel : ∀ w ∈ wsX30, goodWord w = true) w h⟩
theorem inX4 : ∀ w ∈ wsX40, w ∈ tb := fun w h => List.mem_filter.mpr ⟨(by decide +kernel : ∀ w ∈ wsX40, w ∈ lw_tbl) w h, (by decide +kernel : ∀ w ∈ wsX40, goodWord w = true) w h⟩
theorem inX5 : ∀ w ∈ wsX50, w ∈ tb := fun w h => List.mem_filter.mpr ⟨(by decide +kernel : ∀ w ∈ wsX50, w ∈ lw_tbl) w h, (by decide +kernel : ∀ w ∈ wsX50, goodWord w = true) w h⟩
theorem inX6 : ∀ w ∈ wsX60, w ∈ tb := fun w h => List.mem_filter.mpr ⟨(by decide +kernel : ∀ w ∈ wsX60, w ∈ lw_tbl) w h, (by decide +kernel : ∀ w ∈ wsX60, goodWord w = true) w h⟩
theorem inX7 : ∀ w ∈ wsX70, w ∈ tb := fun w h => List.mem_filter.mpr ⟨(by decide +kernel : ∀ w ∈ wsX70, w ∈ lw_tbl) w h, (by decide +kernel : ∀ w ∈ wsX70, goodWord w = true) w h⟩
theorem inX8 : ∀ w ∈ wsX80, w ∈ tb := fun w h => List.mem_filter.mpr ⟨(by decide +kernel : ∀ w ∈ wsX80, w ∈ lw_tbl) w h, (by decide +kernel : ∀ w ∈ wsX80, goodWord w = true) w h⟩
