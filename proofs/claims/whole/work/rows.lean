section
-- ===== PART A: goes FIRST, ahead of the names: the tables' words, and 'selects' of the private methods out of them =====
/-- a private method of a class that the tables say can be made, by its rows of tables_1 -/
def lw_okq (q : MethodName × Nat) : Prop := (q.1.cls ≠ "java/lang/invoke/MethodHandle" ∧ q.1.cls ≠ "java/lang/invoke/VarHandle") ∧ Cond.instantiable q.1.cls q.2 ∈ tables_1 ∧ Cond.privateMethod q.1 ∈ tables_1 ∧ Cond.instanceMethod q.1 ∈ tables_1
theorem lw_p0 : lw_okq (⟨"UndoWorks", "allNodes", "()I"⟩, 6) := ⟨⟨by decide +kernel, by decide +kernel⟩, List.mem_of_getElem? (i := 14) (by decide +kernel), List.mem_of_getElem? (i := 167) (by decide +kernel), List.mem_of_getElem? (i := 168) (by decide +kernel)⟩
theorem lw_p1 : lw_okq (⟨"java/lang/Throwable", "fillInStackTrace", "(I)Ljava/lang/Throwable;"⟩, 6) := ⟨⟨by decide +kernel, by decide +kernel⟩, List.mem_of_getElem? (i := 223) (by decide +kernel), List.mem_of_getElem? (i := 221) (by decide +kernel), List.mem_of_getElem? (i := 222) (by decide +kernel)⟩
theorem lw_p2 : lw_okq (⟨"UndoWorks$Workflow", "latestPart", "()I"⟩, 9) := ⟨⟨by decide +kernel, by decide +kernel⟩, List.mem_of_getElem? (i := 23) (by decide +kernel), List.mem_of_getElem? (i := 264) (by decide +kernel), List.mem_of_getElem? (i := 265) (by decide +kernel)⟩
theorem lw_p3 : lw_okq (⟨"UndoWorks$Workflow", "openLoops", "()I"⟩, 9) := ⟨⟨by decide +kernel, by decide +kernel⟩, List.mem_of_getElem? (i := 23) (by decide +kernel), List.mem_of_getElem? (i := 268) (by decide +kernel), List.mem_of_getElem? (i := 269) (by decide +kernel)⟩
theorem lw_p4 : lw_okq (⟨"UndoWorks$Workflow", "openAt", "(I)V"⟩, 9) := ⟨⟨by decide +kernel, by decide +kernel⟩, List.mem_of_getElem? (i := 23) (by decide +kernel), List.mem_of_getElem? (i := 292) (by decide +kernel), List.mem_of_getElem? (i := 293) (by decide +kernel)⟩
theorem lw_p5 : lw_okq (⟨"UndoWorks$Workflow", "beginPartAt", "(I)V"⟩, 9) := ⟨⟨by decide +kernel, by decide +kernel⟩, List.mem_of_getElem? (i := 23) (by decide +kernel), List.mem_of_getElem? (i := 296) (by decide +kernel), List.mem_of_getElem? (i := 297) (by decide +kernel)⟩
theorem lw_p6 : lw_okq (⟨"UndoWorks$Workflow", "closeAt", "(I)V"⟩, 9) := ⟨⟨by decide +kernel, by decide +kernel⟩, List.mem_of_getElem? (i := 23) (by decide +kernel), List.mem_of_getElem? (i := 300) (by decide +kernel), List.mem_of_getElem? (i := 301) (by decide +kernel)⟩
theorem lw_p7 : lw_okq (⟨"UndoWorks", "doPart", "(LUndoWorks$Workflow;II)J"⟩, 6) := ⟨⟨by decide +kernel, by decide +kernel⟩, List.mem_of_getElem? (i := 14) (by decide +kernel), List.mem_of_getElem? (i := 327) (by decide +kernel), List.mem_of_getElem? (i := 328) (by decide +kernel)⟩
theorem lw_p8 : lw_okq (⟨"UndoWorks", "doNode", "(LUndoWorks$Workflow;II)J"⟩, 6) := ⟨⟨by decide +kernel, by decide +kernel⟩, List.mem_of_getElem? (i := 14) (by decide +kernel), List.mem_of_getElem? (i := 331) (by decide +kernel), List.mem_of_getElem? (i := 332) (by decide +kernel)⟩
theorem lw_p9 : lw_okq (⟨"UndoWorks", "canPay", "()Z"⟩, 6) := ⟨⟨by decide +kernel, by decide +kernel⟩, List.mem_of_getElem? (i := 14) (by decide +kernel), List.mem_of_getElem? (i := 335) (by decide +kernel), List.mem_of_getElem? (i := 336) (by decide +kernel)⟩
theorem lw_p10 : lw_okq (⟨"UndoWorks", "doTry", "(LUndoWorks$Workflow;II)J"⟩, 6) := ⟨⟨by decide +kernel, by decide +kernel⟩, List.mem_of_getElem? (i := 14) (by decide +kernel), List.mem_of_getElem? (i := 342) (by decide +kernel), List.mem_of_getElem? (i := 343) (by decide +kernel)⟩
theorem lw_p11 : lw_okq (⟨"UndoWorks", "doLoop", "(LUndoWorks$Workflow;II)J"⟩, 6) := ⟨⟨by decide +kernel, by decide +kernel⟩, List.mem_of_getElem? (i := 14) (by decide +kernel), List.mem_of_getElem? (i := 353) (by decide +kernel), List.mem_of_getElem? (i := 354) (by decide +kernel)⟩
theorem lw_p12 : lw_okq (⟨"UndoWorks", "doScope", "(LUndoWorks$Workflow;II)J"⟩, 6) := ⟨⟨by decide +kernel, by decide +kernel⟩, List.mem_of_getElem? (i := 14) (by decide +kernel), List.mem_of_getElem? (i := 357) (by decide +kernel), List.mem_of_getElem? (i := 358) (by decide +kernel)⟩
theorem lw_p13 : lw_okq (⟨"UndoWorks$UndoList", "undoAt", "(ILUndoWorks$Data;)V"⟩, 9) := ⟨⟨by decide +kernel, by decide +kernel⟩, List.mem_of_getElem? (i := 104) (by decide +kernel), List.mem_of_getElem? (i := 369) (by decide +kernel), List.mem_of_getElem? (i := 370) (by decide +kernel)⟩
theorem lw_p14 : lw_okq (⟨"UndoWorks", "doMute", "(LUndoWorks$Workflow;II)J"⟩, 6) := ⟨⟨by decide +kernel, by decide +kernel⟩, List.mem_of_getElem? (i := 14) (by decide +kernel), List.mem_of_getElem? (i := 384) (by decide +kernel), List.mem_of_getElem? (i := 385) (by decide +kernel)⟩
theorem lw_p15 : lw_okq (⟨"UndoWorks", "doIf", "(LUndoWorks$Workflow;II)J"⟩, 6) := ⟨⟨by decide +kernel, by decide +kernel⟩, List.mem_of_getElem? (i := 14) (by decide +kernel), List.mem_of_getElem? (i := 388) (by decide +kernel), List.mem_of_getElem? (i := 389) (by decide +kernel)⟩
def lw_privs_1 : List (MethodName × Nat) := [(⟨"UndoWorks", "allNodes", "()I"⟩, 6), (⟨"java/lang/Throwable", "fillInStackTrace", "(I)Ljava/lang/Throwable;"⟩, 6), (⟨"UndoWorks$Workflow", "latestPart", "()I"⟩, 9), (⟨"UndoWorks$Workflow", "openLoops", "()I"⟩, 9), (⟨"UndoWorks$Workflow", "openAt", "(I)V"⟩, 9), (⟨"UndoWorks$Workflow", "beginPartAt", "(I)V"⟩, 9), (⟨"UndoWorks$Workflow", "closeAt", "(I)V"⟩, 9), (⟨"UndoWorks", "doPart", "(LUndoWorks$Workflow;II)J"⟩, 6), (⟨"UndoWorks", "doNode", "(LUndoWorks$Workflow;II)J"⟩, 6), (⟨"UndoWorks", "canPay", "()Z"⟩, 6), (⟨"UndoWorks", "doTry", "(LUndoWorks$Workflow;II)J"⟩, 6), (⟨"UndoWorks", "doLoop", "(LUndoWorks$Workflow;II)J"⟩, 6), (⟨"UndoWorks", "doScope", "(LUndoWorks$Workflow;II)J"⟩, 6), (⟨"UndoWorks$UndoList", "undoAt", "(ILUndoWorks$Data;)V"⟩, 9), (⟨"UndoWorks", "doMute", "(LUndoWorks$Workflow;II)J"⟩, 6), (⟨"UndoWorks", "doIf", "(LUndoWorks$Workflow;II)J"⟩, 6)]
theorem lw_r1 : ∀ q ∈ lw_privs_1, lw_okq q := List.forall_mem_cons.mpr ⟨lw_p0, List.forall_mem_cons.mpr ⟨lw_p1, List.forall_mem_cons.mpr ⟨lw_p2, List.forall_mem_cons.mpr ⟨lw_p3, List.forall_mem_cons.mpr ⟨lw_p4, List.forall_mem_cons.mpr ⟨lw_p5, List.forall_mem_cons.mpr ⟨lw_p6, List.forall_mem_cons.mpr ⟨lw_p7, List.forall_mem_cons.mpr ⟨lw_p8, List.forall_mem_cons.mpr ⟨lw_p9, List.forall_mem_cons.mpr ⟨lw_p10, List.forall_mem_cons.mpr ⟨lw_p11, List.forall_mem_cons.mpr ⟨lw_p12, List.forall_mem_cons.mpr ⟨lw_p13, List.forall_mem_cons.mpr ⟨lw_p14, List.forall_mem_cons.mpr ⟨lw_p15, fun _ h => absurd h List.not_mem_nil⟩⟩⟩⟩⟩⟩⟩⟩⟩⟩⟩⟩⟩⟩⟩⟩
theorem lw_p16 : lw_okq (⟨"UndoWorks", "doCall", "(III)J"⟩, 6) := ⟨⟨by decide +kernel, by decide +kernel⟩, List.mem_of_getElem? (i := 14) (by decide +kernel), List.mem_of_getElem? (i := 392) (by decide +kernel), List.mem_of_getElem? (i := 393) (by decide +kernel)⟩
theorem lw_p17 : lw_okq (⟨"UndoWorks", "doStep", "(III)J"⟩, 6) := ⟨⟨by decide +kernel, by decide +kernel⟩, List.mem_of_getElem? (i := 14) (by decide +kernel), List.mem_of_getElem? (i := 399) (by decide +kernel), List.mem_of_getElem? (i := 400) (by decide +kernel)⟩
theorem lw_p18 : lw_okq (⟨"UndoWorks", "doNote", "(I)J"⟩, 6) := ⟨⟨by decide +kernel, by decide +kernel⟩, List.mem_of_getElem? (i := 14) (by decide +kernel), List.mem_of_getElem? (i := 403) (by decide +kernel), List.mem_of_getElem? (i := 404) (by decide +kernel)⟩
theorem lw_p19 : lw_okq (⟨"UndoWorks", "doAdd", "(II)J"⟩, 6) := ⟨⟨by decide +kernel, by decide +kernel⟩, List.mem_of_getElem? (i := 14) (by decide +kernel), List.mem_of_getElem? (i := 411) (by decide +kernel), List.mem_of_getElem? (i := 412) (by decide +kernel)⟩
theorem lw_p20 : lw_okq (⟨"UndoWorks$UndoList", "hasRoom", "()Z"⟩, 9) := ⟨⟨by decide +kernel, by decide +kernel⟩, List.mem_of_getElem? (i := 104) (by decide +kernel), List.mem_of_getElem? (i := 419) (by decide +kernel), List.mem_of_getElem? (i := 420) (by decide +kernel)⟩
theorem lw_p21 : lw_okq (⟨"UndoWorks", "doSet", "(II)J"⟩, 6) := ⟨⟨by decide +kernel, by decide +kernel⟩, List.mem_of_getElem? (i := 14) (by decide +kernel), List.mem_of_getElem? (i := 423) (by decide +kernel), List.mem_of_getElem? (i := 424) (by decide +kernel)⟩
theorem lw_p22 : lw_okq (⟨"UndoWorks", "doDivide", "(II)J"⟩, 6) := ⟨⟨by decide +kernel, by decide +kernel⟩, List.mem_of_getElem? (i := 14) (by decide +kernel), List.mem_of_getElem? (i := 427) (by decide +kernel), List.mem_of_getElem? (i := 428) (by decide +kernel)⟩
theorem lw_p23 : lw_okq (⟨"UndoWorks", "doRead", "(II)J"⟩, 6) := ⟨⟨by decide +kernel, by decide +kernel⟩, List.mem_of_getElem? (i := 14) (by decide +kernel), List.mem_of_getElem? (i := 431) (by decide +kernel), List.mem_of_getElem? (i := 432) (by decide +kernel)⟩
theorem lw_p24 : lw_okq (⟨"UndoWorks", "doWrite", "(II)J"⟩, 6) := ⟨⟨by decide +kernel, by decide +kernel⟩, List.mem_of_getElem? (i := 14) (by decide +kernel), List.mem_of_getElem? (i := 436) (by decide +kernel), List.mem_of_getElem? (i := 437) (by decide +kernel)⟩
theorem lw_p25 : lw_okq (⟨"UndoWorks", "doMake", "(I)J"⟩, 6) := ⟨⟨by decide +kernel, by decide +kernel⟩, List.mem_of_getElem? (i := 14) (by decide +kernel), List.mem_of_getElem? (i := 440) (by decide +kernel), List.mem_of_getElem? (i := 441) (by decide +kernel)⟩
theorem lw_p26 : lw_okq (⟨"UndoWorks", "doHold", "(II)J"⟩, 6) := ⟨⟨by decide +kernel, by decide +kernel⟩, List.mem_of_getElem? (i := 14) (by decide +kernel), List.mem_of_getElem? (i := 453) (by decide +kernel), List.mem_of_getElem? (i := 454) (by decide +kernel)⟩
theorem lw_p27 : lw_okq (⟨"UndoWorks", "doUse", "(I)J"⟩, 6) := ⟨⟨by decide +kernel, by decide +kernel⟩, List.mem_of_getElem? (i := 14) (by decide +kernel), List.mem_of_getElem? (i := 461) (by decide +kernel), List.mem_of_getElem? (i := 462) (by decide +kernel)⟩
theorem lw_p28 : lw_okq (⟨"UndoWorks", "doKeep", "()J"⟩, 6) := ⟨⟨by decide +kernel, by decide +kernel⟩, List.mem_of_getElem? (i := 14) (by decide +kernel), List.mem_of_getElem? (i := 465) (by decide +kernel), List.mem_of_getElem? (i := 466) (by decide +kernel)⟩
theorem lw_p29 : lw_okq (⟨"UndoWorksModel", "no", "(I)I"⟩, 43) := ⟨⟨by decide +kernel, by decide +kernel⟩, List.mem_of_getElem? (i := 500) (by decide +kernel), List.mem_of_getElem? (i := 650) (by decide +kernel), List.mem_of_getElem? (i := 651) (by decide +kernel)⟩
theorem lw_p30 : lw_okq (⟨"UndoWorksModel", "look", "(I)V"⟩, 43) := ⟨⟨by decide +kernel, by decide +kernel⟩, List.mem_of_getElem? (i := 500) (by decide +kernel), List.mem_of_getElem? (i := 654) (by decide +kernel), List.mem_of_getElem? (i := 655) (by decide +kernel)⟩
theorem lw_p31 : lw_okq (⟨"UndoWorksModel", "stands", "(II)Z"⟩, 43) := ⟨⟨by decide +kernel, by decide +kernel⟩, List.mem_of_getElem? (i := 500) (by decide +kernel), List.mem_of_getElem? (i := 661) (by decide +kernel), List.mem_of_getElem? (i := 662) (by decide +kernel)⟩
def lw_privs_2 : List (MethodName × Nat) := [(⟨"UndoWorks", "doCall", "(III)J"⟩, 6), (⟨"UndoWorks", "doStep", "(III)J"⟩, 6), (⟨"UndoWorks", "doNote", "(I)J"⟩, 6), (⟨"UndoWorks", "doAdd", "(II)J"⟩, 6), (⟨"UndoWorks$UndoList", "hasRoom", "()Z"⟩, 9), (⟨"UndoWorks", "doSet", "(II)J"⟩, 6), (⟨"UndoWorks", "doDivide", "(II)J"⟩, 6), (⟨"UndoWorks", "doRead", "(II)J"⟩, 6), (⟨"UndoWorks", "doWrite", "(II)J"⟩, 6), (⟨"UndoWorks", "doMake", "(I)J"⟩, 6), (⟨"UndoWorks", "doHold", "(II)J"⟩, 6), (⟨"UndoWorks", "doUse", "(I)J"⟩, 6), (⟨"UndoWorks", "doKeep", "()J"⟩, 6), (⟨"UndoWorksModel", "no", "(I)I"⟩, 43), (⟨"UndoWorksModel", "look", "(I)V"⟩, 43), (⟨"UndoWorksModel", "stands", "(II)Z"⟩, 43)]
theorem lw_r2 : ∀ q ∈ lw_privs_2, lw_okq q := List.forall_mem_cons.mpr ⟨lw_p16, List.forall_mem_cons.mpr ⟨lw_p17, List.forall_mem_cons.mpr ⟨lw_p18, List.forall_mem_cons.mpr ⟨lw_p19, List.forall_mem_cons.mpr ⟨lw_p20, List.forall_mem_cons.mpr ⟨lw_p21, List.forall_mem_cons.mpr ⟨lw_p22, List.forall_mem_cons.mpr ⟨lw_p23, List.forall_mem_cons.mpr ⟨lw_p24, List.forall_mem_cons.mpr ⟨lw_p25, List.forall_mem_cons.mpr ⟨lw_p26, List.forall_mem_cons.mpr ⟨lw_p27, List.forall_mem_cons.mpr ⟨lw_p28, List.forall_mem_cons.mpr ⟨lw_p29, List.forall_mem_cons.mpr ⟨lw_p30, List.forall_mem_cons.mpr ⟨lw_p31, fun _ h => absurd h List.not_mem_nil⟩⟩⟩⟩⟩⟩⟩⟩⟩⟩⟩⟩⟩⟩⟩⟩
theorem lw_p32 : lw_okq (⟨"UndoWorksModel", "unended", "(I)I"⟩, 43) := ⟨⟨by decide +kernel, by decide +kernel⟩, List.mem_of_getElem? (i := 500) (by decide +kernel), List.mem_of_getElem? (i := 673) (by decide +kernel), List.mem_of_getElem? (i := 674) (by decide +kernel)⟩
theorem lw_p33 : lw_okq (⟨"UndoWorksModel", "settle", "()V"⟩, 43) := ⟨⟨by decide +kernel, by decide +kernel⟩, List.mem_of_getElem? (i := 500) (by decide +kernel), List.mem_of_getElem? (i := 677) (by decide +kernel), List.mem_of_getElem? (i := 678) (by decide +kernel)⟩
theorem lw_p34 : lw_okq (⟨"UndoWorksModel", "push", "(III)V"⟩, 43) := ⟨⟨by decide +kernel, by decide +kernel⟩, List.mem_of_getElem? (i := 500) (by decide +kernel), List.mem_of_getElem? (i := 681) (by decide +kernel), List.mem_of_getElem? (i := 682) (by decide +kernel)⟩
theorem lw_p35 : lw_okq (⟨"UndoWorksModel", "atEnd", "()Z"⟩, 43) := ⟨⟨by decide +kernel, by decide +kernel⟩, List.mem_of_getElem? (i := 500) (by decide +kernel), List.mem_of_getElem? (i := 685) (by decide +kernel), List.mem_of_getElem? (i := 686) (by decide +kernel)⟩
theorem lw_p36 : lw_okq (⟨"UndoWorksModel", "ended", "()V"⟩, 43) := ⟨⟨by decide +kernel, by decide +kernel⟩, List.mem_of_getElem? (i := 500) (by decide +kernel), List.mem_of_getElem? (i := 689) (by decide +kernel), List.mem_of_getElem? (i := 690) (by decide +kernel)⟩
theorem lw_p37 : lw_okq (⟨"UndoWorksModel", "back", "(I)V"⟩, 43) := ⟨⟨by decide +kernel, by decide +kernel⟩, List.mem_of_getElem? (i := 500) (by decide +kernel), List.mem_of_getElem? (i := 693) (by decide +kernel), List.mem_of_getElem? (i := 694) (by decide +kernel)⟩
theorem lw_p38 : lw_okq (⟨"UndoWorksModel", "tried", "(I)V"⟩, 43) := ⟨⟨by decide +kernel, by decide +kernel⟩, List.mem_of_getElem? (i := 500) (by decide +kernel), List.mem_of_getElem? (i := 697) (by decide +kernel), List.mem_of_getElem? (i := 698) (by decide +kernel)⟩
theorem lw_p39 : lw_okq (⟨"UndoWorksModel", "leave", "()V"⟩, 43) := ⟨⟨by decide +kernel, by decide +kernel⟩, List.mem_of_getElem? (i := 500) (by decide +kernel), List.mem_of_getElem? (i := 701) (by decide +kernel), List.mem_of_getElem? (i := 702) (by decide +kernel)⟩
theorem lw_p40 : lw_okq (⟨"UndoWorksModel", "partOf", "(II)I"⟩, 43) := ⟨⟨by decide +kernel, by decide +kernel⟩, List.mem_of_getElem? (i := 500) (by decide +kernel), List.mem_of_getElem? (i := 705) (by decide +kernel), List.mem_of_getElem? (i := 706) (by decide +kernel)⟩
theorem lw_p41 : lw_okq (⟨"UndoWorksModel", "after", "(I)I"⟩, 43) := ⟨⟨by decide +kernel, by decide +kernel⟩, List.mem_of_getElem? (i := 500) (by decide +kernel), List.mem_of_getElem? (i := 709) (by decide +kernel), List.mem_of_getElem? (i := 710) (by decide +kernel)⟩
theorem lw_p42 : lw_okq (⟨"UndoWorksModel", "looped", "()V"⟩, 43) := ⟨⟨by decide +kernel, by decide +kernel⟩, List.mem_of_getElem? (i := 500) (by decide +kernel), List.mem_of_getElem? (i := 713) (by decide +kernel), List.mem_of_getElem? (i := 714) (by decide +kernel)⟩
theorem lw_p43 : lw_okq (⟨"UndoWorksModel", "round", "()V"⟩, 43) := ⟨⟨by decide +kernel, by decide +kernel⟩, List.mem_of_getElem? (i := 500) (by decide +kernel), List.mem_of_getElem? (i := 717) (by decide +kernel), List.mem_of_getElem? (i := 718) (by decide +kernel)⟩
theorem lw_p44 : lw_okq (⟨"UndoWorksModel", "pays", "()Z"⟩, 43) := ⟨⟨by decide +kernel, by decide +kernel⟩, List.mem_of_getElem? (i := 500) (by decide +kernel), List.mem_of_getElem? (i := 721) (by decide +kernel), List.mem_of_getElem? (i := 722) (by decide +kernel)⟩
theorem lw_p45 : lw_okq (⟨"UndoWorksModel", "undoOne", "()V"⟩, 43) := ⟨⟨by decide +kernel, by decide +kernel⟩, List.mem_of_getElem? (i := 500) (by decide +kernel), List.mem_of_getElem? (i := 725) (by decide +kernel), List.mem_of_getElem? (i := 726) (by decide +kernel)⟩
theorem lw_p46 : lw_okq (⟨"UndoWorksModel", "step", "()V"⟩, 43) := ⟨⟨by decide +kernel, by decide +kernel⟩, List.mem_of_getElem? (i := 500) (by decide +kernel), List.mem_of_getElem? (i := 729) (by decide +kernel), List.mem_of_getElem? (i := 730) (by decide +kernel)⟩
theorem lw_p47 : lw_okq (⟨"UndoWorksModel", "begin", "(I)V"⟩, 43) := ⟨⟨by decide +kernel, by decide +kernel⟩, List.mem_of_getElem? (i := 500) (by decide +kernel), List.mem_of_getElem? (i := 733) (by decide +kernel), List.mem_of_getElem? (i := 734) (by decide +kernel)⟩
def lw_privs_3 : List (MethodName × Nat) := [(⟨"UndoWorksModel", "unended", "(I)I"⟩, 43), (⟨"UndoWorksModel", "settle", "()V"⟩, 43), (⟨"UndoWorksModel", "push", "(III)V"⟩, 43), (⟨"UndoWorksModel", "atEnd", "()Z"⟩, 43), (⟨"UndoWorksModel", "ended", "()V"⟩, 43), (⟨"UndoWorksModel", "back", "(I)V"⟩, 43), (⟨"UndoWorksModel", "tried", "(I)V"⟩, 43), (⟨"UndoWorksModel", "leave", "()V"⟩, 43), (⟨"UndoWorksModel", "partOf", "(II)I"⟩, 43), (⟨"UndoWorksModel", "after", "(I)I"⟩, 43), (⟨"UndoWorksModel", "looped", "()V"⟩, 43), (⟨"UndoWorksModel", "round", "()V"⟩, 43), (⟨"UndoWorksModel", "pays", "()Z"⟩, 43), (⟨"UndoWorksModel", "undoOne", "()V"⟩, 43), (⟨"UndoWorksModel", "step", "()V"⟩, 43), (⟨"UndoWorksModel", "begin", "(I)V"⟩, 43)]
theorem lw_r3 : ∀ q ∈ lw_privs_3, lw_okq q := List.forall_mem_cons.mpr ⟨lw_p32, List.forall_mem_cons.mpr ⟨lw_p33, List.forall_mem_cons.mpr ⟨lw_p34, List.forall_mem_cons.mpr ⟨lw_p35, List.forall_mem_cons.mpr ⟨lw_p36, List.forall_mem_cons.mpr ⟨lw_p37, List.forall_mem_cons.mpr ⟨lw_p38, List.forall_mem_cons.mpr ⟨lw_p39, List.forall_mem_cons.mpr ⟨lw_p40, List.forall_mem_cons.mpr ⟨lw_p41, List.forall_mem_cons.mpr ⟨lw_p42, List.forall_mem_cons.mpr ⟨lw_p43, List.forall_mem_cons.mpr ⟨lw_p44, List.forall_mem_cons.mpr ⟨lw_p45, List.forall_mem_cons.mpr ⟨lw_p46, List.forall_mem_cons.mpr ⟨lw_p47, fun _ h => absurd h List.not_mem_nil⟩⟩⟩⟩⟩⟩⟩⟩⟩⟩⟩⟩⟩⟩⟩⟩
theorem lw_p48 : lw_okq (⟨"UndoWorksModel", "endOf", "(I)I"⟩, 43) := ⟨⟨by decide +kernel, by decide +kernel⟩, List.mem_of_getElem? (i := 500) (by decide +kernel), List.mem_of_getElem? (i := 737) (by decide +kernel), List.mem_of_getElem? (i := 738) (by decide +kernel)⟩
theorem lw_p49 : lw_okq (⟨"UndoWorksModel", "call", "(I)V"⟩, 43) := ⟨⟨by decide +kernel, by decide +kernel⟩, List.mem_of_getElem? (i := 500) (by decide +kernel), List.mem_of_getElem? (i := 741) (by decide +kernel), List.mem_of_getElem? (i := 742) (by decide +kernel)⟩
theorem lw_p50 : lw_okq (⟨"UndoWorksModel", "fails", "(I)I"⟩, 43) := ⟨⟨by decide +kernel, by decide +kernel⟩, List.mem_of_getElem? (i := 500) (by decide +kernel), List.mem_of_getElem? (i := 745) (by decide +kernel), List.mem_of_getElem? (i := 746) (by decide +kernel)⟩
theorem lw_p51 : lw_okq (⟨"UndoWorksModel", "plain", "(III)I"⟩, 43) := ⟨⟨by decide +kernel, by decide +kernel⟩, List.mem_of_getElem? (i := 500) (by decide +kernel), List.mem_of_getElem? (i := 749) (by decide +kernel), List.mem_of_getElem? (i := 750) (by decide +kernel)⟩
theorem lw_p52 : lw_okq (⟨"UndoWorksModel", "note", "(I)V"⟩, 43) := ⟨⟨by decide +kernel, by decide +kernel⟩, List.mem_of_getElem? (i := 500) (by decide +kernel), List.mem_of_getElem? (i := 753) (by decide +kernel), List.mem_of_getElem? (i := 754) (by decide +kernel)⟩
theorem lw_p53 : lw_okq (⟨"UndoWorksModel", "remember", "(III)V"⟩, 43) := ⟨⟨by decide +kernel, by decide +kernel⟩, List.mem_of_getElem? (i := 500) (by decide +kernel), List.mem_of_getElem? (i := 757) (by decide +kernel), List.mem_of_getElem? (i := 758) (by decide +kernel)⟩
theorem lw_p54 : lw_okq (⟨"UndoWorksModel", "onRow", "(III)I"⟩, 43) := ⟨⟨by decide +kernel, by decide +kernel⟩, List.mem_of_getElem? (i := 500) (by decide +kernel), List.mem_of_getElem? (i := 761) (by decide +kernel), List.mem_of_getElem? (i := 762) (by decide +kernel)⟩
theorem lw_p55 : lw_okq (⟨"UndoWorksModel", "makes", "(I)I"⟩, 43) := ⟨⟨by decide +kernel, by decide +kernel⟩, List.mem_of_getElem? (i := 500) (by decide +kernel), List.mem_of_getElem? (i := 765) (by decide +kernel), List.mem_of_getElem? (i := 766) (by decide +kernel)⟩
theorem lw_p56 : lw_okq (⟨"UndoWorksModel", "box", "(I)I"⟩, 43) := ⟨⟨by decide +kernel, by decide +kernel⟩, List.mem_of_getElem? (i := 500) (by decide +kernel), List.mem_of_getElem? (i := 769) (by decide +kernel), List.mem_of_getElem? (i := 770) (by decide +kernel)⟩
theorem lw_p57 : lw_okq (⟨"UndoWorksModel", "uses", "(I)I"⟩, 43) := ⟨⟨by decide +kernel, by decide +kernel⟩, List.mem_of_getElem? (i := 500) (by decide +kernel), List.mem_of_getElem? (i := 773) (by decide +kernel), List.mem_of_getElem? (i := 774) (by decide +kernel)⟩
def lw_privs_4 : List (MethodName × Nat) := [(⟨"UndoWorksModel", "endOf", "(I)I"⟩, 43), (⟨"UndoWorksModel", "call", "(I)V"⟩, 43), (⟨"UndoWorksModel", "fails", "(I)I"⟩, 43), (⟨"UndoWorksModel", "plain", "(III)I"⟩, 43), (⟨"UndoWorksModel", "note", "(I)V"⟩, 43), (⟨"UndoWorksModel", "remember", "(III)V"⟩, 43), (⟨"UndoWorksModel", "onRow", "(III)I"⟩, 43), (⟨"UndoWorksModel", "makes", "(I)I"⟩, 43), (⟨"UndoWorksModel", "box", "(I)I"⟩, 43), (⟨"UndoWorksModel", "uses", "(I)I"⟩, 43)]
theorem lw_r4 : ∀ q ∈ lw_privs_4, lw_okq q := List.forall_mem_cons.mpr ⟨lw_p48, List.forall_mem_cons.mpr ⟨lw_p49, List.forall_mem_cons.mpr ⟨lw_p50, List.forall_mem_cons.mpr ⟨lw_p51, List.forall_mem_cons.mpr ⟨lw_p52, List.forall_mem_cons.mpr ⟨lw_p53, List.forall_mem_cons.mpr ⟨lw_p54, List.forall_mem_cons.mpr ⟨lw_p55, List.forall_mem_cons.mpr ⟨lw_p56, List.forall_mem_cons.mpr ⟨lw_p57, fun _ h => absurd h List.not_mem_nil⟩⟩⟩⟩⟩⟩⟩⟩⟩⟩
def lw_privs : List (MethodName × Nat) := lw_privs_1 ++ (lw_privs_2 ++ (lw_privs_3 ++ (lw_privs_4)))
def lw_tbl : List Cond := k2_sels lw_privs ++ tables_1
theorem lw_privs_ok : ∀ q ∈ lw_privs, lw_okq q := by
  show ∀ q ∈ lw_privs_1 ++ (lw_privs_2 ++ (lw_privs_3 ++ (lw_privs_4))), lw_okq q
  exact List.forall_mem_append.mpr ⟨lw_r1, List.forall_mem_append.mpr ⟨lw_r2, List.forall_mem_append.mpr ⟨lw_r3, lw_r4⟩⟩⟩
-- ===== end of PART A; then your names; then what follows =====
end
section
/-! ===== BEGIN words of one list among another's, by their places ===== -/
theorem goodIn_r {big : List Cond} (ws : List Cond) (ps : List Nat) (hp : ws = ps.filterMap (fun i => big[i]?)) (h : ws.all goodWord = true) : GoodIn big ws := by
  intro w hw
  have h1 := List.all_eq_true.mp h w hw
  rw [hp] at hw
  obtain ⟨i, -, hi⟩ := List.mem_filterMap.mp hw
  have hm : w ∈ big := by first | exact List.mem_of_getElem? hi | exact List.getElem?_mem hi
  exact ⟨hm, good_of_word h1⟩
theorem goodIn_app {big a b : List Cond} (ha : GoodIn big a) (hb : GoodIn big b) : GoodIn big (a ++ b) := fun w h => (List.mem_append.mp h).elim (ha w) (hb w)
theorem goodIn_ca {big a b : List Cond} {c : Cond} (ha : GoodIn big (c :: a)) (hb : GoodIn big b) : GoodIn big (c :: (a ++ b)) := fun w h => (List.mem_cons.mp h).elim (fun e => ha w (List.mem_cons.mpr (Or.inl e))) (fun h => (List.mem_append.mp h).elim (fun h => ha w (List.mem_cons.mpr (Or.inr h))) (hb w))
theorem goodIn_sub {big ws : List Cond} (hm : ∀ w ∈ ws, w ∈ big) (h : ws.all goodWord = true) : GoodIn big ws := fun w hw => ⟨hm w hw, good_of_word (List.all_eq_true.mp h w hw)⟩
/-! ===== END ===== -/

/-! ===== BEGIN exceptions that leave a method, and their catching by the caller (launches without stack traces) ===== -/
section VXA
/-! The laws vx_back, vx_callV, vx_callS, vx_callSW, vx_throw0, vx_throwS follow proofs of the library, with one case more: JvmDerived/Free/Laws.lean (Back.of_free), Shelf42/LK1.lean (callV, callS), Shelf/KitTraced.lean (throwNew0V, throwNewS). -/

/-- where a method has thrown q: the class by its name, the cell, what was written, the world -/
def vx_T (XC : String → State → State → Prop) (st : State) (q : Addr) (t : State) (mc ms : Nat) (free : Addr → Prop) : Prop :=
  ∃ (E : String) (ce : Cell) (L : List Loc), XC E st t ∧ t.heap[q]? = some ce ∧ ce.vm = .none ∧ st.vm.findClass E = some ce.cls ∧ st.WarmedH t.vm ∧ st.sameButNew ({ t with vm := st.vm } : State) L mc ms ∧ ∀ z ∈ L, free z.base
def vx_Q (Qc : Array Value → State → Outcome → State → Prop) (XC : String → State → State → Prop) (mc ms : Nat) (free : Addr → Prop) : Array Value → State → Outcome → State → Prop := fun a st o t =>
  (Qc a st o t ∧ ∃ L, FrameEnd st o t L mc ms ∧ ∀ q ∈ L, free q.base) ∨ ∃ q, o = .threw q ∧ vx_T XC st q t mc ms free
/-- a callee that returns or throws -/
def vx_Met (l : Launch) (y : MethodName) (ws : List Cond) (rm : Room) (Pc : Array Value → State → Prop) (Qc : Array Value → State → Outcome → State → Prop) (XC : String → State → State → Prop) (mc ms : Nat) (free : Addr → Prop) : Prop :=
  MetFree l y (headSpec ws rm) Pc (fun _ _ _ _ _ => True) (vx_Q Qc XC mc ms free)
def vx_Post (XC : String → State → State → Prop) (mc ms : Nat) (free : Addr → Prop) : Pt → Array Value → Addr → Pt → Prop := fun A a q B =>
  ∃ (g : JFrame) (mk : MethodId) (t : State) (L : List Loc) (E : String) (ce : Cell), B.U.heap = t.heap ∧ B.U.vm = t.vm ∧ XC E (A.U.calling g mk a) t ∧ t.heap[q]? = some ce ∧ ce.vm = .none ∧ A.U.vm.findClass E = some ce.cls ∧ B.locs = A.locs ++ L ∧ (∀ z ∈ L, free z.base) ∧ B.cells = A.cells + mc ∧ B.slots = A.slots + ms
def vx_Back (l : Launch) (R : Room) (p : Program) (e : Env) (below : List Frame) (s : State) (sargs : Array Value) (y : MethodName) (len W9 : Nat)
    (Pre : Pt → Array Value → Prop) (Post : Pt → Array Value → Option Value → Pt → Prop) (PostX : Pt → Array Value → Addr → Pt → Prop) : Prop :=
  ∀ (m : MethodId) (meth : Method) (c : Code) (A : Pt) (g : JFrame) (ig : Instr) (mk : MethodId) (a : Array Value),
    Stand p l e R s m sargs below meth c A.U A.locs A.cells A.slots → g.method = m → g.locals.size = c.maxLocals → decode c.code g.pc = .ok (ig, len) →
    2 * g.monitorRoom + (g.stack.map fun v => v.category).sum ≤ W9 → A.U.methodNamed? y = some mk → Pre A a →
    (∃ (v : Option Value) (B : Pt), Stand p l e R s m sargs below meth c B.U B.locs B.cells B.slots ∧ Post A a v B ∧
      Steps p.tables e below (doInvoke e (A.U.setTop g) [] mk a).1 (B.U.setTop { g with pc := g.pc + len, stack := v.toList ++ g.stack })) ∨
    (∃ (q : Addr) (B : Pt), Stand p l e R s m sargs below meth c B.U B.locs B.cells B.slots ∧ PostX A a q B ∧
      Steps p.tables e below (doInvoke e (A.U.setTop g) [] mk a).1 ((B.U.setTop g).pushFrame (.throwing q)))
section Payer
variable {l : Launch} {R : Room} {p : Program} {e : Env} {below : List Frame} {s : State} {sargs : Array Value} {y : MethodName} {len W9 : Nat}
theorem vx_back {ws : List Cond} {rm : Room} {Pc : Array Value → State → Prop} {Qc : Array Value → State → Outcome → State → Prop} {XC : String → State → State → Prop} {mc ms : Nat} {free : Addr → Prop} {bytes : ByteArray} {maxL : Nat} {ret : Option FieldType}
    (hM : vx_Met l y ws rm Pc Qc XC mc ms free) (hblind : FrameBlind Pc) (hrc : rm.cells = mc) (hrs : rm.slots = ms)
    (hframes : rm.frames + 1 ≤ R.frames) (hlocals : W9 + (maxL + 11) + rm.locals ≤ R.locals)
    (hws : ∀ w ∈ ws, ∀ a' U, s.WarmedH U.vm → w.before a' U = true) (hcode : Cond.code y bytes maxL ret ∈ ws) (hinit : ∀ a' U, s.WarmedH U.vm → (Cond.initialized y.cls).before a' U = true) :
    vx_Back l R p e below s sargs y len W9 (PreOf R mc ms Pc) (PostOf Qc mc ms free) (vx_Post XC mc ms free) := by
  intro m meth c A g ig mk a X hg hsize hdg hW hn hp
  have h1 : (headSpec ws rm).pre.before a A.U = true := atoms_intro fun w hw => hws w hw _ _ X.warmed
  have h2 : (Cond.code y bytes maxL ret).before a A.U = true := hws _ hcode _ _ X.warmed
  have h3 : (Cond.initialized y.cls).before a A.U = true := hinit _ _ X.warmed
  have h4 : A.cells + (headSpec ws rm).room.cells ≤ R.cells := by rw [show (headSpec ws rm).room.cells = mc from hrc]; exact hp.1
  have h5 : A.slots + (headSpec ws rm).room.slots ≤ R.slots := by rw [show (headSpec ws rm).room.slots = ms from hrs]; exact hp.2.1
  have hPc : Pc a (A.U.calling g mk a) := hblind _ _ _ _ hp.2.2
  obtain ⟨U, Ls, c0, s0⟩ := A
  dsimp only [Pt.U, Pt.locs, Pt.cells, Pt.slots] at h1 h2 h3 h4 h5 X hn hPc ⊢
  obtain ⟨methY, cY, hmY, hcY, -, hlY, -, -, -, -⟩ := Cond.code_spec hn h2
  obtain ⟨kY, hkY, -⟩ := className_of_methodNamed hn
  have hinitY : kY.init = .initialized := Cond.initialized_spec (findClass_of_methodNamed hn) hkY h3
  have h : At U g.method c below := by rw [hg]; exact X.here
  have hlocals9 : W9 + (maxL + 11) + (headSpec ws rm).room.locals ≤ R.locals := hlocals
  have happ : (headSpec ws rm).appliesLoose y e.platform (U.calling g mk a) = true :=
    Spec.appliesLoose_calling (g := g) h hdg hn hkY hinitY
      (X.room_calling (g := g) (R' := (headSpec ws rm).room) hsize hmY hcY hframes (by rw [hlY]; omega) h4 h5) h1
  obtain ⟨mid, hmid⟩ := h.above
  have hfr : (U.setTop g).frames = (.java g :: mid) ++ below := by rw [State.frames_setTop' g h.top, hmid]; rfl
  obtain ⟨o, s₂, hsteps, -, hend, hq⟩ := Steps.callFree hM p X.admits X.cas X.clock (acts := []) hfr happ hPc trivial
  have hq' : vx_Q Qc XC mc ms free a (U.calling g mk a) o s₂ := hq
  rw [State.frames_setTop' g h.top] at hend
  obtain ⟨g₀, hg0⟩ := Option.isSome_iff_exists.mp h.top
  obtain ⟨r, hr⟩ := State.topJava?_eq_some.mp hg0
  have hr' : (({ U with heap := s₂.heap, slotsUsed := s₂.slotsUsed } : State).setVm s₂.vm).frames = .java g₀ :: r := hr
  rcases hq' with ⟨hqc, L, hfe, hL⟩ | ⟨q, rfl, E, ce, L, hx, hce, hcv, hcl, hW₂, hsm, hL⟩
  · obtain ⟨⟨v, rfl⟩, hW₂, e2, q2, q3, q4, q5, q6⟩ := id hfe
    have e3 : s₂ = ({ (U.calling g mk a).setFrames s₂.frames with heap := s₂.heap, slotsUsed := s₂.slotsUsed } : State).setVm s₂.vm := by
      have : s₂ = ({ s₂ with vm := (U.calling g mk a).vm } : State).setVm s₂.vm := rfl
      rw [e2] at this
      exact this
    obtain ⟨c₂, i₂, len₂, hc₂, hd₂, hf₂⟩ := hend
    have hW' : U.WarmedH s₂.vm := hW₂
    have hcc : c₂ = c := by
      have h1 : s₂.code? g.method = U.code? g.method := by
        rw [State.code?_eq, State.code?_eq, hW'.alike.method?]
      exact Option.some.inj (hc₂.symm.trans (h1.trans h.code))
    subst hcc
    have hlen : len₂ = len := by rw [hdg] at hd₂; cases hd₂; rfl
    subst hlen
    have hs₂ : s₂ = (({ U with heap := s₂.heap, slotsUsed := s₂.slotsUsed } : State).setVm s₂.vm).setTop { g with pc := g.pc + len₂, stack := v.toList ++ g.stack } := by
      refine e3.trans ?_
      rw [hf₂, State.calling_eq h.top, State.setFrames_setFrames, State.setTop_of_frames _ hr', hr]
      rfl
    have hsame : U.sameButNew ({ U with heap := s₂.heap, slotsUsed := s₂.slotsUsed } : State) L mc ms := by
      refine ⟨?_, q2, q3, q4, q5, q6⟩
      obtain ⟨t, ht, -⟩ := State.frames_cons hr
      show ({ U with heap := s₂.heap, slotsUsed := s₂.slotsUsed } : State) = { U.setFrames U.frames with heap := s₂.heap, slotsUsed := s₂.slotsUsed }
      rw [State.setFrames_self ht]
    subst hg
    refine Or.inl ⟨v, ⟨(({ U with heap := s₂.heap, slotsUsed := s₂.slotsUsed } : State).setVm s₂.vm), Ls ++ L, c0 + mc, s0 + ms⟩,
      ⟨X.admits, X.cas, X.clock, X.frames, X.room, X.hears, X.method, X.code, (X.here.setHeapUsed s₂.heap s₂.slotsUsed).setVm hW'.alike, X.tail, State.WarmedH.trans X.warmed hW', X.limits, X.bytes, X.same.trans (hsame.setVm s.vm)⟩,
      ⟨g, mk, s₂, L, rfl, rfl, hqc, rfl, hL, rfl, rfl⟩, ?_⟩
    show Steps p.tables e below _ ((({ U with heap := s₂.heap, slotsUsed := s₂.slotsUsed } : State).setVm s₂.vm).setTop { g with pc := g.pc + len₂, stack := v.toList ++ g.stack })
    rw [← hs₂]
    exact hsteps
  · obtain ⟨e2, q2, q3, q4, q5, q6⟩ := id hsm
    have e3 : s₂ = ({ (U.calling g mk a).setFrames s₂.frames with heap := s₂.heap, slotsUsed := s₂.slotsUsed } : State).setVm s₂.vm := by
      have : s₂ = ({ s₂ with vm := (U.calling g mk a).vm } : State).setVm s₂.vm := rfl
      rw [e2] at this
      exact this
    have hf₂ : s₂.frames = .throwing q :: .java g :: U.frames.tail := hend
    have hW' : U.WarmedH s₂.vm := hW₂
    have hs₂ : s₂ = ((({ U with heap := s₂.heap, slotsUsed := s₂.slotsUsed } : State).setVm s₂.vm).setTop g).pushFrame (.throwing q) := by
      refine e3.trans ?_
      rw [hf₂, State.calling_eq h.top, State.setFrames_setFrames, State.pushFrame, State.frames_setTop _ hr', State.setTop_of_frames _ hr', State.setFrames_setFrames, hr]
      rfl
    have hsame : U.sameButNew ({ U with heap := s₂.heap, slotsUsed := s₂.slotsUsed } : State) L mc ms := by
      refine ⟨?_, q2, q3, q4, q5, q6⟩
      obtain ⟨t, ht, -⟩ := State.frames_cons hr
      show ({ U with heap := s₂.heap, slotsUsed := s₂.slotsUsed } : State) = { U.setFrames U.frames with heap := s₂.heap, slotsUsed := s₂.slotsUsed }
      rw [State.setFrames_self ht]
    subst hg
    refine Or.inr ⟨q, ⟨(({ U with heap := s₂.heap, slotsUsed := s₂.slotsUsed } : State).setVm s₂.vm), Ls ++ L, c0 + mc, s0 + ms⟩,
      ⟨X.admits, X.cas, X.clock, X.frames, X.room, X.hears, X.method, X.code, (X.here.setHeapUsed s₂.heap s₂.slotsUsed).setVm hW'.alike, X.tail, State.WarmedH.trans X.warmed hW', X.limits, X.bytes, X.same.trans (hsame.setVm s.vm)⟩,
      ⟨g, mk, s₂, L, E, ce, rfl, rfl, hx, hce, hcv, hcl, rfl, hL, rfl, rfl⟩, ?_⟩
    show Steps p.tables e below _ (((({ U with heap := s₂.heap, slotsUsed := s₂.slotsUsed } : State).setVm s₂.vm).setTop g).pushFrame (.throwing q))
    rw [← hs₂]
    exact hsteps
end Payer
section Calls
variable {p : Program} {l : Launch} {e : Env} {R : Room} {s : State} {m : MethodId} {args : Array Value} {below : List Frame} {meth : Method} {c : Code} {T : State} {locs : List Loc} {cells slots : Nat}
theorem vx_callV (X : Stand p l e R s m args below meth c T locs cells slots) (hexec : p.tables.exec = Jvm.exec) {own C : String} {index : Nat} {y : MethodName} {bytes : ByteArray} {maxL : Nat} {ret : Option FieldType}
    (hown : s.vm.findClass own = some m.cls) (hlink : (Cond.methodLink own index y).before args s = true) (hinst : (Cond.instanceMethod y).before args s = true) (hsel : (Cond.selects C y y).before args s = true)
    (hcode : (Cond.code y bytes maxL ret).before args s = true) (hy : y.cls ≠ "java/lang/invoke/MethodHandle" ∧ y.cls ≠ "java/lang/invoke/VarHandle")
    {W9 : Nat} {Pre : Pt → Array Value → Prop} {Post : Pt → Array Value → Option Value → Pt → Prop} {PostX : Pt → Array Value → Addr → Pt → Prop} (hK : vx_Back l R p e below s args y 3 W9 Pre Post PostX)
    {b : Addr} {cellB : Cell} (hcell : T.heap[b]? = some cellB) (hobj : cellB.vm.isStatics = false) (hcls : s.vm.findClass C = some cellB.cls)
    {g : JFrame} (hg : g.method = m) (hsize : g.locals.size = c.maxLocals) {argsL rest : List Value} (hlen : ∀ sig, parseMethodDescriptor y.desc = some sig → argsL.length = sig.parameters.length)
    (hstack : g.stack = argsL.reverse ++ .ref b :: rest) (hW : 2 * g.monitorRoom + (rest.map fun v => v.category).sum ≤ W9) (hdg : decode c.code g.pc = .ok (.invokevirtual index, 3))
    (hpre : ∀ vm₁, s.WarmedH vm₁ → Pre ⟨T.setVm vm₁, locs, cells, slots⟩ (Value.ref b :: argsL).toArray) :
    (∃ (v : Option Value) (vm₁ : Vm) (B : Pt), s.WarmedH vm₁ ∧ Stand p l e R s m args below meth c B.U B.locs B.cells B.slots ∧ Post ⟨T.setVm vm₁, locs, cells, slots⟩ (Value.ref b :: argsL).toArray v B ∧
      ∀ target, Steps p.tables e below (B.U.setTop { g with pc := g.pc + 3, stack := v.toList ++ rest }) target → Steps p.tables e below (T.setTop g) target) ∨
    (∃ (q : Addr) (vm₁ : Vm) (B : Pt), s.WarmedH vm₁ ∧ Stand p l e R s m args below meth c B.U B.locs B.cells B.slots ∧ PostX ⟨T.setVm vm₁, locs, cells, slots⟩ (Value.ref b :: argsL).toArray q B ∧
      Steps p.tables e below (T.setTop g) ((B.U.setTop { g with stack := rest }).pushFrame (.throwing q))) := by
  obtain ⟨mk, methM, hnamed, hmethM, hstM, habM⟩ := Cond.instanceMethod_spec hinst
  obtain ⟨methM', cM, hmethM', -, -, -, -, -, -, hsigM⟩ := Cond.code_spec hnamed hcode
  cases hmethM.symm.trans hmethM'
  obtain ⟨c2, r2, m2, q1, q2, q3, q4, kP, hkP, hkPi⟩ := Cond.selects_spec hsel
  cases hcls.symm.trans q1
  cases (State.methodFound?_of_named hnamed hy).symm.trans q2
  cases hnamed.symm.trans q3
  have hselP : selectMethod e.platform s.vm cellB.cls mk = .method mk := by rw [Launch.admits_selectMethod X.admits]; exact q4
  obtain ⟨vm₁, X₁, hstep₁⟩ := X.invokevirtual hexec hown hlink hnamed hmethM hstM hkP hkPi hy (a := b) (cell := cellB) hcell
    (fun z h => by rw [h] at hobj; cases hobj) hselP hmethM habM hkP hkPi (g := g) hg (argsL := argsL) (rest := rest) (hlen _ hsigM) hstack hdg
  rcases hK m meth c ⟨T.setVm vm₁, locs, cells, slots⟩ { g with stack := rest } (.invokevirtual index) mk (Value.ref b :: argsL).toArray X₁ hg hsize hdg hW (X₁.named hnamed) (hpre vm₁ X₁.warmed) with ⟨v, B, X', hpost, hsteps⟩ | ⟨q, B, X', hpost, hsteps⟩
  · exact Or.inl ⟨v, vm₁, B, X₁.warmed, X', hpost, fun target h => hstep₁ _ fun acts => by rw [doInvoke_state]; exact hsteps.trans h⟩
  · exact Or.inr ⟨q, vm₁, B, X₁.warmed, X', hpost, hstep₁ _ fun acts => by rw [doInvoke_state]; exact hsteps⟩
theorem vx_callS (X : Stand p l e R s m args below meth c T locs cells slots) (hexec : p.tables.exec = Jvm.exec) {own : String} {index : Nat} {y : MethodName} {bytes : ByteArray} {maxL : Nat} {ret : Option FieldType}
    (hown : s.vm.findClass own = some m.cls) (hlink : (Cond.methodLink own index y).before args s = true) (hstat : (Cond.static y).before args s = true) (hinit : (Cond.initialized y.cls).before args s = true)
    (hcode : (Cond.code y bytes maxL ret).before args s = true) (hy : y.cls ≠ "java/lang/invoke/MethodHandle" ∧ y.cls ≠ "java/lang/invoke/VarHandle")
    {W9 : Nat} {Pre : Pt → Array Value → Prop} {Post : Pt → Array Value → Option Value → Pt → Prop} {PostX : Pt → Array Value → Addr → Pt → Prop} (hK : vx_Back l R p e below s args y 3 W9 Pre Post PostX)
    {g : JFrame} (hg : g.method = m) (hsize : g.locals.size = c.maxLocals) {argsL rest : List Value} (hlen : ∀ sig, parseMethodDescriptor y.desc = some sig → argsL.length = sig.parameters.length)
    (hstack : g.stack = argsL.reverse ++ rest) (hW : 2 * g.monitorRoom + (rest.map fun v => v.category).sum ≤ W9) (hdg : decode c.code g.pc = .ok (.invokestatic index, 3))
    (hpre : ∀ vm₁, s.WarmedH vm₁ → Pre ⟨T.setVm vm₁, locs, cells, slots⟩ argsL.toArray) :
    (∃ (v : Option Value) (vm₁ : Vm) (B : Pt), s.WarmedH vm₁ ∧ Stand p l e R s m args below meth c B.U B.locs B.cells B.slots ∧ Post ⟨T.setVm vm₁, locs, cells, slots⟩ argsL.toArray v B ∧
      ∀ target, Steps p.tables e below (B.U.setTop { g with pc := g.pc + 3, stack := v.toList ++ rest }) target → Steps p.tables e below (T.setTop g) target) ∨
    (∃ (q : Addr) (vm₁ : Vm) (B : Pt), s.WarmedH vm₁ ∧ Stand p l e R s m args below meth c B.U B.locs B.cells B.slots ∧ PostX ⟨T.setVm vm₁, locs, cells, slots⟩ argsL.toArray q B ∧
      Steps p.tables e below (T.setTop g) ((B.U.setTop { g with stack := rest }).pushFrame (.throwing q))) := by
  obtain ⟨mk, hnamed⟩ := Cond.code_named hcode
  obtain ⟨methM, cM, hmethM, -, -, -, -, -, -, hsigM⟩ := Cond.code_spec hnamed hcode
  have hstatic : methM.isStatic = true := Cond.static_spec hnamed hmethM hstat
  obtain ⟨kP, hkP, -⟩ := className_of_methodNamed hnamed
  have hinitP : kP.init = .initialized := Cond.initialized_spec (findClass_of_methodNamed hnamed) hkP hinit
  obtain ⟨vm₁, X₁, hstep₁⟩ := X.invokestatic hexec hown hlink hnamed hmethM hstatic hkP hinitP hy (g := g) hg (argsL := argsL) (rest := rest) (hlen _ hsigM) hstack hdg
  rcases hK m meth c ⟨T.setVm vm₁, locs, cells, slots⟩ { g with stack := rest } (.invokestatic index) mk argsL.toArray X₁ hg hsize hdg hW (X₁.named hnamed) (hpre vm₁ X₁.warmed) with ⟨v, B, X', hpost, hsteps⟩ | ⟨q, B, X', hpost, hsteps⟩
  · exact Or.inl ⟨v, vm₁, B, X₁.warmed, X', hpost, fun target h => hstep₁ _ fun acts => by rw [doInvoke_state]; exact hsteps.trans h⟩
  · exact Or.inr ⟨q, vm₁, B, X₁.warmed, X', hpost, hstep₁ _ fun acts => by rw [doInvoke_state]; exact hsteps⟩
end Calls
theorem vx_cls {s : State} {T : State} {vm₁ : Vm} {E : String} {k : ClassId} (hW : s.WarmedH vm₁) (h : (T.setVm vm₁).vm.findClass E = some k) : s.vm.findClass E = some k := by
  have h1 : vm₁.findClass E = some k := h
  rw [hW.alike.findClass] at h1
  exact h1
/-- the method's frame g, with q thrown over it -/
def vx_W (p : Program) (l : Launch) (e : Env) (R : Room) (s : State) (m : MethodId) (args : Array Value) (below : List Frame) (meth : Method) (c : Code) (H : Heap) (locs : List Loc) (cells slots : Nat) (Q : State → Prop) (g : JFrame) (q : Addr) : Prop :=
  ∀ T : State, T.heap = H → Stand p l e R s m args below meth c T locs cells slots → ∃ t, Steps p.tables e below ((T.setTop g).pushFrame (.throwing q)) t ∧ Q t
def vx_Run (p : Program) (l : Launch) (e : Env) (R : Room) (s : State) (m : MethodId) (args : Array Value) (below : List Frame) (meth : Method) (c : Code) (H : Heap) (locs : List Loc) (cells slots mc ms : Nat) (g : JFrame) (rest : List Value) (Qa : State → Outcome → State → Prop) (XC : String → State → State → Prop) (free : Addr → Prop) : Prop :=
  ∀ T : State, T.heap = H → Stand p l e R s m args below meth c T locs cells slots →
    (∃ (v : Option Value) (st₀ t T' : State) (L : List Loc), st₀.heap = H ∧ Stand p l e R s m args below meth c T' (locs ++ L) (cells + mc) (slots + ms) ∧ (∀ q ∈ L, free q.base) ∧ T'.heap = t.heap ∧ T'.vm = t.vm ∧ Qa st₀ (.returned v) t ∧
      Goes p e below T g T' { g with pc := g.pc + 3, stack := v.toList ++ rest }) ∨
    (∃ (q : Addr) (st₀ t T' : State) (L : List Loc) (E : String) (ce : Cell), st₀.heap = H ∧ Stand p l e R s m args below meth c T' (locs ++ L) (cells + mc) (slots + ms) ∧ (∀ z ∈ L, free z.base) ∧ T'.heap = t.heap ∧ T'.vm = t.vm ∧ XC E st₀ t ∧ t.heap[q]? = some ce ∧ ce.vm = .none ∧ s.vm.findClass E = some ce.cls ∧
      Steps p.tables e below (T.setTop g) ((T'.setTop { g with stack := rest }).pushFrame (.throwing q)))
def vx_X {S : Type} (px : S → Prop) (B : String → S → State → Prop) (A : Nat → Prop) : String → State → State → Prop := fun E st t => ∃ u : S, px u ∧ B E u t ∧ va_F A st t
section Runs
variable {p : Program} {l : Launch} {e : Env} {R : Room} {s : State} {m : MethodId} {args : Array Value} {below : List Frame} {meth : Method} {c : Code} {H : Heap} {locs : List Loc} {cells slots : Nat}
variable {y : MethodName} {bytes cc : ByteArray} {maxL nL mc ms n index : Nat} {ret : Option FieldType} {ws : List Cond} {rm : Room} {Pc : Array Value → State → Prop} {Qc : Array Value → State → Outcome → State → Prop} {XC : String → State → State → Prop} {free : Addr → Prop} {Ts : List Cond} {own C : String} {b : Addr} {As rest : List Value} {g : JFrame}
theorem vx_callBack (cb : CallB R s args own index y bytes maxL ret ws rm mc ms n) (hM : vx_Met l y ws rm Pc Qc XC mc ms free) (hbl : FrameBlind Pc) : vx_Back l R p e below s args y 3 8 (PreOf R mc ms Pc) (PostOf Qc mc ms free) (vx_Post XC mc ms free) := by
  obtain ⟨hrc, hrs, hfr, hlo, hws, hcw, -, hini, -⟩ := cb
  exact vx_back (bytes := bytes) (maxL := maxL) (ret := ret) hM hbl hrc hrs hfr hlo hws hcw (fun a' U hW => word_at hW (Or.inl (by first | rfl | simp [Cond.onTables, Cond.keeps, Cond.steady])) hini)
theorem vx_runV (S : CallFix p m c cc nL s args Ts own) (hM : vx_Met l y ws rm Pc Qc XC mc ms free) (cw : CallW R s args own C index y bytes maxL ret ws rm mc ms n) (hp : PreV s H C b Pc As)
    (hg : g.method = m) (hn : As.length = n) (hsize : g.locals.size = nL) (hstack : g.stack = As.reverse ++ .ref b :: rest) (hW : 2 * g.monitorRoom + (rest.map fun v => v.category).sum ≤ 8) (hdg : decode cc g.pc = .ok (.invokevirtual index, 3)) (hf : cells + mc ≤ R.cells ∧ slots + ms ≤ R.slots) :
    vx_Run p l e R s m args below meth c H locs cells slots mc ms g rest (Qc (Value.ref b :: As).toArray) XC free := by
  have hK : vx_Back l R p e below s args y 3 8 (PreOf R mc ms Pc) (PostOf Qc mc ms free) (vx_Post XC mc ms free) := vx_callBack cw.1 hM hp.1
  obtain ⟨⟨-, -, -, -, -, -, hcode, -, hy, hlen, hl⟩, hin, hse⟩ := cw
  obtain ⟨hx, hb, hml, ho, -⟩ := S
  obtain ⟨-, ⟨cellB, hcB, hoB, hclB⟩, hPc⟩ := hp
  intro T hT X
  rcases vx_callV X hx (C := C) (bytes := bytes) (maxL := maxL) (ret := ret) ho hl hin hse hcode hy hK (by rw [hT]; exact hcB) hoB hclB hg (hsize.trans hml.symm) (argsL := As) (rest := rest) (fun sig h => hn.trans (hlen sig h)) hstack hW (by rw [hb]; exact hdg)
    (fun vm₁ hW₁ => ⟨hf.1, hf.2, hPc (T.setVm vm₁) hT hW₁⟩) with ⟨v, vm₁, ⟨U', l2, c2, s2⟩, hW₁, X', ⟨g', mk, t, L, e1, e2, hq, h1, hL, h2, h3⟩, st⟩ | ⟨q, vm₁, ⟨U', l2, c2, s2⟩, hW₁, X', ⟨g', mk, t, L, E, ce, e1, e2, hq, hce, hcv, hcl, h1, hL, h2, h3⟩, st⟩
  · dsimp only [Pt.U, Pt.locs, Pt.cells, Pt.slots] at X' e1 e2 h1 h2 h3 st
    subst h1; subst h2; subst h3
    exact Or.inl ⟨v, (T.setVm vm₁).calling g' mk (Value.ref b :: As).toArray, t, U', L, hT, X', hL, e1, e2, hq, st⟩
  · dsimp only [Pt.U, Pt.locs, Pt.cells, Pt.slots] at X' e1 e2 h1 h2 h3 st hcl
    subst h1; subst h2; subst h3
    exact Or.inr ⟨q, (T.setVm vm₁).calling g' mk (Value.ref b :: As).toArray, t, U', L, E, ce, hT, X', hL, e1, e2, hq, hce, hcv, vx_cls hW₁ hcl, st⟩
theorem vx_runS (S : CallFix p m c cc nL s args Ts own) (hM : vx_Met l y ws rm Pc Qc XC mc ms free) (cw : CallB R s args own index y bytes maxL ret ws rm mc ms n ∧ (Cond.static y).before args s = true) (hp : PreS s H Pc As)
    (hg : g.method = m) (hn : As.length = n) (hsize : g.locals.size = nL) (hstack : g.stack = As.reverse ++ rest) (hW : 2 * g.monitorRoom + (rest.map fun v => v.category).sum ≤ 8) (hdg : decode cc g.pc = .ok (.invokestatic index, 3)) (hf : cells + mc ≤ R.cells ∧ slots + ms ≤ R.slots) :
    vx_Run p l e R s m args below meth c H locs cells slots mc ms g rest (Qc As.toArray) XC free := by
  have hK : vx_Back l R p e below s args y 3 8 (PreOf R mc ms Pc) (PostOf Qc mc ms free) (vx_Post XC mc ms free) := vx_callBack cw.1 hM hp.1
  obtain ⟨⟨-, -, -, -, -, -, hcode, hini, hy, hlen, hl⟩, hstt⟩ := cw
  obtain ⟨hx, hb, hml, ho, -⟩ := S
  intro T hT X
  rcases vx_callS X hx (bytes := bytes) (maxL := maxL) (ret := ret) ho hl hstt hini hcode hy hK hg (hsize.trans hml.symm) (argsL := As) (rest := rest) (fun sig h => hn.trans (hlen sig h)) hstack hW (by rw [hb]; exact hdg)
    (fun vm₁ hW₁ => ⟨hf.1, hf.2, hp.2 (T.setVm vm₁) hT hW₁⟩) with ⟨v, vm₁, ⟨U', l2, c2, s2⟩, hW₁, X', ⟨g', mk, t, L, e1, e2, hq, h1, hL, h2, h3⟩, st⟩ | ⟨q, vm₁, ⟨U', l2, c2, s2⟩, hW₁, X', ⟨g', mk, t, L, E, ce, e1, e2, hq, hce, hcv, hcl, h1, hL, h2, h3⟩, st⟩
  · dsimp only [Pt.U, Pt.locs, Pt.cells, Pt.slots] at X' e1 e2 h1 h2 h3 st
    subst h1; subst h2; subst h3
    exact Or.inl ⟨v, (T.setVm vm₁).calling g' mk As.toArray, t, U', L, hT, X', hL, e1, e2, hq, st⟩
  · dsimp only [Pt.U, Pt.locs, Pt.cells, Pt.slots] at X' e1 e2 h1 h2 h3 st hcl
    subst h1; subst h2; subst h3
    exact Or.inr ⟨q, (T.setVm vm₁).calling g' mk As.toArray, t, U', L, E, ce, hT, X', hL, e1, e2, hq, hce, hcv, vx_cls hW₁ hcl, st⟩
end Runs
section Rows
variable {p : Program} {l : Launch} {e : Env} {R : Room} {s : State} {m : MethodId} {args : Array Value} {below : List Frame} {meth : Method} {c : Code} {H : Heap} {locs : List Loc} {cells slots : Nat} {Q : State → Prop}
variable {mc ms : Nat} {free : Addr → Prop} {A0 A1 : Nat → Prop} {H0 : Heap} {a : Array Value} {pc : Nat} {ls : Array Slot} {st0 rest : List Value}
theorem vx_keep {st₀ t T' : State} {L : List Loc} (h0 : st₀.heap = H) (e1 : T'.heap = t.heap) (hS : va_S A0 H0 H locs) (hA : ∀ q, q < H.size → A1 q → A0 q) (hf : ∀ q, free q → A0 q) (hL : ∀ q ∈ L, free q.base) (hF : va_F A1 st₀ t) :
    H.size ≤ T'.heap.size ∧ (∀ q : Nat, q < H.size → ¬ A1 q → T'.heap[q]? = H[q]?) ∧ va_S A0 H0 T'.heap (locs ++ L) := by
  obtain ⟨hz, hk⟩ := hF
  rw [h0] at hz hk
  exact ⟨by rw [e1]; exact hz, fun q h1 h2 => by rw [e1]; exact hk q h1 h2,
    ⟨Nat.le_trans hS.1 (by rw [e1]; exact hz), fun q h1 h2 => by rw [e1, hk q (Nat.lt_of_lt_of_le h1 hS.1) (fun z => h2 (hA q (Nat.lt_of_lt_of_le h1 hS.1) z))]; exact hS.2.1 q h1 h2, fun q hq => by
      rcases List.mem_append.mp hq with h | h
      · exact hS.2.2 q h
      · exact hf _ (hL q h)⟩⟩
theorem vx_calli {S SX : Type} {post : Int32 → S → Prop} {px : SX → Prop} {B : S → State → Prop} {BX : String → SX → State → Prop} {AX : Nat → Prop} (hr : vx_Run p l e R s m args below meth c H locs cells slots mc ms (F0 m pc ls st0) rest (va_Qi post B A1 a) (vx_X px BX AX) free) (hS : va_S A0 H0 H locs) (hA : ∀ q, q < H.size → A1 q → A0 q) (hf : ∀ q, free q → A0 q) (hAX : ∀ q, q < H.size → AX q → A0 q)
    (kx : ∀ (E : String) (ce : Cell) (q9 : Addr) (u : SX) (t : State) (H1 : Heap) (locs1 : List Loc), t.heap = H1 → s.vm.Alike t.vm → px u → BX E u t → H.size ≤ H1.size → (∀ q : Nat, q < H.size → ¬ AX q → H1[q]? = H[q]?) → va_S A0 H0 H1 locs1 → H1[q9]? = some ce → ce.vm = .none → s.vm.findClass E = some ce.cls → vx_W p l e R s m args below meth c H1 locs1 (cells + mc) (slots + ms) Q (F0 m pc ls rest) q9)
    (kk : ∀ (r : Int32) (u : S) (t : State) (H1 : Heap) (locs1 : List Loc), t.heap = H1 → s.vm.Alike t.vm → post r u → B u t → H.size ≤ H1.size → (∀ q : Nat, q < H.size → ¬ A1 q → H1[q]? = H[q]?) → va_S A0 H0 H1 locs1 → W p l e R s m args below meth c H1 locs1 (cells + mc) (slots + ms) Q (F0 m (pc + 3) ls (.int r :: rest))) : W p l e R s m args below meth c H locs cells slots Q (F0 m pc ls st0) := by
  intro T hT X
  rcases hr T hT X with ⟨v, st₀, t, T', L, h0, X', hL, e1, e2, ⟨⟨r, u, hv, hp, hb⟩, hF⟩, st⟩ | ⟨q, st₀, t, T', L, E, ce, h0, X', hL, e1, e2, ⟨u, hp, hb, hF⟩, hce, hcv, hcl, st⟩
  · cases hv
    obtain ⟨k1, k2, k3⟩ := vx_keep h0 e1 hS hA hf hL hF
    obtain ⟨t2, a1, b1⟩ := kk r u t T'.heap (locs ++ L) e1.symm (by rw [← e2]; exact X'.warmed.alike) hp hb k1 k2 k3 T' rfl X'
    exact ⟨t2, st t2 a1, b1⟩
  · obtain ⟨k1, k2, k3⟩ := vx_keep h0 e1 hS hAX hf hL hF
    obtain ⟨t2, a1, b1⟩ := kx E ce q u t T'.heap (locs ++ L) e1.symm (by rw [← e2]; exact X'.warmed.alike) hp hb k1 k2 k3 (by rw [e1]; exact hce) hcv hcl T' rfl X'
    exact ⟨t2, st.trans a1, b1⟩
theorem vx_calll {S SX : Type} {post : Int64 → S → Prop} {px : SX → Prop} {B : S → State → Prop} {BX : String → SX → State → Prop} {AX : Nat → Prop} (hr : vx_Run p l e R s m args below meth c H locs cells slots mc ms (F0 m pc ls st0) rest (va_Ql post B A1 a) (vx_X px BX AX) free) (hS : va_S A0 H0 H locs) (hA : ∀ q, q < H.size → A1 q → A0 q) (hf : ∀ q, free q → A0 q) (hAX : ∀ q, q < H.size → AX q → A0 q)
    (kx : ∀ (E : String) (ce : Cell) (q9 : Addr) (u : SX) (t : State) (H1 : Heap) (locs1 : List Loc), t.heap = H1 → s.vm.Alike t.vm → px u → BX E u t → H.size ≤ H1.size → (∀ q : Nat, q < H.size → ¬ AX q → H1[q]? = H[q]?) → va_S A0 H0 H1 locs1 → H1[q9]? = some ce → ce.vm = .none → s.vm.findClass E = some ce.cls → vx_W p l e R s m args below meth c H1 locs1 (cells + mc) (slots + ms) Q (F0 m pc ls rest) q9)
    (kk : ∀ (r : Int64) (u : S) (t : State) (H1 : Heap) (locs1 : List Loc), t.heap = H1 → s.vm.Alike t.vm → post r u → B u t → H.size ≤ H1.size → (∀ q : Nat, q < H.size → ¬ A1 q → H1[q]? = H[q]?) → va_S A0 H0 H1 locs1 → W p l e R s m args below meth c H1 locs1 (cells + mc) (slots + ms) Q (F0 m (pc + 3) ls (.long r :: rest))) : W p l e R s m args below meth c H locs cells slots Q (F0 m pc ls st0) := by
  intro T hT X
  rcases hr T hT X with ⟨v, st₀, t, T', L, h0, X', hL, e1, e2, ⟨⟨r, u, hv, hp, hb⟩, hF⟩, st⟩ | ⟨q, st₀, t, T', L, E, ce, h0, X', hL, e1, e2, ⟨u, hp, hb, hF⟩, hce, hcv, hcl, st⟩
  · cases hv
    obtain ⟨k1, k2, k3⟩ := vx_keep h0 e1 hS hA hf hL hF
    obtain ⟨t2, a1, b1⟩ := kk r u t T'.heap (locs ++ L) e1.symm (by rw [← e2]; exact X'.warmed.alike) hp hb k1 k2 k3 T' rfl X'
    exact ⟨t2, st t2 a1, b1⟩
  · obtain ⟨k1, k2, k3⟩ := vx_keep h0 e1 hS hAX hf hL hF
    obtain ⟨t2, a1, b1⟩ := kx E ce q u t T'.heap (locs ++ L) e1.symm (by rw [← e2]; exact X'.warmed.alike) hp hb k1 k2 k3 (by rw [e1]; exact hce) hcv hcl T' rfl X'
    exact ⟨t2, st.trans a1, b1⟩
theorem vx_callf {S SX : Type} {post : UInt32 → S → Prop} {px : SX → Prop} {B : S → State → Prop} {BX : String → SX → State → Prop} {AX : Nat → Prop} (hr : vx_Run p l e R s m args below meth c H locs cells slots mc ms (F0 m pc ls st0) rest (va_Qf post B A1 a) (vx_X px BX AX) free) (hS : va_S A0 H0 H locs) (hA : ∀ q, q < H.size → A1 q → A0 q) (hf : ∀ q, free q → A0 q) (hAX : ∀ q, q < H.size → AX q → A0 q)
    (kx : ∀ (E : String) (ce : Cell) (q9 : Addr) (u : SX) (t : State) (H1 : Heap) (locs1 : List Loc), t.heap = H1 → s.vm.Alike t.vm → px u → BX E u t → H.size ≤ H1.size → (∀ q : Nat, q < H.size → ¬ AX q → H1[q]? = H[q]?) → va_S A0 H0 H1 locs1 → H1[q9]? = some ce → ce.vm = .none → s.vm.findClass E = some ce.cls → vx_W p l e R s m args below meth c H1 locs1 (cells + mc) (slots + ms) Q (F0 m pc ls rest) q9)
    (kk : ∀ (r : UInt32) (u : S) (t : State) (H1 : Heap) (locs1 : List Loc), t.heap = H1 → s.vm.Alike t.vm → post r u → B u t → H.size ≤ H1.size → (∀ q : Nat, q < H.size → ¬ A1 q → H1[q]? = H[q]?) → va_S A0 H0 H1 locs1 → W p l e R s m args below meth c H1 locs1 (cells + mc) (slots + ms) Q (F0 m (pc + 3) ls (.float r :: rest))) : W p l e R s m args below meth c H locs cells slots Q (F0 m pc ls st0) := by
  intro T hT X
  rcases hr T hT X with ⟨v, st₀, t, T', L, h0, X', hL, e1, e2, ⟨⟨r, u, hv, hp, hb⟩, hF⟩, st⟩ | ⟨q, st₀, t, T', L, E, ce, h0, X', hL, e1, e2, ⟨u, hp, hb, hF⟩, hce, hcv, hcl, st⟩
  · cases hv
    obtain ⟨k1, k2, k3⟩ := vx_keep h0 e1 hS hA hf hL hF
    obtain ⟨t2, a1, b1⟩ := kk r u t T'.heap (locs ++ L) e1.symm (by rw [← e2]; exact X'.warmed.alike) hp hb k1 k2 k3 T' rfl X'
    exact ⟨t2, st t2 a1, b1⟩
  · obtain ⟨k1, k2, k3⟩ := vx_keep h0 e1 hS hAX hf hL hF
    obtain ⟨t2, a1, b1⟩ := kx E ce q u t T'.heap (locs ++ L) e1.symm (by rw [← e2]; exact X'.warmed.alike) hp hb k1 k2 k3 (by rw [e1]; exact hce) hcv hcl T' rfl X'
    exact ⟨t2, st.trans a1, b1⟩
theorem vx_calld {S SX : Type} {post : UInt64 → S → Prop} {px : SX → Prop} {B : S → State → Prop} {BX : String → SX → State → Prop} {AX : Nat → Prop} (hr : vx_Run p l e R s m args below meth c H locs cells slots mc ms (F0 m pc ls st0) rest (va_Qd post B A1 a) (vx_X px BX AX) free) (hS : va_S A0 H0 H locs) (hA : ∀ q, q < H.size → A1 q → A0 q) (hf : ∀ q, free q → A0 q) (hAX : ∀ q, q < H.size → AX q → A0 q)
    (kx : ∀ (E : String) (ce : Cell) (q9 : Addr) (u : SX) (t : State) (H1 : Heap) (locs1 : List Loc), t.heap = H1 → s.vm.Alike t.vm → px u → BX E u t → H.size ≤ H1.size → (∀ q : Nat, q < H.size → ¬ AX q → H1[q]? = H[q]?) → va_S A0 H0 H1 locs1 → H1[q9]? = some ce → ce.vm = .none → s.vm.findClass E = some ce.cls → vx_W p l e R s m args below meth c H1 locs1 (cells + mc) (slots + ms) Q (F0 m pc ls rest) q9)
    (kk : ∀ (r : UInt64) (u : S) (t : State) (H1 : Heap) (locs1 : List Loc), t.heap = H1 → s.vm.Alike t.vm → post r u → B u t → H.size ≤ H1.size → (∀ q : Nat, q < H.size → ¬ A1 q → H1[q]? = H[q]?) → va_S A0 H0 H1 locs1 → W p l e R s m args below meth c H1 locs1 (cells + mc) (slots + ms) Q (F0 m (pc + 3) ls (.double r :: rest))) : W p l e R s m args below meth c H locs cells slots Q (F0 m pc ls st0) := by
  intro T hT X
  rcases hr T hT X with ⟨v, st₀, t, T', L, h0, X', hL, e1, e2, ⟨⟨r, u, hv, hp, hb⟩, hF⟩, st⟩ | ⟨q, st₀, t, T', L, E, ce, h0, X', hL, e1, e2, ⟨u, hp, hb, hF⟩, hce, hcv, hcl, st⟩
  · cases hv
    obtain ⟨k1, k2, k3⟩ := vx_keep h0 e1 hS hA hf hL hF
    obtain ⟨t2, a1, b1⟩ := kk r u t T'.heap (locs ++ L) e1.symm (by rw [← e2]; exact X'.warmed.alike) hp hb k1 k2 k3 T' rfl X'
    exact ⟨t2, st t2 a1, b1⟩
  · obtain ⟨k1, k2, k3⟩ := vx_keep h0 e1 hS hAX hf hL hF
    obtain ⟨t2, a1, b1⟩ := kx E ce q u t T'.heap (locs ++ L) e1.symm (by rw [← e2]; exact X'.warmed.alike) hp hb k1 k2 k3 (by rw [e1]; exact hce) hcv hcl T' rfl X'
    exact ⟨t2, st.trans a1, b1⟩
theorem vx_callv {S SX : Type} {post : S → Prop} {px : SX → Prop} {B : S → State → Prop} {BX : String → SX → State → Prop} {AX : Nat → Prop} (hr : vx_Run p l e R s m args below meth c H locs cells slots mc ms (F0 m pc ls st0) rest (va_Qv post B A1 a) (vx_X px BX AX) free) (hS : va_S A0 H0 H locs) (hA : ∀ q, q < H.size → A1 q → A0 q) (hf : ∀ q, free q → A0 q) (hAX : ∀ q, q < H.size → AX q → A0 q)
    (kx : ∀ (E : String) (ce : Cell) (q9 : Addr) (u : SX) (t : State) (H1 : Heap) (locs1 : List Loc), t.heap = H1 → s.vm.Alike t.vm → px u → BX E u t → H.size ≤ H1.size → (∀ q : Nat, q < H.size → ¬ AX q → H1[q]? = H[q]?) → va_S A0 H0 H1 locs1 → H1[q9]? = some ce → ce.vm = .none → s.vm.findClass E = some ce.cls → vx_W p l e R s m args below meth c H1 locs1 (cells + mc) (slots + ms) Q (F0 m pc ls rest) q9)
    (kk : ∀ (u : S) (t : State) (H1 : Heap) (locs1 : List Loc), t.heap = H1 → s.vm.Alike t.vm → post u → B u t → H.size ≤ H1.size → (∀ q : Nat, q < H.size → ¬ A1 q → H1[q]? = H[q]?) → va_S A0 H0 H1 locs1 → W p l e R s m args below meth c H1 locs1 (cells + mc) (slots + ms) Q (F0 m (pc + 3) ls (rest))) : W p l e R s m args below meth c H locs cells slots Q (F0 m pc ls st0) := by
  intro T hT X
  rcases hr T hT X with ⟨v, st₀, t, T', L, h0, X', hL, e1, e2, ⟨⟨u, hv, hp, hb⟩, hF⟩, st⟩ | ⟨q, st₀, t, T', L, E, ce, h0, X', hL, e1, e2, ⟨u, hp, hb, hF⟩, hce, hcv, hcl, st⟩
  · cases hv
    obtain ⟨k1, k2, k3⟩ := vx_keep h0 e1 hS hA hf hL hF
    obtain ⟨t2, a1, b1⟩ := kk u t T'.heap (locs ++ L) e1.symm (by rw [← e2]; exact X'.warmed.alike) hp hb k1 k2 k3 T' rfl X'
    exact ⟨t2, st t2 a1, b1⟩
  · obtain ⟨k1, k2, k3⟩ := vx_keep h0 e1 hS hAX hf hL hF
    obtain ⟨t2, a1, b1⟩ := kx E ce q u t T'.heap (locs ++ L) e1.symm (by rw [← e2]; exact X'.warmed.alike) hp hb k1 k2 k3 (by rw [e1]; exact hce) hcv hcl T' rfl X'
    exact ⟨t2, st.trans a1, b1⟩
end Rows
section Ends
variable {p : Program} {l : Launch} {e : Env} {R : Room} {s : State} {m : MethodId} {args : Array Value} {below : List Frame} {meth : Method} {c : Code} {H : Heap} {locs : List Loc} {cells slots : Nat} {Q : State → Prop}
variable {mc ms : Nat} {free : Addr → Prop} {A0 A1 : Nat → Prop} {H0 : Heap} {a : Array Value} {ls : Array Slot} {st0 rest : List Value}
variable {Qc : Array Value → State → Outcome → State → Prop} {XC : String → State → State → Prop}
/-- what a body that may throw owes at its end -/
def vx_MQ (below : List Frame) (Qc : Array Value → State → Outcome → State → Prop) (XC : String → State → State → Prop) (a : Array Value) (s : State) (mc ms : Nat) (free : Addr → Prop) : State → Prop := fun t =>
  ∃ o, t.status = .running ∧ Ended t below o ∧ vx_Q Qc XC mc ms free a s o t
theorem vx_ret {g : JFrame} {mc ms : Nat} (k : W p l e R s m args below meth c H locs cells slots (MQ below Qc args s mc ms free) g) : W p l e R s m args below meth c H locs cells slots (vx_MQ below Qc XC args s mc ms free) g := by
  intro T hT X
  obtain ⟨t, a1, o, b1, b2, b3, b4⟩ := k T hT X
  exact ⟨t, a1, o, b1, b2, Or.inl ⟨b3, b4⟩⟩
/-- not caught here: it goes on to the caller -/
theorem vx_widen {g : JFrame} {q : Addr} {k n : Nat} (h1 : cells ≤ k) (h2 : slots ≤ n) (kk : vx_W p l e R s m args below meth c H locs k n Q g q) : vx_W p l e R s m args below meth c H locs cells slots Q g q := fun T hT X => kk T hT (stand_widen X h1 h2)
theorem vx_out {pc : Nat} {E : String} {ce : Cell} {q : Addr} {mc ms : Nat} (hout : ∀ x ∈ c.exceptionTable.toList, covers x pc = false) (hlocks : meth.locks = false) (hcell : H[q]? = some ce) (hv : ce.vm = .none) (hcl : s.vm.findClass E = some ce.cls)
    (hx : ∀ t : State, t.heap = H → s.vm.Alike t.vm → XC E s t) (hf : ∀ z ∈ locs, free z.base) (hc : cells ≤ mc) (hs : slots ≤ ms) :
    vx_W p l e R s m args below meth c H locs cells slots (vx_MQ below Qc XC args s mc ms free) (F0 m pc ls rest) q := by
  intro T hT X
  obtain ⟨st1, hrun, hend, hW, hsm⟩ := X.leaveThrown q (g := F0 m pc ls rest) rfl rfl rfl hout hlocks
  have hcell9 : (T.setFrames (.throwing q :: below)).heap[q]? = some ce := by
    show T.heap[q]? = some ce
    rw [hT]; exact hcell
  exact ⟨_, st1, .threw q, hrun, hend, Or.inr ⟨q, rfl, E, ce, locs, hx _ hT hW.alike, hcell9, hv, hcl, hW, hsm.mono hc hs, hf⟩⟩
theorem vx_frame {U : State} {k n : Nat} (h : s.sameButNew ({ U with vm := s.vm } : State) locs k n) : s.heap.size ≤ U.heap.size ∧ ∀ q : Nat, q < s.heap.size → (∀ z ∈ locs, z.base ≠ q) → U.heap[q]? = s.heap[q]? := by
  obtain ⟨-, h2, -, -, -, h6⟩ := h
  refine ⟨h2, fun q hq hz => ?_⟩
  obtain ⟨c9, e1, e2, e3, e4⟩ := h6 q _ (Array.getElem?_eq_getElem hq)
  have hs : c9.slots = (s.heap[q]).slots := Array.ext_getElem? fun i => e4 i fun hm => hz _ hm rfl
  have h9 : c9 = s.heap[q] := by
    rw [hs] at e2
    exact e2
  have e5 : U.heap[q]? = some c9 := e1
  rw [e5, h9, Array.getElem?_eq_getElem hq]
/-- the words of a throw but the four that speak of the heap -/
def vx_no (w : Cond) : Bool := decide (w ≠ .isRef (.static Bundle.tN "UNASSIGNED_STACK" Bundle.steD)) && decide (w ≠ .isRef (.static Bundle.tN "SUPPRESSED_SENTINEL" Bundle.listD)) && decide (w ≠ .laysStatic Bundle.tN "UNASSIGNED_STACK" Bundle.steD) && decide (w ≠ .laysStatic Bundle.tN "SUPPRESSED_SENTINEL" Bundle.listD)
def vx_at0 (own : String) (ic : Nat) (X : String) (names : List String) : List Cond := (Bundle.ownAtoms0 own ic X names).filter vx_no
def vx_atS (own : String) (ic : Nat) (X : String) (names : List String) : List Cond := (Bundle.ownAtoms own ic X names).filter vx_no
/-- a word that the tables alone decide, or a good one -/
def vx_ot (w : Cond) : Bool := w.onTables || goodWord w
theorem vx_ot_at {args a' : Array Value} {s U : State} {w : Cond} (hW : s.WarmedH U.vm) (hvm : s.vm = U.vm) (hg : vx_ot w = true) (h : w.before args s = true) : w.before a' U = true := by
  simp only [vx_ot, Bool.or_eq_true] at hg
  rcases hg with hg | hg
  · exact va_tabs hg hvm h
  · exact word_at hW (good_of_word hg) h
/-- a list's words: the good ones out of the method's own list, the others by premises of their own -/
theorem vx_hat {args : Array Value} {s : State} {L B : List Cond} (h1 : ∀ w ∈ L.filter goodWord, w.before args s = true) (h2 : ∀ w ∈ L.filter (fun w => !goodWord w), w ∈ B) (h3 : ∀ w ∈ B, w.before args s = true) : ∀ w ∈ L, w.before args s = true := by
  intro w hw
  by_cases g : goodWord w = true
  · exact h1 w (List.mem_filter.mpr ⟨hw, g⟩)
  · refine h3 w (h2 w (List.mem_filter.mpr ⟨hw, ?_⟩))
    show (!goodWord w) = true
    cases hgw : goodWord w
    · rfl
    · exact absurd hgw g
theorem vx_c {args : Array Value} {s : State} {w : Cond} {B : List Cond} (h : w.before args s = true) (t : ∀ w ∈ B, w.before args s = true) : ∀ w' ∈ w :: B, w'.before args s = true := fun w' h' => (List.mem_cons.mp h').elim (fun e => by rw [e]; exact h) (t w')
theorem vx_n {args : Array Value} {s : State} : ∀ w ∈ ([] : List Cond), w.before args s = true := fun _ h => nomatch h
theorem vx_own {args : Array Value} {s : State} {L : List Cond} (h1 : ∀ w ∈ L.filter vx_no, w.before args s = true)
    (hU : (Cond.isRef (.static Bundle.tN "UNASSIGNED_STACK" Bundle.steD)).before args s = true) (hN : (Cond.isRef (.static Bundle.tN "SUPPRESSED_SENTINEL" Bundle.listD)).before args s = true)
    (lU : (Cond.laysStatic Bundle.tN "UNASSIGNED_STACK" Bundle.steD).before args s = true) (lN : (Cond.laysStatic Bundle.tN "SUPPRESSED_SENTINEL" Bundle.listD).before args s = true) : ∀ w ∈ L, w.before args s = true := by
  intro w hw
  by_cases e1 : w = .isRef (.static Bundle.tN "UNASSIGNED_STACK" Bundle.steD)
  · rw [e1]; exact hU
  · by_cases e2 : w = .isRef (.static Bundle.tN "SUPPRESSED_SENTINEL" Bundle.listD)
    · rw [e2]; exact hN
    · by_cases e3 : w = .laysStatic Bundle.tN "UNASSIGNED_STACK" Bundle.steD
      · rw [e3]; exact lU
      · by_cases e4 : w = .laysStatic Bundle.tN "SUPPRESSED_SENTINEL" Bundle.listD
        · rw [e4]; exact lN
        · exact h1 w (List.mem_filter.mpr ⟨hw, by unfold vx_no; rw [decide_eq_true e1, decide_eq_true e2, decide_eq_true e3, decide_eq_true e4]; rfl⟩)
/-- where a static field lies, its class's statics cell in H -/
def vx_L (C n d : String) (A : Nat → Prop) (U : State) (H : Heap) : Prop := ∃ (c : ClassId) (k : Class) (i : Nat) (f : Field) (a : Nat) (cell : Cell), U.vm.findClass C = some c ∧ U.fieldFound? C n d = some (c, k, i, f) ∧ f.isStatic = true ∧ k.statics = some a ∧ H[a]? = some cell ∧ cell.vm.isStatics = true ∧ cell.cls = c ∧ f.slot < cell.slots.size ∧ k.staticTypes[f.slot]? = some f.type ∧ ¬ A a
theorem vx_L.moved {C n d : String} {A : Nat → Prop} {u U : State} {H : Heap} (hvm : u.vm.Alike U.vm) (h : vx_L C n d A u H) : vx_L C n d A U H := by
  obtain ⟨c, k, i, f, a, cell, h1, h2, h3, h4, h5, h6, h7, h8, h9, h10⟩ := h
  obtain ⟨k', hi', he⟩ := State.fieldFound?_setVm hvm h2
  exact ⟨c, k', i, f, a, cell, by rw [hvm.findClass]; exact h1, hi', h3, by rw [he]; exact h4, h5, h6, h7, h8, by rw [he]; exact h9, h10⟩
theorem vx_L.kept {C n d : String} {A : Nat → Prop} {U : State} {H H1 : Heap} (h : vx_L C n d A U H) (hq : ∀ a : Nat, a < H.size → ¬ A a → H1[a]? = H[a]?) : vx_L C n d A U H1 := by
  obtain ⟨c, k, i, f, a, cell, h1, h2, h3, h4, h5, h6, h7, h8, h9, h10⟩ := h
  exact ⟨c, k, i, f, a, cell, h1, h2, h3, h4, by rw [hq a (Array.getElem?_eq_some_iff.mp h5).1 h10]; exact h5, h6, h7, h8, h9, h10⟩
theorem vx_L.narrow {C n d : String} {A B : Nat → Prop} {U : State} {H : Heap} (h : vx_L C n d A U H) (hAB : ∀ q, B q → A q) : vx_L C n d B U H := by
  obtain ⟨c, k, i, f, a, cell, h1, h2, h3, h4, h5, h6, h7, h8, h9, h10⟩ := h
  exact ⟨c, k, i, f, a, cell, h1, h2, h3, h4, h5, h6, h7, h8, h9, fun z => h10 (hAB _ z)⟩
theorem vx_L.word {C n d : String} {A : Nat → Prop} {s : State} {args : Array Value} (h : vx_L C n d A s s.heap) : (Cond.laysStatic C n d).before args s = true := by
  obtain ⟨c, k, i, f, a, cell, h1, h2, h3, h4, h5, h6, h7, h8, h9, -⟩ := h
  show (Cond.laysStatic C n d).holds args s none s [] = true
  exact Cond.laysStatic_of h1 h2 h3 h4 h5 h6 h7 h8 h9
/-- .. and what it holds: null or some reference -/
def vx_Zq (C n d : String) (A : Nat → Prop) (U : State) (H : Heap) : Prop := va_Zq C n d A U H ∧ vx_L C n d A U H
theorem vx_Zq.moved {C n d : String} {A : Nat → Prop} {u U : State} {H : Heap} (hvm : u.vm.Alike U.vm) (h : vx_Zq C n d A u H) : vx_Zq C n d A U H := ⟨va_Zq.moved hvm h.1, vx_L.moved hvm h.2⟩
theorem vx_Zq.kept {C n d : String} {A : Nat → Prop} {U : State} {H H1 : Heap} (h : vx_Zq C n d A U H) (hq : ∀ a : Nat, a < H.size → ¬ A a → H1[a]? = H[a]?) : vx_Zq C n d A U H1 := ⟨va_Zq.kept h.1 hq, vx_L.kept h.2 hq⟩
theorem vx_Zq.narrow {C n d : String} {A B : Nat → Prop} {U : State} {H : Heap} (h : vx_Zq C n d A U H) (hAB : ∀ q, B q → A q) : vx_Zq C n d B U H := ⟨va_Zq.narrow h.1 hAB, vx_L.narrow h.2 hAB⟩
theorem vx_Zqof {args : Array Value} {s : State} {C n d : String} {A : Nat → Prop} (hl : (Cond.laysStatic C n d).before args s = true) (hini : (Cond.initialized C).before args s = true) (h : (Cond.isRef (.static C n d)).before args s = true) (hA : ∀ a : Nat, a < s.heap.size → ¬ A a) : vx_Zq C n d A s s.heap := by
  refine ⟨va_Zqof hl hini h hA, ?_⟩
  obtain ⟨c, k, i, f, a, cell, h1, h2, h3, h4, h5, h6, h7, h8, h9⟩ := Cond.laysStatic_spec hl
  exact ⟨c, k, i, f, a, cell, h1, h2, h3, h4, h5, h6, h7, h8, h9, hA a (Array.getElem?_eq_some_iff.mp h5).1⟩
theorem vx_isRef {C n d : String} {v : Value} {A : Nat → Prop} {s : State} {args : Array Value} (h : va_Z C n d v A s s.heap) (hv : v.isRef = true) : (Cond.isRef (.static C n d)).before args s = true := by
  obtain ⟨cf, kf, fi, f, a, cell, h1, h2, h3, h4, h5, h6, h7, -⟩ := h
  have he : (Term.static C n d).eval args s none [] s = some v := by
    simp [Term.eval, State.fieldNamed?, h1, h2, h4, h5, h6, h7]
  simp only [Cond.before, Cond.holds, Cond.value, he]
  cases v <;> simp_all [Value.isRef]
theorem vx_isRefq {C n d : String} {A : Nat → Prop} {s : State} {args : Array Value} (h : va_Zq C n d A s s.heap) : (Cond.isRef (.static C n d)).before args s = true := by
  rcases h with h | ⟨t, h⟩
  · exact vx_isRef h rfl
  · exact vx_isRef h rfl
/-- the same frame, seen from here: as if the method were called anew in this heap -/
theorem vx_rebase {T : State} (X : Stand p l e R s m args below meth c T locs cells slots) {R' : Room} (hf : R'.frames ≤ R.frames) (hl : R'.locals ≤ R.locals) (hc : cells + R'.cells ≤ R.cells) (hs : slots + R'.slots ≤ R.slots) :
    Stand p l e R' ((T.setVm s.vm).setFrames (.invoking m args :: below)) m args below meth c T [] 0 0 := by
  have htop : (T.setVm s.vm).topJava?.isSome := X.here.top
  have hF : ((T.setVm s.vm).setFrames (.invoking m args :: below)).frames = .invoking m args :: below := State.frames_setFrames _ (State.cur_lt_of_top htop)
  obtain ⟨g₀, hg0⟩ := Option.isSome_iff_exists.mp htop
  obtain ⟨r, hr⟩ := State.topJava?_eq_some.mp hg0
  have hl9 : e.platform.stackLimits (T.setVm s.vm).me = e.platform.stackLimits s.me := X.limits
  have hb9 : (T.setVm s.vm).me.stackBytes = s.me.stackBytes := X.bytes
  refine ⟨X.admits, X.cas, X.clock, hF, ?_, X.hears, X.method, X.code, X.here, X.tail, X.warmed, ?_, ?_, ?_⟩
  · have h := X.room
    have hU : ((T.setVm s.vm).setFrames (.invoking m args :: below)).localsInUse = s.localsInUse := by
      rw [State.localsInUse_invoking hF (meth := meth) (c := c) X.method X.code, State.localsInUse_invoking X.frames X.method X.code]
    simp only [State.hasRoom, Bool.and_eq_true, decide_eq_true_eq] at h ⊢
    obtain ⟨⟨⟨⟨h1, h2, h3, h4, h5, h6⟩, h7⟩, h8⟩, h9⟩ := h
    rw [X.frames, List.length_cons] at h2 h3
    have q1 := X.heapSize
    have q2 := X.used
    simp only [hF, hU, List.length_cons, State.stackLimits_setFrames, State.stackBytes_setFrames, hl9, hb9]
    refine ⟨⟨⟨⟨by omega, by omega, by omega, by omega, by omega, h6⟩, ?_⟩, ?_⟩, X.book⟩
    · show T.heap.size + R'.cells ≤ e.platform.maxCells
      omega
    · show T.slotsUsed + R'.slots ≤ e.platform.maxSlots
      omega
  · rw [State.stackLimits_setFrames]; rfl
  · rw [State.stackBytes_setFrames]; rfl
  · refine ⟨?_, Nat.le_refl _, Nat.le_refl _, ?_, ?_, fun a c9 h9 => ⟨c9, h9, rfl, rfl, fun _ _ => rfl⟩⟩
    · obtain ⟨t, ht, -⟩ := State.frames_cons hr
      show T.setVm s.vm = { ((T.setVm s.vm).setFrames (.invoking m args :: below)).setFrames (T.setVm s.vm).frames with heap := T.heap, slotsUsed := T.slotsUsed }
      rw [State.setFrames_setFrames, State.setFrames_self ht]
      rfl
    · show T.slotsUsed = T.slotsUsed + ((T.heap.toList.drop T.heap.size).map (·.slots.size)).sum
      rw [List.drop_eq_nil_of_le (Nat.le_of_eq Array.length_toList)]
      rfl
    · show ((T.heap.toList.drop T.heap.size).map (·.slots.size)).sum ≤ 0
      rw [List.drop_eq_nil_of_le (Nat.le_of_eq Array.length_toList)]
      exact Nat.le_refl _
/-- 'throw new E()': new; dup; invokespecial; athrow -/
theorem vx_throw0 {cc : ByteArray} {pc : Nat} (hexec : p.tables.exec = Jvm.exec) (hb : c.code = cc) (hl : l.stackTraces = false) {own cls : String} {names : List String} {ik ic mc ms : Nat} {A : Nat → Prop}
    (hown : s.vm.findClass own = some m.cls) (hcls : Bundle.fit cls = true) (hnames : ∀ n ∈ names, Bundle.fit n = true)
    (hk : (Cond.classLink own ik cls).before args s = true) (hini : (Cond.initialized cls).before args s = true) (hat : ∀ w ∈ vx_at0 own ic cls names, w.before args s = true)
    (hgood : ∀ w ∈ Cond.classLink own ik cls :: Cond.initialized cls :: vx_at0 own ic cls names, vx_ot w = true)
    (hU : vx_Zq Bundle.tN "UNASSIGNED_STACK" Bundle.steD A s s.heap) (hN : vx_Zq Bundle.tN "SUPPRESSED_SENTINEL" Bundle.listD A s s.heap) (hS : va_S A s.heap H locs) (hsize : ls.size = c.maxLocals)
    (d0 : decode cc pc = .ok (.new ik, 3)) (d3 : decode cc (pc + 3) = .ok (.dup, 1)) (d4 : decode cc (pc + 4) = .ok (.invokespecial ic, 3)) (d7 : decode cc (pc + 7) = .ok (.athrow, 1))
    (hout : ∀ x ∈ c.exceptionTable.toList, covers x (pc + 7) = false)
    (hRframes : names.length + 3 < R.frames) (hRlocals : (rest.map fun v => v.category).sum + (13 * (names.length + 1) + 42) ≤ R.locals) (hRcells : cells + 1 ≤ R.cells) (hRslots : slots + 6 ≤ R.slots) (hlocks : meth.locks = false)
    (hx : ∀ t : State, s.vm.Alike t.vm → H.size ≤ t.heap.size → (∀ q : Nat, q < H.size → t.heap[q]? = H[q]?) → XC cls s t)
    (hf : ∀ z ∈ locs, free z.base) (hc : cells + 1 ≤ mc) (hs : slots + 6 ≤ ms) :
    W p l e R s m args below meth c H locs cells slots (vx_MQ below Qc XC args s mc ms free) (F0 m pc ls rest) := by
  intro T hT X
  have htr : e.platform.stackTraces = false := (show e.platform.stackTraces = l.stackTraces by rw [X.admits.platform]).trans hl
  have Y := vx_rebase X (R' := { frames := R.frames, locals := R.locals, cells := 1, slots := 6 }) (Nat.le_refl _) (Nat.le_refl _) hRcells hRslots
  obtain ⟨s', hA⟩ : ∃ z, z = (T.setVm s.vm).setFrames (.invoking m args :: below) := ⟨_, rfl⟩
  rw [← hA] at Y
  have hvm : s'.vm = s.vm := by rw [hA]; rfl
  have hhp : s'.heap = H := by rw [hA]; exact hT
  have hW0 : s.WarmedH s'.vm := by rw [hvm]; exact State.WarmedH.refl s
  have hat' : ∀ w ∈ vx_at0 own ic cls names, w.before args s' = true := fun w hw => vx_ot_at hW0 hvm.symm (hgood w (List.mem_cons_of_mem _ (List.mem_cons_of_mem _ hw))) (hat w hw)
  have hk' : (Cond.classLink own ik cls).before args s' = true := vx_ot_at hW0 hvm.symm (hgood _ List.mem_cons_self) hk
  have hini' : (Cond.initialized cls).before args s' = true := vx_ot_at hW0 hvm.symm (hgood _ (List.mem_cons_of_mem _ List.mem_cons_self)) hini
  have hU' : vx_Zq Bundle.tN "UNASSIGNED_STACK" Bundle.steD A s' s'.heap := by rw [hhp]; exact vx_Zq.moved hW0.alike (hU.kept hS.2.1)
  have hN' : vx_Zq Bundle.tN "SUPPRESSED_SENTINEL" Bundle.listD A s' s'.heap := by rw [hhp]; exact vx_Zq.moved hW0.alike (hN.kept hS.2.1)
  have h : ∀ w ∈ Bundle.ownAtoms0 own ic cls names, w.before args s' = true := vx_own hat' (vx_isRefq hU'.1) (vx_isRefq hN'.1) hU'.2.word hN'.2.word
  have hown' : s'.vm.findClass own = some m.cls := by rw [hvm]; exact hown
  have hins : (Cond.instantiable cls 6).before args s' = true := h _ (by simp [Bundle.ownAtoms0])
  obtain ⟨vm₁, cX, kX, hfX, hkX, -, -, X₁, st1⟩ := Y.newCold hexec (own := own) (C := cls) (index := ik) (n := 6) hown' hk' hins hini'
    (g := F0 m pc ls rest) rfl (by rw [hb]; exact d0) (Nat.le_refl _) (Nat.le_refl _)
  generalize hT1 : (T.setVm vm₁).pushCell { cls := cX, slots := kX.instanceTypes.map defaultValue, vm := .none } = T1 at X₁ st1
  have hcat : (Value.ref T.heap.size).category = 1 := rfl
  have hcellA : T1.heap[T.heap.size]? = some (freshCell cX kX) := by rw [← hT1]; exact State.heap_pushCell_size _ _
  have d3' : decode c.code (pc + 3) = .ok (.dup, 1) := by rw [hb]; exact d3
  obtain ⟨U, hsteps, hrun, hend, hW, hsame, ce, hce, hO⟩ := X₁.ctorThrow0 hexec htr (own := own) (cls := cls) (names := names) (ic := ic) hown' hcls hnames h (fun x hx => nomatch hx) hfX hkX hcellA (by rw [hhp, hT]; exact Nat.le_refl _)
    (g := { method := m, pc := pc + 4, locals := ls, stack := .ref T.heap.size :: .ref T.heap.size :: rest, locked := none }) rfl hsize rfl rfl (rest := rest) rfl
    (by rw [hb]; exact d4) (by rw [hb]; exact d7) hout hRframes (by simp only [List.map_cons, List.sum_cons, hcat]; omega) hlocks
  obtain ⟨f1, f2⟩ := vx_frame hsame
  rw [hhp] at f1 f2
  have hWs : s.WarmedH U.vm := State.WarmedH.trans hW0 hW
  have hcl : s.vm.findClass cls = some ce.cls := by
    have h9 := hO.cls
    rw [hvm] at h9
    exact h9
  have hall : s.sameButNew ({ U with vm := s.vm } : State) locs mc ms := by
    subst hA
    obtain ⟨e1, e2⟩ := hsame
    rw [State.setFrames_setFrames] at e1
    have h2 : (T.setVm s.vm).sameButNew ({ U with vm := s.vm } : State) [] (0 + 1) (0 + 6) := ⟨e1, e2⟩
    have h3 := X.same.trans h2
    rw [List.append_nil] at h3
    exact h3.mono hc hs
  refine ⟨U, ?_, .threw T.heap.size, hrun, hend, Or.inr ⟨T.heap.size, rfl, cls, ce, locs, hx U hWs.alike f1 (fun q hq => f2 q hq (fun z hz => nomatch hz)), hce, hO.vm, hcl, hWs, hall, hf⟩⟩
  refine st1 _ ?_
  show Steps p.tables e below (T1.setTop { method := m, pc := pc + 3, locals := ls, stack := .ref T.heap.size :: rest, locked := none }) _
  jvm_step X₁.here [X₁.here.top, hexec, d3', Value.category]
  exact hsteps
/-- 'throw new E("text")': new; dup; ldc; invokespecial; athrow -/
theorem vx_throwS {cc : ByteArray} {pc : Nat} (hexec : p.tables.exec = Jvm.exec) (hb : c.code = cc) (hl : l.stackTraces = false) {own cls text : String} {names : List String} {ik is ic mc ms sa : Nat} {A : Nat → Prop}
    (hown : s.vm.findClass own = some m.cls) (hcls : Bundle.fit cls = true) (hnames : ∀ n ∈ names, Bundle.fit n = true)
    (hk : (Cond.classLink own ik cls).before args s = true) (hini : (Cond.initialized cls).before args s = true) (hstr : vk_R own is text sa s) (hat : ∀ w ∈ vx_atS own ic cls names, w.before args s = true)
    (hgood : ∀ w ∈ Cond.classLink own ik cls :: Cond.initialized cls :: vx_atS own ic cls names, vx_ot w = true)
    (hU : vx_Zq Bundle.tN "UNASSIGNED_STACK" Bundle.steD A s s.heap) (hN : vx_Zq Bundle.tN "SUPPRESSED_SENTINEL" Bundle.listD A s s.heap) (hS : va_S A s.heap H locs) (hsize : ls.size = c.maxLocals)
    (d0 : decode cc pc = .ok (.new ik, 3)) (d3 : decode cc (pc + 3) = .ok (.dup, 1)) (d4 : decode cc (pc + 4) = .ok (.ldc is, 2)) (d6 : decode cc (pc + 6) = .ok (.invokespecial ic, 3)) (d9 : decode cc (pc + 9) = .ok (.athrow, 1))
    (hout : ∀ x ∈ c.exceptionTable.toList, covers x (pc + 9) = false)
    (hRframes : names.length + 3 < R.frames) (hRlocals : (rest.map fun v => v.category).sum + (13 * (names.length + 1) + 43) ≤ R.locals) (hRcells : cells + 1 ≤ R.cells) (hRslots : slots + 6 ≤ R.slots) (hlocks : meth.locks = false)
    (hx : ∀ t : State, s.vm.Alike t.vm → H.size ≤ t.heap.size → (∀ q : Nat, q < H.size → t.heap[q]? = H[q]?) → XC cls s t)
    (hf : ∀ z ∈ locs, free z.base) (hc : cells + 1 ≤ mc) (hs : slots + 6 ≤ ms) :
    W p l e R s m args below meth c H locs cells slots (vx_MQ below Qc XC args s mc ms free) (F0 m pc ls rest) := by
  intro T hT X
  have htr : e.platform.stackTraces = false := (show e.platform.stackTraces = l.stackTraces by rw [X.admits.platform]).trans hl
  have Y := vx_rebase X (R' := { frames := R.frames, locals := R.locals, cells := 1, slots := 6 }) (Nat.le_refl _) (Nat.le_refl _) hRcells hRslots
  obtain ⟨s', hA⟩ : ∃ z, z = (T.setVm s.vm).setFrames (.invoking m args :: below) := ⟨_, rfl⟩
  rw [← hA] at Y
  have hvm : s'.vm = s.vm := by rw [hA]; rfl
  have hhp : s'.heap = H := by rw [hA]; exact hT
  have hW0 : s.WarmedH s'.vm := by rw [hvm]; exact State.WarmedH.refl s
  have hat' : ∀ w ∈ vx_atS own ic cls names, w.before args s' = true := fun w hw => vx_ot_at hW0 hvm.symm (hgood w (List.mem_cons_of_mem _ (List.mem_cons_of_mem _ hw))) (hat w hw)
  have hk' : (Cond.classLink own ik cls).before args s' = true := vx_ot_at hW0 hvm.symm (hgood _ List.mem_cons_self) hk
  have hini' : (Cond.initialized cls).before args s' = true := vx_ot_at hW0 hvm.symm (hgood _ (List.mem_cons_of_mem _ List.mem_cons_self)) hini
  have hU' : vx_Zq Bundle.tN "UNASSIGNED_STACK" Bundle.steD A s' s'.heap := by rw [hhp]; exact vx_Zq.moved hW0.alike (hU.kept hS.2.1)
  have hN' : vx_Zq Bundle.tN "SUPPRESSED_SENTINEL" Bundle.listD A s' s'.heap := by rw [hhp]; exact vx_Zq.moved hW0.alike (hN.kept hS.2.1)
  have h : ∀ w ∈ Bundle.ownAtoms own ic cls names, w.before args s' = true := vx_own hat' (vx_isRefq hU'.1) (vx_isRefq hN'.1) hU'.2.word hN'.2.word
  have hown' : s'.vm.findClass own = some m.cls := by rw [hvm]; exact hown
  have hins : (Cond.instantiable cls 6).before args s' = true := h _ (by simp [Bundle.ownAtoms])
  obtain ⟨vm₁, cX, kX, hfX, hkX, -, -, X₁, st1⟩ := Y.newCold hexec (own := own) (C := cls) (index := ik) (n := 6) hown' hk' hins hini'
    (g := F0 m pc ls rest) rfl (by rw [hb]; exact d0) (Nat.le_refl _) (Nat.le_refl _)
  generalize hT1 : (T.setVm vm₁).pushCell { cls := cX, slots := kX.instanceTypes.map defaultValue, vm := .none } = T1 at X₁ st1
  have hcat : (Value.ref T.heap.size).category = 1 := rfl
  have hcellA : T1.heap[T.heap.size]? = some (freshCell cX kX) := by rw [← hT1]; exact State.heap_pushCell_size _ _
  have d3' : decode c.code (pc + 3) = .ok (.dup, 1) := by rw [hb]; exact d3
  have d4' : decode c.code (pc + 4) = .ok (.ldc is, 2) := by rw [hb]; exact d4
  have hstr' : vk_R own is text sa s' := vk_R.warm hW0 hstr
  obtain ⟨U, hsteps, hrun, hend, hW, hsame, ce, hce, hO⟩ := X₁.ctorThrowS hexec htr (own := own) (cls := cls) (names := names) (ic := ic) hown' hcls hnames h (fun x hx => nomatch hx) hfX hkX hcellA (by rw [hhp, hT]; exact Nat.le_refl _) (msg := .ref sa) rfl
    (g := { method := m, pc := pc + 6, locals := ls, stack := .ref sa :: .ref T.heap.size :: .ref T.heap.size :: rest, locked := none }) rfl hsize rfl rfl (rest := rest) rfl
    (by rw [hb]; exact d6) (by rw [hb]; exact d9) hout hRframes (by simp only [List.map_cons, List.sum_cons, hcat]; omega) hlocks
  obtain ⟨f1, f2⟩ := vx_frame hsame
  rw [hhp] at f1 f2
  have hWs : s.WarmedH U.vm := State.WarmedH.trans hW0 hW
  have hcl : s.vm.findClass cls = some ce.cls := by
    have h9 := hO.cls
    rw [hvm] at h9
    exact h9
  have hall : s.sameButNew ({ U with vm := s.vm } : State) locs mc ms := by
    subst hA
    obtain ⟨e1, e2⟩ := hsame
    rw [State.setFrames_setFrames] at e1
    have h2 : (T.setVm s.vm).sameButNew ({ U with vm := s.vm } : State) [] (0 + 1) (0 + 6) := ⟨e1, e2⟩
    have h3 := X.same.trans h2
    rw [List.append_nil] at h3
    exact h3.mono hc hs
  refine ⟨U, ?_, .threw T.heap.size, hrun, hend, Or.inr ⟨T.heap.size, rfl, cls, ce, locs, hx U hWs.alike f1 (fun q hq => f2 q hq (fun z hz => nomatch hz)), hce, hO.vm, hcl, hWs, hall, hf⟩⟩
  refine st1 _ ?_
  show Steps p.tables e below (T1.setTop { method := m, pc := pc + 3, locals := ls, stack := .ref T.heap.size :: rest, locked := none }) _
  jvm_step X₁.here [X₁.here.top, hexec, d3', Value.category]
  exact X₁.ldcString hexec (own := own) (text := text) (index := is) (a := sa) hown' hstr'.1 hstr'.2
    (g := { method := m, pc := pc + 4, locals := ls, stack := .ref T.heap.size :: .ref T.heap.size :: rest, locked := none }) rfl d4' _ hsteps
/-- 'throw new E("text")', the text by a wide index -/
theorem vx_throwSW {cc : ByteArray} {pc : Nat} (hexec : p.tables.exec = Jvm.exec) (hb : c.code = cc) (hl : l.stackTraces = false) {own cls text : String} {names : List String} {ik is ic mc ms sa : Nat} {A : Nat → Prop}
    (hown : s.vm.findClass own = some m.cls) (hcls : Bundle.fit cls = true) (hnames : ∀ n ∈ names, Bundle.fit n = true)
    (hk : (Cond.classLink own ik cls).before args s = true) (hini : (Cond.initialized cls).before args s = true) (hstr : vk_R own is text sa s) (hat : ∀ w ∈ vx_atS own ic cls names, w.before args s = true)
    (hgood : ∀ w ∈ Cond.classLink own ik cls :: Cond.initialized cls :: vx_atS own ic cls names, vx_ot w = true)
    (hU : vx_Zq Bundle.tN "UNASSIGNED_STACK" Bundle.steD A s s.heap) (hN : vx_Zq Bundle.tN "SUPPRESSED_SENTINEL" Bundle.listD A s s.heap) (hS : va_S A s.heap H locs) (hsize : ls.size = c.maxLocals)
    (d0 : decode cc pc = .ok (.new ik, 3)) (d3 : decode cc (pc + 3) = .ok (.dup, 1)) (d4 : decode cc (pc + 4) = .ok (.ldc_w is, 3)) (d7 : decode cc (pc + 7) = .ok (.invokespecial ic, 3)) (d10 : decode cc (pc + 10) = .ok (.athrow, 1))
    (hout : ∀ x ∈ c.exceptionTable.toList, covers x (pc + 10) = false)
    (hRframes : names.length + 3 < R.frames) (hRlocals : (rest.map fun v => v.category).sum + (13 * (names.length + 1) + 43) ≤ R.locals) (hRcells : cells + 1 ≤ R.cells) (hRslots : slots + 6 ≤ R.slots) (hlocks : meth.locks = false)
    (hx : ∀ t : State, s.vm.Alike t.vm → H.size ≤ t.heap.size → (∀ q : Nat, q < H.size → t.heap[q]? = H[q]?) → XC cls s t)
    (hf : ∀ z ∈ locs, free z.base) (hc : cells + 1 ≤ mc) (hs : slots + 6 ≤ ms) :
    W p l e R s m args below meth c H locs cells slots (vx_MQ below Qc XC args s mc ms free) (F0 m pc ls rest) := by
  intro T hT X
  have htr : e.platform.stackTraces = false := (show e.platform.stackTraces = l.stackTraces by rw [X.admits.platform]).trans hl
  have Y := vx_rebase X (R' := { frames := R.frames, locals := R.locals, cells := 1, slots := 6 }) (Nat.le_refl _) (Nat.le_refl _) hRcells hRslots
  obtain ⟨s', hA⟩ : ∃ z, z = (T.setVm s.vm).setFrames (.invoking m args :: below) := ⟨_, rfl⟩
  rw [← hA] at Y
  have hvm : s'.vm = s.vm := by rw [hA]; rfl
  have hhp : s'.heap = H := by rw [hA]; exact hT
  have hW0 : s.WarmedH s'.vm := by rw [hvm]; exact State.WarmedH.refl s
  have hat' : ∀ w ∈ vx_atS own ic cls names, w.before args s' = true := fun w hw => vx_ot_at hW0 hvm.symm (hgood w (List.mem_cons_of_mem _ (List.mem_cons_of_mem _ hw))) (hat w hw)
  have hk' : (Cond.classLink own ik cls).before args s' = true := vx_ot_at hW0 hvm.symm (hgood _ List.mem_cons_self) hk
  have hini' : (Cond.initialized cls).before args s' = true := vx_ot_at hW0 hvm.symm (hgood _ (List.mem_cons_of_mem _ List.mem_cons_self)) hini
  have hU' : vx_Zq Bundle.tN "UNASSIGNED_STACK" Bundle.steD A s' s'.heap := by rw [hhp]; exact vx_Zq.moved hW0.alike (hU.kept hS.2.1)
  have hN' : vx_Zq Bundle.tN "SUPPRESSED_SENTINEL" Bundle.listD A s' s'.heap := by rw [hhp]; exact vx_Zq.moved hW0.alike (hN.kept hS.2.1)
  have h : ∀ w ∈ Bundle.ownAtoms own ic cls names, w.before args s' = true := vx_own hat' (vx_isRefq hU'.1) (vx_isRefq hN'.1) hU'.2.word hN'.2.word
  have hown' : s'.vm.findClass own = some m.cls := by rw [hvm]; exact hown
  have hins : (Cond.instantiable cls 6).before args s' = true := h _ (by simp [Bundle.ownAtoms])
  obtain ⟨vm₁, cX, kX, hfX, hkX, -, -, X₁, st1⟩ := Y.newCold hexec (own := own) (C := cls) (index := ik) (n := 6) hown' hk' hins hini'
    (g := F0 m pc ls rest) rfl (by rw [hb]; exact d0) (Nat.le_refl _) (Nat.le_refl _)
  generalize hT1 : (T.setVm vm₁).pushCell { cls := cX, slots := kX.instanceTypes.map defaultValue, vm := .none } = T1 at X₁ st1
  have hcat : (Value.ref T.heap.size).category = 1 := rfl
  have hcellA : T1.heap[T.heap.size]? = some (freshCell cX kX) := by rw [← hT1]; exact State.heap_pushCell_size _ _
  have d3' : decode c.code (pc + 3) = .ok (.dup, 1) := by rw [hb]; exact d3
  have d4' : decode c.code (pc + 4) = .ok (.ldc_w is, 3) := by rw [hb]; exact d4
  have hstr' : vk_R own is text sa s' := vk_R.warm hW0 hstr
  obtain ⟨U, hsteps, hrun, hend, hW, hsame, ce, hce, hO⟩ := X₁.ctorThrowS hexec htr (own := own) (cls := cls) (names := names) (ic := ic) hown' hcls hnames h (fun x hx => nomatch hx) hfX hkX hcellA (by rw [hhp, hT]; exact Nat.le_refl _) (msg := .ref sa) rfl
    (g := { method := m, pc := pc + 7, locals := ls, stack := .ref sa :: .ref T.heap.size :: .ref T.heap.size :: rest, locked := none }) rfl hsize rfl rfl (rest := rest) rfl
    (by rw [hb]; exact d7) (by rw [hb]; exact d10) hout hRframes (by simp only [List.map_cons, List.sum_cons, hcat]; omega) hlocks
  obtain ⟨f1, f2⟩ := vx_frame hsame
  rw [hhp] at f1 f2
  have hWs : s.WarmedH U.vm := State.WarmedH.trans hW0 hW
  have hcl : s.vm.findClass cls = some ce.cls := by
    have h9 := hO.cls
    rw [hvm] at h9
    exact h9
  have hall : s.sameButNew ({ U with vm := s.vm } : State) locs mc ms := by
    subst hA
    obtain ⟨e1, e2⟩ := hsame
    rw [State.setFrames_setFrames] at e1
    have h2 : (T.setVm s.vm).sameButNew ({ U with vm := s.vm } : State) [] (0 + 1) (0 + 6) := ⟨e1, e2⟩
    have h3 := X.same.trans h2
    rw [List.append_nil] at h3
    exact h3.mono hc hs
  refine ⟨U, ?_, .threw T.heap.size, hrun, hend, Or.inr ⟨T.heap.size, rfl, cls, ce, locs, hx U hWs.alike f1 (fun q hq => f2 q hq (fun z hz => nomatch hz)), hce, hO.vm, hcl, hWs, hall, hf⟩⟩
  refine st1 _ ?_
  show Steps p.tables e below (T1.setTop { method := m, pc := pc + 3, locals := ls, stack := .ref T.heap.size :: rest, locked := none }) _
  jvm_step X₁.here [X₁.here.top, hexec, d3', Value.category]
  exact X₁.ldcStringW hexec (own := own) (text := text) (index := is) (a := sa) hown' hstr'.1 hstr'.2
    (g := { method := m, pc := pc + 4, locals := ls, stack := .ref T.heap.size :: .ref T.heap.size :: rest, locked := none }) rfl d4' _ hsteps
end Ends
section Bodies
variable {l : Launch}
theorem vx_ofW {y : MethodName} {ws ws' : List Cond} {rm : Room} {Pc : Array Value → State → Prop} {Qc : Array Value → State → Outcome → State → Prop} {XC : String → State → State → Prop} {mc ms : Nat} {free : Addr → Prop} {cc : ByteArray} {maxL : Nat} {ret : Option FieldType}
    (hy : plainName y.cls = true) (hw : ws = Cond.code y cc maxL ret :: ws')
    (body : ∀ p e s m args below meth c s₁, BodyLoose p l y (headSpec ws rm) cc maxL ret e s m args below meth c s₁ → c.maxLocals = maxL → (∀ x ∈ c.exceptionTable.toList, False) → Pc args s →
      W p l e (headSpec ws rm).room s m args below meth c s.heap [] 0 0 (vx_MQ below Qc XC args s mc ms free) (entryFrame m args maxL)) : vx_Met l y ws rm Pc Qc XC mc ms free := by
  refine MetFree.of_bodyS (code := cc) (maxLocals := maxL) (ret := ret) hy ?_ ?_
  · intro args s m h hn
    obtain ⟨meth, c, h1, h2, h3, h4, h5, h6, -, -⟩ := Cond.code_spec hn (atoms_spec (ws := ws) h _ (by rw [hw]; exact List.mem_cons_self))
    exact ⟨meth, c, h1, h2, h3, h4, h5, h6⟩
  · intro p e s m args below meth c s₁ B hml hP _
    have hh0 : s₁.heap = s.heap := by rw [B.state]; rfl
    have ht : ∀ x ∈ c.exceptionTable.toList, False := by
      obtain ⟨meth9, c9, h1, h2, -, -, -, -, h7, -⟩ := Cond.code_spec B.named (atoms_spec (ws := ws) B.pre _ (by rw [hw]; exact List.mem_cons_self))
      cases Option.some.inj (h1.symm.trans B.method)
      cases Option.some.inj (h2.symm.trans (Stand.of_body B).code)
      intro x hx
      rw [Array.isEmpty_iff.mp h7] at hx
      cases hx
    obtain ⟨t, a1, o, b1, b2, b3⟩ := body p e s m args below meth c s₁ B hml ht hP s₁ hh0 (Stand.of_body B)
    exact ⟨t, o, a1, b1, b2, b3⟩
/-- the table of a body with handlers -/
theorem vx_table {p : Program} {x y : MethodName} {S : Spec} {cc bytes : ByteArray} {maxL maxL' : Nat} {ret ret' : Option FieldType} {e : Env} {s s₁ : State} {m : MethodId} {args : Array Value} {below : List Frame} {meth : Method} {c : Code} {hh : List (Nat × Nat × Nat × Nat)}
    (B : BodyLoose p l y S cc maxL ret e s m args below meth c s₁) (h : (Cond.codeWith y bytes maxL' ret' hh).before args s = true) : c.exceptionTable.toList = tableOf hh := by
  obtain ⟨m9, meth9, c9, hn9, h1, h2, -, -, h6, -⟩ := Cond.codeWith_spec h
  cases Option.some.inj (hn9.symm.trans B.named)
  cases Option.some.inj (h1.symm.trans B.method)
  cases Option.some.inj (h2.symm.trans (Stand.of_body B).code)
  rw [← h6, table_eq]
end Bodies
end VXA
/-! ===== END ===== -/
/-! ===== BEGIN a static call of a method with an exception table ===== -/
section VXS
variable {p : Program} {l : Launch} {e : Env} {R : Room} {s : State} {m : MethodId} {args : Array Value} {below : List Frame} {meth : Method} {c : Code} {T : State} {H : Heap} {locs : List Loc} {cells slots : Nat}
abbrev vx_CSW (R : Room) (s : State) (args : Array Value) (own : String) (index : Nat) (y : MethodName) (bytes : ByteArray) (maxL : Nat) (ret : Option FieldType) (hh : List (Nat × Nat × Nat × Nat)) (ws : List Cond) (rm : Room) (mc ms n : Nat) : Prop :=
  (rm.cells = mc ∧ rm.slots = ms ∧ rm.frames + 1 ≤ R.frames ∧ 8 + (maxL + 11) + rm.locals ≤ R.locals ∧ (∀ w ∈ ws, ∀ (a' : Array Value) (U : State), s.WarmedH U.vm → w.before a' U = true) ∧ Cond.codeWith y bytes maxL ret hh ∈ ws) ∧
  (Cond.codeWith y bytes maxL ret hh).before args s = true ∧ (Cond.initialized y.cls).before args s = true ∧ (y.cls ≠ "java/lang/invoke/MethodHandle" ∧ y.cls ≠ "java/lang/invoke/VarHandle") ∧
  (∀ sig, parseMethodDescriptor y.desc = some sig → n = sig.parameters.length) ∧ (Cond.methodLink own index y).before args s = true ∧ (Cond.static y).before args s = true
theorem vx_cwSW {own : String} {index maxL mc ms : Nat} {y : MethodName} {bytes : ByteArray} {ret : Option FieldType} {hh : List (Nat × Nat × Nat × Nat)} {Ts ws ws' : List Cond} {rm : Room} (n : Nat) (ht : ∀ w ∈ Ts, w.before args s = true) (hT : GoodIn Ts (va_wsS own index y ws)) (hw : ws = Cond.codeWith y bytes maxL ret hh :: ws') (hrc : rm.cells = mc) (hrs : rm.slots = ms)
    (hd : y.cls ≠ "java/lang/invoke/MethodHandle" ∧ y.cls ≠ "java/lang/invoke/VarHandle" ∧ (parseMethodDescriptor y.desc).map (fun d => d.parameters.length) = some n) (hR : rm.frames + 1 ≤ R.frames ∧ 8 + (maxL + 11) + rm.locals ≤ R.locals) :
    vx_CSW R s args own index y bytes maxL ret hh ws rm mc ms n := by
  have ok : ∀ w ∈ va_wsS own index y ws, w.before args s = true := fun w h => ht w (hT w h).1
  have hG : GoodIn Ts ws := fun w h => hT w (by unfold va_wsS; exact List.mem_append_right _ h)
  have hc : Cond.codeWith y bytes maxL ret hh ∈ ws := by rw [hw]; exact List.mem_cons_self
  refine ⟨⟨hrc, hrs, hR.1, hR.2, pay_in ht hG, hc⟩, ht _ (hG _ hc).1, ok _ (by simp [va_wsS]), ⟨hd.1, hd.2.1⟩, fun sig h => ?_, ok _ (by simp [va_wsS]), ok _ (by simp [va_wsS])⟩
  have h2 := hd.2.2
  rw [h] at h2
  exact (Option.some.inj h2).symm
theorem vx_callSW (X : Stand p l e R s m args below meth c T locs cells slots) (hexec : p.tables.exec = Jvm.exec) {own : String} {index : Nat} {y : MethodName} {bytes : ByteArray} {maxL : Nat} {ret : Option FieldType} {hh : List (Nat × Nat × Nat × Nat)}
    (hown : s.vm.findClass own = some m.cls) (hlink : (Cond.methodLink own index y).before args s = true) (hstat : (Cond.static y).before args s = true) (hinit : (Cond.initialized y.cls).before args s = true)
    (hcode : (Cond.codeWith y bytes maxL ret hh).before args s = true) (hy : y.cls ≠ "java/lang/invoke/MethodHandle" ∧ y.cls ≠ "java/lang/invoke/VarHandle")
    {W9 : Nat} {Pre : Pt → Array Value → Prop} {Post : Pt → Array Value → Option Value → Pt → Prop} (hK : Back l R p e below s args y 3 W9 Pre Post)
    {g : JFrame} (hg : g.method = m) (hsize : g.locals.size = c.maxLocals) {argsL rest : List Value} (hlen : ∀ sig, parseMethodDescriptor y.desc = some sig → argsL.length = sig.parameters.length)
    (hstack : g.stack = argsL.reverse ++ rest) (hW : 2 * g.monitorRoom + (rest.map fun v => v.category).sum ≤ W9) (hdg : decode c.code g.pc = .ok (.invokestatic index, 3))
    (hpre : ∀ vm₁, s.WarmedH vm₁ → Pre ⟨T.setVm vm₁, locs, cells, slots⟩ argsL.toArray) :
    ∃ (v : Option Value) (vm₁ : Vm) (B : Pt), s.WarmedH vm₁ ∧ Stand p l e R s m args below meth c B.U B.locs B.cells B.slots ∧ Post ⟨T.setVm vm₁, locs, cells, slots⟩ argsL.toArray v B ∧
      ∀ target, Steps p.tables e below (B.U.setTop { g with pc := g.pc + 3, stack := v.toList ++ rest }) target → Steps p.tables e below (T.setTop g) target := by
  obtain ⟨mk, methM, cM, hnamed, hmethM, -, -, -, -, -, -, hsigM⟩ := Cond.codeWith_spec hcode
  have hstatic : methM.isStatic = true := Cond.static_spec hnamed hmethM hstat
  obtain ⟨kP, hkP, -⟩ := className_of_methodNamed hnamed
  have hinitP : kP.init = .initialized := Cond.initialized_spec (findClass_of_methodNamed hnamed) hkP hinit
  obtain ⟨vm₁, X₁, hstep₁⟩ := X.invokestatic hexec hown hlink hnamed hmethM hstatic hkP hinitP hy (g := g) hg (argsL := argsL) (rest := rest) (hlen _ hsigM) hstack hdg
  obtain ⟨v, B, X', hpost, hsteps⟩ := hK m meth c ⟨T.setVm vm₁, locs, cells, slots⟩ { g with stack := rest } (.invokestatic index) mk argsL.toArray X₁ hg hsize hdg hW (X₁.named hnamed) (hpre vm₁ X₁.warmed)
  exact ⟨v, vm₁, B, X₁.warmed, X', hpost, fun target h => hstep₁ _ fun acts => by rw [doInvoke_state]; exact hsteps.trans h⟩
theorem vx_runSW {y : MethodName} {bytes cc : ByteArray} {maxL nL mc ms n index : Nat} {ret : Option FieldType} {hh : List (Nat × Nat × Nat × Nat)} {ws : List Cond} {rm : Room} {Pc : Array Value → State → Prop} {Qc : Array Value → State → Outcome → State → Prop} {free : Addr → Prop} {Ts : List Cond} {own : String} {As rest : List Value} {g : JFrame}
    (S : CallFix p m c cc nL s args Ts own) (hM : Met l y ws rm Pc Qc mc ms free) (cw : vx_CSW R s args own index y bytes maxL ret hh ws rm mc ms n) (hp : PreS s H Pc As)
    (hg : g.method = m) (hn : As.length = n) (hsize : g.locals.size = nL) (hstack : g.stack = As.reverse ++ rest) (hW : 2 * g.monitorRoom + (rest.map fun v => v.category).sum ≤ 8) (hdg : decode cc g.pc = .ok (.invokestatic index, 3)) (hf : cells + mc ≤ R.cells ∧ slots + ms ≤ R.slots) :
    va_Run p l e R s m args below meth c H locs cells slots mc ms g rest (Qc As.toArray) (free) := by
  obtain ⟨⟨hrc, hrs, hfr, hlo, hws, hcw⟩, hcode, hini, hy, hlen, hl, hstt⟩ := cw
  have hK : Back l R p e below s args y 3 8 (PreOf R mc ms Pc) (PostOf Qc mc ms free) := va_backW (hh := hh) (bytes := bytes) (maxL := maxL) (ret := ret) hM hp.1 hrc hrs hfr hlo hws hcw (fun a' U hW => word_at hW (Or.inl (by first | rfl | simp [Cond.onTables, Cond.keeps, Cond.steady])) hini)
  obtain ⟨hx, hb, hml, ho, -⟩ := S
  intro T hT X
  obtain ⟨v, vm₁, ⟨U', l2, c2, s2⟩, hW₁, X', ⟨g', mk, t, L, e1, e2, hq, h1, hL, h2, h3⟩, st⟩ := vx_callSW X hx (hh := hh) (bytes := bytes) (maxL := maxL) (ret := ret) ho hl hstt hini hcode hy hK hg (hsize.trans hml.symm) (argsL := As) (rest := rest) (fun sig h => hn.trans (hlen sig h)) hstack hW (by rw [hb]; exact hdg)
    (fun vm₁ hW₁ => ⟨hf.1, hf.2, hp.2 (T.setVm vm₁) hT hW₁⟩)
  dsimp only [Pt.U, Pt.locs, Pt.cells, Pt.slots] at X' e1 e2 h1 h2 h3 st
  subst h1; subst h2; subst h3
  exact ⟨v, (T.setVm vm₁).calling g' mk As.toArray, t, U', L, hT, X', hL, e1, e2, hq, st⟩
/-- a thing of a world lies in the heap -/
theorem vx_lt {D : va_G} {cl : List vw_C} {ws : va_W} {H1 : Heap} (h : va_P D cl ws H1) {k : Nat} {q : Nat × va_E} (hk : ws[k]? = some q) : q.1 < H1.size := (h k q hk).lt
end VXS
/-! ===== END ===== -/
/-! ===== BEGIN methods with a table of their own: called by a name, returning or throwing ===== -/
section VXH
/-! vx_backW, vx_callVX, vx_callSX, vx_callVW, vx_runVW, vx_runVX, vx_runSX, vx_ofWH follow the same proofs as their sisters above (Free/Laws.lean, Shelf42/LK1.lean); vx_outP calls Shelf42/NT130.lean (outThrough). -/
section
variable {l : Launch} {R : Room} {p : Program} {e : Env} {below : List Frame} {s : State} {sargs : Array Value} {y : MethodName} {len W9 : Nat}
theorem vx_backW {ws : List Cond} {rm : Room} {Pc : Array Value → State → Prop} {Qc : Array Value → State → Outcome → State → Prop} {XC : String → State → State → Prop} {mc ms : Nat} {free : Addr → Prop} {bytes : ByteArray} {maxL : Nat} {ret : Option FieldType} {hh : List (Nat × Nat × Nat × Nat)}
    (hM : vx_Met l y ws rm Pc Qc XC mc ms free) (hblind : FrameBlind Pc) (hrc : rm.cells = mc) (hrs : rm.slots = ms)
    (hframes : rm.frames + 1 ≤ R.frames) (hlocals : W9 + (maxL + 11) + rm.locals ≤ R.locals)
    (hws : ∀ w ∈ ws, ∀ a' U, s.WarmedH U.vm → w.before a' U = true) (hcode : Cond.codeWith y bytes maxL ret hh ∈ ws) (hinit : ∀ a' U, s.WarmedH U.vm → (Cond.initialized y.cls).before a' U = true) :
    vx_Back l R p e below s sargs y len W9 (PreOf R mc ms Pc) (PostOf Qc mc ms free) (vx_Post XC mc ms free) := by
  intro m meth c A g ig mk a X hg hsize hdg hW hn hp
  have h1 : (headSpec ws rm).pre.before a A.U = true := atoms_intro fun w hw => hws w hw _ _ X.warmed
  have h2 : (Cond.codeWith y bytes maxL ret hh).before a A.U = true := hws _ hcode _ _ X.warmed
  have h3 : (Cond.initialized y.cls).before a A.U = true := hinit _ _ X.warmed
  have h4 : A.cells + (headSpec ws rm).room.cells ≤ R.cells := by rw [show (headSpec ws rm).room.cells = mc from hrc]; exact hp.1
  have h5 : A.slots + (headSpec ws rm).room.slots ≤ R.slots := by rw [show (headSpec ws rm).room.slots = ms from hrs]; exact hp.2.1
  have hPc : Pc a (A.U.calling g mk a) := hblind _ _ _ _ hp.2.2
  obtain ⟨U, Ls, c0, s0⟩ := A
  dsimp only [Pt.U, Pt.locs, Pt.cells, Pt.slots] at h1 h2 h3 h4 h5 X hn hPc ⊢
  obtain ⟨m9, methY, cY, hn9, hmY, hcY, -, hlY, -⟩ := Cond.codeWith_spec h2
  cases Option.some.inj (hn9.symm.trans hn)
  obtain ⟨kY, hkY, -⟩ := className_of_methodNamed hn
  have hinitY : kY.init = .initialized := Cond.initialized_spec (findClass_of_methodNamed hn) hkY h3
  have h : At U g.method c below := by rw [hg]; exact X.here
  have hlocals9 : W9 + (maxL + 11) + (headSpec ws rm).room.locals ≤ R.locals := hlocals
  have happ : (headSpec ws rm).appliesLoose y e.platform (U.calling g mk a) = true :=
    Spec.appliesLoose_calling (g := g) h hdg hn hkY hinitY
      (X.room_calling (g := g) (R' := (headSpec ws rm).room) hsize hmY hcY hframes (by rw [hlY]; omega) h4 h5) h1
  obtain ⟨mid, hmid⟩ := h.above
  have hfr : (U.setTop g).frames = (.java g :: mid) ++ below := by rw [State.frames_setTop' g h.top, hmid]; rfl
  obtain ⟨o, s₂, hsteps, -, hend, hq⟩ := Steps.callFree hM p X.admits X.cas X.clock (acts := []) hfr happ hPc trivial
  have hq' : vx_Q Qc XC mc ms free a (U.calling g mk a) o s₂ := hq
  rw [State.frames_setTop' g h.top] at hend
  obtain ⟨g₀, hg0⟩ := Option.isSome_iff_exists.mp h.top
  obtain ⟨r, hr⟩ := State.topJava?_eq_some.mp hg0
  have hr' : (({ U with heap := s₂.heap, slotsUsed := s₂.slotsUsed } : State).setVm s₂.vm).frames = .java g₀ :: r := hr
  rcases hq' with ⟨hqc, L, hfe, hL⟩ | ⟨q, rfl, E, ce, L, hx, hce, hcv, hcl, hW₂, hsm, hL⟩
  · obtain ⟨⟨v, rfl⟩, hW₂, e2, q2, q3, q4, q5, q6⟩ := id hfe
    have e3 : s₂ = ({ (U.calling g mk a).setFrames s₂.frames with heap := s₂.heap, slotsUsed := s₂.slotsUsed } : State).setVm s₂.vm := by
      have : s₂ = ({ s₂ with vm := (U.calling g mk a).vm } : State).setVm s₂.vm := rfl
      rw [e2] at this
      exact this
    obtain ⟨c₂, i₂, len₂, hc₂, hd₂, hf₂⟩ := hend
    have hW' : U.WarmedH s₂.vm := hW₂
    have hcc : c₂ = c := by
      have h1 : s₂.code? g.method = U.code? g.method := by
        rw [State.code?_eq, State.code?_eq, hW'.alike.method?]
      exact Option.some.inj (hc₂.symm.trans (h1.trans h.code))
    subst hcc
    have hlen : len₂ = len := by rw [hdg] at hd₂; cases hd₂; rfl
    subst hlen
    have hs₂ : s₂ = (({ U with heap := s₂.heap, slotsUsed := s₂.slotsUsed } : State).setVm s₂.vm).setTop { g with pc := g.pc + len₂, stack := v.toList ++ g.stack } := by
      refine e3.trans ?_
      rw [hf₂, State.calling_eq h.top, State.setFrames_setFrames, State.setTop_of_frames _ hr', hr]
      rfl
    have hsame : U.sameButNew ({ U with heap := s₂.heap, slotsUsed := s₂.slotsUsed } : State) L mc ms := by
      refine ⟨?_, q2, q3, q4, q5, q6⟩
      obtain ⟨t, ht, -⟩ := State.frames_cons hr
      show ({ U with heap := s₂.heap, slotsUsed := s₂.slotsUsed } : State) = { U.setFrames U.frames with heap := s₂.heap, slotsUsed := s₂.slotsUsed }
      rw [State.setFrames_self ht]
    subst hg
    refine Or.inl ⟨v, ⟨(({ U with heap := s₂.heap, slotsUsed := s₂.slotsUsed } : State).setVm s₂.vm), Ls ++ L, c0 + mc, s0 + ms⟩,
      ⟨X.admits, X.cas, X.clock, X.frames, X.room, X.hears, X.method, X.code, (X.here.setHeapUsed s₂.heap s₂.slotsUsed).setVm hW'.alike, X.tail, State.WarmedH.trans X.warmed hW', X.limits, X.bytes, X.same.trans (hsame.setVm s.vm)⟩,
      ⟨g, mk, s₂, L, rfl, rfl, hqc, rfl, hL, rfl, rfl⟩, ?_⟩
    show Steps p.tables e below _ ((({ U with heap := s₂.heap, slotsUsed := s₂.slotsUsed } : State).setVm s₂.vm).setTop { g with pc := g.pc + len₂, stack := v.toList ++ g.stack })
    rw [← hs₂]
    exact hsteps
  · obtain ⟨e2, q2, q3, q4, q5, q6⟩ := id hsm
    have e3 : s₂ = ({ (U.calling g mk a).setFrames s₂.frames with heap := s₂.heap, slotsUsed := s₂.slotsUsed } : State).setVm s₂.vm := by
      have : s₂ = ({ s₂ with vm := (U.calling g mk a).vm } : State).setVm s₂.vm := rfl
      rw [e2] at this
      exact this
    have hf₂ : s₂.frames = .throwing q :: .java g :: U.frames.tail := hend
    have hW' : U.WarmedH s₂.vm := hW₂
    have hs₂ : s₂ = ((({ U with heap := s₂.heap, slotsUsed := s₂.slotsUsed } : State).setVm s₂.vm).setTop g).pushFrame (.throwing q) := by
      refine e3.trans ?_
      rw [hf₂, State.calling_eq h.top, State.setFrames_setFrames, State.pushFrame, State.frames_setTop _ hr', State.setTop_of_frames _ hr', State.setFrames_setFrames, hr]
      rfl
    have hsame : U.sameButNew ({ U with heap := s₂.heap, slotsUsed := s₂.slotsUsed } : State) L mc ms := by
      refine ⟨?_, q2, q3, q4, q5, q6⟩
      obtain ⟨t, ht, -⟩ := State.frames_cons hr
      show ({ U with heap := s₂.heap, slotsUsed := s₂.slotsUsed } : State) = { U.setFrames U.frames with heap := s₂.heap, slotsUsed := s₂.slotsUsed }
      rw [State.setFrames_self ht]
    subst hg
    refine Or.inr ⟨q, ⟨(({ U with heap := s₂.heap, slotsUsed := s₂.slotsUsed } : State).setVm s₂.vm), Ls ++ L, c0 + mc, s0 + ms⟩,
      ⟨X.admits, X.cas, X.clock, X.frames, X.room, X.hears, X.method, X.code, (X.here.setHeapUsed s₂.heap s₂.slotsUsed).setVm hW'.alike, X.tail, State.WarmedH.trans X.warmed hW', X.limits, X.bytes, X.same.trans (hsame.setVm s.vm)⟩,
      ⟨g, mk, s₂, L, E, ce, rfl, rfl, hx, hce, hcv, hcl, rfl, hL, rfl, rfl⟩, ?_⟩
    show Steps p.tables e below _ (((({ U with heap := s₂.heap, slotsUsed := s₂.slotsUsed } : State).setVm s₂.vm).setTop g).pushFrame (.throwing q))
    rw [← hs₂]
    exact hsteps
end
variable {p : Program} {l : Launch} {e : Env} {R : Room} {s : State} {m : MethodId} {args : Array Value} {below : List Frame} {meth : Method} {c : Code} {T : State} {H : Heap} {locs : List Loc} {cells slots : Nat}
theorem vx_callVX (X : Stand p l e R s m args below meth c T locs cells slots) (hexec : p.tables.exec = Jvm.exec) {own C : String} {index : Nat} {y : MethodName} {bytes : ByteArray} {maxL : Nat} {ret : Option FieldType} {hh : List (Nat × Nat × Nat × Nat)}
    (hown : s.vm.findClass own = some m.cls) (hlink : (Cond.methodLink own index y).before args s = true) (hinst : (Cond.instanceMethod y).before args s = true) (hsel : (Cond.selects C y y).before args s = true)
    (hcode : (Cond.codeWith y bytes maxL ret hh).before args s = true) (hy : y.cls ≠ "java/lang/invoke/MethodHandle" ∧ y.cls ≠ "java/lang/invoke/VarHandle")
    {W9 : Nat} {Pre : Pt → Array Value → Prop} {Post : Pt → Array Value → Option Value → Pt → Prop} {PostX : Pt → Array Value → Addr → Pt → Prop} (hK : vx_Back l R p e below s args y 3 W9 Pre Post PostX)
    {b : Addr} {cellB : Cell} (hcell : T.heap[b]? = some cellB) (hobj : cellB.vm.isStatics = false) (hcls : s.vm.findClass C = some cellB.cls)
    {g : JFrame} (hg : g.method = m) (hsize : g.locals.size = c.maxLocals) {argsL rest : List Value} (hlen : ∀ sig, parseMethodDescriptor y.desc = some sig → argsL.length = sig.parameters.length)
    (hstack : g.stack = argsL.reverse ++ .ref b :: rest) (hW : 2 * g.monitorRoom + (rest.map fun v => v.category).sum ≤ W9) (hdg : decode c.code g.pc = .ok (.invokevirtual index, 3))
    (hpre : ∀ vm₁, s.WarmedH vm₁ → Pre ⟨T.setVm vm₁, locs, cells, slots⟩ (Value.ref b :: argsL).toArray) :
    (∃ (v : Option Value) (vm₁ : Vm) (B : Pt), s.WarmedH vm₁ ∧ Stand p l e R s m args below meth c B.U B.locs B.cells B.slots ∧ Post ⟨T.setVm vm₁, locs, cells, slots⟩ (Value.ref b :: argsL).toArray v B ∧
      ∀ target, Steps p.tables e below (B.U.setTop { g with pc := g.pc + 3, stack := v.toList ++ rest }) target → Steps p.tables e below (T.setTop g) target) ∨
    (∃ (q : Addr) (vm₁ : Vm) (B : Pt), s.WarmedH vm₁ ∧ Stand p l e R s m args below meth c B.U B.locs B.cells B.slots ∧ PostX ⟨T.setVm vm₁, locs, cells, slots⟩ (Value.ref b :: argsL).toArray q B ∧
      Steps p.tables e below (T.setTop g) ((B.U.setTop { g with stack := rest }).pushFrame (.throwing q))) := by
  obtain ⟨mk, methM, hnamed, hmethM, hstM, habM⟩ := Cond.instanceMethod_spec hinst
  obtain ⟨m8, methM', cM, hn8, hmethM', -, -, -, -, -, -, hsigM⟩ := Cond.codeWith_spec hcode
  cases Option.some.inj (hn8.symm.trans hnamed)
  cases hmethM.symm.trans hmethM'
  obtain ⟨c2, r2, m2, q1, q2, q3, q4, kP, hkP, hkPi⟩ := Cond.selects_spec hsel
  cases hcls.symm.trans q1
  cases (State.methodFound?_of_named hnamed hy).symm.trans q2
  cases hnamed.symm.trans q3
  have hselP : selectMethod e.platform s.vm cellB.cls mk = .method mk := by rw [Launch.admits_selectMethod X.admits]; exact q4
  obtain ⟨vm₁, X₁, hstep₁⟩ := X.invokevirtual hexec hown hlink hnamed hmethM hstM hkP hkPi hy (a := b) (cell := cellB) hcell
    (fun z h => by rw [h] at hobj; cases hobj) hselP hmethM habM hkP hkPi (g := g) hg (argsL := argsL) (rest := rest) (hlen _ hsigM) hstack hdg
  rcases hK m meth c ⟨T.setVm vm₁, locs, cells, slots⟩ { g with stack := rest } (.invokevirtual index) mk (Value.ref b :: argsL).toArray X₁ hg hsize hdg hW (X₁.named hnamed) (hpre vm₁ X₁.warmed) with ⟨v, B, X', hpost, hsteps⟩ | ⟨q, B, X', hpost, hsteps⟩
  · exact Or.inl ⟨v, vm₁, B, X₁.warmed, X', hpost, fun target h => hstep₁ _ fun acts => by rw [doInvoke_state]; exact hsteps.trans h⟩
  · exact Or.inr ⟨q, vm₁, B, X₁.warmed, X', hpost, hstep₁ _ fun acts => by rw [doInvoke_state]; exact hsteps⟩
theorem vx_callSX (X : Stand p l e R s m args below meth c T locs cells slots) (hexec : p.tables.exec = Jvm.exec) {own : String} {index : Nat} {y : MethodName} {bytes : ByteArray} {maxL : Nat} {ret : Option FieldType} {hh : List (Nat × Nat × Nat × Nat)}
    (hown : s.vm.findClass own = some m.cls) (hlink : (Cond.methodLink own index y).before args s = true) (hstat : (Cond.static y).before args s = true) (hinit : (Cond.initialized y.cls).before args s = true)
    (hcode : (Cond.codeWith y bytes maxL ret hh).before args s = true) (hy : y.cls ≠ "java/lang/invoke/MethodHandle" ∧ y.cls ≠ "java/lang/invoke/VarHandle")
    {W9 : Nat} {Pre : Pt → Array Value → Prop} {Post : Pt → Array Value → Option Value → Pt → Prop} {PostX : Pt → Array Value → Addr → Pt → Prop} (hK : vx_Back l R p e below s args y 3 W9 Pre Post PostX)
    {g : JFrame} (hg : g.method = m) (hsize : g.locals.size = c.maxLocals) {argsL rest : List Value} (hlen : ∀ sig, parseMethodDescriptor y.desc = some sig → argsL.length = sig.parameters.length)
    (hstack : g.stack = argsL.reverse ++ rest) (hW : 2 * g.monitorRoom + (rest.map fun v => v.category).sum ≤ W9) (hdg : decode c.code g.pc = .ok (.invokestatic index, 3))
    (hpre : ∀ vm₁, s.WarmedH vm₁ → Pre ⟨T.setVm vm₁, locs, cells, slots⟩ argsL.toArray) :
    (∃ (v : Option Value) (vm₁ : Vm) (B : Pt), s.WarmedH vm₁ ∧ Stand p l e R s m args below meth c B.U B.locs B.cells B.slots ∧ Post ⟨T.setVm vm₁, locs, cells, slots⟩ argsL.toArray v B ∧
      ∀ target, Steps p.tables e below (B.U.setTop { g with pc := g.pc + 3, stack := v.toList ++ rest }) target → Steps p.tables e below (T.setTop g) target) ∨
    (∃ (q : Addr) (vm₁ : Vm) (B : Pt), s.WarmedH vm₁ ∧ Stand p l e R s m args below meth c B.U B.locs B.cells B.slots ∧ PostX ⟨T.setVm vm₁, locs, cells, slots⟩ argsL.toArray q B ∧
      Steps p.tables e below (T.setTop g) ((B.U.setTop { g with stack := rest }).pushFrame (.throwing q))) := by
  obtain ⟨mk, methM, cM, hnamed, hmethM, -, -, -, -, -, -, hsigM⟩ := Cond.codeWith_spec hcode
  have hstatic : methM.isStatic = true := Cond.static_spec hnamed hmethM hstat
  obtain ⟨kP, hkP, -⟩ := className_of_methodNamed hnamed
  have hinitP : kP.init = .initialized := Cond.initialized_spec (findClass_of_methodNamed hnamed) hkP hinit
  obtain ⟨vm₁, X₁, hstep₁⟩ := X.invokestatic hexec hown hlink hnamed hmethM hstatic hkP hinitP hy (g := g) hg (argsL := argsL) (rest := rest) (hlen _ hsigM) hstack hdg
  rcases hK m meth c ⟨T.setVm vm₁, locs, cells, slots⟩ { g with stack := rest } (.invokestatic index) mk argsL.toArray X₁ hg hsize hdg hW (X₁.named hnamed) (hpre vm₁ X₁.warmed) with ⟨v, B, X', hpost, hsteps⟩ | ⟨q, B, X', hpost, hsteps⟩
  · exact Or.inl ⟨v, vm₁, B, X₁.warmed, X', hpost, fun target h => hstep₁ _ fun acts => by rw [doInvoke_state]; exact hsteps.trans h⟩
  · exact Or.inr ⟨q, vm₁, B, X₁.warmed, X', hpost, hstep₁ _ fun acts => by rw [doInvoke_state]; exact hsteps⟩
theorem vx_callVW (X : Stand p l e R s m args below meth c T locs cells slots) (hexec : p.tables.exec = Jvm.exec) {own C : String} {index : Nat} {y : MethodName} {bytes : ByteArray} {maxL : Nat} {ret : Option FieldType} {hh : List (Nat × Nat × Nat × Nat)}
    (hown : s.vm.findClass own = some m.cls) (hlink : (Cond.methodLink own index y).before args s = true) (hinst : (Cond.instanceMethod y).before args s = true) (hsel : (Cond.selects C y y).before args s = true)
    (hcode : (Cond.codeWith y bytes maxL ret hh).before args s = true) (hy : y.cls ≠ "java/lang/invoke/MethodHandle" ∧ y.cls ≠ "java/lang/invoke/VarHandle")
    {W9 : Nat} {Pre : Pt → Array Value → Prop} {Post : Pt → Array Value → Option Value → Pt → Prop} (hK : Back l R p e below s args y 3 W9 Pre Post)
    {b : Addr} {cellB : Cell} (hcell : T.heap[b]? = some cellB) (hobj : cellB.vm.isStatics = false) (hcls : s.vm.findClass C = some cellB.cls)
    {g : JFrame} (hg : g.method = m) (hsize : g.locals.size = c.maxLocals) {argsL rest : List Value} (hlen : ∀ sig, parseMethodDescriptor y.desc = some sig → argsL.length = sig.parameters.length)
    (hstack : g.stack = argsL.reverse ++ .ref b :: rest) (hW : 2 * g.monitorRoom + (rest.map fun v => v.category).sum ≤ W9) (hdg : decode c.code g.pc = .ok (.invokevirtual index, 3))
    (hpre : ∀ vm₁, s.WarmedH vm₁ → Pre ⟨T.setVm vm₁, locs, cells, slots⟩ (Value.ref b :: argsL).toArray) :
    ∃ (v : Option Value) (vm₁ : Vm) (B : Pt), s.WarmedH vm₁ ∧ Stand p l e R s m args below meth c B.U B.locs B.cells B.slots ∧ Post ⟨T.setVm vm₁, locs, cells, slots⟩ (Value.ref b :: argsL).toArray v B ∧
      ∀ target, Steps p.tables e below (B.U.setTop { g with pc := g.pc + 3, stack := v.toList ++ rest }) target → Steps p.tables e below (T.setTop g) target := by
  obtain ⟨mk, methM, hnamed, hmethM, hstM, habM⟩ := Cond.instanceMethod_spec hinst
  obtain ⟨m8, methM', cM, hn8, hmethM', -, -, -, -, -, -, hsigM⟩ := Cond.codeWith_spec hcode
  cases Option.some.inj (hn8.symm.trans hnamed)
  cases hmethM.symm.trans hmethM'
  obtain ⟨c2, r2, m2, q1, q2, q3, q4, kP, hkP, hkPi⟩ := Cond.selects_spec hsel
  cases hcls.symm.trans q1
  cases (State.methodFound?_of_named hnamed hy).symm.trans q2
  cases hnamed.symm.trans q3
  have hselP : selectMethod e.platform s.vm cellB.cls mk = .method mk := by rw [Launch.admits_selectMethod X.admits]; exact q4
  obtain ⟨vm₁, X₁, hstep₁⟩ := X.invokevirtual hexec hown hlink hnamed hmethM hstM hkP hkPi hy (a := b) (cell := cellB) hcell
    (fun z h => by rw [h] at hobj; cases hobj) hselP hmethM habM hkP hkPi (g := g) hg (argsL := argsL) (rest := rest) (hlen _ hsigM) hstack hdg
  obtain ⟨v, B, X', hpost, hsteps⟩ := hK m meth c ⟨T.setVm vm₁, locs, cells, slots⟩ { g with stack := rest } (.invokevirtual index) mk (Value.ref b :: argsL).toArray X₁ hg hsize hdg hW (X₁.named hnamed) (hpre vm₁ X₁.warmed)
  exact ⟨v, vm₁, B, X₁.warmed, X', hpost, fun target h => hstep₁ _ fun acts => by rw [doInvoke_state]; exact hsteps.trans h⟩
abbrev vx_CVW (R : Room) (s : State) (args : Array Value) (own C : String) (index : Nat) (y : MethodName) (bytes : ByteArray) (maxL : Nat) (ret : Option FieldType) (hh : List (Nat × Nat × Nat × Nat)) (ws : List Cond) (rm : Room) (mc ms n : Nat) : Prop :=
  (rm.cells = mc ∧ rm.slots = ms ∧ rm.frames + 1 ≤ R.frames ∧ 8 + (maxL + 11) + rm.locals ≤ R.locals ∧ (∀ w ∈ ws, ∀ (a' : Array Value) (U : State), s.WarmedH U.vm → w.before a' U = true) ∧ Cond.codeWith y bytes maxL ret hh ∈ ws) ∧
  (Cond.codeWith y bytes maxL ret hh).before args s = true ∧ (Cond.initialized y.cls).before args s = true ∧ (y.cls ≠ "java/lang/invoke/MethodHandle" ∧ y.cls ≠ "java/lang/invoke/VarHandle") ∧
  (∀ sig, parseMethodDescriptor y.desc = some sig → n = sig.parameters.length) ∧ (Cond.methodLink own index y).before args s = true ∧ (Cond.instanceMethod y).before args s = true ∧ (Cond.selects C y y).before args s = true
theorem vx_cwVW {own C : String} {index maxL mc ms : Nat} {y : MethodName} {bytes : ByteArray} {ret : Option FieldType} {hh : List (Nat × Nat × Nat × Nat)} {Ts ws ws' : List Cond} {rm : Room} (n : Nat) (ht : ∀ w ∈ Ts, w.before args s = true) (hT : GoodIn Ts (wsV own index C y ws)) (hw : ws = Cond.codeWith y bytes maxL ret hh :: ws') (hrc : rm.cells = mc) (hrs : rm.slots = ms)
    (hd : y.cls = C ∧ y.cls ≠ "java/lang/invoke/MethodHandle" ∧ y.cls ≠ "java/lang/invoke/VarHandle" ∧ (parseMethodDescriptor y.desc).map (fun d => d.parameters.length) = some n) (hR : rm.frames + 1 ≤ R.frames ∧ 8 + (maxL + 11) + rm.locals ≤ R.locals) :
    vx_CVW R s args own C index y bytes maxL ret hh ws rm mc ms n := by
  obtain ⟨hC, hd⟩ := hd
  subst hC
  have ok : ∀ w ∈ wsV own index y.cls y ws, w.before args s = true := fun w h => ht w (hT w h).1
  have hG : GoodIn Ts ws := fun w h => hT w (by unfold wsV; exact List.mem_append_right _ h)
  have hc : Cond.codeWith y bytes maxL ret hh ∈ ws := by rw [hw]; exact List.mem_cons_self
  refine ⟨⟨hrc, hrs, hR.1, hR.2, pay_in ht hG, hc⟩, ht _ (hG _ hc).1, ok _ (by simp [wsV]), ⟨hd.1, hd.2.1⟩, fun sig h => ?_, ok _ (by simp [wsV]), ok _ (by simp [wsV]), ok _ (by simp [wsV])⟩
  have h2 := hd.2.2
  rw [h] at h2
  exact (Option.some.inj h2).symm
theorem vx_runVW {y : MethodName} {bytes cc : ByteArray} {maxL nL mc ms n index : Nat} {ret : Option FieldType} {hh : List (Nat × Nat × Nat × Nat)} {ws : List Cond} {rm : Room} {Pc : Array Value → State → Prop} {Qc : Array Value → State → Outcome → State → Prop} {free : Addr → Prop} {Ts : List Cond} {own C : String} {b : Addr} {As rest : List Value} {g : JFrame}
    (S : CallFix p m c cc nL s args Ts own) (hM : Met l y ws rm Pc Qc mc ms free) (cw : vx_CVW R s args own C index y bytes maxL ret hh ws rm mc ms n) (hp : PreV s H C b Pc As)
    (hg : g.method = m) (hn : As.length = n) (hsize : g.locals.size = nL) (hstack : g.stack = As.reverse ++ .ref b :: rest) (hW : 2 * g.monitorRoom + (rest.map fun v => v.category).sum ≤ 8) (hdg : decode cc g.pc = .ok (.invokevirtual index, 3)) (hf : cells + mc ≤ R.cells ∧ slots + ms ≤ R.slots) :
    va_Run p l e R s m args below meth c H locs cells slots mc ms g rest (Qc (Value.ref b :: As).toArray) free := by
  obtain ⟨⟨hrc, hrs, hfr, hlo, hws, hcw⟩, hcode, hini, hy, hlen, hl, hin, hse⟩ := cw
  have hK : Back l R p e below s args y 3 8 (PreOf R mc ms Pc) (PostOf Qc mc ms free) := va_backW (hh := hh) (bytes := bytes) (maxL := maxL) (ret := ret) hM hp.1 hrc hrs hfr hlo hws hcw (fun a' U hW => word_at hW (Or.inl (by first | rfl | simp [Cond.onTables, Cond.keeps, Cond.steady])) hini)
  obtain ⟨hx, hb, hml, ho, -⟩ := S
  obtain ⟨-, ⟨cellB, hcB, hoB, hclB⟩, hPc⟩ := hp
  intro T hT X
  obtain ⟨v, vm₁, ⟨U', l2, c2, s2⟩, hW₁, X', ⟨g', mk, t, L, e1, e2, hq, h1, hL, h2, h3⟩, st⟩ := vx_callVW X hx (C := C) (hh := hh) (bytes := bytes) (maxL := maxL) (ret := ret) ho hl hin hse hcode hy hK (by rw [hT]; exact hcB) hoB hclB hg (hsize.trans hml.symm) (argsL := As) (rest := rest) (fun sig h => hn.trans (hlen sig h)) hstack hW (by rw [hb]; exact hdg)
    (fun vm₁ hW₁ => ⟨hf.1, hf.2, hPc (T.setVm vm₁) hT hW₁⟩)
  dsimp only [Pt.U, Pt.locs, Pt.cells, Pt.slots] at X' e1 e2 h1 h2 h3 st
  subst h1; subst h2; subst h3
  exact ⟨v, (T.setVm vm₁).calling g' mk (Value.ref b :: As).toArray, t, U', L, hT, X', hL, e1, e2, hq, st⟩
section
variable {y : MethodName} {bytes cc : ByteArray} {maxL nL mc ms n index : Nat} {ret : Option FieldType} {ws : List Cond} {rm : Room} {Pc : Array Value → State → Prop} {Qc : Array Value → State → Outcome → State → Prop} {XC : String → State → State → Prop} {free : Addr → Prop} {Ts : List Cond} {own C : String} {b : Addr} {As rest : List Value} {g : JFrame}
theorem vx_runVX {hh : List (Nat × Nat × Nat × Nat)} (S : CallFix p m c cc nL s args Ts own) (hM : vx_Met l y ws rm Pc Qc XC mc ms free) (cw : vx_CVW R s args own C index y bytes maxL ret hh ws rm mc ms n) (hp : PreV s H C b Pc As)
    (hg : g.method = m) (hn : As.length = n) (hsize : g.locals.size = nL) (hstack : g.stack = As.reverse ++ .ref b :: rest) (hW : 2 * g.monitorRoom + (rest.map fun v => v.category).sum ≤ 8) (hdg : decode cc g.pc = .ok (.invokevirtual index, 3)) (hf : cells + mc ≤ R.cells ∧ slots + ms ≤ R.slots) :
    vx_Run p l e R s m args below meth c H locs cells slots mc ms g rest (Qc (Value.ref b :: As).toArray) XC free := by
  obtain ⟨⟨hrc, hrs, hfr, hlo, hws, hcw⟩, hcode, hini, hy, hlen, hl, hin, hse⟩ := cw
  have hK : vx_Back l R p e below s args y 3 8 (PreOf R mc ms Pc) (PostOf Qc mc ms free) (vx_Post XC mc ms free) := vx_backW (hh := hh) (bytes := bytes) (maxL := maxL) (ret := ret) hM hp.1 hrc hrs hfr hlo hws hcw (fun a' U hW => word_at hW (Or.inl (by first | rfl | simp [Cond.onTables, Cond.keeps, Cond.steady])) hini)
  obtain ⟨hx, hb, hml, ho, -⟩ := S
  obtain ⟨-, ⟨cellB, hcB, hoB, hclB⟩, hPc⟩ := hp
  intro T hT X
  rcases vx_callVX X hx (C := C) (hh := hh) (bytes := bytes) (maxL := maxL) (ret := ret) ho hl hin hse hcode hy hK (by rw [hT]; exact hcB) hoB hclB hg (hsize.trans hml.symm) (argsL := As) (rest := rest) (fun sig h => hn.trans (hlen sig h)) hstack hW (by rw [hb]; exact hdg)
    (fun vm₁ hW₁ => ⟨hf.1, hf.2, hPc (T.setVm vm₁) hT hW₁⟩) with ⟨v, vm₁, ⟨U', l2, c2, s2⟩, hW₁, X', ⟨g', mk, t, L, e1, e2, hq, h1, hL, h2, h3⟩, st⟩ | ⟨q, vm₁, ⟨U', l2, c2, s2⟩, hW₁, X', ⟨g', mk, t, L, E, ce, e1, e2, hq, hce, hcv, hcl, h1, hL, h2, h3⟩, st⟩
  · dsimp only [Pt.U, Pt.locs, Pt.cells, Pt.slots] at X' e1 e2 h1 h2 h3 st
    subst h1; subst h2; subst h3
    exact Or.inl ⟨v, (T.setVm vm₁).calling g' mk (Value.ref b :: As).toArray, t, U', L, hT, X', hL, e1, e2, hq, st⟩
  · dsimp only [Pt.U, Pt.locs, Pt.cells, Pt.slots] at X' e1 e2 h1 h2 h3 st hcl
    subst h1; subst h2; subst h3
    exact Or.inr ⟨q, (T.setVm vm₁).calling g' mk (Value.ref b :: As).toArray, t, U', L, E, ce, hT, X', hL, e1, e2, hq, hce, hcv, vx_cls hW₁ hcl, st⟩
theorem vx_runSX {hh : List (Nat × Nat × Nat × Nat)} (S : CallFix p m c cc nL s args Ts own) (hM : vx_Met l y ws rm Pc Qc XC mc ms free) (cw : vx_CSW R s args own index y bytes maxL ret hh ws rm mc ms n) (hp : PreS s H Pc As)
    (hg : g.method = m) (hn : As.length = n) (hsize : g.locals.size = nL) (hstack : g.stack = As.reverse ++ rest) (hW : 2 * g.monitorRoom + (rest.map fun v => v.category).sum ≤ 8) (hdg : decode cc g.pc = .ok (.invokestatic index, 3)) (hf : cells + mc ≤ R.cells ∧ slots + ms ≤ R.slots) :
    vx_Run p l e R s m args below meth c H locs cells slots mc ms g rest (Qc As.toArray) XC free := by
  obtain ⟨⟨hrc, hrs, hfr, hlo, hws, hcw⟩, hcode, hini, hy, hlen, hl, hstt⟩ := cw
  have hK : vx_Back l R p e below s args y 3 8 (PreOf R mc ms Pc) (PostOf Qc mc ms free) (vx_Post XC mc ms free) := vx_backW (hh := hh) (bytes := bytes) (maxL := maxL) (ret := ret) hM hp.1 hrc hrs hfr hlo hws hcw (fun a' U hW => word_at hW (Or.inl (by first | rfl | simp [Cond.onTables, Cond.keeps, Cond.steady])) hini)
  obtain ⟨hx, hb, hml, ho, -⟩ := S
  intro T hT X
  rcases vx_callSX X hx (hh := hh) (bytes := bytes) (maxL := maxL) (ret := ret) ho hl hstt hini hcode hy hK hg (hsize.trans hml.symm) (argsL := As) (rest := rest) (fun sig h => hn.trans (hlen sig h)) hstack hW (by rw [hb]; exact hdg)
    (fun vm₁ hW₁ => ⟨hf.1, hf.2, hp.2 (T.setVm vm₁) hT hW₁⟩) with ⟨v, vm₁, ⟨U', l2, c2, s2⟩, hW₁, X', ⟨g', mk, t, L, e1, e2, hq, h1, hL, h2, h3⟩, st⟩ | ⟨q, vm₁, ⟨U', l2, c2, s2⟩, hW₁, X', ⟨g', mk, t, L, E, ce, e1, e2, hq, hce, hcv, hcl, h1, hL, h2, h3⟩, st⟩
  · dsimp only [Pt.U, Pt.locs, Pt.cells, Pt.slots] at X' e1 e2 h1 h2 h3 st
    subst h1; subst h2; subst h3
    exact Or.inl ⟨v, (T.setVm vm₁).calling g' mk As.toArray, t, U', L, hT, X', hL, e1, e2, hq, st⟩
  · dsimp only [Pt.U, Pt.locs, Pt.cells, Pt.slots] at X' e1 e2 h1 h2 h3 st hcl
    subst h1; subst h2; subst h3
    exact Or.inr ⟨q, (T.setVm vm₁).calling g' mk As.toArray, t, U', L, E, ce, hT, X', hL, e1, e2, hq, hce, hcv, vx_cls hW₁ hcl, st⟩
end
end VXH
theorem vx_ofWH {l : Launch} {y : MethodName} {ws ws' : List Cond} {rm : Room} {Pc : Array Value → State → Prop} {Qc : Array Value → State → Outcome → State → Prop} {XC : String → State → State → Prop} {mc ms : Nat} {free : Addr → Prop} {cc : ByteArray} {maxL : Nat} {ret : Option FieldType} {hh : List (Nat × Nat × Nat × Nat)}
    (hy : plainName y.cls = true) (hw : ws = Cond.codeWith y cc maxL ret hh :: ws')
    (body : ∀ p e s m args below meth c s₁, BodyLoose p l y (headSpec ws rm) cc maxL ret e s m args below meth c s₁ → c.maxLocals = maxL → Pc args s →
      W p l e (headSpec ws rm).room s m args below meth c s.heap [] 0 0 (vx_MQ below Qc XC args s mc ms free) (entryFrame m args maxL)) : vx_Met l y ws rm Pc Qc XC mc ms free := by
  refine MetFree.of_bodyS (code := cc) (maxLocals := maxL) (ret := ret) hy ?_ ?_
  · intro args s m h hn
    obtain ⟨m9, meth, c, hn9, h1, h2, h3, h4, -, h5, h6, -⟩ := Cond.codeWith_spec (atoms_spec (ws := ws) h _ (by rw [hw]; exact List.mem_cons_self))
    cases hn.symm.trans hn9
    exact ⟨meth, c, h1, h2, h3, h4, h5, h6⟩
  · intro p e s m args below meth c s₁ B hml hP _
    have hh0 : s₁.heap = s.heap := by rw [B.state]; rfl
    obtain ⟨t, a1, o, b1, b2, b3⟩ := body p e s m args below meth c s₁ B hml hP s₁ hh0 (Stand.of_body B)
    exact ⟨t, o, a1, b1, b2, b3⟩
/-! ===== END ===== -/
end
section
/-! ===== BEGIN printed: names, fields, word lists, decode rows ===== -/
def RX0 : String := "UndoWorks$Data"
def TX0 : u_T := fun k => match k with
  | 0 => ("UndoWorks$Data", "numbers", "[I", true)
  | 1 => ("UndoWorks$Data", "row", "[I", true)
  | 2 => ("UndoWorks$Data", "places", "I", false)
  | 3 => ("UndoWorks$Data", "held", "[I", true)
  | 4 => ("UndoWorks$Data", "counters", "[I", true)
  | 5 => ("UndoWorks$Data", "log", "[I", true)
  | _ => ("UndoWorks$Data", "notes", "I", false)
def tyX0 : Nat → FieldType := fun k => match k with
  | 0 => .array .int
  | 1 => .array .int
  | 2 => .int
  | 3 => .array .int
  | 4 => .array .int
  | 5 => .array .int
  | _ => .int
abbrev wsX00 : List Cond := u_ws RX0 TX0 7
theorem nmX0 : ∀ a, a < 7 → ∀ b, b < 7 → a ≠ b → (TX0 a).2.1 ≠ (TX0 b).2.1 := by decide +kernel
theorem tyX0_ok : ∀ k, k < 7 → parseFieldDescriptor (TX0 k).2.2.1 = some (tyX0 k) := by decide +kernel
abbrev cX0_init : ByteArray := prog_2_method_1_code
def yX0_init : MethodName := ⟨RX0, "<init>", "()V"⟩
abbrev cX0_hasPlace : ByteArray := prog_2_method_2_code
def yX0_hasPlace : MethodName := ⟨RX0, "hasPlace", "(I)Z"⟩
abbrev cX0_takeNote : ByteArray := prog_2_method_3_code
def yX0_takeNote : MethodName := ⟨RX0, "takeNote", "(I)V"⟩
abbrev cX0_makeRow : ByteArray := prog_2_method_4_code
def yX0_makeRow : MethodName := ⟨RX0, "makeRow", "(I)V"⟩
def RX1 : String := "UndoWorks$UndoList"
def TX1 : u_T := fun k => match k with
  | 0 => ("UndoWorks$UndoList", "sort", "[I", true)
  | 1 => ("UndoWorks$UndoList", "where", "[I", true)
  | 2 => ("UndoWorks$UndoList", "was", "[I", true)
  | 3 => ("UndoWorks$UndoList", "wasHeld", "[I", true)
  | 4 => ("UndoWorks$UndoList", "wasRow", "[I", true)
  | 5 => ("UndoWorks$UndoList", "size", "I", false)
  | 6 => ("UndoWorks$UndoList", "scope", "I", false)
  | 7 => ("UndoWorks$UndoList", "undone", "I", false)
  | _ => ("UndoWorks$UndoList", "lost", "I", false)
def tyX1 : Nat → FieldType := fun k => match k with
  | 0 => .array .int
  | 1 => .array .int
  | 2 => .array .int
  | 3 => .array .int
  | 4 => .array .int
  | 5 => .int
  | 6 => .int
  | 7 => .int
  | _ => .int
abbrev wsX10 : List Cond := u_ws RX1 TX1 9
theorem nmX1 : ∀ a, a < 9 → ∀ b, b < 9 → a ≠ b → (TX1 a).2.1 ≠ (TX1 b).2.1 := by decide +kernel
theorem tyX1_ok : ∀ k, k < 9 → parseFieldDescriptor (TX1 k).2.2.1 = some (tyX1 k) := by decide +kernel
abbrev cX1_init : ByteArray := prog_3_method_1_code
def yX1_init : MethodName := ⟨RX1, "<init>", "()V"⟩
abbrev cX1_enterScope : ByteArray := prog_3_method_2_code
def yX1_enterScope : MethodName := ⟨RX1, "enterScope", "()I"⟩
abbrev cX1_leaveScope : ByteArray := prog_3_method_3_code
def yX1_leaveScope : MethodName := ⟨RX1, "leaveScope", "(I)V"⟩
abbrev cX1_keep : ByteArray := prog_3_method_4_code
def yX1_keep : MethodName := ⟨RX1, "keep", "()V"⟩
abbrev cX1_remember : ByteArray := prog_3_method_5_code
def yX1_remember : MethodName := ⟨RX1, "remember", "(III)V"⟩
abbrev cX1_rememberRow : ByteArray := prog_3_method_6_code
def yX1_rememberRow : MethodName := ⟨RX1, "rememberRow", "(LUndoWorks$Data;)V"⟩
abbrev cX1_rememberSlot : ByteArray := prog_3_method_7_code
def yX1_rememberSlot : MethodName := ⟨RX1, "rememberSlot", "(ILUndoWorks$Data;)V"⟩
abbrev cX1_undoScope : ByteArray := prog_3_method_8_code
def yX1_undoScope : MethodName := ⟨RX1, "undoScope", "(LUndoWorks$Data;)V"⟩
abbrev cX1_hasRoom : ByteArray := prog_3_method_9_code
def yX1_hasRoom : MethodName := ⟨RX1, "hasRoom", "()Z"⟩
abbrev cX1_undoAt : ByteArray := prog_3_method_10_code
def yX1_undoAt : MethodName := ⟨RX1, "undoAt", "(ILUndoWorks$Data;)V"⟩
def RX2 : String := "UndoWorks$Workflow"
def TX2 : u_T := fun k => match k with
  | 0 => ("UndoWorks$Workflow", "sort", "[I", true)
  | 1 => ("UndoWorks$Workflow", "a", "[I", true)
  | 2 => ("UndoWorks$Workflow", "b", "[I", true)
  | 3 => ("UndoWorks$Workflow", "partEnd", "[I", true)
  | 4 => ("UndoWorks$Workflow", "blockEnd", "[I", true)
  | 5 => ("UndoWorks$Workflow", "openBlock", "[I", true)
  | 6 => ("UndoWorks$Workflow", "openPart", "[I", true)
  | 7 => ("UndoWorks$Workflow", "open", "I", false)
  | _ => ("UndoWorks$Workflow", "size", "I", false)
def tyX2 : Nat → FieldType := fun k => match k with
  | 0 => .array .int
  | 1 => .array .int
  | 2 => .array .int
  | 3 => .array .int
  | 4 => .array .int
  | 5 => .array .int
  | 6 => .array .int
  | 7 => .int
  | _ => .int
abbrev wsX20 : List Cond := u_ws RX2 TX2 9
theorem nmX2 : ∀ a, a < 9 → ∀ b, b < 9 → a ≠ b → (TX2 a).2.1 ≠ (TX2 b).2.1 := by decide +kernel
theorem tyX2_ok : ∀ k, k < 9 → parseFieldDescriptor (TX2 k).2.2.1 = some (tyX2 k) := by decide +kernel
abbrev cX2_init : ByteArray := prog_4_method_1_code
def yX2_init : MethodName := ⟨RX2, "<init>", "()V"⟩
abbrev cX2_isWhole : ByteArray := prog_4_method_2_code
def yX2_isWhole : MethodName := ⟨RX2, "isWhole", "()Z"⟩
abbrev cX2_empty : ByteArray := prog_4_method_3_code
def yX2_empty : MethodName := ⟨RX2, "empty", "()V"⟩
abbrev cX2_canTake : ByteArray := prog_4_method_4_code
def yX2_canTake : MethodName := ⟨RX2, "canTake", "(II)Z"⟩
abbrev cX2_append : ByteArray := prog_4_method_5_code
def yX2_append : MethodName := ⟨RX2, "append", "(III)V"⟩
abbrev cX2_latestPart : ByteArray := prog_4_method_6_code
def yX2_latestPart : MethodName := ⟨RX2, "latestPart", "()I"⟩
abbrev cX2_openLoops : ByteArray := prog_4_method_7_code
def yX2_openLoops : MethodName := ⟨RX2, "openLoops", "()I"⟩
abbrev cX2_openAt : ByteArray := prog_4_method_8_code
def yX2_openAt : MethodName := ⟨RX2, "openAt", "(I)V"⟩
abbrev cX2_beginPartAt : ByteArray := prog_4_method_9_code
def yX2_beginPartAt : MethodName := ⟨RX2, "beginPartAt", "(I)V"⟩
abbrev cX2_closeAt : ByteArray := prog_4_method_10_code
def yX2_closeAt : MethodName := ⟨RX2, "closeAt", "(I)V"⟩
def RX3 : String := "UndoWorks"
def TX3 : u_T := fun k => match k with
  | 0 => ("UndoWorks", "workflows", "[LUndoWorks$Workflow;", true)
  | 1 => ("UndoWorks", "data", "LUndoWorks$Data;", true)
  | 2 => ("UndoWorks", "undoList", "LUndoWorks$UndoList;", true)
  | 3 => ("UndoWorks", "cost", "I", false)
  | 4 => ("UndoWorks", "latestGiven", "I", false)
  | _ => ("UndoWorks", "runs", "I", false)
def tyX3 : Nat → FieldType := fun k => match k with
  | 0 => .array (.object "UndoWorks$Workflow")
  | 1 => .object "UndoWorks$Data"
  | 2 => .object "UndoWorks$UndoList"
  | 3 => .int
  | 4 => .int
  | _ => .int
abbrev wsX30 : List Cond := u_ws RX3 TX3 6
theorem nmX3 : ∀ a, a < 6 → ∀ b, b < 6 → a ≠ b → (TX3 a).2.1 ≠ (TX3 b).2.1 := by decide +kernel
theorem tyX3_ok : ∀ k, k < 6 → parseFieldDescriptor (TX3 k).2.2.1 = some (tyX3 k) := by decide +kernel
abbrev cX3_init : ByteArray := prog_1_method_1_code
def yX3_init : MethodName := ⟨RX3, "<init>", "()V"⟩
abbrev cX3_node : ByteArray := prog_1_method_2_code
def yX3_node : MethodName := ⟨RX3, "node", "(IIII)I"⟩
abbrev cX3_clear : ByteArray := prog_1_method_3_code
def yX3_clear : MethodName := ⟨RX3, "clear", "(I)V"⟩
abbrev cX3_run : ByteArray := prog_1_method_4_code
def yX3_run : MethodName := ⟨RX3, "run", "(I)I"⟩
abbrev cX3_given : ByteArray := prog_1_method_5_code
def yX3_given : MethodName := ⟨RX3, "given", "()I"⟩
abbrev cX3_number : ByteArray := prog_1_method_6_code
def yX3_number : MethodName := ⟨RX3, "number", "(I)I"⟩
abbrev cX3_row : ByteArray := prog_1_method_7_code
def yX3_row : MethodName := ⟨RX3, "row", "(I)I"⟩
abbrev cX3_log : ByteArray := prog_1_method_8_code
def yX3_log : MethodName := ⟨RX3, "log", "(I)I"⟩
abbrev cX3_count : ByteArray := prog_1_method_9_code
def yX3_count : MethodName := ⟨RX3, "count", "(I)I"⟩
abbrev cX3_demand : ByteArray := prog_1_method_10_code
def yX3_demand : MethodName := ⟨RX3, "demand", "(Z)V"⟩
abbrev cX3_demandRange : ByteArray := prog_1_method_11_code
def yX3_demandRange : MethodName := ⟨RX3, "demandRange", "(II)V"⟩
abbrev cX3_isBelow : ByteArray := prog_1_method_12_code
def yX3_isBelow : MethodName := ⟨RX3, "isBelow", "(II)Z"⟩
abbrev cX3_allNodes : ByteArray := prog_1_method_13_code
def yX3_allNodes : MethodName := ⟨RX3, "allNodes", "()I"⟩
abbrev cX3_wayOf : ByteArray := prog_1_method_14_code
def yX3_wayOf : MethodName := ⟨RX3, "wayOf", "(II)J"⟩
abbrev cX3_howOf : ByteArray := prog_1_method_15_code
def yX3_howOf : MethodName := ⟨RX3, "howOf", "(J)I"⟩
abbrev cX3_numberOf : ByteArray := prog_1_method_16_code
def yX3_numberOf : MethodName := ⟨RX3, "numberOf", "(J)I"⟩
abbrev cX3_failing : ByteArray := prog_1_method_17_code
def yX3_failing : MethodName := ⟨RX3, "failing", "(I)J"⟩
abbrev cX3_answerOf : ByteArray := prog_1_method_18_code
def yX3_answerOf : MethodName := ⟨RX3, "answerOf", "(J)I"⟩
abbrev cX3_canPay : ByteArray := prog_1_method_19_code
def yX3_canPay : MethodName := ⟨RX3, "canPay", "()Z"⟩
abbrev cX3_doPart : ByteArray := prog_1_method_20_code
def yX3_doPart : MethodName := ⟨RX3, "doPart", "(LUndoWorks$Workflow;II)J"⟩
abbrev cX3_doNode : ByteArray := prog_1_method_21_code
def yX3_doNode : MethodName := ⟨RX3, "doNode", "(LUndoWorks$Workflow;II)J"⟩
abbrev cX3_doTry : ByteArray := prog_1_method_22_code
def yX3_doTry : MethodName := ⟨RX3, "doTry", "(LUndoWorks$Workflow;II)J"⟩
abbrev cX3_doLoop : ByteArray := prog_1_method_23_code
def yX3_doLoop : MethodName := ⟨RX3, "doLoop", "(LUndoWorks$Workflow;II)J"⟩
abbrev cX3_doScope : ByteArray := prog_1_method_24_code
def yX3_doScope : MethodName := ⟨RX3, "doScope", "(LUndoWorks$Workflow;II)J"⟩
abbrev cX3_doMute : ByteArray := prog_1_method_25_code
def yX3_doMute : MethodName := ⟨RX3, "doMute", "(LUndoWorks$Workflow;II)J"⟩
abbrev cX3_doIf : ByteArray := prog_1_method_26_code
def yX3_doIf : MethodName := ⟨RX3, "doIf", "(LUndoWorks$Workflow;II)J"⟩
abbrev cX3_doCall : ByteArray := prog_1_method_27_code
def yX3_doCall : MethodName := ⟨RX3, "doCall", "(III)J"⟩
abbrev cX3_doStep : ByteArray := prog_1_method_28_code
def yX3_doStep : MethodName := ⟨RX3, "doStep", "(III)J"⟩
abbrev cX3_doNote : ByteArray := prog_1_method_29_code
def yX3_doNote : MethodName := ⟨RX3, "doNote", "(I)J"⟩
abbrev cX3_doAdd : ByteArray := prog_1_method_30_code
def yX3_doAdd : MethodName := ⟨RX3, "doAdd", "(II)J"⟩
abbrev cX3_doSet : ByteArray := prog_1_method_31_code
def yX3_doSet : MethodName := ⟨RX3, "doSet", "(II)J"⟩
abbrev cX3_doDivide : ByteArray := prog_1_method_32_code
def yX3_doDivide : MethodName := ⟨RX3, "doDivide", "(II)J"⟩
abbrev cX3_doRead : ByteArray := prog_1_method_33_code
def yX3_doRead : MethodName := ⟨RX3, "doRead", "(II)J"⟩
abbrev cX3_doWrite : ByteArray := prog_1_method_34_code
def yX3_doWrite : MethodName := ⟨RX3, "doWrite", "(II)J"⟩
abbrev cX3_doMake : ByteArray := prog_1_method_35_code
def yX3_doMake : MethodName := ⟨RX3, "doMake", "(I)J"⟩
abbrev cX3_doHold : ByteArray := prog_1_method_36_code
def yX3_doHold : MethodName := ⟨RX3, "doHold", "(II)J"⟩
abbrev cX3_doUse : ByteArray := prog_1_method_37_code
def yX3_doUse : MethodName := ⟨RX3, "doUse", "(I)J"⟩
abbrev cX3_doKeep : ByteArray := prog_1_method_38_code
def yX3_doKeep : MethodName := ⟨RX3, "doKeep", "()J"⟩
def RX4 : String := "UndoWorksModel"
def TX4 : u_T := fun k => match k with
  | 0 => ("UndoWorksModel", "thrown", "I", false)
  | 1 => ("UndoWorksModel", "sort", "[I", true)
  | 2 => ("UndoWorksModel", "first", "[I", true)
  | 3 => ("UndoWorksModel", "second", "[I", true)
  | 4 => ("UndoWorksModel", "many", "[I", true)
  | 5 => ("UndoWorksModel", "number", "[I", true)
  | 6 => ("UndoWorksModel", "row", "[I", true)
  | 7 => ("UndoWorksModel", "places", "I", false)
  | 8 => ("UndoWorksModel", "slot", "[I", true)
  | 9 => ("UndoWorksModel", "boxKind", "[I", true)
  | 10 => ("UndoWorksModel", "boxCount", "[I", true)
  | 11 => ("UndoWorksModel", "keptKind", "[I", true)
  | 12 => ("UndoWorksModel", "keptCount", "[I", true)
  | 13 => ("UndoWorksModel", "boxes", "I", false)
  | 14 => ("UndoWorksModel", "log", "[I", true)
  | 15 => ("UndoWorksModel", "logged", "I", false)
  | 16 => ("UndoWorksModel", "cost", "I", false)
  | 17 => ("UndoWorksModel", "lost", "I", false)
  | 18 => ("UndoWorksModel", "undone", "I", false)
  | 19 => ("UndoWorksModel", "runs", "I", false)
  | 20 => ("UndoWorksModel", "given", "I", false)
  | 21 => ("UndoWorksModel", "kind", "I", false)
  | 22 => ("UndoWorksModel", "value", "I", false)
  | 23 => ("UndoWorksModel", "calls", "I", false)
  | 24 => ("UndoWorksModel", "undoSort", "[I", true)
  | 25 => ("UndoWorksModel", "undoAt", "[I", true)
  | 26 => ("UndoWorksModel", "undoWas", "[I", true)
  | 27 => ("UndoWorksModel", "undoRow", "[I", true)
  | 28 => ("UndoWorksModel", "undos", "I", false)
  | 29 => ("UndoWorksModel", "mark", "[I", true)
  | 30 => ("UndoWorksModel", "scopes", "I", false)
  | 31 => ("UndoWorksModel", "openSort", "[I", true)
  | 32 => ("UndoWorksModel", "openHead", "[I", true)
  | 33 => ("UndoWorksModel", "openEnd", "[I", true)
  | 34 => ("UndoWorksModel", "openPart", "[I", true)
  | 35 => ("UndoWorksModel", "openLeft", "[I", true)
  | 36 => ("UndoWorksModel", "heldWay", "[I", true)
  | 37 => ("UndoWorksModel", "heldKind", "[I", true)
  | 38 => ("UndoWorksModel", "heldValue", "[I", true)
  | 39 => ("UndoWorksModel", "open", "I", false)
  | 40 => ("UndoWorksModel", "at", "I", false)
  | 41 => ("UndoWorksModel", "way", "I", false)
  | _ => ("UndoWorksModel", "loops", "I", false)
def tyX4 : Nat → FieldType := fun k => match k with
  | 0 => .int
  | 1 => .array .int
  | 2 => .array .int
  | 3 => .array .int
  | 4 => .array .int
  | 5 => .array .int
  | 6 => .array .int
  | 7 => .int
  | 8 => .array .int
  | 9 => .array .int
  | 10 => .array .int
  | 11 => .array .int
  | 12 => .array .int
  | 13 => .int
  | 14 => .array .int
  | 15 => .int
  | 16 => .int
  | 17 => .int
  | 18 => .int
  | 19 => .int
  | 20 => .int
  | 21 => .int
  | 22 => .int
  | 23 => .int
  | 24 => .array .int
  | 25 => .array .int
  | 26 => .array .int
  | 27 => .array .int
  | 28 => .int
  | 29 => .array .int
  | 30 => .int
  | 31 => .array .int
  | 32 => .array .int
  | 33 => .array .int
  | 34 => .array .int
  | 35 => .array .int
  | 36 => .array .int
  | 37 => .array .int
  | 38 => .array .int
  | 39 => .int
  | 40 => .int
  | 41 => .int
  | _ => .int
abbrev wsX40 : List Cond := u_ws RX4 TX4 43
theorem nmX4 : ∀ a, a < 43 → ∀ b, b < 43 → a ≠ b → (TX4 a).2.1 ≠ (TX4 b).2.1 := by decide +kernel
theorem tyX4_ok : ∀ k, k < 43 → parseFieldDescriptor (TX4 k).2.2.1 = some (tyX4 k) := by decide +kernel
abbrev cX4_init : ByteArray := prog_6_method_1_code
def yX4_init : MethodName := ⟨RX4, "<init>", "()V"⟩
abbrev cX4_thrown : ByteArray := prog_6_method_2_code
def yX4_thrown : MethodName := ⟨RX4, "thrown", "()I"⟩
abbrev cX4_no : ByteArray := prog_6_method_3_code
def yX4_no : MethodName := ⟨RX4, "no", "(I)I"⟩
abbrev cX4_opens : ByteArray := prog_6_method_4_code
def yX4_opens : MethodName := ⟨RX4, "opens", "(I)Z"⟩
abbrev cX4_look : ByteArray := prog_6_method_5_code
def yX4_look : MethodName := ⟨RX4, "look", "(I)V"⟩
abbrev cX4_stands : ByteArray := prog_6_method_6_code
def yX4_stands : MethodName := ⟨RX4, "stands", "(II)Z"⟩
abbrev cX4_within : ByteArray := prog_6_method_7_code
def yX4_within : MethodName := ⟨RX4, "within", "(II)Z"⟩
abbrev cX4_right : ByteArray := prog_6_method_8_code
def yX4_right : MethodName := ⟨RX4, "right", "(III)Z"⟩
abbrev cX4_node : ByteArray := prog_6_method_9_code
def yX4_node : MethodName := ⟨RX4, "node", "(IIII)I"⟩
abbrev cX4_clear : ByteArray := prog_6_method_10_code
def yX4_clear : MethodName := ⟨RX4, "clear", "(I)V"⟩
abbrev cX4_unended : ByteArray := prog_6_method_11_code
def yX4_unended : MethodName := ⟨RX4, "unended", "(I)I"⟩
abbrev cX4_after : ByteArray := prog_6_method_12_code
def yX4_after : MethodName := ⟨RX4, "after", "(I)I"⟩
abbrev cX4_endOf : ByteArray := prog_6_method_13_code
def yX4_endOf : MethodName := ⟨RX4, "endOf", "(I)I"⟩
abbrev cX4_partOf : ByteArray := prog_6_method_14_code
def yX4_partOf : MethodName := ⟨RX4, "partOf", "(II)I"⟩
abbrev cX4_remember : ByteArray := prog_6_method_15_code
def yX4_remember : MethodName := ⟨RX4, "remember", "(III)V"⟩
abbrev cX4_undoOne : ByteArray := prog_6_method_16_code
def yX4_undoOne : MethodName := ⟨RX4, "undoOne", "()V"⟩
abbrev cX4_pays : ByteArray := prog_6_method_17_code
def yX4_pays : MethodName := ⟨RX4, "pays", "()Z"⟩
abbrev cX4_fails : ByteArray := prog_6_method_18_code
def yX4_fails : MethodName := ⟨RX4, "fails", "(I)I"⟩
abbrev cX4_note : ByteArray := prog_6_method_19_code
def yX4_note : MethodName := ⟨RX4, "note", "(I)V"⟩
abbrev cX4_plain : ByteArray := prog_6_method_20_code
def yX4_plain : MethodName := ⟨RX4, "plain", "(III)I"⟩
abbrev cX4_makes : ByteArray := prog_6_method_21_code
def yX4_makes : MethodName := ⟨RX4, "makes", "(I)I"⟩
abbrev cX4_onRow : ByteArray := prog_6_method_22_code
def yX4_onRow : MethodName := ⟨RX4, "onRow", "(III)I"⟩
abbrev cX4_uses : ByteArray := prog_6_method_23_code
def yX4_uses : MethodName := ⟨RX4, "uses", "(I)I"⟩
abbrev cX4_box : ByteArray := prog_6_method_24_code
def yX4_box : MethodName := ⟨RX4, "box", "(I)I"⟩
abbrev cX4_push : ByteArray := prog_6_method_25_code
def yX4_push : MethodName := ⟨RX4, "push", "(III)V"⟩
abbrev cX4_begin : ByteArray := prog_6_method_26_code
def yX4_begin : MethodName := ⟨RX4, "begin", "(I)V"⟩
abbrev cX4_round : ByteArray := prog_6_method_27_code
def yX4_round : MethodName := ⟨RX4, "round", "()V"⟩
abbrev cX4_leave : ByteArray := prog_6_method_28_code
def yX4_leave : MethodName := ⟨RX4, "leave", "()V"⟩
abbrev cX4_call : ByteArray := prog_6_method_29_code
def yX4_call : MethodName := ⟨RX4, "call", "(I)V"⟩
abbrev cX4_step : ByteArray := prog_6_method_30_code
def yX4_step : MethodName := ⟨RX4, "step", "()V"⟩
abbrev cX4_ended : ByteArray := prog_6_method_31_code
def yX4_ended : MethodName := ⟨RX4, "ended", "()V"⟩
abbrev cX4_back : ByteArray := prog_6_method_32_code
def yX4_back : MethodName := ⟨RX4, "back", "(I)V"⟩
abbrev cX4_tried : ByteArray := prog_6_method_33_code
def yX4_tried : MethodName := ⟨RX4, "tried", "(I)V"⟩
abbrev cX4_looped : ByteArray := prog_6_method_34_code
def yX4_looped : MethodName := ⟨RX4, "looped", "()V"⟩
abbrev cX4_atEnd : ByteArray := prog_6_method_35_code
def yX4_atEnd : MethodName := ⟨RX4, "atEnd", "()Z"⟩
abbrev cX4_settle : ByteArray := prog_6_method_36_code
def yX4_settle : MethodName := ⟨RX4, "settle", "()V"⟩
abbrev cX4_run : ByteArray := prog_6_method_37_code
def yX4_run : MethodName := ⟨RX4, "run", "(I)I"⟩
abbrev cX4_given : ByteArray := prog_6_method_38_code
def yX4_given : MethodName := ⟨RX4, "given", "()I"⟩
abbrev cX4_number : ByteArray := prog_6_method_39_code
def yX4_number : MethodName := ⟨RX4, "number", "(I)I"⟩
abbrev cX4_row : ByteArray := prog_6_method_40_code
def yX4_row : MethodName := ⟨RX4, "row", "(I)I"⟩
abbrev cX4_log : ByteArray := prog_6_method_41_code
def yX4_log : MethodName := ⟨RX4, "log", "(I)I"⟩
abbrev cX4_count : ByteArray := prog_6_method_42_code
def yX4_count : MethodName := ⟨RX4, "count", "(I)I"⟩
def RJ9 : String := "java/lang/Math"
def TJ9 : u_T := fun k => match k with
  | _ => ("", "", "", false)
def tyJ9 : Nat → FieldType := fun k => match k with
  | _ => .int
abbrev wsJ90 : List Cond := u_ws RJ9 TJ9 0
theorem nmJ9 : ∀ a, a < 0 → ∀ b, b < 0 → a ≠ b → (TJ9 a).2.1 ≠ (TJ9 b).2.1 := by decide +kernel
theorem tyJ9_ok : ∀ k, k < 0 → parseFieldDescriptor (TJ9 k).2.2.1 = some (tyJ9 k) := by decide +kernel
abbrev cJ9_max_7cf53 : ByteArray := prog_10_method_65_code
def yJ9_max_7cf53 : MethodName := ⟨RJ9, "max", "(II)I"⟩
def RJ0 : String := "java/lang/String"
def TJ0 : u_T := fun k => match k with
  | _ => ("", "", "", false)
def tyJ0 : Nat → FieldType := fun k => match k with
  | _ => .int
abbrev wsJ00 : List Cond := u_ws RJ0 TJ0 0
theorem nmJ0 : ∀ a, a < 0 → ∀ b, b < 0 → a ≠ b → (TJ0 a).2.1 ≠ (TJ0 b).2.1 := by decide +kernel
theorem tyJ0_ok : ∀ k, k < 0 → parseFieldDescriptor (TJ0 k).2.2.1 = some (tyJ0 k) := by decide +kernel
def RJ10 : String := "java/lang/System"
def TJ10 : u_T := fun k => match k with
  | _ => ("", "", "", false)
def tyJ10 : Nat → FieldType := fun k => match k with
  | _ => .int
abbrev wsJ100 : List Cond := u_ws RJ10 TJ10 0
theorem nmJ10 : ∀ a, a < 0 → ∀ b, b < 0 → a ≠ b → (TJ10 a).2.1 ≠ (TJ10 b).2.1 := by decide +kernel
theorem tyJ10_ok : ∀ k, k < 0 → parseFieldDescriptor (TJ10 k).2.2.1 = some (tyJ10 k) := by decide +kernel
def RL : String := "UndoWorksLaw"
abbrev cL_node : ByteArray := method_3_code
def yL_node : MethodName := ⟨RL, "node", "(LUndoWorks;IIII[J)I"⟩
abbrev cL_clear : ByteArray := method_4_code
def yL_clear : MethodName := ⟨RL, "clear", "(LUndoWorks;I)I"⟩
abbrev cL_run : ByteArray := method_5_code
def yL_run : MethodName := ⟨RL, "run", "(LUndoWorks;I[J)I"⟩
abbrev cL_number : ByteArray := method_6_code
def yL_number : MethodName := ⟨RL, "number", "(LUndoWorks;I[J)I"⟩
abbrev cL_row : ByteArray := method_7_code
def yL_row : MethodName := ⟨RL, "row", "(LUndoWorks;I[J)I"⟩
abbrev cL_log : ByteArray := method_8_code
def yL_log : MethodName := ⟨RL, "log", "(LUndoWorks;I[J)I"⟩
abbrev cL_law : ByteArray := code
def yL_law : MethodName := ⟨RL, "law", "([I)Z"⟩
theorem inX0 : ∀ w ∈ wsX00, w ∈ lw_tbl := by decide +kernel
theorem inX1 : ∀ w ∈ wsX10, w ∈ lw_tbl := by decide +kernel
theorem inX2 : ∀ w ∈ wsX20, w ∈ lw_tbl := by decide +kernel
theorem inX3 : ∀ w ∈ wsX30, w ∈ lw_tbl := by decide +kernel
theorem inX4 : ∀ w ∈ wsX40, w ∈ lw_tbl := by decide +kernel
theorem inJ9 : ∀ w ∈ wsJ90, w ∈ lw_tbl := by decide +kernel
theorem inJ0 : ∀ w ∈ wsJ00, w ∈ lw_tbl := by decide +kernel
theorem inJ10 : ∀ w ∈ wsJ100, w ∈ lw_tbl := by decide +kernel
abbrev vwCl : List vw_C := [(RX0, TX0, 7), (RX1, TX1, 9), (RX2, TX2, 9), (RX3, TX3, 6), (RX4, TX4, 43)]
end
section
/-! An abstract picture of a method's run: values are ints, longs and numbers of cells; the heap is a function of cell number and place. -/
abbrev ab_V : Type := Int32 ⊕ (Int64 ⊕ Nat)
abbrev ab_I (x : Int32) : ab_V := Sum.inl x
abbrev ab_L (x : Int64) : ab_V := Sum.inr (Sum.inl x)
abbrev ab_R (i : Nat) : ab_V := Sum.inr (Sum.inr i)
def ab_c (adr : Nat → Nat) (v : ab_V) : Value := match v with
  | .inl x => .int x
  | .inr (.inl x) => .long x
  | .inr (.inr i) => .ref (adr i)
def ab_cat (v : ab_V) : Nat := match v with
  | .inl _ => 1
  | .inr (.inl _) => 2
  | .inr (.inr _) => 1
theorem ab_cat_c (adr : Nat → Nat) (v : ab_V) : (ab_c adr v).category = ab_cat v := by
  rcases v with x | x | i <;> rfl
abbrev ab_H : Type := Nat → Nat → Int32
/-- a cell: an array of so many ints; an array of cells; an object of a class with its fields (an int, or a cell) -/
abbrev ab_E : Type := Nat ⊕ (List Nat ⊕ (Nat × List (Option Nat)))
def ab_f (adr : Nat → Nat) (f : Nat → Int32) (k : Nat) (o : Option Nat) : Value := match o with
  | none => .int (f k)
  | some j => .ref (adr j)
def ab_e (cI cW : ClassId) (adr : Nat → Nat) (f : Nat → Int32) (en : ab_E) : va_E := match en with
  | .inl n => .inl (cI, n, .inl f)
  | .inr (.inl js) => .inl (cW, js.length, .inr (.inr (.inr (.inr (fun k => (js[k]?).map adr)))))
  | .inr (.inr (ci, fl)) => .inr (ci, fl.mapIdx (ab_f adr f))
def ab_w (lay : List ab_E) (cI cW : ClassId) (adr : Nat → Nat) (h : ab_H) : va_W := lay.mapIdx fun i en => (adr i, ab_e cI cW adr (h i) en)
def ab_up (h : ab_H) (i k : Nat) (v : Int32) : ab_H := fun j => if j = i then upd (h i) k v else h j
/-- the contents of a whole cell are new -/
def ab_upA (h : ab_H) (i : Nat) (g : Nat → Int32) : ab_H := fun j => if j = i then g else h j
theorem ab_w_at {lay : List ab_E} {cI cW : ClassId} {adr : Nat → Nat} {h : ab_H} {i : Nat} {en : ab_E} (he : lay[i]? = some en) : (ab_w lay cI cW adr h)[i]? = some (adr i, ab_e cI cW adr (h i) en) := by
  simp [ab_w, he]
theorem ab_w_set {lay : List ab_E} {cI cW : ClassId} {adr : Nat → Nat} {h : ab_H} {i : Nat} {en : ab_E} {g : Nat → Int32} (he : lay[i]? = some en) : (ab_w lay cI cW adr h).set i (adr i, ab_e cI cW adr g en) = ab_w lay cI cW adr (ab_upA h i g) := by
  apply List.ext_getElem?
  intro j
  rw [List.getElem?_set]
  have hl : i < lay.length := (List.getElem?_eq_some_iff.mp he).1
  by_cases hj : i = j
  · subst hj
    have hl2 : i < (ab_w lay cI cW adr h).length := by simpa [ab_w] using hl
    rw [if_pos rfl, if_pos hl2, ab_w_at he]
    simp [ab_upA]
  · simp [ab_w, hj, Ne.symm hj, ab_upA]
theorem ab_f_set {adr : Nat → Nat} {f : Nat → Int32} {fl : List (Option Nat)} {k : Nat} {v : Int32} (hk : fl[k]? = some none) : (fl.mapIdx (ab_f adr f)).set k (.int v) = fl.mapIdx (ab_f adr (upd f k v)) := by
  apply List.ext_getElem?
  intro j
  rw [List.getElem?_set]
  have hl : k < fl.length := (List.getElem?_eq_some_iff.mp hk).1
  by_cases hj : k = j
  · subst hj
    have hl2 : k < (fl.mapIdx (ab_f adr f)).length := by simpa using hl
    rw [if_pos rfl, if_pos hl2, List.getElem?_mapIdx, hk]
    simp [ab_f, upd]
  · rw [if_neg hj, List.getElem?_mapIdx, List.getElem?_mapIdx]
    cases hf : fl[j]? with
    | none => rfl
    | some o =>
      cases o with
      | none => simp [ab_f, upd, Ne.symm hj]
      | some q => rfl
def ab_A (lay : List ab_E) (adr : Nat → Nat) (sz : Nat) : Nat → Prop := fun q => (∃ i, i < lay.length ∧ q = adr i) ∨ sz ≤ q
/-- the cells are apart, and of a kind -/
def ab_D (lay : List ab_E) (adr : Nat → Nat) (A : Nat → Prop) : Prop := (∀ i j, i < lay.length → j < lay.length → adr i = adr j → i = j) ∧ ∀ i, i < lay.length → A (adr i)
theorem ab_w_in {lay : List ab_E} {cI cW : ClassId} {adr : Nat → Nat} {h : ab_H} {i : Nat} {q : Nat × va_E} (hq : (ab_w lay cI cW adr h)[i]? = some q) : i < lay.length ∧ q.1 = adr i := by
  simp only [ab_w, List.getElem?_mapIdx] at hq
  cases he : lay[i]? with
  | none => rw [he] at hq; cases hq
  | some en =>
    rw [he] at hq
    have := Option.some.inj hq
    exact ⟨(List.getElem?_eq_some_iff.mp he).1, by rw [← this]⟩
theorem ab_D.to {lay : List ab_E} {adr : Nat → Nat} {A : Nat → Prop} (hD : ab_D lay adr A) (cI cW : ClassId) (h : ab_H) : va_D A (ab_w lay cI cW adr h) := by
  refine ⟨fun i j p q hp hq e => ?_, fun k q hk => ?_⟩
  · obtain ⟨i1, e1⟩ := ab_w_in hp
    obtain ⟨j1, e2⟩ := ab_w_in hq
    exact hD.1 i j i1 j1 (by rw [← e1, ← e2]; exact e)
  · obtain ⟨k1, e1⟩ := ab_w_in hk
    rw [e1]
    exact hD.2 k k1
theorem ab_D.of {lay : List ab_E} {adr : Nat → Nat} {A : Nat → Prop} {cI cW : ClassId} {h : ab_H} (hD : va_D A (ab_w lay cI cW adr h)) : ab_D lay adr A := by
  refine ⟨fun i j hi hj e => ?_, fun i hi => ?_⟩
  · exact hD.1 i j _ _ (ab_w_at (List.getElem?_eq_getElem hi)) (ab_w_at (List.getElem?_eq_getElem hj)) e
  · exact hD.2 i _ (ab_w_at (List.getElem?_eq_getElem hi))
theorem ab_D.self {lay : List ab_E} {adr : Nat → Nat} {A : Nat → Prop} (hD : ab_D lay adr A) (sz : Nat) : ab_D lay adr (ab_A lay adr sz) := ⟨hD.1, fun i hi => Or.inl ⟨i, hi, rfl⟩⟩
/-- a method: its name, its bytes, its locals, what it answers -/
abbrev ab_M : Type := MethodName × ByteArray × Nat × Option FieldType
def ab_rm (d : Nat) : Room := { frames := d, cells := 0, slots := 0, locals := 40 * d }
def ab_tys (cI cW : ClassId) : List (ClassId × FieldType) := [(cI, .int), (cW, .object RX2)]
def ab_all : List Cond := lw_tbl.filter goodWord
def ab_ws (M : ab_M) : List Cond := Cond.code M.1 M.2.1 M.2.2.1 M.2.2.2 :: ab_all
theorem ab_all_in {w : Cond} (h : w ∈ ab_all) : w ∈ lw_tbl := (List.mem_filter.mp h).1
theorem ab_all_good {Ts : List Cond} (h : ∀ w ∈ ab_all, w ∈ Ts) : GoodIn Ts ab_all := fun w hw => ⟨h w hw, good_of_word (List.mem_filter.mp hw).2⟩
def ab_Qc (lay : List ab_E) (dC : Nat → ClassId) (dI : Nat → Nat → Nat) (cI cW : ClassId) (adr : Nat → Nat) (A : Nat → Prop) (Q : Option ab_V → ab_H → Prop) : Array Value → State → Outcome → State → Prop := fun _ st oc t =>
  (∃ (v : Option ab_V) (h : ab_H), oc = .returned (v.map (ab_c adr)) ∧ Q v h ∧ va_P (dC, dI) vwCl (ab_w lay cI cW adr h) t.heap ∧ va_K (dC, dI) vwCl (ab_tys cI cW) t) ∧ va_F A st t
/-- what a method answers, and does to its world -/
def ab_C (l : Launch) (lay : List ab_E) (d : Nat) (M : ab_M) (As : List ab_V) (h : ab_H) (Q : Option ab_V → ab_H → Prop) : Prop :=
  ∀ (dC : Nat → ClassId) (dI : Nat → Nat → Nat) (cI cW : ClassId) (adr : Nat → Nat) (sz : Nat),
    Met l M.1 (ab_ws M) (ab_rm d) (va_Pc (As.map (ab_c adr)) (fun U => U.heap.size = sz ∧ va_P (dC, dI) vwCl (ab_w lay cI cW adr h) U.heap ∧ va_K (dC, dI) vwCl (ab_tys cI cW) U ∧ ab_D lay adr (fun _ => True)))
      (ab_Qc lay dC dI cI cW adr (ab_A lay adr sz) Q) 0 0 (ab_A lay adr sz)
def ab_Cx (lay : List ab_E) (M : ab_M) (p : Program) (s : State) (m : MethodId) (args : Array Value) (meth : Method) (c : Code) (dC : Nat → ClassId) (dI : Nat → Nat → Nat) (cI cW : ClassId) (adr : Nat → Nat) (A : Nat → Prop) : Prop :=
  p.tables.exec = Jvm.exec ∧ c.code = M.2.1 ∧ meth.sig.returnType = M.2.2.2 ∧ c.maxLocals = M.2.2.1 ∧ s.vm.findClass M.1.cls = some m.cls ∧ (∀ w ∈ ab_all, w.before args s = true) ∧ meth.locks = false ∧ va_K (dC, dI) vwCl (ab_tys cI cW) s ∧ ab_D lay adr A ∧ ∀ q, s.heap.size ≤ q → A q
def ab_ls (adr : Nat → Nat) (L : List (Nat × ab_V)) : List (Nat × Value) := L.map fun q => (q.1, ab_c adr q.2)
def ab_Dy (lay : List ab_E) (nL : Nat) (s : State) (dC : Nat → ClassId) (dI : Nat → Nat → Nat) (cI cW : ClassId) (adr : Nat → Nat) (A : Nat → Prop) (H : Heap) (locs : List Loc) (ls : Array Slot) (L : List (Nat × ab_V)) (h : ab_H) : Prop :=
  va_P (dC, dI) vwCl (ab_w lay cI cW adr h) H ∧ va_S A s.heap H locs ∧ lv_has ls nL (ab_ls adr L)
/-- the judgement: from here the method comes to its end with Q -/
def ab_J (l : Launch) (lay : List ab_E) (M : ab_M) (d : Nat) (Q : Option ab_V → ab_H → Prop) (pc : Nat) (L : List (Nat × ab_V)) (S : List ab_V) (h : ab_H) : Prop :=
  ∀ (p : Program) (e : Env) (s : State) (m : MethodId) (args : Array Value) (below : List Frame) (meth : Method) (c : Code) (dC : Nat → ClassId) (dI : Nat → Nat → Nat) (cI cW : ClassId) (adr : Nat → Nat) (A : Nat → Prop),
    ab_Cx lay M p s m args meth c dC dI cI cW adr A → ∀ (H : Heap) (locs : List Loc) (ls : Array Slot), ab_Dy lay M.2.2.1 s dC dI cI cW adr A H locs ls L h →
      W p l e (ab_rm d) s m args below meth c H locs 0 0 (MQ below (ab_Qc lay dC dI cI cW adr A Q) args s 0 0 A) (F0 m pc ls (S.map (ab_c adr)))
def ab_args : Nat → List ab_V → List (Nat × ab_V)
  | _, [] => []
  | i, v :: vs => (i, v) :: ab_args (i + ab_cat v) vs
theorem ab_args_c (adr : Nat → Nat) : ∀ (As : List ab_V) (i : Nat), lv_args i (As.map (ab_c adr)) = ab_ls adr (ab_args i As)
  | [], _ => rfl
  | v :: vs, i => by
    show (i, ab_c adr v) :: lv_args (if (ab_c adr v).category = 2 then i + 2 else i + 1) (vs.map (ab_c adr)) = (i, ab_c adr v) :: ab_ls adr (ab_args (i + ab_cat v) vs)
    rw [← ab_args_c adr vs, ab_cat_c]
    rcases v with x | x | j <;> rfl
theorem ab_sl_len (adr : Nat → Nat) : ∀ (As : List ab_V), (lg_sl (As.map (ab_c adr))).length = (As.map ab_cat).sum
  | [] => rfl
  | v :: vs => by
    have ih := ab_sl_len adr vs
    simp only [lg_sl] at ih
    simp only [lg_sl, List.map_cons, List.flatMap_cons, List.length_append, List.sum_cons, ih, ab_cat_c]
    rcases v with x | x | j <;> rfl
theorem ab_enter {l : Launch} {lay : List ab_E} {M : ab_M} {d : Nat} {As : List ab_V} {h : ab_H} {Q : Option ab_V → ab_H → Prop} (hp : plainName M.1.cls = true) (hn : (As.map ab_cat).sum ≤ M.2.2.1)
    (k : ab_J l lay M d Q 0 (ab_args 0 As) [] h) : ab_C l lay d M As h Q := by
  intro dC dI cI cW adr sz
  refine Met.ofW (cc := M.2.1) (maxL := M.2.2.1) (ret := M.2.2.2) hp rfl ?_
  intro p e s m args below meth c s₁ B hml hv
  obtain ⟨rfl, hsz, hP, hK, hD0⟩ := hv
  have hts := atoms_spec (ws := ab_ws M) B.pre
  subst hsz
  have hl := lv_entry (As.map (ab_c adr)) (n := M.2.2.1) (by rw [ab_sl_len]; exact hn)
  rw [ab_args_c] at hl
  rw [lg_entry_eq]
  exact k p e s m _ below meth c dC dI cI cW adr (ab_A lay adr s.heap.size) ⟨B.exec, B.bytes, B.returns, hml, findClass_of_methodNamed B.named, fun w h => hts w (List.mem_cons_of_mem _ h), B.notSynchronized, hK, hD0.self _, fun q h => Or.inr h⟩ s.heap [] _ ⟨hP, va_S.rf, hl⟩
end
section
/-! the rules of the judgement, one for each instruction -/
def ab_lk : List (Nat × ab_V) → Nat → Option ab_V
  | [], _ => none
  | q :: r, i => match Nat.beq q.1 i with
    | true => some q.2
    | false => ab_lk r i
theorem ab_lk_mem : ∀ {L : List (Nat × ab_V)} {i : Nat} {v : ab_V}, ab_lk L i = some v → (i, v) ∈ L
  | [], _, _, h => by cases h
  | q :: r, i, v, h => by
    simp only [ab_lk] at h
    cases hb : Nat.beq q.1 i with
    | true =>
      rw [hb] at h
      have e1 : q.1 = i := Nat.eq_of_beq_eq_true hb
      have e2 : q.2 = v := Option.some.inj h
      rw [← e1, ← e2]
      exact List.mem_cons_self
    | false =>
      rw [hb] at h
      exact List.mem_cons_of_mem _ (ab_lk_mem h)
theorem ab_lkp {adr : Nat → Nat} {ls : Array Slot} {nL : Nat} {L : List (Nat × ab_V)} {i : Nat} {v : ab_V} (h : lv_has ls nL (ab_ls adr L)) (hk : ab_lk L i = some v) : ls[i]? = some (.val (ab_c adr v)) :=
  h.2.2 (i, ab_c adr v) (List.mem_map.mpr ⟨(i, v), ab_lk_mem hk, rfl⟩)
def ab_st (i : Nat) (v : ab_V) (L : List (Nat × ab_V)) : List (Nat × ab_V) := (i, v) :: L.filter (fun q => !(q.1 == i) && !(q.1 + 1 == i && ab_cat q.2 == 2))
def ab_st2 (i : Nat) (v : ab_V) (L : List (Nat × ab_V)) : List (Nat × ab_V) := (i, v) :: L.filter (fun q => !(q.1 == i) && (!(q.1 == i + 1) && !(q.1 + 1 == i && ab_cat q.2 == 2)))
theorem ab_st_c (adr : Nat → Nat) (i : Nat) (v : ab_V) (L : List (Nat × ab_V)) : (i, ab_c adr v) :: (ab_ls adr L).filter (fun q => !(q.1 == i) && !(q.1 + 1 == i && q.2.category == 2)) = ab_ls adr (ab_st i v L) := by
  simp only [ab_ls, ab_st, List.map_cons, List.filter_map, Function.comp_def, ab_cat_c]
theorem ab_st2_c (adr : Nat → Nat) (i : Nat) (v : ab_V) (L : List (Nat × ab_V)) : (i, ab_c adr v) :: (ab_ls adr L).filter (fun q => !(q.1 == i) && (!(q.1 == i + 1) && !(q.1 + 1 == i && q.2.category == 2))) = ab_ls adr (ab_st2 i v L) := by
  simp only [ab_ls, ab_st2, List.map_cons, List.filter_map, Function.comp_def, ab_cat_c]
def ab_sub (L : List (Nat × ab_V)) : List (Nat × ab_V) → Prop
  | [] => True
  | q :: r => ab_lk L q.1 = some q.2 ∧ ab_sub L r
theorem ab_sub_mem {L : List (Nat × ab_V)} : ∀ {L' : List (Nat × ab_V)}, ab_sub L L' → ∀ q ∈ L', q ∈ L
  | [], _, q, h => by cases h
  | a :: r, hs, q, h => by
    rcases List.mem_cons.mp h with e | h
    · subst e
      exact ab_lk_mem hs.1
    · exact ab_sub_mem hs.2 q h
/-- a field of a class by an entry of another's pool -/
def ab_F (own : String) (idx ci k : Nat) : Prop := ∃ (C : String) (T : u_T) (N : Nat) (ty0 : Nat → FieldType), vwCl[ci]? = some (C, T, N) ∧ k < N ∧ (∀ w ∈ u_ws C T N, w ∈ ab_all) ∧ (∀ k, k < N → parseFieldDescriptor (T k).2.2.1 = some (ty0 k)) ∧ (∀ a, a < N → ∀ b, b < N → a ≠ b → (T a).2.1 ≠ (T b).2.1) ∧ Cond.fieldLink own idx (T k).1 (T k).2.1 (T k).2.2.1 ∈ ab_all
/-- and it is an int that may be written -/
def ab_Fw (own : String) (idx ci k : Nat) : Prop := ∃ (C : String) (T : u_T) (N : Nat) (ty0 : Nat → FieldType), vwCl[ci]? = some (C, T, N) ∧ k < N ∧ (∀ w ∈ u_ws C T N, w ∈ ab_all) ∧ (∀ k, k < N → parseFieldDescriptor (T k).2.2.1 = some (ty0 k)) ∧ (∀ a, a < N → ∀ b, b < N → a ≠ b → (T a).2.1 ≠ (T b).2.1) ∧ Cond.fieldLink own idx (T k).1 (T k).2.1 (T k).2.2.1 ∈ ab_all ∧ (T k).2.2.2 = false ∧ parseFieldDescriptor (T k).2.2.1 = some .int
def ab_MB (own : String) (idx n : Nat) (M : ab_M) : Prop := (M.1.cls ≠ "java/lang/invoke/MethodHandle" ∧ M.1.cls ≠ "java/lang/invoke/VarHandle" ∧ (parseMethodDescriptor M.1.desc).map (fun d => d.parameters.length) = some n) ∧ M.2.2.1 ≤ 21 ∧ Cond.methodLink own idx M.1 ∈ ab_all ∧ Cond.initialized M.1.cls ∈ ab_all ∧ Cond.code M.1 M.2.1 M.2.2.1 M.2.2.2 ∈ ab_all
def ab_MV (own : String) (idx ci n : Nat) (M : ab_M) : Prop := ab_MB own idx n M ∧ (∃ q : vw_C, vwCl[ci]? = some q ∧ q.1 = M.1.cls) ∧ Cond.instanceMethod M.1 ∈ ab_all ∧ Cond.selects M.1.cls M.1 M.1 ∈ ab_all
def ab_MS (own : String) (idx n : Nat) (M : ab_M) : Prop := ab_MB own idx n M ∧ Cond.static M.1 ∈ ab_all
def ab_qi (P : Int32 → ab_H → Prop) : Option ab_V → ab_H → Prop := fun v h => ∃ r, v = some (ab_I r) ∧ P r h
def ab_ql (P : Int64 → ab_H → Prop) : Option ab_V → ab_H → Prop := fun v h => ∃ r, v = some (ab_L r) ∧ P r h
def ab_qv (P : ab_H → Prop) : Option ab_V → ab_H → Prop := fun v h => v = none ∧ P h
section ABR
variable {l : Launch} {lay : List ab_E} {M : ab_M} {d : Nat} {Q : Option ab_V → ab_H → Prop} {pc : Nat} {L : List (Nat × ab_V)} {S : List ab_V} {h : ab_H}
theorem ab_weak (L' : List (Nat × ab_V)) (hs : ab_sub L L') (k : ab_J l lay M d Q pc L' S h) : ab_J l lay M d Q pc L S h := by
  intro p e s m args below meth c dC dI cI cW adr A X H locs ls Y
  refine k p e s m args below meth c dC dI cI cW adr A X H locs ls ⟨Y.1, Y.2.1, Y.2.2.1, Y.2.2.2.1, fun q hq => ?_⟩
  obtain ⟨a, ha, rfl⟩ := List.mem_map.mp hq
  exact Y.2.2.2.2 _ (List.mem_map.mpr ⟨a, ab_sub_mem hs a ha, rfl⟩)
theorem ab_ki {P : Int32 → ab_H → Prop} (kk : ∀ r h', P r h' → ab_J l lay M d Q pc L (ab_I r :: S) h') : ∀ v h', ab_qi P v h' → ab_J l lay M d Q pc L (v.toList ++ S) h' := by
  rintro v h' ⟨r, rfl, hp⟩
  exact kk r h' hp
theorem ab_kl {P : Int64 → ab_H → Prop} (kk : ∀ r h', P r h' → ab_J l lay M d Q pc L (ab_L r :: S) h') : ∀ v h', ab_ql P v h' → ab_J l lay M d Q pc L (v.toList ++ S) h' := by
  rintro v h' ⟨r, rfl, hp⟩
  exact kk r h' hp
theorem ab_kv {P : ab_H → Prop} (kk : ∀ h', P h' → ab_J l lay M d Q pc L S h') : ∀ v h', ab_qv P v h' → ab_J l lay M d Q pc L (v.toList ++ S) h' := by
  rintro v h' ⟨rfl, hp⟩
  exact kk h' hp
theorem ab_iconst {n : Int} {v : Int32} (hd : decode M.2.1 pc = .ok (.iconst n, 1)) (hv : Int32.ofInt n = v) (k : ab_J l lay M d Q (pc + 1) (L) (ab_I v :: S) (h)) : ab_J l lay M d Q (pc) (L) (S) (h) := by
  intro p e s m args below meth c dC dI cI cW adr A X H locs ls Y
  exact lv_iconst X.1 X.2.1 hd hv (k p e s m args below meth c dC dI cI cW adr A X H locs ls Y)
theorem ab_bipush {n : Int} {v : Int32} (hd : decode M.2.1 pc = .ok (.bipush n, 2)) (hv : (Int8.ofInt n).toInt32 = v) (k : ab_J l lay M d Q (pc + 2) (L) (ab_I v :: S) (h)) : ab_J l lay M d Q (pc) (L) (S) (h) := by
  intro p e s m args below meth c dC dI cI cW adr A X H locs ls Y
  exact lv_bipush X.1 X.2.1 hd hv (k p e s m args below meth c dC dI cI cW adr A X H locs ls Y)
theorem ab_sipush {n : Int} {v : Int32} (hd : decode M.2.1 pc = .ok (.sipush n, 3)) (hv : (Int16.ofInt n).toInt32 = v) (k : ab_J l lay M d Q (pc + 3) (L) (ab_I v :: S) (h)) : ab_J l lay M d Q (pc) (L) (S) (h) := by
  intro p e s m args below meth c dC dI cI cW adr A X H locs ls Y
  exact lv_sipush X.1 X.2.1 hd hv (k p e s m args below meth c dC dI cI cW adr A X H locs ls Y)
theorem ab_lconst {n : Fin 2} {v : Int64} (hd : decode M.2.1 pc = .ok (.lconst n, 1)) (hv : Int64.ofNat (n : Nat) = v) (k : ab_J l lay M d Q (pc + 1) (L) (ab_L v :: S) (h)) : ab_J l lay M d Q (pc) (L) (S) (h) := by
  intro p e s m args below meth c dC dI cI cW adr A X H locs ls Y
  exact lv_lconst X.1 X.2.1 hd hv (k p e s m args below meth c dC dI cI cW adr A X H locs ls Y)
theorem ab_ldc2 {idx : Nat} {v : Int64} (hd : decode M.2.1 pc = .ok (.ldc2_w idx, 3)) (hw : Cond.constantLong M.1.cls idx v ∈ ab_all) (k : ab_J l lay M d Q (pc + 3) (L) (ab_L v :: S) (h)) : ab_J l lay M d Q (pc) (L) (S) (h) := by
  intro p e s m args below meth c dC dI cI cW adr A X H locs ls Y
  exact lv_ldc2 X.1 X.2.1 X.2.2.2.2.1 (X.2.2.2.2.2.1 _ hw) hd (k p e s m args below meth c dC dI cI cW adr A X H locs ls Y)
theorem ab_iload_n {j : Fin 4} {i : Nat} {x : Int32} (hd : decode M.2.1 pc = .ok (.iload_n j, 1)) (hi : (j : Nat) = i) (hl : ab_lk L i = some (ab_I x)) (k : ab_J l lay M d Q (pc + 1) (L) (ab_I x :: S) (h)) : ab_J l lay M d Q (pc) (L) (S) (h) := by
  intro p e s m args below meth c dC dI cI cW adr A X H locs ls Y
  exact lv_iload_n X.1 X.2.1 hd hi (ab_lkp Y.2.2 hl) (k p e s m args below meth c dC dI cI cW adr A X H locs ls Y)
theorem ab_iload {i : Nat} {x : Int32} (hd : decode M.2.1 pc = .ok (.iload i, 2)) (hl : ab_lk L i = some (ab_I x)) (k : ab_J l lay M d Q (pc + 2) (L) (ab_I x :: S) (h)) : ab_J l lay M d Q (pc) (L) (S) (h) := by
  intro p e s m args below meth c dC dI cI cW adr A X H locs ls Y
  exact lv_iload X.1 X.2.1 hd (ab_lkp Y.2.2 hl) (k p e s m args below meth c dC dI cI cW adr A X H locs ls Y)
theorem ab_istore_n {j : Fin 4} {i : Nat} {x : Int32} (hd : decode M.2.1 pc = .ok (.istore_n j, 1)) (hi : (j : Nat) = i) (hn : Nat.ble (i + 1) M.2.2.1 = true) (k : ab_J l lay M d Q (pc + 1) (ab_st i (ab_I x) L) (S) (h)) : ab_J l lay M d Q (pc) (L) (ab_I x :: S) (h) := by
  intro p e s m args below meth c dC dI cI cW adr A X H locs ls Y
  exact lv_istore_n X.1 X.2.1 hd hi Y.2.2 (Nat.le_of_ble_eq_true hn) (ab_st_c adr i (ab_I x) L) (fun ls hl => k p e s m args below meth c dC dI cI cW adr A X H locs ls ⟨Y.1, Y.2.1, hl⟩)
theorem ab_istore {i : Nat} {x : Int32} (hd : decode M.2.1 pc = .ok (.istore i, 2)) (hn : Nat.ble (i + 1) M.2.2.1 = true) (k : ab_J l lay M d Q (pc + 2) (ab_st i (ab_I x) L) (S) (h)) : ab_J l lay M d Q (pc) (L) (ab_I x :: S) (h) := by
  intro p e s m args below meth c dC dI cI cW adr A X H locs ls Y
  exact lv_istore X.1 X.2.1 hd Y.2.2 (Nat.le_of_ble_eq_true hn) (ab_st_c adr i (ab_I x) L) (fun ls hl => k p e s m args below meth c dC dI cI cW adr A X H locs ls ⟨Y.1, Y.2.1, hl⟩)
theorem ab_lload_n {j : Fin 4} {i : Nat} {x : Int64} (hd : decode M.2.1 pc = .ok (.lload_n j, 1)) (hi : (j : Nat) = i) (hl : ab_lk L i = some (ab_L x)) (k : ab_J l lay M d Q (pc + 1) (L) (ab_L x :: S) (h)) : ab_J l lay M d Q (pc) (L) (S) (h) := by
  intro p e s m args below meth c dC dI cI cW adr A X H locs ls Y
  exact lv_lload_n X.1 X.2.1 hd hi (ab_lkp Y.2.2 hl) (k p e s m args below meth c dC dI cI cW adr A X H locs ls Y)
theorem ab_lload {i : Nat} {x : Int64} (hd : decode M.2.1 pc = .ok (.lload i, 2)) (hl : ab_lk L i = some (ab_L x)) (k : ab_J l lay M d Q (pc + 2) (L) (ab_L x :: S) (h)) : ab_J l lay M d Q (pc) (L) (S) (h) := by
  intro p e s m args below meth c dC dI cI cW adr A X H locs ls Y
  exact lv_lload X.1 X.2.1 hd (ab_lkp Y.2.2 hl) (k p e s m args below meth c dC dI cI cW adr A X H locs ls Y)
theorem ab_lstore_n {j : Fin 4} {i : Nat} {x : Int64} (hd : decode M.2.1 pc = .ok (.lstore_n j, 1)) (hi : (j : Nat) = i) (hn : Nat.ble (i + 1 + 1) M.2.2.1 = true) (k : ab_J l lay M d Q (pc + 1) (ab_st2 i (ab_L x) L) (S) (h)) : ab_J l lay M d Q (pc) (L) (ab_L x :: S) (h) := by
  intro p e s m args below meth c dC dI cI cW adr A X H locs ls Y
  exact lv_lstore_n X.1 X.2.1 hd hi Y.2.2 (Nat.le_of_ble_eq_true hn) (ab_st2_c adr i (ab_L x) L) (fun ls hl => k p e s m args below meth c dC dI cI cW adr A X H locs ls ⟨Y.1, Y.2.1, hl⟩)
theorem ab_lstore {i : Nat} {x : Int64} (hd : decode M.2.1 pc = .ok (.lstore i, 2)) (hn : Nat.ble (i + 1 + 1) M.2.2.1 = true) (k : ab_J l lay M d Q (pc + 2) (ab_st2 i (ab_L x) L) (S) (h)) : ab_J l lay M d Q (pc) (L) (ab_L x :: S) (h) := by
  intro p e s m args below meth c dC dI cI cW adr A X H locs ls Y
  exact lv_lstore X.1 X.2.1 hd Y.2.2 (Nat.le_of_ble_eq_true hn) (ab_st2_c adr i (ab_L x) L) (fun ls hl => k p e s m args below meth c dC dI cI cW adr A X H locs ls ⟨Y.1, Y.2.1, hl⟩)
theorem ab_aload_n {j : Fin 4} {i : Nat} {x : Nat} (hd : decode M.2.1 pc = .ok (.aload_n j, 1)) (hi : (j : Nat) = i) (hl : ab_lk L i = some (ab_R x)) (k : ab_J l lay M d Q (pc + 1) (L) (ab_R x :: S) (h)) : ab_J l lay M d Q (pc) (L) (S) (h) := by
  intro p e s m args below meth c dC dI cI cW adr A X H locs ls Y
  exact lv_aload_n X.1 X.2.1 hd hi (ab_lkp Y.2.2 hl) (k p e s m args below meth c dC dI cI cW adr A X H locs ls Y)
theorem ab_aload {i : Nat} {x : Nat} (hd : decode M.2.1 pc = .ok (.aload i, 2)) (hl : ab_lk L i = some (ab_R x)) (k : ab_J l lay M d Q (pc + 2) (L) (ab_R x :: S) (h)) : ab_J l lay M d Q (pc) (L) (S) (h) := by
  intro p e s m args below meth c dC dI cI cW adr A X H locs ls Y
  exact lv_aload X.1 X.2.1 hd (ab_lkp Y.2.2 hl) (k p e s m args below meth c dC dI cI cW adr A X H locs ls Y)
theorem ab_astore_n {j : Fin 4} {i : Nat} {x : Nat} (hd : decode M.2.1 pc = .ok (.astore_n j, 1)) (hi : (j : Nat) = i) (hn : Nat.ble (i + 1) M.2.2.1 = true) (k : ab_J l lay M d Q (pc + 1) (ab_st i (ab_R x) L) (S) (h)) : ab_J l lay M d Q (pc) (L) (ab_R x :: S) (h) := by
  intro p e s m args below meth c dC dI cI cW adr A X H locs ls Y
  exact lv_astore_n X.1 X.2.1 hd hi Y.2.2 (Nat.le_of_ble_eq_true hn) (ab_st_c adr i (ab_R x) L) (fun ls hl => k p e s m args below meth c dC dI cI cW adr A X H locs ls ⟨Y.1, Y.2.1, hl⟩)
theorem ab_astore {i : Nat} {x : Nat} (hd : decode M.2.1 pc = .ok (.astore i, 2)) (hn : Nat.ble (i + 1) M.2.2.1 = true) (k : ab_J l lay M d Q (pc + 2) (ab_st i (ab_R x) L) (S) (h)) : ab_J l lay M d Q (pc) (L) (ab_R x :: S) (h) := by
  intro p e s m args below meth c dC dI cI cW adr A X H locs ls Y
  exact lv_astore X.1 X.2.1 hd Y.2.2 (Nat.le_of_ble_eq_true hn) (ab_st_c adr i (ab_R x) L) (fun ls hl => k p e s m args below meth c dC dI cI cW adr A X H locs ls ⟨Y.1, Y.2.1, hl⟩)
theorem ab_iinc {i : Nat} {n : Int} {x v : Int32} (hd : decode M.2.1 pc = .ok (.iinc i n, 3)) (hl : ab_lk L i = some (ab_I x)) (hv : Int32.ofInt n = v) (hn : Nat.ble (i + 1) M.2.2.1 = true) (k : ab_J l lay M d Q (pc + 3) (ab_st i (ab_I (x + v)) L) (S) (h)) : ab_J l lay M d Q (pc) (L) (S) (h) := by
  intro p e s m args below meth c dC dI cI cW adr A X H locs ls Y
  obtain ⟨j, hj⟩ := List.getElem?_of_mem (List.mem_map.mpr ⟨(i, ab_I x), ab_lk_mem hl, rfl⟩ : (i, ab_c adr (ab_I x)) ∈ ab_ls adr L)
  exact lv_iinc (k := j) X.1 X.2.1 hd Y.2.2 hj (by rw [hv]) (Nat.le_of_ble_eq_true hn) (ab_st_c adr i (ab_I (x + v)) L) (fun ls hl => k p e s m args below meth c dC dI cI cW adr A X H locs ls ⟨Y.1, Y.2.1, hl⟩)
theorem ab_iadd {x y : Int32} (hd : decode M.2.1 pc = .ok (.iadd, 1)) (k : ab_J l lay M d Q (pc + 1) (L) (ab_I (x + y) :: S) (h)) : ab_J l lay M d Q (pc) (L) (ab_I y :: ab_I x :: S) (h) := by
  intro p e s m args below meth c dC dI cI cW adr A X H locs ls Y
  exact lv_iadd X.1 X.2.1 hd (k p e s m args below meth c dC dI cI cW adr A X H locs ls Y)
theorem ab_isub {x y : Int32} (hd : decode M.2.1 pc = .ok (.isub, 1)) (k : ab_J l lay M d Q (pc + 1) (L) (ab_I (x - y) :: S) (h)) : ab_J l lay M d Q (pc) (L) (ab_I y :: ab_I x :: S) (h) := by
  intro p e s m args below meth c dC dI cI cW adr A X H locs ls Y
  exact lv_isub X.1 X.2.1 hd (k p e s m args below meth c dC dI cI cW adr A X H locs ls Y)
theorem ab_imul {x y : Int32} (hd : decode M.2.1 pc = .ok (.imul, 1)) (k : ab_J l lay M d Q (pc + 1) (L) (ab_I (x * y) :: S) (h)) : ab_J l lay M d Q (pc) (L) (ab_I y :: ab_I x :: S) (h) := by
  intro p e s m args below meth c dC dI cI cW adr A X H locs ls Y
  exact lv_imul X.1 X.2.1 hd (k p e s m args below meth c dC dI cI cW adr A X H locs ls Y)
theorem ab_iand {x y : Int32} (hd : decode M.2.1 pc = .ok (.iand, 1)) (k : ab_J l lay M d Q (pc + 1) (L) (ab_I (x &&& y) :: S) (h)) : ab_J l lay M d Q (pc) (L) (ab_I y :: ab_I x :: S) (h) := by
  intro p e s m args below meth c dC dI cI cW adr A X H locs ls Y
  exact lv_iand X.1 X.2.1 hd (k p e s m args below meth c dC dI cI cW adr A X H locs ls Y)
theorem ab_ishr {x y : Int32} (hd : decode M.2.1 pc = .ok (.ishr, 1)) (k : ab_J l lay M d Q (pc + 1) (L) (ab_I (x >>> (y &&& 31)) :: S) (h)) : ab_J l lay M d Q (pc) (L) (ab_I y :: ab_I x :: S) (h) := by
  intro p e s m args below meth c dC dI cI cW adr A X H locs ls Y
  exact lv_ishr X.1 X.2.1 hd (k p e s m args below meth c dC dI cI cW adr A X H locs ls Y)
theorem ab_idiv {x y : Int32} (hd : decode M.2.1 pc = .ok (.idiv, 1)) (hne : ¬ y = 0) (k : ab_J l lay M d Q (pc + 1) (L) (ab_I (x / y) :: S) (h)) : ab_J l lay M d Q (pc) (L) (ab_I y :: ab_I x :: S) (h) := by
  intro p e s m args below meth c dC dI cI cW adr A X H locs ls Y
  exact lv_idiv X.1 X.2.1 hd hne (k p e s m args below meth c dC dI cI cW adr A X H locs ls Y)
theorem ab_land {x y : Int64} (hd : decode M.2.1 pc = .ok (.land, 1)) (k : ab_J l lay M d Q (pc + 1) (L) (ab_L (x &&& y) :: S) (h)) : ab_J l lay M d Q (pc) (L) (ab_L y :: ab_L x :: S) (h) := by
  intro p e s m args below meth c dC dI cI cW adr A X H locs ls Y
  exact lv_land X.1 X.2.1 hd (k p e s m args below meth c dC dI cI cW adr A X H locs ls Y)
theorem ab_lor {x y : Int64} (hd : decode M.2.1 pc = .ok (.lor, 1)) (k : ab_J l lay M d Q (pc + 1) (L) (ab_L (x ||| y) :: S) (h)) : ab_J l lay M d Q (pc) (L) (ab_L y :: ab_L x :: S) (h) := by
  intro p e s m args below meth c dC dI cI cW adr A X H locs ls Y
  exact lv_lor X.1 X.2.1 hd (k p e s m args below meth c dC dI cI cW adr A X H locs ls Y)
theorem ab_lshl {x : Int64} {y : Int32} (hd : decode M.2.1 pc = .ok (.lshl, 1)) (k : ab_J l lay M d Q (pc + 1) (L) (ab_L (x <<< (y.toInt64 &&& 63)) :: S) (h)) : ab_J l lay M d Q (pc) (L) (ab_I y :: ab_L x :: S) (h) := by
  intro p e s m args below meth c dC dI cI cW adr A X H locs ls Y
  exact lv_lshl X.1 X.2.1 hd rfl (k p e s m args below meth c dC dI cI cW adr A X H locs ls Y)
theorem ab_lshr {x : Int64} {y : Int32} (hd : decode M.2.1 pc = .ok (.lshr, 1)) (k : ab_J l lay M d Q (pc + 1) (L) (ab_L (x >>> (y.toInt64 &&& 63)) :: S) (h)) : ab_J l lay M d Q (pc) (L) (ab_I y :: ab_L x :: S) (h) := by
  intro p e s m args below meth c dC dI cI cW adr A X H locs ls Y
  exact lv_lshr X.1 X.2.1 hd rfl (k p e s m args below meth c dC dI cI cW adr A X H locs ls Y)
theorem ab_i2l {x : Int32} (hd : decode M.2.1 pc = .ok (.i2l, 1)) (k : ab_J l lay M d Q (pc + 1) (L) (ab_L x.toInt64 :: S) (h)) : ab_J l lay M d Q (pc) (L) (ab_I x :: S) (h) := by
  intro p e s m args below meth c dC dI cI cW adr A X H locs ls Y
  exact lv_i2l X.1 X.2.1 hd rfl (k p e s m args below meth c dC dI cI cW adr A X H locs ls Y)
theorem ab_l2i {x : Int64} (hd : decode M.2.1 pc = .ok (.l2i, 1)) (k : ab_J l lay M d Q (pc + 1) (L) (ab_I x.toInt32 :: S) (h)) : ab_J l lay M d Q (pc) (L) (ab_L x :: S) (h) := by
  intro p e s m args below meth c dC dI cI cW adr A X H locs ls Y
  exact lv_l2i X.1 X.2.1 hd rfl (k p e s m args below meth c dC dI cI cW adr A X H locs ls Y)
theorem ab_lcmp {x y : Int64} (hd : decode M.2.1 pc = .ok (.lcmp, 1)) (k : ab_J l lay M d Q (pc + 1) (L) (ab_I (lg_cmp x y) :: S) (h)) : ab_J l lay M d Q (pc) (L) (ab_L y :: ab_L x :: S) (h) := by
  intro p e s m args below meth c dC dI cI cW adr A X H locs ls Y
  exact W.lcmp X.1 X.2.1 hd (k p e s m args below meth c dC dI cI cW adr A X H locs ls Y)
theorem ab_dup {v : ab_V} (hd : decode M.2.1 pc = .ok (.dup, 1)) (hc : ab_cat v = 1) (k : ab_J l lay M d Q (pc + 1) (L) (v :: v :: S) (h)) : ab_J l lay M d Q (pc) (L) (v :: S) (h) := by
  intro p e s m args below meth c dC dI cI cW adr A X H locs ls Y
  exact lv_dup X.1 X.2.1 hd ((ab_cat_c adr v).trans hc) (k p e s m args below meth c dC dI cI cW adr A X H locs ls Y)
theorem ab_dup2 {v w : ab_V} (hd : decode M.2.1 pc = .ok (.dup2, 1)) (hc : ab_cat v = 1) (hc2 : ab_cat w = 1) (k : ab_J l lay M d Q (pc + 1) (L) (v :: w :: v :: w :: S) (h)) : ab_J l lay M d Q (pc) (L) (v :: w :: S) (h) := by
  intro p e s m args below meth c dC dI cI cW adr A X H locs ls Y
  exact lv_dup2_11 X.1 X.2.1 hd ((ab_cat_c adr v).trans hc) ((ab_cat_c adr w).trans hc2) (k p e s m args below meth c dC dI cI cW adr A X H locs ls Y)
theorem ab_pop {v : ab_V} (hd : decode M.2.1 pc = .ok (.pop, 1)) (hc : ab_cat v = 1) (k : ab_J l lay M d Q (pc + 1) (L) (S) (h)) : ab_J l lay M d Q (pc) (L) (v :: S) (h) := by
  intro p e s m args below meth c dC dI cI cW adr A X H locs ls Y
  exact lv_pop X.1 X.2.1 hd ((ab_cat_c adr v).trans hc) (k p e s m args below meth c dC dI cI cW adr A X H locs ls Y)
theorem ab_if_eq {x : Int32} {off : Int} (tgt : Nat) (hd : decode M.2.1 pc = .ok (.ifCond .eq off, 3)) (ht : ((pc : Nat) : Int) + off = (tgt : Int)) (kt : x = 0 → ab_J l lay M d Q (tgt) (L) (S) (h)) (kf : ¬ (x = 0) → ab_J l lay M d Q (pc + 3) (L) (S) (h)) : ab_J l lay M d Q (pc) (L) (ab_I x :: S) (h) := by
  intro p e s m args below meth c dC dI cI cW adr A X H locs ls Y
  exact lv_if_eq X.1 X.2.1 hd ht (fun q => kt q p e s m args below meth c dC dI cI cW adr A X H locs ls Y) (fun q => kf q p e s m args below meth c dC dI cI cW adr A X H locs ls Y)
theorem ab_icmp_eq {x y : Int32} {off : Int} (tgt : Nat) (hd : decode M.2.1 pc = .ok (.if_icmp .eq off, 3)) (ht : ((pc : Nat) : Int) + off = (tgt : Int)) (kt : x = y → ab_J l lay M d Q (tgt) (L) (S) (h)) (kf : ¬ (x = y) → ab_J l lay M d Q (pc + 3) (L) (S) (h)) : ab_J l lay M d Q (pc) (L) (ab_I y :: ab_I x :: S) (h) := by
  intro p e s m args below meth c dC dI cI cW adr A X H locs ls Y
  exact lv_icmp_eq X.1 X.2.1 hd ht (fun q => kt q p e s m args below meth c dC dI cI cW adr A X H locs ls Y) (fun q => kf q p e s m args below meth c dC dI cI cW adr A X H locs ls Y)
theorem ab_if_ne {x : Int32} {off : Int} (tgt : Nat) (hd : decode M.2.1 pc = .ok (.ifCond .ne off, 3)) (ht : ((pc : Nat) : Int) + off = (tgt : Int)) (kt : ¬ x = 0 → ab_J l lay M d Q (tgt) (L) (S) (h)) (kf : x = 0 → ab_J l lay M d Q (pc + 3) (L) (S) (h)) : ab_J l lay M d Q (pc) (L) (ab_I x :: S) (h) := by
  intro p e s m args below meth c dC dI cI cW adr A X H locs ls Y
  exact lv_if_ne X.1 X.2.1 hd ht (fun q => kt q p e s m args below meth c dC dI cI cW adr A X H locs ls Y) (fun q => kf q p e s m args below meth c dC dI cI cW adr A X H locs ls Y)
theorem ab_icmp_ne {x y : Int32} {off : Int} (tgt : Nat) (hd : decode M.2.1 pc = .ok (.if_icmp .ne off, 3)) (ht : ((pc : Nat) : Int) + off = (tgt : Int)) (kt : ¬ x = y → ab_J l lay M d Q (tgt) (L) (S) (h)) (kf : x = y → ab_J l lay M d Q (pc + 3) (L) (S) (h)) : ab_J l lay M d Q (pc) (L) (ab_I y :: ab_I x :: S) (h) := by
  intro p e s m args below meth c dC dI cI cW adr A X H locs ls Y
  exact lv_icmp_ne X.1 X.2.1 hd ht (fun q => kt q p e s m args below meth c dC dI cI cW adr A X H locs ls Y) (fun q => kf q p e s m args below meth c dC dI cI cW adr A X H locs ls Y)
theorem ab_if_lt {x : Int32} {off : Int} (tgt : Nat) (hd : decode M.2.1 pc = .ok (.ifCond .lt off, 3)) (ht : ((pc : Nat) : Int) + off = (tgt : Int)) (kt : x < 0 → ab_J l lay M d Q (tgt) (L) (S) (h)) (kf : ¬ (x < 0) → ab_J l lay M d Q (pc + 3) (L) (S) (h)) : ab_J l lay M d Q (pc) (L) (ab_I x :: S) (h) := by
  intro p e s m args below meth c dC dI cI cW adr A X H locs ls Y
  exact lv_if_lt X.1 X.2.1 hd ht (fun q => kt q p e s m args below meth c dC dI cI cW adr A X H locs ls Y) (fun q => kf q p e s m args below meth c dC dI cI cW adr A X H locs ls Y)
theorem ab_icmp_lt {x y : Int32} {off : Int} (tgt : Nat) (hd : decode M.2.1 pc = .ok (.if_icmp .lt off, 3)) (ht : ((pc : Nat) : Int) + off = (tgt : Int)) (kt : x < y → ab_J l lay M d Q (tgt) (L) (S) (h)) (kf : ¬ (x < y) → ab_J l lay M d Q (pc + 3) (L) (S) (h)) : ab_J l lay M d Q (pc) (L) (ab_I y :: ab_I x :: S) (h) := by
  intro p e s m args below meth c dC dI cI cW adr A X H locs ls Y
  exact lv_icmp_lt X.1 X.2.1 hd ht (fun q => kt q p e s m args below meth c dC dI cI cW adr A X H locs ls Y) (fun q => kf q p e s m args below meth c dC dI cI cW adr A X H locs ls Y)
theorem ab_if_ge {x : Int32} {off : Int} (tgt : Nat) (hd : decode M.2.1 pc = .ok (.ifCond .ge off, 3)) (ht : ((pc : Nat) : Int) + off = (tgt : Int)) (kt : 0 ≤ x → ab_J l lay M d Q (tgt) (L) (S) (h)) (kf : ¬ (0 ≤ x) → ab_J l lay M d Q (pc + 3) (L) (S) (h)) : ab_J l lay M d Q (pc) (L) (ab_I x :: S) (h) := by
  intro p e s m args below meth c dC dI cI cW adr A X H locs ls Y
  exact lv_if_ge X.1 X.2.1 hd ht (fun q => kt q p e s m args below meth c dC dI cI cW adr A X H locs ls Y) (fun q => kf q p e s m args below meth c dC dI cI cW adr A X H locs ls Y)
theorem ab_icmp_ge {x y : Int32} {off : Int} (tgt : Nat) (hd : decode M.2.1 pc = .ok (.if_icmp .ge off, 3)) (ht : ((pc : Nat) : Int) + off = (tgt : Int)) (kt : y ≤ x → ab_J l lay M d Q (tgt) (L) (S) (h)) (kf : ¬ (y ≤ x) → ab_J l lay M d Q (pc + 3) (L) (S) (h)) : ab_J l lay M d Q (pc) (L) (ab_I y :: ab_I x :: S) (h) := by
  intro p e s m args below meth c dC dI cI cW adr A X H locs ls Y
  exact lv_icmp_ge X.1 X.2.1 hd ht (fun q => kt q p e s m args below meth c dC dI cI cW adr A X H locs ls Y) (fun q => kf q p e s m args below meth c dC dI cI cW adr A X H locs ls Y)
theorem ab_if_gt {x : Int32} {off : Int} (tgt : Nat) (hd : decode M.2.1 pc = .ok (.ifCond .gt off, 3)) (ht : ((pc : Nat) : Int) + off = (tgt : Int)) (kt : 0 < x → ab_J l lay M d Q (tgt) (L) (S) (h)) (kf : ¬ (0 < x) → ab_J l lay M d Q (pc + 3) (L) (S) (h)) : ab_J l lay M d Q (pc) (L) (ab_I x :: S) (h) := by
  intro p e s m args below meth c dC dI cI cW adr A X H locs ls Y
  exact lv_if_gt X.1 X.2.1 hd ht (fun q => kt q p e s m args below meth c dC dI cI cW adr A X H locs ls Y) (fun q => kf q p e s m args below meth c dC dI cI cW adr A X H locs ls Y)
theorem ab_icmp_gt {x y : Int32} {off : Int} (tgt : Nat) (hd : decode M.2.1 pc = .ok (.if_icmp .gt off, 3)) (ht : ((pc : Nat) : Int) + off = (tgt : Int)) (kt : y < x → ab_J l lay M d Q (tgt) (L) (S) (h)) (kf : ¬ (y < x) → ab_J l lay M d Q (pc + 3) (L) (S) (h)) : ab_J l lay M d Q (pc) (L) (ab_I y :: ab_I x :: S) (h) := by
  intro p e s m args below meth c dC dI cI cW adr A X H locs ls Y
  exact lv_icmp_gt X.1 X.2.1 hd ht (fun q => kt q p e s m args below meth c dC dI cI cW adr A X H locs ls Y) (fun q => kf q p e s m args below meth c dC dI cI cW adr A X H locs ls Y)
theorem ab_if_le {x : Int32} {off : Int} (tgt : Nat) (hd : decode M.2.1 pc = .ok (.ifCond .le off, 3)) (ht : ((pc : Nat) : Int) + off = (tgt : Int)) (kt : x ≤ 0 → ab_J l lay M d Q (tgt) (L) (S) (h)) (kf : ¬ (x ≤ 0) → ab_J l lay M d Q (pc + 3) (L) (S) (h)) : ab_J l lay M d Q (pc) (L) (ab_I x :: S) (h) := by
  intro p e s m args below meth c dC dI cI cW adr A X H locs ls Y
  exact lv_if_le X.1 X.2.1 hd ht (fun q => kt q p e s m args below meth c dC dI cI cW adr A X H locs ls Y) (fun q => kf q p e s m args below meth c dC dI cI cW adr A X H locs ls Y)
theorem ab_icmp_le {x y : Int32} {off : Int} (tgt : Nat) (hd : decode M.2.1 pc = .ok (.if_icmp .le off, 3)) (ht : ((pc : Nat) : Int) + off = (tgt : Int)) (kt : x ≤ y → ab_J l lay M d Q (tgt) (L) (S) (h)) (kf : ¬ (x ≤ y) → ab_J l lay M d Q (pc + 3) (L) (S) (h)) : ab_J l lay M d Q (pc) (L) (ab_I y :: ab_I x :: S) (h) := by
  intro p e s m args below meth c dC dI cI cW adr A X H locs ls Y
  exact lv_icmp_le X.1 X.2.1 hd ht (fun q => kt q p e s m args below meth c dC dI cI cW adr A X H locs ls Y) (fun q => kf q p e s m args below meth c dC dI cI cW adr A X H locs ls Y)
theorem ab_goto {off : Int} (tgt : Nat) (hd : decode M.2.1 pc = .ok (.goto off, 3)) (ht : ((pc : Nat) : Int) + off = (tgt : Int)) (k : ab_J l lay M d Q (tgt) (L) (S) (h)) : ab_J l lay M d Q (pc) (L) (S) (h) := by
  intro p e s m args below meth c dC dI cI cW adr A X H locs ls Y
  exact lv_goto X.1 X.2.1 hd ht (k p e s m args below meth c dC dI cI cW adr A X H locs ls Y)
theorem ab_tableOut {dflt lo hi : Int} {offs : Array Int} {len : Nat} {x : Int32} (tgt : Nat) (hd : decode M.2.1 pc = .ok (.tableswitch dflt lo hi offs, len)) (hr : x.toInt < lo ∨ hi < x.toInt) (ht : ((pc : Nat) : Int) + dflt = (tgt : Int)) (k : ab_J l lay M d Q (tgt) (L) (S) (h)) : ab_J l lay M d Q (pc) (L) (ab_I x :: S) (h) := by
  intro p e s m args below meth c dC dI cI cW adr A X H locs ls Y
  exact lv_tableOut X.1 X.2.1 hd hr ht (k p e s m args below meth c dC dI cI cW adr A X H locs ls Y)
theorem ab_tableIn {dflt lo hi : Int} {offs : Array Int} {len : Nat} {x : Int32} {off : Int} (tgt : Nat) (hd : decode M.2.1 pc = .ok (.tableswitch dflt lo hi offs, len)) (h1 : ¬ x.toInt < lo) (h2 : ¬ hi < x.toInt) (ho : offs[(x.toInt - lo).toNat]? = some off) (ht : ((pc : Nat) : Int) + off = (tgt : Int)) (k : ab_J l lay M d Q (tgt) (L) (S) (h)) : ab_J l lay M d Q (pc) (L) (ab_I x :: S) (h) := by
  intro p e s m args below meth c dC dI cI cW adr A X H locs ls Y
  exact lv_tableIn X.1 X.2.1 hd h1 h2 ho ht (k p e s m args below meth c dC dI cI cW adr A X H locs ls Y)
theorem ab_lookup {dflt : Int} {ps : Array (Int × Int)} {len : Nat} {x : Int32} {off : Int} (tgt : Nat) (hd : decode M.2.1 pc = .ok (.lookupswitch dflt ps, len)) (hp : (ps.toList.zip (ps.toList.drop 1)).all (fun (a, next) => a.1 < next.1) = true) (ho : Op.lookupswitch.offset ps.toList dflt x.toInt = off) (ht : ((pc : Nat) : Int) + off = (tgt : Int)) (k : ab_J l lay M d Q (tgt) (L) (S) (h)) : ab_J l lay M d Q (pc) (L) (ab_I x :: S) (h) := by
  intro p e s m args below meth c dC dI cI cW adr A X H locs ls Y
  exact lv_lookup X.1 X.2.1 hd hp ho ht (k p e s m args below meth c dC dI cI cW adr A X H locs ls Y)
theorem ab_geti {idx ci n i : Nat} {fl : List (Option Nat)} (hd : decode M.2.1 pc = .ok (.getfield idx, 3)) (hf : ab_F M.1.cls idx ci n) (he : lay[i]? = some (.inr (.inr (ci, fl)))) (hk : fl[n]? = some none) (k : ab_J l lay M d Q (pc + 3) (L) (ab_I (h i n) :: S) (h)) : ab_J l lay M d Q (pc) (L) (ab_R i :: S) (h) := by
  intro p e s m args below meth c dC dI cI cW adr A X H locs ls Y
  obtain ⟨C, T, N, ty0, hcl, hkN, hin, hty, hnm, hlink⟩ := hf
  exact va_get (D := (dC, dI)) (ci := ci) (v := .int (h i n)) X.1 X.2.1 X.2.2.2.2.2.1 hin X.2.2.2.2.1 X.2.2.2.2.2.2.2.1 Y.1 i (ab_w_at he) hcl n hkN (X.2.2.2.2.2.1 _ hlink) (fun _ h => h) (by rw [List.getElem?_mapIdx, hk]; rfl) hd (k p e s m args below meth c dC dI cI cW adr A X H locs ls Y)
theorem ab_getr {idx ci n i j : Nat} {fl : List (Option Nat)} (hd : decode M.2.1 pc = .ok (.getfield idx, 3)) (hf : ab_F M.1.cls idx ci n) (he : lay[i]? = some (.inr (.inr (ci, fl)))) (hk : fl[n]? = some (some j)) (k : ab_J l lay M d Q (pc + 3) (L) (ab_R j :: S) (h)) : ab_J l lay M d Q (pc) (L) (ab_R i :: S) (h) := by
  intro p e s m args below meth c dC dI cI cW adr A X H locs ls Y
  obtain ⟨C, T, N, ty0, hcl, hkN, hin, hty, hnm, hlink⟩ := hf
  exact va_get (D := (dC, dI)) (ci := ci) (v := .ref (adr j)) X.1 X.2.1 X.2.2.2.2.2.1 hin X.2.2.2.2.1 X.2.2.2.2.2.2.2.1 Y.1 i (ab_w_at he) hcl n hkN (X.2.2.2.2.2.1 _ hlink) (fun _ h => h) (by rw [List.getElem?_mapIdx, hk]; rfl) hd (k p e s m args below meth c dC dI cI cW adr A X H locs ls Y)
theorem ab_puti {idx ci n i : Nat} {x : Int32} {fl : List (Option Nat)} (hd : decode M.2.1 pc = .ok (.putfield idx, 3)) (hf : ab_Fw M.1.cls idx ci n) (he : lay[i]? = some (.inr (.inr (ci, fl)))) (hk : fl[n]? = some none) (k : ab_J l lay M d Q (pc + 3) (L) (S) (ab_up h i n x)) : ab_J l lay M d Q (pc) (L) (ab_I x :: ab_R i :: S) (h) := by
  intro p e s m args below meth c dC dI cI cW adr A X H locs ls Y
  obtain ⟨C, T, N, ty0, hcl, hkN, hin, hty, hnm, hlink, hfin, hdsc⟩ := hf
  have hl : n < (fl.mapIdx (ab_f adr (h i))).length := by rw [List.length_mapIdx]; exact (List.getElem?_eq_some_iff.mp hk).1
  refine va_put (D := (dC, dI)) (ci := ci) (v := .int x) (ty := .int) X.1 X.2.1 X.2.2.2.2.2.1 hin ty0 hty hnm X.2.2.2.2.1 X.2.2.2.2.2.2.2.1 Y.1 (X.2.2.2.2.2.2.2.2.1.to cI cW h) Y.2.1 i (ab_w_at he) hcl n hkN (X.2.2.2.2.2.1 _ hlink) (fun _ h => h) hfin hdsc rfl rfl hl hd (fun H1 locs1 hP1 _ hS1 => ?_)
  rw [ab_f_set hk] at hP1
  exact k p e s m args below meth c dC dI cI cW adr A X H1 locs1 ls ⟨by have h9 := hP1; rw [show (adr i, (Sum.inr (ci, fl.mapIdx (ab_f adr (upd (h i) n x))) : va_E)) = (adr i, ab_e cI cW adr (upd (h i) n x) (.inr (.inr (ci, fl)))) from rfl, ab_w_set he] at h9; exact h9, hS1, Y.2.2⟩
theorem ab_iald {n i : Nat} {x : Int32} (hd : decode M.2.1 pc = .ok (.iaload, 1)) (he : lay[i]? = some (.inl n)) (hin : vp_in x n) (k : ab_J l lay M d Q (pc + 1) (L) (ab_I (h i x.toNatClampNeg) :: S) (h)) : ab_J l lay M d Q (pc) (L) (ab_I x :: ab_R i :: S) (h) := by
  intro p e s m args below meth c dC dI cI cW adr A X H locs ls Y
  exact va_iald (D := (dC, dI)) X.1 X.2.1 X.2.2.2.2.2.2.2.1 Y.1 i 0 (ab_w_at he) rfl hin hd (k p e s m args below meth c dC dI cI cW adr A X H locs ls Y)
theorem ab_iast {n i : Nat} {x y : Int32} (hd : decode M.2.1 pc = .ok (.iastore, 1)) (he : lay[i]? = some (.inl n)) (hin : vp_in x n) (k : ab_J l lay M d Q (pc + 1) (L) (S) (ab_up h i x.toNatClampNeg y)) : ab_J l lay M d Q (pc) (L) (ab_I y :: ab_I x :: ab_R i :: S) (h) := by
  intro p e s m args below meth c dC dI cI cW adr A X H locs ls Y
  refine va_iast (D := (dC, dI)) X.1 X.2.1 X.2.2.2.2.2.2.2.1 Y.1 (X.2.2.2.2.2.2.2.2.1.to cI cW h) Y.2.1 i 0 (ab_w_at he) rfl hin hd (fun H1 locs1 hP1 _ hS1 => ?_)
  exact k p e s m args below meth c dC dI cI cW adr A X H1 locs1 ls ⟨by have h9 := hP1; rw [show (adr i, (Sum.inl (cI, n, .inl (upd (h i) x.toNatClampNeg y)) : va_E)) = (adr i, ab_e cI cW adr (upd (h i) x.toNatClampNeg y) (.inl n)) from rfl, ab_w_set he] at h9; exact h9, hS1, Y.2.2⟩
theorem ab_aald {i j : Nat} {js : List Nat} {x : Int32} (hd : decode M.2.1 pc = .ok (.aaload, 1)) (he : lay[i]? = some (.inr (.inl js))) (hj : js[x.toNatClampNeg]? = some j) (h0 : ¬ x < 0) (k : ab_J l lay M d Q (pc + 1) (L) (ab_R j :: S) (h)) : ab_J l lay M d Q (pc) (L) (ab_I x :: ab_R i :: S) (h) := by
  intro p e s m args below meth c dC dI cI cW adr A X H locs ls Y
  have hin : vp_in x js.length := fun q => q.elim h0 (fun q => absurd (List.getElem?_eq_some_iff.mp hj).1 (Nat.not_lt.mpr q))
  refine va_aldq (D := (dC, dI)) (C := RX2) X.1 X.2.1 X.2.2.2.2.2.2.2.1 Y.1 i 1 (ab_w_at he) rfl hin hd ?_
  rw [show va_rf ((js[x.toNatClampNeg]?).map adr) = .ref (adr j) by rw [hj]; rfl]
  exact k p e s m args below meth c dC dI cI cW adr A X H locs ls Y
end ABR
section ABE
variable {l : Launch} {lay : List ab_E} {M : ab_M} {d : Nat} {Q : Option ab_V → ab_H → Prop} {pc : Nat} {L : List (Nat × ab_V)} {h : ab_H}
theorem ab_end {dC : Nat → ClassId} {dI : Nat → Nat → Nat} {cI cW : ClassId} {adr : Nat → Nat} {A : Nat → Prop} {s : State} {H : Heap} {locs : List Loc} {args : Array Value} (hK : va_K (dC, dI) vwCl (ab_tys cI cW) s) (hP : va_P (dC, dI) vwCl (ab_w lay cI cW adr h) H) (hS : va_S A s.heap H locs) {v : Option ab_V} (hq : Q v h) : ∀ t : State, t.heap = H → s.WarmedH t.vm → ab_Qc lay dC dI cI cW adr A Q args s (.returned (v.map (ab_c adr))) t :=
  fun t ht hW => ⟨⟨v, h, rfl, hq, by rw [ht]; exact hP, va_K.moved hW.alike hK⟩, hS.F ht⟩
theorem ab_reti {x : Int32} (hd : decode M.2.1 pc = .ok (.ireturn, 1)) (hr : M.2.2.2 = some .int) (hq : Q (some (ab_I x)) h) : ab_J l lay M d Q pc L [ab_I x] h := by
  intro p e s m args below meth c dC dI cI cW adr A X H locs ls Y
  exact W.iret X.1 X.2.1 (X.2.2.1.trans hr) (ab_end (v := some (ab_I x)) X.2.2.2.2.2.2.2.1 Y.1 Y.2.1 hq) Y.2.1.2.2 hd X.2.2.2.2.2.2.1
theorem ab_retz {x : Int32} (hd : decode M.2.1 pc = .ok (.ireturn, 1)) (hr : M.2.2.2 = some .boolean) (hx : narrow .boolean (.int x) = .int x) (hq : Q (some (ab_I x)) h) : ab_J l lay M d Q pc L [ab_I x] h := by
  intro p e s m args below meth c dC dI cI cW adr A X H locs ls Y
  exact W.zret X.1 X.2.1 (X.2.2.1.trans hr) hx (ab_end (v := some (ab_I x)) X.2.2.2.2.2.2.2.1 Y.1 Y.2.1 hq) Y.2.1.2.2 hd X.2.2.2.2.2.2.1
theorem ab_retl {x : Int64} (hd : decode M.2.1 pc = .ok (.lreturn, 1)) (hr : M.2.2.2 = some .long) (hq : Q (some (ab_L x)) h) : ab_J l lay M d Q pc L [ab_L x] h := by
  intro p e s m args below meth c dC dI cI cW adr A X H locs ls Y
  exact W.lret X.1 X.2.1 (X.2.2.1.trans hr) (ab_end (v := some (ab_L x)) X.2.2.2.2.2.2.2.1 Y.1 Y.2.1 hq) Y.2.1.2.2 hd X.2.2.2.2.2.2.1
theorem ab_retv (hd : decode M.2.1 pc = .ok (.return_, 1)) (hr : M.2.2.2 = none) (hq : Q none h) : ab_J l lay M d Q pc L [] h := by
  intro p e s m args below meth c dC dI cI cW adr A X H locs ls Y
  exact W.vret X.1 X.2.1 (X.2.2.1.trans hr) (ab_end (v := none) X.2.2.2.2.2.2.2.1 Y.1 Y.2.1 hq) Y.2.1.2.2 hd X.2.2.2.2.2.2.1
end ABE
end
section
/-! calls within one world: the callee has the caller's whole world -/
section ABC
variable {l : Launch} {lay : List ab_E} {M : ab_M} {d : Nat} {Q : Option ab_V → ab_H → Prop} {pc : Nat} {L : List (Nat × ab_V)} {S : List ab_V} {h : ab_H}
theorem ab_ws_good {M' : ab_M} (hc : Cond.code M'.1 M'.2.1 M'.2.2.1 M'.2.2.2 ∈ ab_all) : GoodIn ab_all (ab_ws M') := fun w hw => by
  have hm : w ∈ ab_all := by
    rcases List.mem_cons.mp hw with e | h
    · rw [e]; exact hc
    · exact h
  exact ⟨hm, good_of_word (List.mem_filter.mp hm).2⟩
theorem ab_callB {s : State} {args : Array Value} {own : String} {idx n : Nat} {M' : ab_M} (hts : ∀ w ∈ ab_all, w.before args s = true) (hm : ab_MB own idx n M') : CallB (ab_rm (d + 1)) s args own idx M'.1 M'.2.1 M'.2.2.1 M'.2.2.2 (ab_ws M') (ab_rm d) 0 0 n :=
  callB_of n hts (ab_ws_good hm.2.2.2.2) rfl rfl rfl (hts _ hm.2.2.2.1) (hts _ hm.2.2.1) hm.1 ⟨Nat.le_refl _, by have := hm.2.1; show 8 + (M'.2.2.1 + 11) + 40 * d ≤ 40 * (d + 1); omega⟩
theorem ab_blind {dC : Nat → ClassId} {dI : Nat → Nat → Nat} {cI cW : ClassId} {adr : Nat → Nat} {sz : Nat} {av : List Value} : FrameBlind (va_Pc av (fun U => U.heap.size = sz ∧ va_P (dC, dI) vwCl (ab_w lay cI cW adr h) U.heap ∧ va_K (dC, dI) vwCl (ab_tys cI cW) U ∧ ab_D lay adr (fun _ => True))) :=
  fun a U g mk q => by
    obtain ⟨q0, q1, qP, qK, qD⟩ := q
    exact ⟨q0, q1, qP, va_K.moved (u := U) (U := U.calling g mk a) (Vm.Alike.refl U.vm) qK, qD⟩
/-- behind a call -/
theorem ab_back {p : Program} {e : Env} {s : State} {m : MethodId} {args : Array Value} {below : List Frame} {meth : Method} {c : Code} {dC : Nat → ClassId} {dI : Nat → Nat → Nat} {cI cW : ClassId} {adr : Nat → Nat} {A : Nat → Prop} {H : Heap} {locs : List Loc} {ls : Array Slot} {st0 : List Value} {av : Array Value} {Q' : Option ab_V → ab_H → Prop}
    (X : ab_Cx lay M p s m args meth c dC dI cI cW adr A) (Y : ab_Dy lay M.2.2.1 s dC dI cI cW adr A H locs ls L h)
    (hr : va_Run p l e (ab_rm (d + 1)) s m args below meth c H locs 0 0 0 0 (F0 m pc ls st0) (S.map (ab_c adr)) (ab_Qc lay dC dI cI cW adr (ab_A lay adr H.size) Q' av) (ab_A lay adr H.size))
    (kk : ∀ v h', Q' v h' → ab_J l lay M (d + 1) Q (pc + 3) L (v.toList ++ S) h') : W p l e (ab_rm (d + 1)) s m args below meth c H locs 0 0 (MQ below (ab_Qc lay dC dI cI cW adr A Q) args s 0 0 A) (F0 m pc ls st0) := by
  intro T hT XT
  obtain ⟨v, st₀, t, T', Lc, h0, X', hL, e1, e2, ⟨⟨v', h', hv, hq, hP1, hK1⟩, hz, hk⟩, st⟩ := hr T hT XT
  cases hv
  rw [h0] at hz hk
  have hAA : ∀ q, ab_A lay adr H.size q → A q := fun q hq => by
    rcases hq with ⟨i, hi, rfl⟩ | hq
    · exact X.2.2.2.2.2.2.2.2.1.2 i hi
    · exact X.2.2.2.2.2.2.2.2.2 q (Nat.le_trans Y.2.1.1 hq)
  have hS1 : va_S A s.heap T'.heap (locs ++ Lc) := ⟨Nat.le_trans Y.2.1.1 (by rw [e1]; exact hz), fun q h1 h2 => by rw [e1, hk q (Nat.lt_of_lt_of_le h1 Y.2.1.1) (fun z => h2 (hAA q z))]; exact Y.2.1.2.1 q h1 h2, fun q hq => by
      rcases List.mem_append.mp hq with h | h
      · exact Y.2.1.2.2 q h
      · exact hAA _ (hL q h)⟩
  obtain ⟨t2, a1, b1⟩ := kk v' h' hq p e s m args below meth c dC dI cI cW adr A X T'.heap (locs ++ Lc) ls ⟨by rw [e1]; exact hP1, hS1, Y.2.2⟩ T' rfl X'
  refine ⟨t2, st t2 ?_, b1⟩
  have e3 : (v'.map (ab_c adr)).toList ++ S.map (ab_c adr) = (v'.toList ++ S).map (ab_c adr) := by cases v' <;> rfl
  rw [show ({ F0 m pc ls st0 with pc := (F0 m pc ls st0).pc + 3, stack := (v'.map (ab_c adr)).toList ++ S.map (ab_c adr) } : JFrame) = F0 m (pc + 3) ls ((v'.toList ++ S).map (ab_c adr)) by rw [e3]]
  exact a1
theorem ab_catS (adr : Nat → Nat) (S : List ab_V) : ((S.map (ab_c adr)).map fun v => v.category).sum = (S.map ab_cat).sum := by
  rw [List.map_map]
  congr 1
  exact List.map_congr_left fun v _ => ab_cat_c adr v
theorem ab_callV {M' : ab_M} {idx ci i n : Nat} {fl : List (Option Nat)} {As : List ab_V} {Q' : Option ab_V → ab_H → Prop} (hd : decode M.2.1 pc = .ok (.invokevirtual idx, 3)) (hm : ab_MV M.1.cls idx ci n M') (he : lay[i]? = some (.inr (.inr (ci, fl)))) (hn : As.length = n) (hS : (S.map ab_cat).sum ≤ 8)
    (hc : ab_C l lay d M' (ab_R i :: As) h Q') (kk : ∀ v h', Q' v h' → ab_J l lay M (d + 1) Q (pc + 3) L (v.toList ++ S) h') : ab_J l lay M (d + 1) Q pc L (As.reverse ++ ab_R i :: S) h := by
  intro p e s m args below meth c dC dI cI cW adr A X H locs ls Y
  obtain ⟨hx, hb, hr, hml, hown, hts, hlk, hK, hD, hA⟩ := id X
  obtain ⟨hP, hSs, hl⟩ := id Y
  obtain ⟨hmB, ⟨q, hq1, hq2⟩, hins, hsel⟩ := hm
  have cw : CallW (ab_rm (d + 1)) s args M.1.cls M'.1.cls idx M'.1 M'.2.1 M'.2.2.1 M'.2.2.2 (ab_ws M') (ab_rm d) 0 0 n := ⟨ab_callB hts hmB, hts _ hins, hts _ hsel⟩
  refine ab_back X Y (va_runV (As := As.map (ab_c adr)) (rest := S.map (ab_c adr)) (b := adr i) ⟨hx, hb, hml, hown, hts⟩ (hc dC dI cI cW adr H.size) cw ⟨ab_blind, ?_, fun U hU hW => ⟨rfl, by rw [hU], by rw [hU]; exact hP, va_K.moved hW.alike hK, hD.1, fun _ _ => trivial⟩⟩ rfl (by rw [List.length_map]; exact hn) hl.1 ?_ (lv_room (by rw [ab_catS]; exact hS)) hd ⟨Nat.zero_le _, Nat.zero_le _⟩) kk
  · rw [← hq2]
    exact va_recv hK hP hq1 (ab_w_at he)
  · show (As.reverse ++ ab_R i :: S).map (ab_c adr) = _
    rw [List.map_append, List.map_reverse]
    rfl
theorem ab_callS {M' : ab_M} {idx n : Nat} {As : List ab_V} {Q' : Option ab_V → ab_H → Prop} (hd : decode M.2.1 pc = .ok (.invokestatic idx, 3)) (hm : ab_MS M.1.cls idx n M') (hn : As.length = n) (hS : (S.map ab_cat).sum ≤ 8)
    (hc : ab_C l lay d M' As h Q') (kk : ∀ v h', Q' v h' → ab_J l lay M (d + 1) Q (pc + 3) L (v.toList ++ S) h') : ab_J l lay M (d + 1) Q pc L (As.reverse ++ S) h := by
  intro p e s m args below meth c dC dI cI cW adr A X H locs ls Y
  obtain ⟨hx, hb, hr, hml, hown, hts, hlk, hK, hD, hA⟩ := id X
  obtain ⟨hP, hSs, hl⟩ := id Y
  obtain ⟨hmB, hstat⟩ := hm
  refine ab_back X Y (va_runS (As := As.map (ab_c adr)) (rest := S.map (ab_c adr)) ⟨hx, hb, hml, hown, hts⟩ (hc dC dI cI cW adr H.size) ⟨ab_callB hts hmB, hts _ hstat⟩ ⟨ab_blind, fun U hU hW => ⟨rfl, by rw [hU], by rw [hU]; exact hP, va_K.moved hW.alike hK, hD.1, fun _ _ => trivial⟩⟩ rfl (by rw [List.length_map]; exact hn) hl.1 ?_ (lv_room (by rw [ab_catS]; exact hS)) hd ⟨Nat.zero_le _, Nat.zero_le _⟩) kk
  show (As.reverse ++ S).map (ab_c adr) = _
  rw [List.map_append, List.map_reverse]
theorem ab_V0 {M' : ab_M} {idx ci i : Nat} {fl : List (Option Nat)} {Q' : Option ab_V → ab_H → Prop} (hd : decode M.2.1 pc = .ok (.invokevirtual idx, 3)) (hm : ab_MV M.1.cls idx ci 0 M') (he : lay[i]? = some (.inr (.inr (ci, fl)))) (hS : Nat.ble (S.map ab_cat).sum 8 = true)
    (hc : ab_C l lay d M' [ab_R i] h Q') (kk : ∀ v h', Q' v h' → ab_J l lay M (d + 1) Q (pc + 3) L (v.toList ++ S) h') : ab_J l lay M (d + 1) Q pc L (ab_R i :: S) h := ab_callV (As := []) hd hm he rfl (Nat.le_of_ble_eq_true hS) hc kk
theorem ab_V1 {M' : ab_M} {idx ci i : Nat} {fl : List (Option Nat)} {a1 : ab_V} {Q' : Option ab_V → ab_H → Prop} (hd : decode M.2.1 pc = .ok (.invokevirtual idx, 3)) (hm : ab_MV M.1.cls idx ci 1 M') (he : lay[i]? = some (.inr (.inr (ci, fl)))) (hS : Nat.ble (S.map ab_cat).sum 8 = true)
    (hc : ab_C l lay d M' [ab_R i, a1] h Q') (kk : ∀ v h', Q' v h' → ab_J l lay M (d + 1) Q (pc + 3) L (v.toList ++ S) h') : ab_J l lay M (d + 1) Q pc L (a1 :: ab_R i :: S) h := ab_callV (As := [a1]) hd hm he rfl (Nat.le_of_ble_eq_true hS) hc kk
theorem ab_V2 {M' : ab_M} {idx ci i : Nat} {fl : List (Option Nat)} {a1 a2 : ab_V} {Q' : Option ab_V → ab_H → Prop} (hd : decode M.2.1 pc = .ok (.invokevirtual idx, 3)) (hm : ab_MV M.1.cls idx ci 2 M') (he : lay[i]? = some (.inr (.inr (ci, fl)))) (hS : Nat.ble (S.map ab_cat).sum 8 = true)
    (hc : ab_C l lay d M' [ab_R i, a1, a2] h Q') (kk : ∀ v h', Q' v h' → ab_J l lay M (d + 1) Q (pc + 3) L (v.toList ++ S) h') : ab_J l lay M (d + 1) Q pc L (a2 :: a1 :: ab_R i :: S) h := ab_callV (As := [a1, a2]) hd hm he rfl (Nat.le_of_ble_eq_true hS) hc kk
theorem ab_V3 {M' : ab_M} {idx ci i : Nat} {fl : List (Option Nat)} {a1 a2 a3 : ab_V} {Q' : Option ab_V → ab_H → Prop} (hd : decode M.2.1 pc = .ok (.invokevirtual idx, 3)) (hm : ab_MV M.1.cls idx ci 3 M') (he : lay[i]? = some (.inr (.inr (ci, fl)))) (hS : Nat.ble (S.map ab_cat).sum 8 = true)
    (hc : ab_C l lay d M' [ab_R i, a1, a2, a3] h Q') (kk : ∀ v h', Q' v h' → ab_J l lay M (d + 1) Q (pc + 3) L (v.toList ++ S) h') : ab_J l lay M (d + 1) Q pc L (a3 :: a2 :: a1 :: ab_R i :: S) h := ab_callV (As := [a1, a2, a3]) hd hm he rfl (Nat.le_of_ble_eq_true hS) hc kk
theorem ab_S1 {M' : ab_M} {idx : Nat} {a1 : ab_V} {Q' : Option ab_V → ab_H → Prop} (hd : decode M.2.1 pc = .ok (.invokestatic idx, 3)) (hm : ab_MS M.1.cls idx 1 M') (hS : Nat.ble (S.map ab_cat).sum 8 = true)
    (hc : ab_C l lay d M' [a1] h Q') (kk : ∀ v h', Q' v h' → ab_J l lay M (d + 1) Q (pc + 3) L (v.toList ++ S) h') : ab_J l lay M (d + 1) Q pc L (a1 :: S) h := ab_callS (As := [a1]) hd hm rfl (Nat.le_of_ble_eq_true hS) hc kk
theorem ab_S2 {M' : ab_M} {idx : Nat} {a1 a2 : ab_V} {Q' : Option ab_V → ab_H → Prop} (hd : decode M.2.1 pc = .ok (.invokestatic idx, 3)) (hm : ab_MS M.1.cls idx 2 M') (hS : Nat.ble (S.map ab_cat).sum 8 = true)
    (hc : ab_C l lay d M' [a1, a2] h Q') (kk : ∀ v h', Q' v h' → ab_J l lay M (d + 1) Q (pc + 3) L (v.toList ++ S) h') : ab_J l lay M (d + 1) Q pc L (a2 :: a1 :: S) h := ab_callS (As := [a1, a2]) hd hm rfl (Nat.le_of_ble_eq_true hS) hc kk
theorem ab_S3 {M' : ab_M} {idx : Nat} {a1 a2 a3 : ab_V} {Q' : Option ab_V → ab_H → Prop} (hd : decode M.2.1 pc = .ok (.invokestatic idx, 3)) (hm : ab_MS M.1.cls idx 3 M') (hS : Nat.ble (S.map ab_cat).sum 8 = true)
    (hc : ab_C l lay d M' [a1, a2, a3] h Q') (kk : ∀ v h', Q' v h' → ab_J l lay M (d + 1) Q (pc + 3) L (v.toList ++ S) h') : ab_J l lay M (d + 1) Q pc L (a3 :: a2 :: a1 :: S) h := ab_callS (As := [a1, a2, a3]) hd hm rfl (Nat.le_of_ble_eq_true hS) hc kk
theorem ab_max {idx : Nat} {x y : Int32} (hd : decode M.2.1 pc = .ok (.invokestatic idx, 3)) (h1 : Cond.methodLink M.1.cls idx Lib.Math.max.name ∈ ab_all) (h2 : Cond.static Lib.Math.max.name ∈ ab_all) (h3 : Cond.initialized "java/lang/Math" ∈ ab_all) (h4 : Cond.code Lib.Math.max.name Lib.Math.max.code 2 (some .int) ∈ ab_all) (hS : Nat.ble (S.map ab_cat).sum 8 = true)
    (k : ab_J l lay M (d + 1) Q (pc + 3) L (ab_I (if x < y then y else x) :: S) h) : ab_J l lay M (d + 1) Q pc L (ab_I y :: ab_I x :: S) h := by
  intro p e s m args below meth c dC dI cI cW adr A X H locs ls Y
  obtain ⟨hx, hb, hr, hml, hown, hts, hlk, hK, hD, hA⟩ := id X
  have h8 := Nat.le_of_ble_eq_true hS
  exact va_mmax hx hb (hml.trans Y.2.2.1.symm) hown (hts _ h1) (hts _ h2) (hts _ h3) (hts _ h4) (Nat.succ_le_succ (Nat.zero_le d)) (by rw [ab_catS]; show _ ≤ 40 * (d + 1); omega) (Nat.zero_le _) (Nat.zero_le _) hd (k p e s m args below meth c dC dI cI cW adr A X H locs ls Y)
theorem ab_copy {idx i j n0 n1 : Nat} {sp dp n : Int32} (hd : decode M.2.1 pc = .ok (.invokestatic idx, 3)) (h1 : Cond.methodLink M.1.cls idx arraycopyName ∈ ab_all) (h2 : Cond.native arraycopyName ∈ ab_all) (h3 : Cond.static arraycopyName ∈ ab_all) (h4 : Cond.initialized "java/lang/System" ∈ ab_all) (hS : Nat.ble (S.map ab_cat).sum 8 = true)
    (hi : lay[i]? = some (.inl n0)) (hj : lay[j]? = some (.inl n1)) (g1 : ¬ sp < 0) (g2 : ¬ dp < 0) (g3 : ¬ n < 0) (g4 : sp.toNatClampNeg + n.toNatClampNeg ≤ n0) (g5 : dp.toNatClampNeg + n.toNatClampNeg ≤ n1)
    (k : ab_J l lay M (d + 1) Q (pc + 3) L S (ab_upA h j (va_cpy (h i) (h j) sp.toNatClampNeg dp.toNatClampNeg n.toNatClampNeg))) : ab_J l lay M (d + 1) Q pc L (ab_I n :: ab_I dp :: ab_R j :: ab_I sp :: ab_R i :: S) h := by
  intro p e s m args below meth c dC dI cI cW adr A X H locs ls Y
  obtain ⟨hx, hb, hr, hml, hown, hts, hlk, hK, hD, hA⟩ := id X
  have h8 := Nat.le_of_ble_eq_true hS
  refine va_copyi (D := (dC, dI)) hx hb (hml.trans Y.2.2.1.symm) hown (hts _ h1) (hts _ h2) (hts _ h3) (hts _ h4) hK Y.1 (hD.to cI cW h) Y.2.1 i j 0 0 (ab_w_at hi) (ab_w_at hj) rfl rfl rfl g1 g2 g3 g4 g5 (fun _ _ => rfl) (Nat.succ_le_succ (Nat.zero_le d)) ?_ hd (fun H1 locs1 hP1 _ hS1 => ?_)
  · rw [ab_catS]
    show _ + (nativeFrameWords "java/lang/System" "arraycopy" 5 + 11) ≤ 40 * (d + 1)
    have : nativeFrameWords "java/lang/System" "arraycopy" 5 ≤ 20 := by decide +kernel
    omega
  · have h9 := hP1
    rw [show (adr j, (Sum.inl (cI, n1, .inl (va_cpy (h i) (h j) sp.toNatClampNeg dp.toNatClampNeg n.toNatClampNeg)) : va_E)) = (adr j, ab_e cI cW adr (va_cpy (h i) (h j) sp.toNatClampNeg dp.toNatClampNeg n.toNatClampNeg) (.inl n1)) from rfl, ab_w_set hj] at h9
    exact k p e s m args below meth c dC dI cI cW adr A X H1 locs1 ls ⟨h9, hS1, Y.2.2⟩
end ABC
end
section
theorem dX0_init_0 : decode cX0_init 0 = .ok (.aload_n 0, 1) := by decide +kernel
theorem dX0_init_1 : decode cX0_init 1 = .ok (.invokespecial 3, 3) := by decide +kernel
theorem dX0_init_4 : decode cX0_init 4 = .ok (.aload_n 0, 1) := by decide +kernel
theorem dX0_init_5 : decode cX0_init 5 = .ok (.bipush 8, 2) := by decide +kernel
theorem dX0_init_7 : decode cX0_init 7 = .ok (.newarray .int, 2) := by decide +kernel
theorem dX0_init_9 : decode cX0_init 9 = .ok (.putfield 9, 3) := by decide +kernel
theorem dX0_init_12 : decode cX0_init 12 = .ok (.aload_n 0, 1) := by decide +kernel
theorem dX0_init_13 : decode cX0_init 13 = .ok (.bipush 16, 2) := by decide +kernel
theorem dX0_init_15 : decode cX0_init 15 = .ok (.newarray .int, 2) := by decide +kernel
theorem dX0_init_17 : decode cX0_init 17 = .ok (.putfield 15, 3) := by decide +kernel
theorem dX0_init_20 : decode cX0_init 20 = .ok (.aload_n 0, 1) := by decide +kernel
theorem dX0_init_21 : decode cX0_init 21 = .ok (.bipush 8, 2) := by decide +kernel
theorem dX0_init_23 : decode cX0_init 23 = .ok (.putfield 18, 3) := by decide +kernel
theorem dX0_init_26 : decode cX0_init 26 = .ok (.aload_n 0, 1) := by decide +kernel
theorem dX0_init_27 : decode cX0_init 27 = .ok (.iconst 4, 1) := by decide +kernel
theorem dX0_init_28 : decode cX0_init 28 = .ok (.newarray .int, 2) := by decide +kernel
theorem dX0_init_30 : decode cX0_init 30 = .ok (.putfield 22, 3) := by decide +kernel
theorem dX0_init_33 : decode cX0_init 33 = .ok (.aload_n 0, 1) := by decide +kernel
theorem dX0_init_34 : decode cX0_init 34 = .ok (.iconst 4, 1) := by decide +kernel
theorem dX0_init_35 : decode cX0_init 35 = .ok (.newarray .int, 2) := by decide +kernel
theorem dX0_init_37 : decode cX0_init 37 = .ok (.putfield 25, 3) := by decide +kernel
theorem dX0_init_40 : decode cX0_init 40 = .ok (.aload_n 0, 1) := by decide +kernel
theorem dX0_init_41 : decode cX0_init 41 = .ok (.bipush 100, 2) := by decide +kernel
theorem dX0_init_43 : decode cX0_init 43 = .ok (.newarray .int, 2) := by decide +kernel
theorem dX0_init_45 : decode cX0_init 45 = .ok (.putfield 28, 3) := by decide +kernel
theorem dX0_init_48 : decode cX0_init 48 = .ok (.return_, 1) := by decide +kernel
theorem dX0_hasPlace_0 : decode cX0_hasPlace 0 = .ok (.iload_n 1, 1) := by decide +kernel
theorem dX0_hasPlace_1 : decode cX0_hasPlace 1 = .ok (.ifCond .lt 15, 3) := by decide +kernel
theorem dX0_hasPlace_4 : decode cX0_hasPlace 4 = .ok (.iload_n 1, 1) := by decide +kernel
theorem dX0_hasPlace_5 : decode cX0_hasPlace 5 = .ok (.aload_n 0, 1) := by decide +kernel
theorem dX0_hasPlace_6 : decode cX0_hasPlace 6 = .ok (.getfield 18, 3) := by decide +kernel
theorem dX0_hasPlace_9 : decode cX0_hasPlace 9 = .ok (.if_icmp .ge 7, 3) := by decide +kernel
theorem dX0_hasPlace_12 : decode cX0_hasPlace 12 = .ok (.iconst 1, 1) := by decide +kernel
theorem dX0_hasPlace_13 : decode cX0_hasPlace 13 = .ok (.goto 4, 3) := by decide +kernel
theorem dX0_hasPlace_16 : decode cX0_hasPlace 16 = .ok (.iconst 0, 1) := by decide +kernel
theorem dX0_hasPlace_17 : decode cX0_hasPlace 17 = .ok (.ireturn, 1) := by decide +kernel
theorem dX0_takeNote_0 : decode cX0_takeNote 0 = .ok (.aload_n 0, 1) := by decide +kernel
theorem dX0_takeNote_1 : decode cX0_takeNote 1 = .ok (.getfield 31, 3) := by decide +kernel
theorem dX0_takeNote_4 : decode cX0_takeNote 4 = .ok (.bipush 100, 2) := by decide +kernel
theorem dX0_takeNote_6 : decode cX0_takeNote 6 = .ok (.if_icmp .ge 23, 3) := by decide +kernel
theorem dX0_takeNote_9 : decode cX0_takeNote 9 = .ok (.aload_n 0, 1) := by decide +kernel
theorem dX0_takeNote_10 : decode cX0_takeNote 10 = .ok (.getfield 28, 3) := by decide +kernel
theorem dX0_takeNote_13 : decode cX0_takeNote 13 = .ok (.aload_n 0, 1) := by decide +kernel
theorem dX0_takeNote_14 : decode cX0_takeNote 14 = .ok (.getfield 31, 3) := by decide +kernel
theorem dX0_takeNote_17 : decode cX0_takeNote 17 = .ok (.iload_n 1, 1) := by decide +kernel
theorem dX0_takeNote_18 : decode cX0_takeNote 18 = .ok (.iastore, 1) := by decide +kernel
theorem dX0_takeNote_19 : decode cX0_takeNote 19 = .ok (.aload_n 0, 1) := by decide +kernel
theorem dX0_takeNote_20 : decode cX0_takeNote 20 = .ok (.dup, 1) := by decide +kernel
theorem dX0_takeNote_21 : decode cX0_takeNote 21 = .ok (.getfield 31, 3) := by decide +kernel
theorem dX0_takeNote_24 : decode cX0_takeNote 24 = .ok (.iconst 1, 1) := by decide +kernel
theorem dX0_takeNote_25 : decode cX0_takeNote 25 = .ok (.iadd, 1) := by decide +kernel
theorem dX0_takeNote_26 : decode cX0_takeNote 26 = .ok (.putfield 31, 3) := by decide +kernel
theorem dX0_takeNote_29 : decode cX0_takeNote 29 = .ok (.return_, 1) := by decide +kernel
theorem dX0_makeRow_0 : decode cX0_makeRow 0 = .ok (.iconst 0, 1) := by decide +kernel
theorem dX0_makeRow_1 : decode cX0_makeRow 1 = .ok (.istore_n 2, 1) := by decide +kernel
theorem dX0_makeRow_2 : decode cX0_makeRow 2 = .ok (.iload_n 2, 1) := by decide +kernel
theorem dX0_makeRow_3 : decode cX0_makeRow 3 = .ok (.bipush 16, 2) := by decide +kernel
theorem dX0_makeRow_5 : decode cX0_makeRow 5 = .ok (.if_icmp .ge 16, 3) := by decide +kernel
theorem dX0_makeRow_8 : decode cX0_makeRow 8 = .ok (.aload_n 0, 1) := by decide +kernel
theorem dX0_makeRow_9 : decode cX0_makeRow 9 = .ok (.getfield 15, 3) := by decide +kernel
theorem dX0_makeRow_12 : decode cX0_makeRow 12 = .ok (.iload_n 2, 1) := by decide +kernel
theorem dX0_makeRow_13 : decode cX0_makeRow 13 = .ok (.iconst 0, 1) := by decide +kernel
theorem dX0_makeRow_14 : decode cX0_makeRow 14 = .ok (.iastore, 1) := by decide +kernel
theorem dX0_makeRow_15 : decode cX0_makeRow 15 = .ok (.iinc 2 1, 3) := by decide +kernel
theorem dX0_makeRow_18 : decode cX0_makeRow 18 = .ok (.goto (-16), 3) := by decide +kernel
theorem dX0_makeRow_21 : decode cX0_makeRow 21 = .ok (.aload_n 0, 1) := by decide +kernel
theorem dX0_makeRow_22 : decode cX0_makeRow 22 = .ok (.iload_n 1, 1) := by decide +kernel
theorem dX0_makeRow_23 : decode cX0_makeRow 23 = .ok (.putfield 18, 3) := by decide +kernel
theorem dX0_makeRow_26 : decode cX0_makeRow 26 = .ok (.return_, 1) := by decide +kernel
theorem dX1_init_0 : decode cX1_init 0 = .ok (.aload_n 0, 1) := by decide +kernel
theorem dX1_init_1 : decode cX1_init 1 = .ok (.invokespecial 3, 3) := by decide +kernel
theorem dX1_init_4 : decode cX1_init 4 = .ok (.aload_n 0, 1) := by decide +kernel
theorem dX1_init_5 : decode cX1_init 5 = .ok (.bipush 60, 2) := by decide +kernel
theorem dX1_init_7 : decode cX1_init 7 = .ok (.newarray .int, 2) := by decide +kernel
theorem dX1_init_9 : decode cX1_init 9 = .ok (.putfield 11, 3) := by decide +kernel
theorem dX1_init_12 : decode cX1_init 12 = .ok (.aload_n 0, 1) := by decide +kernel
theorem dX1_init_13 : decode cX1_init 13 = .ok (.bipush 60, 2) := by decide +kernel
theorem dX1_init_15 : decode cX1_init 15 = .ok (.newarray .int, 2) := by decide +kernel
theorem dX1_init_17 : decode cX1_init 17 = .ok (.putfield 15, 3) := by decide +kernel
theorem dX1_init_20 : decode cX1_init 20 = .ok (.aload_n 0, 1) := by decide +kernel
theorem dX1_init_21 : decode cX1_init 21 = .ok (.bipush 60, 2) := by decide +kernel
theorem dX1_init_23 : decode cX1_init 23 = .ok (.newarray .int, 2) := by decide +kernel
theorem dX1_init_25 : decode cX1_init 25 = .ok (.putfield 18, 3) := by decide +kernel
theorem dX1_init_28 : decode cX1_init 28 = .ok (.aload_n 0, 1) := by decide +kernel
theorem dX1_init_29 : decode cX1_init 29 = .ok (.bipush 60, 2) := by decide +kernel
theorem dX1_init_31 : decode cX1_init 31 = .ok (.newarray .int, 2) := by decide +kernel
theorem dX1_init_33 : decode cX1_init 33 = .ok (.putfield 21, 3) := by decide +kernel
theorem dX1_init_36 : decode cX1_init 36 = .ok (.aload_n 0, 1) := by decide +kernel
theorem dX1_init_37 : decode cX1_init 37 = .ok (.sipush 960, 3) := by decide +kernel
theorem dX1_init_40 : decode cX1_init 40 = .ok (.newarray .int, 2) := by decide +kernel
theorem dX1_init_42 : decode cX1_init 42 = .ok (.putfield 24, 3) := by decide +kernel
theorem dX1_init_45 : decode cX1_init 45 = .ok (.aload_n 0, 1) := by decide +kernel
theorem dX1_init_46 : decode cX1_init 46 = .ok (.iconst (-1), 1) := by decide +kernel
theorem dX1_init_47 : decode cX1_init 47 = .ok (.putfield 27, 3) := by decide +kernel
theorem dX1_init_50 : decode cX1_init 50 = .ok (.return_, 1) := by decide +kernel
theorem dX1_enterScope_0 : decode cX1_enterScope 0 = .ok (.aload_n 0, 1) := by decide +kernel
theorem dX1_enterScope_1 : decode cX1_enterScope 1 = .ok (.getfield 27, 3) := by decide +kernel
theorem dX1_enterScope_4 : decode cX1_enterScope 4 = .ok (.istore_n 1, 1) := by decide +kernel
theorem dX1_enterScope_5 : decode cX1_enterScope 5 = .ok (.aload_n 0, 1) := by decide +kernel
theorem dX1_enterScope_6 : decode cX1_enterScope 6 = .ok (.aload_n 0, 1) := by decide +kernel
theorem dX1_enterScope_7 : decode cX1_enterScope 7 = .ok (.getfield 31, 3) := by decide +kernel
theorem dX1_enterScope_10 : decode cX1_enterScope 10 = .ok (.putfield 27, 3) := by decide +kernel
theorem dX1_enterScope_13 : decode cX1_enterScope 13 = .ok (.iload_n 1, 1) := by decide +kernel
theorem dX1_enterScope_14 : decode cX1_enterScope 14 = .ok (.ireturn, 1) := by decide +kernel
theorem dX1_leaveScope_0 : decode cX1_leaveScope 0 = .ok (.aload_n 0, 1) := by decide +kernel
theorem dX1_leaveScope_1 : decode cX1_leaveScope 1 = .ok (.iload_n 1, 1) := by decide +kernel
theorem dX1_leaveScope_2 : decode cX1_leaveScope 2 = .ok (.putfield 27, 3) := by decide +kernel
theorem dX1_leaveScope_5 : decode cX1_leaveScope 5 = .ok (.iload_n 1, 1) := by decide +kernel
theorem dX1_leaveScope_6 : decode cX1_leaveScope 6 = .ok (.iconst (-1), 1) := by decide +kernel
theorem dX1_leaveScope_7 : decode cX1_leaveScope 7 = .ok (.if_icmp .ne 8, 3) := by decide +kernel
theorem dX1_leaveScope_10 : decode cX1_leaveScope 10 = .ok (.aload_n 0, 1) := by decide +kernel
theorem dX1_leaveScope_11 : decode cX1_leaveScope 11 = .ok (.iconst 0, 1) := by decide +kernel
theorem dX1_leaveScope_12 : decode cX1_leaveScope 12 = .ok (.putfield 31, 3) := by decide +kernel
theorem dX1_leaveScope_15 : decode cX1_leaveScope 15 = .ok (.return_, 1) := by decide +kernel
theorem dX1_keep_0 : decode cX1_keep 0 = .ok (.aload_n 0, 1) := by decide +kernel
theorem dX1_keep_1 : decode cX1_keep 1 = .ok (.getfield 27, 3) := by decide +kernel
theorem dX1_keep_4 : decode cX1_keep 4 = .ok (.iconst (-1), 1) := by decide +kernel
theorem dX1_keep_5 : decode cX1_keep 5 = .ok (.if_icmp .eq 11, 3) := by decide +kernel
theorem dX1_keep_8 : decode cX1_keep 8 = .ok (.aload_n 0, 1) := by decide +kernel
theorem dX1_keep_9 : decode cX1_keep 9 = .ok (.aload_n 0, 1) := by decide +kernel
theorem dX1_keep_10 : decode cX1_keep 10 = .ok (.getfield 27, 3) := by decide +kernel
theorem dX1_keep_13 : decode cX1_keep 13 = .ok (.putfield 31, 3) := by decide +kernel
theorem dX1_keep_16 : decode cX1_keep 16 = .ok (.return_, 1) := by decide +kernel
theorem dX1_remember_0 : decode cX1_remember 0 = .ok (.aload_n 0, 1) := by decide +kernel
theorem dX1_remember_1 : decode cX1_remember 1 = .ok (.invokevirtual 34, 3) := by decide +kernel
theorem dX1_remember_4 : decode cX1_remember 4 = .ok (.ifCond .eq 43, 3) := by decide +kernel
theorem dX1_remember_7 : decode cX1_remember 7 = .ok (.aload_n 0, 1) := by decide +kernel
theorem dX1_remember_8 : decode cX1_remember 8 = .ok (.getfield 11, 3) := by decide +kernel
theorem dX1_remember_11 : decode cX1_remember 11 = .ok (.aload_n 0, 1) := by decide +kernel
theorem dX1_remember_12 : decode cX1_remember 12 = .ok (.getfield 31, 3) := by decide +kernel
theorem dX1_remember_15 : decode cX1_remember 15 = .ok (.iload_n 1, 1) := by decide +kernel
theorem dX1_remember_16 : decode cX1_remember 16 = .ok (.iastore, 1) := by decide +kernel
theorem dX1_remember_17 : decode cX1_remember 17 = .ok (.aload_n 0, 1) := by decide +kernel
theorem dX1_remember_18 : decode cX1_remember 18 = .ok (.getfield 15, 3) := by decide +kernel
theorem dX1_remember_21 : decode cX1_remember 21 = .ok (.aload_n 0, 1) := by decide +kernel
theorem dX1_remember_22 : decode cX1_remember 22 = .ok (.getfield 31, 3) := by decide +kernel
theorem dX1_remember_25 : decode cX1_remember 25 = .ok (.iload_n 2, 1) := by decide +kernel
theorem dX1_remember_26 : decode cX1_remember 26 = .ok (.iastore, 1) := by decide +kernel
theorem dX1_remember_27 : decode cX1_remember 27 = .ok (.aload_n 0, 1) := by decide +kernel
theorem dX1_remember_28 : decode cX1_remember 28 = .ok (.getfield 18, 3) := by decide +kernel
theorem dX1_remember_31 : decode cX1_remember 31 = .ok (.aload_n 0, 1) := by decide +kernel
theorem dX1_remember_32 : decode cX1_remember 32 = .ok (.getfield 31, 3) := by decide +kernel
theorem dX1_remember_35 : decode cX1_remember 35 = .ok (.iload_n 3, 1) := by decide +kernel
theorem dX1_remember_36 : decode cX1_remember 36 = .ok (.iastore, 1) := by decide +kernel
theorem dX1_remember_37 : decode cX1_remember 37 = .ok (.aload_n 0, 1) := by decide +kernel
theorem dX1_remember_38 : decode cX1_remember 38 = .ok (.dup, 1) := by decide +kernel
theorem dX1_remember_39 : decode cX1_remember 39 = .ok (.getfield 31, 3) := by decide +kernel
theorem dX1_remember_42 : decode cX1_remember 42 = .ok (.iconst 1, 1) := by decide +kernel
theorem dX1_remember_43 : decode cX1_remember 43 = .ok (.iadd, 1) := by decide +kernel
theorem dX1_remember_44 : decode cX1_remember 44 = .ok (.putfield 31, 3) := by decide +kernel
theorem dX1_remember_47 : decode cX1_remember 47 = .ok (.return_, 1) := by decide +kernel
theorem dX1_rememberRow_0 : decode cX1_rememberRow 0 = .ok (.aload_n 0, 1) := by decide +kernel
theorem dX1_rememberRow_1 : decode cX1_rememberRow 1 = .ok (.invokevirtual 34, 3) := by decide +kernel
theorem dX1_rememberRow_4 : decode cX1_rememberRow 4 = .ok (.ifCond .eq 35, 3) := by decide +kernel
theorem dX1_rememberRow_7 : decode cX1_rememberRow 7 = .ok (.aload_n 1, 1) := by decide +kernel
theorem dX1_rememberRow_8 : decode cX1_rememberRow 8 = .ok (.getfield 38, 3) := by decide +kernel
theorem dX1_rememberRow_11 : decode cX1_rememberRow 11 = .ok (.iconst 0, 1) := by decide +kernel
theorem dX1_rememberRow_12 : decode cX1_rememberRow 12 = .ok (.aload_n 0, 1) := by decide +kernel
theorem dX1_rememberRow_13 : decode cX1_rememberRow 13 = .ok (.getfield 24, 3) := by decide +kernel
theorem dX1_rememberRow_16 : decode cX1_rememberRow 16 = .ok (.aload_n 0, 1) := by decide +kernel
theorem dX1_rememberRow_17 : decode cX1_rememberRow 17 = .ok (.getfield 31, 3) := by decide +kernel
theorem dX1_rememberRow_20 : decode cX1_rememberRow 20 = .ok (.bipush 16, 2) := by decide +kernel
theorem dX1_rememberRow_22 : decode cX1_rememberRow 22 = .ok (.imul, 1) := by decide +kernel
theorem dX1_rememberRow_23 : decode cX1_rememberRow 23 = .ok (.bipush 16, 2) := by decide +kernel
theorem dX1_rememberRow_25 : decode cX1_rememberRow 25 = .ok (.invokestatic 43, 3) := by decide +kernel
theorem dX1_rememberRow_28 : decode cX1_rememberRow 28 = .ok (.aload_n 0, 1) := by decide +kernel
theorem dX1_rememberRow_29 : decode cX1_rememberRow 29 = .ok (.bipush 6, 2) := by decide +kernel
theorem dX1_rememberRow_31 : decode cX1_rememberRow 31 = .ok (.iconst 0, 1) := by decide +kernel
theorem dX1_rememberRow_32 : decode cX1_rememberRow 32 = .ok (.aload_n 1, 1) := by decide +kernel
theorem dX1_rememberRow_33 : decode cX1_rememberRow 33 = .ok (.getfield 49, 3) := by decide +kernel
theorem dX1_rememberRow_36 : decode cX1_rememberRow 36 = .ok (.invokevirtual 52, 3) := by decide +kernel
theorem dX1_rememberRow_39 : decode cX1_rememberRow 39 = .ok (.return_, 1) := by decide +kernel
theorem dX1_rememberSlot_0 : decode cX1_rememberSlot 0 = .ok (.aload_n 0, 1) := by decide +kernel
theorem dX1_rememberSlot_1 : decode cX1_rememberSlot 1 = .ok (.invokevirtual 34, 3) := by decide +kernel
theorem dX1_rememberSlot_4 : decode cX1_rememberSlot 4 = .ok (.ifCond .eq 31, 3) := by decide +kernel
theorem dX1_rememberSlot_7 : decode cX1_rememberSlot 7 = .ok (.aload_n 0, 1) := by decide +kernel
theorem dX1_rememberSlot_8 : decode cX1_rememberSlot 8 = .ok (.getfield 21, 3) := by decide +kernel
theorem dX1_rememberSlot_11 : decode cX1_rememberSlot 11 = .ok (.aload_n 0, 1) := by decide +kernel
theorem dX1_rememberSlot_12 : decode cX1_rememberSlot 12 = .ok (.getfield 31, 3) := by decide +kernel
theorem dX1_rememberSlot_15 : decode cX1_rememberSlot 15 = .ok (.aload_n 2, 1) := by decide +kernel
theorem dX1_rememberSlot_16 : decode cX1_rememberSlot 16 = .ok (.getfield 56, 3) := by decide +kernel
theorem dX1_rememberSlot_19 : decode cX1_rememberSlot 19 = .ok (.iload_n 1, 1) := by decide +kernel
theorem dX1_rememberSlot_20 : decode cX1_rememberSlot 20 = .ok (.iaload, 1) := by decide +kernel
theorem dX1_rememberSlot_21 : decode cX1_rememberSlot 21 = .ok (.iastore, 1) := by decide +kernel
theorem dX1_rememberSlot_22 : decode cX1_rememberSlot 22 = .ok (.aload_n 0, 1) := by decide +kernel
theorem dX1_rememberSlot_23 : decode cX1_rememberSlot 23 = .ok (.bipush 7, 2) := by decide +kernel
theorem dX1_rememberSlot_25 : decode cX1_rememberSlot 25 = .ok (.iload_n 1, 1) := by decide +kernel
theorem dX1_rememberSlot_26 : decode cX1_rememberSlot 26 = .ok (.aload_n 2, 1) := by decide +kernel
theorem dX1_rememberSlot_27 : decode cX1_rememberSlot 27 = .ok (.getfield 59, 3) := by decide +kernel
theorem dX1_rememberSlot_30 : decode cX1_rememberSlot 30 = .ok (.iload_n 1, 1) := by decide +kernel
theorem dX1_rememberSlot_31 : decode cX1_rememberSlot 31 = .ok (.iaload, 1) := by decide +kernel
theorem dX1_rememberSlot_32 : decode cX1_rememberSlot 32 = .ok (.invokevirtual 52, 3) := by decide +kernel
theorem dX1_rememberSlot_35 : decode cX1_rememberSlot 35 = .ok (.return_, 1) := by decide +kernel
theorem dX1_undoScope_0 : decode cX1_undoScope 0 = .ok (.aload_n 0, 1) := by decide +kernel
theorem dX1_undoScope_1 : decode cX1_undoScope 1 = .ok (.getfield 27, 3) := by decide +kernel
theorem dX1_undoScope_4 : decode cX1_undoScope 4 = .ok (.iconst (-1), 1) := by decide +kernel
theorem dX1_undoScope_5 : decode cX1_undoScope 5 = .ok (.if_icmp .ne 4, 3) := by decide +kernel
theorem dX1_undoScope_8 : decode cX1_undoScope 8 = .ok (.return_, 1) := by decide +kernel
theorem dX1_undoScope_9 : decode cX1_undoScope 9 = .ok (.aload_n 0, 1) := by decide +kernel
theorem dX1_undoScope_10 : decode cX1_undoScope 10 = .ok (.getfield 31, 3) := by decide +kernel
theorem dX1_undoScope_13 : decode cX1_undoScope 13 = .ok (.iconst 1, 1) := by decide +kernel
theorem dX1_undoScope_14 : decode cX1_undoScope 14 = .ok (.isub, 1) := by decide +kernel
theorem dX1_undoScope_15 : decode cX1_undoScope 15 = .ok (.istore_n 2, 1) := by decide +kernel
theorem dX1_undoScope_16 : decode cX1_undoScope 16 = .ok (.iload_n 2, 1) := by decide +kernel
theorem dX1_undoScope_17 : decode cX1_undoScope 17 = .ok (.aload_n 0, 1) := by decide +kernel
theorem dX1_undoScope_18 : decode cX1_undoScope 18 = .ok (.getfield 27, 3) := by decide +kernel
theorem dX1_undoScope_21 : decode cX1_undoScope 21 = .ok (.if_icmp .lt 15, 3) := by decide +kernel
theorem dX1_undoScope_24 : decode cX1_undoScope 24 = .ok (.aload_n 0, 1) := by decide +kernel
theorem dX1_undoScope_25 : decode cX1_undoScope 25 = .ok (.iload_n 2, 1) := by decide +kernel
theorem dX1_undoScope_26 : decode cX1_undoScope 26 = .ok (.aload_n 1, 1) := by decide +kernel
theorem dX1_undoScope_27 : decode cX1_undoScope 27 = .ok (.invokevirtual 62, 3) := by decide +kernel
theorem dX1_undoScope_30 : decode cX1_undoScope 30 = .ok (.iinc 2 (-1), 3) := by decide +kernel
theorem dX1_undoScope_33 : decode cX1_undoScope 33 = .ok (.goto (-17), 3) := by decide +kernel
theorem dX1_undoScope_36 : decode cX1_undoScope 36 = .ok (.aload_n 0, 1) := by decide +kernel
theorem dX1_undoScope_37 : decode cX1_undoScope 37 = .ok (.aload_n 0, 1) := by decide +kernel
theorem dX1_undoScope_38 : decode cX1_undoScope 38 = .ok (.getfield 27, 3) := by decide +kernel
theorem dX1_undoScope_41 : decode cX1_undoScope 41 = .ok (.putfield 31, 3) := by decide +kernel
theorem dX1_undoScope_44 : decode cX1_undoScope 44 = .ok (.return_, 1) := by decide +kernel
theorem dX1_hasRoom_0 : decode cX1_hasRoom 0 = .ok (.aload_n 0, 1) := by decide +kernel
theorem dX1_hasRoom_1 : decode cX1_hasRoom 1 = .ok (.getfield 27, 3) := by decide +kernel
theorem dX1_hasRoom_4 : decode cX1_hasRoom 4 = .ok (.iconst (-1), 1) := by decide +kernel
theorem dX1_hasRoom_5 : decode cX1_hasRoom 5 = .ok (.if_icmp .eq 16, 3) := by decide +kernel
theorem dX1_hasRoom_8 : decode cX1_hasRoom 8 = .ok (.aload_n 0, 1) := by decide +kernel
theorem dX1_hasRoom_9 : decode cX1_hasRoom 9 = .ok (.getfield 31, 3) := by decide +kernel
theorem dX1_hasRoom_12 : decode cX1_hasRoom 12 = .ok (.bipush 60, 2) := by decide +kernel
theorem dX1_hasRoom_14 : decode cX1_hasRoom 14 = .ok (.if_icmp .ge 7, 3) := by decide +kernel
theorem dX1_hasRoom_17 : decode cX1_hasRoom 17 = .ok (.iconst 1, 1) := by decide +kernel
theorem dX1_hasRoom_18 : decode cX1_hasRoom 18 = .ok (.goto 4, 3) := by decide +kernel
theorem dX1_hasRoom_21 : decode cX1_hasRoom 21 = .ok (.iconst 0, 1) := by decide +kernel
theorem dX1_hasRoom_22 : decode cX1_hasRoom 22 = .ok (.ireturn, 1) := by decide +kernel
theorem dX1_undoAt_0 : decode cX1_undoAt 0 = .ok (.aload_n 0, 1) := by decide +kernel
theorem dX1_undoAt_1 : decode cX1_undoAt 1 = .ok (.getfield 15, 3) := by decide +kernel
theorem dX1_undoAt_4 : decode cX1_undoAt 4 = .ok (.iload_n 1, 1) := by decide +kernel
theorem dX1_undoAt_5 : decode cX1_undoAt 5 = .ok (.iaload, 1) := by decide +kernel
theorem dX1_undoAt_6 : decode cX1_undoAt 6 = .ok (.istore_n 3, 1) := by decide +kernel
theorem dX1_undoAt_7 : decode cX1_undoAt 7 = .ok (.aload_n 0, 1) := by decide +kernel
theorem dX1_undoAt_8 : decode cX1_undoAt 8 = .ok (.getfield 11, 3) := by decide +kernel
theorem dX1_undoAt_11 : decode cX1_undoAt 11 = .ok (.iload_n 1, 1) := by decide +kernel
theorem dX1_undoAt_12 : decode cX1_undoAt 12 = .ok (.iaload, 1) := by decide +kernel
theorem dX1_undoAt_13 : decode cX1_undoAt 13 = .ok (.iconst 5, 1) := by decide +kernel
theorem dX1_undoAt_14 : decode cX1_undoAt 14 = .ok (.if_icmp .ne 22, 3) := by decide +kernel
theorem dX1_undoAt_17 : decode cX1_undoAt 17 = .ok (.aload_n 2, 1) := by decide +kernel
theorem dX1_undoAt_18 : decode cX1_undoAt 18 = .ok (.iload_n 3, 1) := by decide +kernel
theorem dX1_undoAt_19 : decode cX1_undoAt 19 = .ok (.invokevirtual 66, 3) := by decide +kernel
theorem dX1_undoAt_22 : decode cX1_undoAt 22 = .ok (.ifCond .ne 14, 3) := by decide +kernel
theorem dX1_undoAt_25 : decode cX1_undoAt 25 = .ok (.aload_n 0, 1) := by decide +kernel
theorem dX1_undoAt_26 : decode cX1_undoAt 26 = .ok (.dup, 1) := by decide +kernel
theorem dX1_undoAt_27 : decode cX1_undoAt 27 = .ok (.getfield 70, 3) := by decide +kernel
theorem dX1_undoAt_30 : decode cX1_undoAt 30 = .ok (.iconst 1, 1) := by decide +kernel
theorem dX1_undoAt_31 : decode cX1_undoAt 31 = .ok (.iadd, 1) := by decide +kernel
theorem dX1_undoAt_32 : decode cX1_undoAt 32 = .ok (.putfield 70, 3) := by decide +kernel
theorem dX1_undoAt_35 : decode cX1_undoAt 35 = .ok (.return_, 1) := by decide +kernel
theorem dX1_undoAt_36 : decode cX1_undoAt 36 = .ok (.aload_n 0, 1) := by decide +kernel
theorem dX1_undoAt_37 : decode cX1_undoAt 37 = .ok (.dup, 1) := by decide +kernel
theorem dX1_undoAt_38 : decode cX1_undoAt 38 = .ok (.getfield 73, 3) := by decide +kernel
theorem dX1_undoAt_41 : decode cX1_undoAt 41 = .ok (.iconst 1, 1) := by decide +kernel
theorem dX1_undoAt_42 : decode cX1_undoAt 42 = .ok (.iadd, 1) := by decide +kernel
theorem dX1_undoAt_43 : decode cX1_undoAt 43 = .ok (.putfield 73, 3) := by decide +kernel
theorem dX1_undoAt_46 : decode cX1_undoAt 46 = .ok (.aload_n 0, 1) := by decide +kernel
theorem dX1_undoAt_47 : decode cX1_undoAt 47 = .ok (.getfield 11, 3) := by decide +kernel
theorem dX1_undoAt_50 : decode cX1_undoAt 50 = .ok (.iload_n 1, 1) := by decide +kernel
theorem dX1_undoAt_51 : decode cX1_undoAt 51 = .ok (.iaload, 1) := by decide +kernel
theorem dX1_undoAt_52 : decode cX1_undoAt 52 = .ok (.tableswitch 135 1 7 #[44, 135, 135, 135, 62, 77, 108], 44) := by decide +kernel
theorem dX1_undoAt_96 : decode cX1_undoAt 96 = .ok (.aload_n 2, 1) := by decide +kernel
theorem dX1_undoAt_97 : decode cX1_undoAt 97 = .ok (.getfield 76, 3) := by decide +kernel
theorem dX1_undoAt_100 : decode cX1_undoAt 100 = .ok (.iload_n 3, 1) := by decide +kernel
theorem dX1_undoAt_101 : decode cX1_undoAt 101 = .ok (.dup2, 1) := by decide +kernel
theorem dX1_undoAt_102 : decode cX1_undoAt 102 = .ok (.iaload, 1) := by decide +kernel
theorem dX1_undoAt_103 : decode cX1_undoAt 103 = .ok (.aload_n 0, 1) := by decide +kernel
theorem dX1_undoAt_104 : decode cX1_undoAt 104 = .ok (.getfield 18, 3) := by decide +kernel
theorem dX1_undoAt_107 : decode cX1_undoAt 107 = .ok (.iload_n 1, 1) := by decide +kernel
theorem dX1_undoAt_108 : decode cX1_undoAt 108 = .ok (.iaload, 1) := by decide +kernel
theorem dX1_undoAt_109 : decode cX1_undoAt 109 = .ok (.isub, 1) := by decide +kernel
theorem dX1_undoAt_110 : decode cX1_undoAt 110 = .ok (.iastore, 1) := by decide +kernel
theorem dX1_undoAt_111 : decode cX1_undoAt 111 = .ok (.goto 88, 3) := by decide +kernel
theorem dX1_undoAt_114 : decode cX1_undoAt 114 = .ok (.aload_n 2, 1) := by decide +kernel
theorem dX1_undoAt_115 : decode cX1_undoAt 115 = .ok (.getfield 38, 3) := by decide +kernel
theorem dX1_undoAt_118 : decode cX1_undoAt 118 = .ok (.iload_n 3, 1) := by decide +kernel
theorem dX1_undoAt_119 : decode cX1_undoAt 119 = .ok (.aload_n 0, 1) := by decide +kernel
theorem dX1_undoAt_120 : decode cX1_undoAt 120 = .ok (.getfield 18, 3) := by decide +kernel
theorem dX1_undoAt_123 : decode cX1_undoAt 123 = .ok (.iload_n 1, 1) := by decide +kernel
theorem dX1_undoAt_124 : decode cX1_undoAt 124 = .ok (.iaload, 1) := by decide +kernel
theorem dX1_undoAt_125 : decode cX1_undoAt 125 = .ok (.iastore, 1) := by decide +kernel
theorem dX1_undoAt_126 : decode cX1_undoAt 126 = .ok (.goto 73, 3) := by decide +kernel
theorem dX1_undoAt_129 : decode cX1_undoAt 129 = .ok (.aload_n 0, 1) := by decide +kernel
theorem dX1_undoAt_130 : decode cX1_undoAt 130 = .ok (.getfield 24, 3) := by decide +kernel
theorem dX1_undoAt_133 : decode cX1_undoAt 133 = .ok (.iload_n 1, 1) := by decide +kernel
theorem dX1_undoAt_134 : decode cX1_undoAt 134 = .ok (.bipush 16, 2) := by decide +kernel
theorem dX1_undoAt_136 : decode cX1_undoAt 136 = .ok (.imul, 1) := by decide +kernel
theorem dX1_undoAt_137 : decode cX1_undoAt 137 = .ok (.aload_n 2, 1) := by decide +kernel
theorem dX1_undoAt_138 : decode cX1_undoAt 138 = .ok (.getfield 38, 3) := by decide +kernel
theorem dX1_undoAt_141 : decode cX1_undoAt 141 = .ok (.iconst 0, 1) := by decide +kernel
theorem dX1_undoAt_142 : decode cX1_undoAt 142 = .ok (.bipush 16, 2) := by decide +kernel
theorem dX1_undoAt_144 : decode cX1_undoAt 144 = .ok (.invokestatic 43, 3) := by decide +kernel
theorem dX1_undoAt_147 : decode cX1_undoAt 147 = .ok (.aload_n 2, 1) := by decide +kernel
theorem dX1_undoAt_148 : decode cX1_undoAt 148 = .ok (.aload_n 0, 1) := by decide +kernel
theorem dX1_undoAt_149 : decode cX1_undoAt 149 = .ok (.getfield 18, 3) := by decide +kernel
theorem dX1_undoAt_152 : decode cX1_undoAt 152 = .ok (.iload_n 1, 1) := by decide +kernel
theorem dX1_undoAt_153 : decode cX1_undoAt 153 = .ok (.iaload, 1) := by decide +kernel
theorem dX1_undoAt_154 : decode cX1_undoAt 154 = .ok (.putfield 49, 3) := by decide +kernel
theorem dX1_undoAt_157 : decode cX1_undoAt 157 = .ok (.goto 42, 3) := by decide +kernel
theorem dX1_undoAt_160 : decode cX1_undoAt 160 = .ok (.aload_n 2, 1) := by decide +kernel
theorem dX1_undoAt_161 : decode cX1_undoAt 161 = .ok (.getfield 56, 3) := by decide +kernel
theorem dX1_undoAt_164 : decode cX1_undoAt 164 = .ok (.iload_n 3, 1) := by decide +kernel
theorem dX1_undoAt_165 : decode cX1_undoAt 165 = .ok (.aload_n 0, 1) := by decide +kernel
theorem dX1_undoAt_166 : decode cX1_undoAt 166 = .ok (.getfield 21, 3) := by decide +kernel
theorem dX1_undoAt_169 : decode cX1_undoAt 169 = .ok (.iload_n 1, 1) := by decide +kernel
theorem dX1_undoAt_170 : decode cX1_undoAt 170 = .ok (.iaload, 1) := by decide +kernel
theorem dX1_undoAt_171 : decode cX1_undoAt 171 = .ok (.iastore, 1) := by decide +kernel
theorem dX1_undoAt_172 : decode cX1_undoAt 172 = .ok (.aload_n 2, 1) := by decide +kernel
theorem dX1_undoAt_173 : decode cX1_undoAt 173 = .ok (.getfield 59, 3) := by decide +kernel
theorem dX1_undoAt_176 : decode cX1_undoAt 176 = .ok (.iload_n 3, 1) := by decide +kernel
theorem dX1_undoAt_177 : decode cX1_undoAt 177 = .ok (.aload_n 0, 1) := by decide +kernel
theorem dX1_undoAt_178 : decode cX1_undoAt 178 = .ok (.getfield 18, 3) := by decide +kernel
theorem dX1_undoAt_181 : decode cX1_undoAt 181 = .ok (.iload_n 1, 1) := by decide +kernel
theorem dX1_undoAt_182 : decode cX1_undoAt 182 = .ok (.iaload, 1) := by decide +kernel
theorem dX1_undoAt_183 : decode cX1_undoAt 183 = .ok (.iastore, 1) := by decide +kernel
theorem dX1_undoAt_184 : decode cX1_undoAt 184 = .ok (.goto 15, 3) := by decide +kernel
theorem dX1_undoAt_187 : decode cX1_undoAt 187 = .ok (.aload_n 2, 1) := by decide +kernel
theorem dX1_undoAt_188 : decode cX1_undoAt 188 = .ok (.getfield 76, 3) := by decide +kernel
theorem dX1_undoAt_191 : decode cX1_undoAt 191 = .ok (.iload_n 3, 1) := by decide +kernel
theorem dX1_undoAt_192 : decode cX1_undoAt 192 = .ok (.aload_n 0, 1) := by decide +kernel
theorem dX1_undoAt_193 : decode cX1_undoAt 193 = .ok (.getfield 18, 3) := by decide +kernel
theorem dX1_undoAt_196 : decode cX1_undoAt 196 = .ok (.iload_n 1, 1) := by decide +kernel
theorem dX1_undoAt_197 : decode cX1_undoAt 197 = .ok (.iaload, 1) := by decide +kernel
theorem dX1_undoAt_198 : decode cX1_undoAt 198 = .ok (.iastore, 1) := by decide +kernel
theorem dX1_undoAt_199 : decode cX1_undoAt 199 = .ok (.return_, 1) := by decide +kernel
theorem dX2_init_0 : decode cX2_init 0 = .ok (.aload_n 0, 1) := by decide +kernel
theorem dX2_init_1 : decode cX2_init 1 = .ok (.invokespecial 3, 3) := by decide +kernel
theorem dX2_init_4 : decode cX2_init 4 = .ok (.aload_n 0, 1) := by decide +kernel
theorem dX2_init_5 : decode cX2_init 5 = .ok (.bipush 60, 2) := by decide +kernel
theorem dX2_init_7 : decode cX2_init 7 = .ok (.newarray .int, 2) := by decide +kernel
theorem dX2_init_9 : decode cX2_init 9 = .ok (.putfield 9, 3) := by decide +kernel
theorem dX2_init_12 : decode cX2_init 12 = .ok (.aload_n 0, 1) := by decide +kernel
theorem dX2_init_13 : decode cX2_init 13 = .ok (.bipush 60, 2) := by decide +kernel
theorem dX2_init_15 : decode cX2_init 15 = .ok (.newarray .int, 2) := by decide +kernel
theorem dX2_init_17 : decode cX2_init 17 = .ok (.putfield 15, 3) := by decide +kernel
theorem dX2_init_20 : decode cX2_init 20 = .ok (.aload_n 0, 1) := by decide +kernel
theorem dX2_init_21 : decode cX2_init 21 = .ok (.bipush 60, 2) := by decide +kernel
theorem dX2_init_23 : decode cX2_init 23 = .ok (.newarray .int, 2) := by decide +kernel
theorem dX2_init_25 : decode cX2_init 25 = .ok (.putfield 18, 3) := by decide +kernel
theorem dX2_init_28 : decode cX2_init 28 = .ok (.aload_n 0, 1) := by decide +kernel
theorem dX2_init_29 : decode cX2_init 29 = .ok (.bipush 60, 2) := by decide +kernel
theorem dX2_init_31 : decode cX2_init 31 = .ok (.newarray .int, 2) := by decide +kernel
theorem dX2_init_33 : decode cX2_init 33 = .ok (.putfield 21, 3) := by decide +kernel
theorem dX2_init_36 : decode cX2_init 36 = .ok (.aload_n 0, 1) := by decide +kernel
theorem dX2_init_37 : decode cX2_init 37 = .ok (.bipush 60, 2) := by decide +kernel
theorem dX2_init_39 : decode cX2_init 39 = .ok (.newarray .int, 2) := by decide +kernel
theorem dX2_init_41 : decode cX2_init 41 = .ok (.putfield 24, 3) := by decide +kernel
theorem dX2_init_44 : decode cX2_init 44 = .ok (.aload_n 0, 1) := by decide +kernel
theorem dX2_init_45 : decode cX2_init 45 = .ok (.bipush 10, 2) := by decide +kernel
theorem dX2_init_47 : decode cX2_init 47 = .ok (.newarray .int, 2) := by decide +kernel
theorem dX2_init_49 : decode cX2_init 49 = .ok (.putfield 27, 3) := by decide +kernel
theorem dX2_init_52 : decode cX2_init 52 = .ok (.aload_n 0, 1) := by decide +kernel
theorem dX2_init_53 : decode cX2_init 53 = .ok (.bipush 10, 2) := by decide +kernel
theorem dX2_init_55 : decode cX2_init 55 = .ok (.newarray .int, 2) := by decide +kernel
theorem dX2_init_57 : decode cX2_init 57 = .ok (.putfield 30, 3) := by decide +kernel
theorem dX2_init_60 : decode cX2_init 60 = .ok (.return_, 1) := by decide +kernel
theorem dX2_isWhole_0 : decode cX2_isWhole 0 = .ok (.aload_n 0, 1) := by decide +kernel
theorem dX2_isWhole_1 : decode cX2_isWhole 1 = .ok (.getfield 33, 3) := by decide +kernel
theorem dX2_isWhole_4 : decode cX2_isWhole 4 = .ok (.ifCond .ne 7, 3) := by decide +kernel
theorem dX2_isWhole_7 : decode cX2_isWhole 7 = .ok (.iconst 1, 1) := by decide +kernel
theorem dX2_isWhole_8 : decode cX2_isWhole 8 = .ok (.goto 4, 3) := by decide +kernel
theorem dX2_isWhole_11 : decode cX2_isWhole 11 = .ok (.iconst 0, 1) := by decide +kernel
theorem dX2_isWhole_12 : decode cX2_isWhole 12 = .ok (.ireturn, 1) := by decide +kernel
theorem dX2_empty_0 : decode cX2_empty 0 = .ok (.aload_n 0, 1) := by decide +kernel
theorem dX2_empty_1 : decode cX2_empty 1 = .ok (.iconst 0, 1) := by decide +kernel
theorem dX2_empty_2 : decode cX2_empty 2 = .ok (.putfield 33, 3) := by decide +kernel
theorem dX2_empty_5 : decode cX2_empty 5 = .ok (.aload_n 0, 1) := by decide +kernel
theorem dX2_empty_6 : decode cX2_empty 6 = .ok (.iconst 0, 1) := by decide +kernel
theorem dX2_empty_7 : decode cX2_empty 7 = .ok (.putfield 37, 3) := by decide +kernel
theorem dX2_empty_10 : decode cX2_empty 10 = .ok (.return_, 1) := by decide +kernel
theorem dX2_canTake_0 : decode cX2_canTake 0 = .ok (.aload_n 0, 1) := by decide +kernel
theorem dX2_canTake_1 : decode cX2_canTake 1 = .ok (.getfield 37, 3) := by decide +kernel
theorem dX2_canTake_4 : decode cX2_canTake 4 = .ok (.bipush 60, 2) := by decide +kernel
theorem dX2_canTake_6 : decode cX2_canTake 6 = .ok (.if_icmp .lt 5, 3) := by decide +kernel
theorem dX2_canTake_9 : decode cX2_canTake 9 = .ok (.iconst 0, 1) := by decide +kernel
theorem dX2_canTake_10 : decode cX2_canTake 10 = .ok (.ireturn, 1) := by decide +kernel
theorem dX2_canTake_11 : decode cX2_canTake 11 = .ok (.iload_n 1, 1) := by decide +kernel
theorem dX2_canTake_12 : decode cX2_canTake 12 = .ok (.tableswitch 164 10 22 #[68, 83, 98, 68, 68, 68, 137, 150, 150, 164, 164, 68, 122], 68) := by decide +kernel
theorem dX2_canTake_80 : decode cX2_canTake 80 = .ok (.aload_n 0, 1) := by decide +kernel
theorem dX2_canTake_81 : decode cX2_canTake 81 = .ok (.getfield 33, 3) := by decide +kernel
theorem dX2_canTake_84 : decode cX2_canTake 84 = .ok (.bipush 10, 2) := by decide +kernel
theorem dX2_canTake_86 : decode cX2_canTake 86 = .ok (.if_icmp .ge 7, 3) := by decide +kernel
theorem dX2_canTake_89 : decode cX2_canTake 89 = .ok (.iconst 1, 1) := by decide +kernel
theorem dX2_canTake_90 : decode cX2_canTake 90 = .ok (.goto 4, 3) := by decide +kernel
theorem dX2_canTake_93 : decode cX2_canTake 93 = .ok (.iconst 0, 1) := by decide +kernel
theorem dX2_canTake_94 : decode cX2_canTake 94 = .ok (.ireturn, 1) := by decide +kernel
theorem dX2_canTake_95 : decode cX2_canTake 95 = .ok (.aload_n 0, 1) := by decide +kernel
theorem dX2_canTake_96 : decode cX2_canTake 96 = .ok (.invokevirtual 40, 3) := by decide +kernel
theorem dX2_canTake_99 : decode cX2_canTake 99 = .ok (.bipush 10, 2) := by decide +kernel
theorem dX2_canTake_101 : decode cX2_canTake 101 = .ok (.if_icmp .ne 7, 3) := by decide +kernel
theorem dX2_canTake_104 : decode cX2_canTake 104 = .ok (.iconst 1, 1) := by decide +kernel
theorem dX2_canTake_105 : decode cX2_canTake 105 = .ok (.goto 4, 3) := by decide +kernel
theorem dX2_canTake_108 : decode cX2_canTake 108 = .ok (.iconst 0, 1) := by decide +kernel
theorem dX2_canTake_109 : decode cX2_canTake 109 = .ok (.ireturn, 1) := by decide +kernel
theorem dX2_canTake_110 : decode cX2_canTake 110 = .ok (.aload_n 0, 1) := by decide +kernel
theorem dX2_canTake_111 : decode cX2_canTake 111 = .ok (.invokevirtual 40, 3) := by decide +kernel
theorem dX2_canTake_114 : decode cX2_canTake 114 = .ok (.bipush 10, 2) := by decide +kernel
theorem dX2_canTake_116 : decode cX2_canTake 116 = .ok (.if_icmp .eq 12, 3) := by decide +kernel
theorem dX2_canTake_119 : decode cX2_canTake 119 = .ok (.aload_n 0, 1) := by decide +kernel
theorem dX2_canTake_120 : decode cX2_canTake 120 = .ok (.invokevirtual 40, 3) := by decide +kernel
theorem dX2_canTake_123 : decode cX2_canTake 123 = .ok (.bipush 11, 2) := by decide +kernel
theorem dX2_canTake_125 : decode cX2_canTake 125 = .ok (.if_icmp .ne 7, 3) := by decide +kernel
theorem dX2_canTake_128 : decode cX2_canTake 128 = .ok (.iconst 1, 1) := by decide +kernel
theorem dX2_canTake_129 : decode cX2_canTake 129 = .ok (.goto 4, 3) := by decide +kernel
theorem dX2_canTake_132 : decode cX2_canTake 132 = .ok (.iconst 0, 1) := by decide +kernel
theorem dX2_canTake_133 : decode cX2_canTake 133 = .ok (.ireturn, 1) := by decide +kernel
theorem dX2_canTake_134 : decode cX2_canTake 134 = .ok (.aload_n 0, 1) := by decide +kernel
theorem dX2_canTake_135 : decode cX2_canTake 135 = .ok (.invokevirtual 40, 3) := by decide +kernel
theorem dX2_canTake_138 : decode cX2_canTake 138 = .ok (.bipush 21, 2) := by decide +kernel
theorem dX2_canTake_140 : decode cX2_canTake 140 = .ok (.if_icmp .ne 7, 3) := by decide +kernel
theorem dX2_canTake_143 : decode cX2_canTake 143 = .ok (.iconst 1, 1) := by decide +kernel
theorem dX2_canTake_144 : decode cX2_canTake 144 = .ok (.goto 4, 3) := by decide +kernel
theorem dX2_canTake_147 : decode cX2_canTake 147 = .ok (.iconst 0, 1) := by decide +kernel
theorem dX2_canTake_148 : decode cX2_canTake 148 = .ok (.ireturn, 1) := by decide +kernel
theorem dX2_canTake_149 : decode cX2_canTake 149 = .ok (.aload_n 0, 1) := by decide +kernel
theorem dX2_canTake_150 : decode cX2_canTake 150 = .ok (.getfield 33, 3) := by decide +kernel
theorem dX2_canTake_153 : decode cX2_canTake 153 = .ok (.ifCond .le 7, 3) := by decide +kernel
theorem dX2_canTake_156 : decode cX2_canTake 156 = .ok (.iconst 1, 1) := by decide +kernel
theorem dX2_canTake_157 : decode cX2_canTake 157 = .ok (.goto 4, 3) := by decide +kernel
theorem dX2_canTake_160 : decode cX2_canTake 160 = .ok (.iconst 0, 1) := by decide +kernel
theorem dX2_canTake_161 : decode cX2_canTake 161 = .ok (.ireturn, 1) := by decide +kernel
theorem dX2_canTake_162 : decode cX2_canTake 162 = .ok (.aload_n 0, 1) := by decide +kernel
theorem dX2_canTake_163 : decode cX2_canTake 163 = .ok (.invokevirtual 44, 3) := by decide +kernel
theorem dX2_canTake_166 : decode cX2_canTake 166 = .ok (.iload_n 2, 1) := by decide +kernel
theorem dX2_canTake_167 : decode cX2_canTake 167 = .ok (.if_icmp .le 7, 3) := by decide +kernel
theorem dX2_canTake_170 : decode cX2_canTake 170 = .ok (.iconst 1, 1) := by decide +kernel
theorem dX2_canTake_171 : decode cX2_canTake 171 = .ok (.goto 4, 3) := by decide +kernel
theorem dX2_canTake_174 : decode cX2_canTake 174 = .ok (.iconst 0, 1) := by decide +kernel
theorem dX2_canTake_175 : decode cX2_canTake 175 = .ok (.ireturn, 1) := by decide +kernel
theorem dX2_canTake_176 : decode cX2_canTake 176 = .ok (.iconst 1, 1) := by decide +kernel
theorem dX2_canTake_177 : decode cX2_canTake 177 = .ok (.ireturn, 1) := by decide +kernel
theorem dX2_append_0 : decode cX2_append 0 = .ok (.aload_n 0, 1) := by decide +kernel
theorem dX2_append_1 : decode cX2_append 1 = .ok (.getfield 37, 3) := by decide +kernel
theorem dX2_append_4 : decode cX2_append 4 = .ok (.istore 4, 2) := by decide +kernel
theorem dX2_append_6 : decode cX2_append 6 = .ok (.aload_n 0, 1) := by decide +kernel
theorem dX2_append_7 : decode cX2_append 7 = .ok (.getfield 9, 3) := by decide +kernel
theorem dX2_append_10 : decode cX2_append 10 = .ok (.iload 4, 2) := by decide +kernel
theorem dX2_append_12 : decode cX2_append 12 = .ok (.iload_n 1, 1) := by decide +kernel
theorem dX2_append_13 : decode cX2_append 13 = .ok (.iastore, 1) := by decide +kernel
theorem dX2_append_14 : decode cX2_append 14 = .ok (.aload_n 0, 1) := by decide +kernel
theorem dX2_append_15 : decode cX2_append 15 = .ok (.getfield 15, 3) := by decide +kernel
theorem dX2_append_18 : decode cX2_append 18 = .ok (.iload 4, 2) := by decide +kernel
theorem dX2_append_20 : decode cX2_append 20 = .ok (.iload_n 2, 1) := by decide +kernel
theorem dX2_append_21 : decode cX2_append 21 = .ok (.iastore, 1) := by decide +kernel
theorem dX2_append_22 : decode cX2_append 22 = .ok (.aload_n 0, 1) := by decide +kernel
theorem dX2_append_23 : decode cX2_append 23 = .ok (.getfield 18, 3) := by decide +kernel
theorem dX2_append_26 : decode cX2_append 26 = .ok (.iload 4, 2) := by decide +kernel
theorem dX2_append_28 : decode cX2_append 28 = .ok (.iload_n 3, 1) := by decide +kernel
theorem dX2_append_29 : decode cX2_append 29 = .ok (.iastore, 1) := by decide +kernel
theorem dX2_append_30 : decode cX2_append 30 = .ok (.aload_n 0, 1) := by decide +kernel
theorem dX2_append_31 : decode cX2_append 31 = .ok (.getfield 21, 3) := by decide +kernel
theorem dX2_append_34 : decode cX2_append 34 = .ok (.iload 4, 2) := by decide +kernel
theorem dX2_append_36 : decode cX2_append 36 = .ok (.iload 4, 2) := by decide +kernel
theorem dX2_append_38 : decode cX2_append 38 = .ok (.iastore, 1) := by decide +kernel
theorem dX2_append_39 : decode cX2_append 39 = .ok (.aload_n 0, 1) := by decide +kernel
theorem dX2_append_40 : decode cX2_append 40 = .ok (.getfield 24, 3) := by decide +kernel
theorem dX2_append_43 : decode cX2_append 43 = .ok (.iload 4, 2) := by decide +kernel
theorem dX2_append_45 : decode cX2_append 45 = .ok (.iload 4, 2) := by decide +kernel
theorem dX2_append_47 : decode cX2_append 47 = .ok (.iastore, 1) := by decide +kernel
theorem dX2_append_48 : decode cX2_append 48 = .ok (.aload_n 0, 1) := by decide +kernel
theorem dX2_append_49 : decode cX2_append 49 = .ok (.dup, 1) := by decide +kernel
theorem dX2_append_50 : decode cX2_append 50 = .ok (.getfield 37, 3) := by decide +kernel
theorem dX2_append_53 : decode cX2_append 53 = .ok (.iconst 1, 1) := by decide +kernel
theorem dX2_append_54 : decode cX2_append 54 = .ok (.iadd, 1) := by decide +kernel
theorem dX2_append_55 : decode cX2_append 55 = .ok (.putfield 37, 3) := by decide +kernel
theorem dX2_append_58 : decode cX2_append 58 = .ok (.iload_n 1, 1) := by decide +kernel
theorem dX2_append_59 : decode cX2_append 59 = .ok (.tableswitch 92 10 22 #[65, 74, 74, 65, 65, 65, 83, 92, 92, 92, 92, 65, 74], 65) := by decide +kernel
theorem dX2_append_124 : decode cX2_append 124 = .ok (.aload_n 0, 1) := by decide +kernel
theorem dX2_append_125 : decode cX2_append 125 = .ok (.iload 4, 2) := by decide +kernel
theorem dX2_append_127 : decode cX2_append 127 = .ok (.invokevirtual 47, 3) := by decide +kernel
theorem dX2_append_130 : decode cX2_append 130 = .ok (.goto 21, 3) := by decide +kernel
theorem dX2_append_133 : decode cX2_append 133 = .ok (.aload_n 0, 1) := by decide +kernel
theorem dX2_append_134 : decode cX2_append 134 = .ok (.iload 4, 2) := by decide +kernel
theorem dX2_append_136 : decode cX2_append 136 = .ok (.invokevirtual 51, 3) := by decide +kernel
theorem dX2_append_139 : decode cX2_append 139 = .ok (.goto 12, 3) := by decide +kernel
theorem dX2_append_142 : decode cX2_append 142 = .ok (.aload_n 0, 1) := by decide +kernel
theorem dX2_append_143 : decode cX2_append 143 = .ok (.iload 4, 2) := by decide +kernel
theorem dX2_append_145 : decode cX2_append 145 = .ok (.invokevirtual 54, 3) := by decide +kernel
theorem dX2_append_148 : decode cX2_append 148 = .ok (.goto 3, 3) := by decide +kernel
theorem dX2_append_151 : decode cX2_append 151 = .ok (.return_, 1) := by decide +kernel
theorem dX2_latestPart_0 : decode cX2_latestPart 0 = .ok (.aload_n 0, 1) := by decide +kernel
theorem dX2_latestPart_1 : decode cX2_latestPart 1 = .ok (.getfield 33, 3) := by decide +kernel
theorem dX2_latestPart_4 : decode cX2_latestPart 4 = .ok (.ifCond .le 22, 3) := by decide +kernel
theorem dX2_latestPart_7 : decode cX2_latestPart 7 = .ok (.aload_n 0, 1) := by decide +kernel
theorem dX2_latestPart_8 : decode cX2_latestPart 8 = .ok (.getfield 9, 3) := by decide +kernel
theorem dX2_latestPart_11 : decode cX2_latestPart 11 = .ok (.aload_n 0, 1) := by decide +kernel
theorem dX2_latestPart_12 : decode cX2_latestPart 12 = .ok (.getfield 30, 3) := by decide +kernel
theorem dX2_latestPart_15 : decode cX2_latestPart 15 = .ok (.aload_n 0, 1) := by decide +kernel
theorem dX2_latestPart_16 : decode cX2_latestPart 16 = .ok (.getfield 33, 3) := by decide +kernel
theorem dX2_latestPart_19 : decode cX2_latestPart 19 = .ok (.iconst 1, 1) := by decide +kernel
theorem dX2_latestPart_20 : decode cX2_latestPart 20 = .ok (.isub, 1) := by decide +kernel
theorem dX2_latestPart_21 : decode cX2_latestPart 21 = .ok (.iaload, 1) := by decide +kernel
theorem dX2_latestPart_22 : decode cX2_latestPart 22 = .ok (.iaload, 1) := by decide +kernel
theorem dX2_latestPart_23 : decode cX2_latestPart 23 = .ok (.goto 4, 3) := by decide +kernel
theorem dX2_latestPart_26 : decode cX2_latestPart 26 = .ok (.iconst (-1), 1) := by decide +kernel
theorem dX2_latestPart_27 : decode cX2_latestPart 27 = .ok (.ireturn, 1) := by decide +kernel
theorem dX2_openLoops_0 : decode cX2_openLoops 0 = .ok (.iconst 0, 1) := by decide +kernel
theorem dX2_openLoops_1 : decode cX2_openLoops 1 = .ok (.istore_n 1, 1) := by decide +kernel
theorem dX2_openLoops_2 : decode cX2_openLoops 2 = .ok (.iconst 0, 1) := by decide +kernel
theorem dX2_openLoops_3 : decode cX2_openLoops 3 = .ok (.istore_n 2, 1) := by decide +kernel
theorem dX2_openLoops_4 : decode cX2_openLoops 4 = .ok (.iload_n 2, 1) := by decide +kernel
theorem dX2_openLoops_5 : decode cX2_openLoops 5 = .ok (.aload_n 0, 1) := by decide +kernel
theorem dX2_openLoops_6 : decode cX2_openLoops 6 = .ok (.getfield 33, 3) := by decide +kernel
theorem dX2_openLoops_9 : decode cX2_openLoops 9 = .ok (.if_icmp .ge 28, 3) := by decide +kernel
theorem dX2_openLoops_12 : decode cX2_openLoops 12 = .ok (.aload_n 0, 1) := by decide +kernel
theorem dX2_openLoops_13 : decode cX2_openLoops 13 = .ok (.getfield 9, 3) := by decide +kernel
theorem dX2_openLoops_16 : decode cX2_openLoops 16 = .ok (.aload_n 0, 1) := by decide +kernel
theorem dX2_openLoops_17 : decode cX2_openLoops 17 = .ok (.getfield 27, 3) := by decide +kernel
theorem dX2_openLoops_20 : decode cX2_openLoops 20 = .ok (.iload_n 2, 1) := by decide +kernel
theorem dX2_openLoops_21 : decode cX2_openLoops 21 = .ok (.iaload, 1) := by decide +kernel
theorem dX2_openLoops_22 : decode cX2_openLoops 22 = .ok (.iaload, 1) := by decide +kernel
theorem dX2_openLoops_23 : decode cX2_openLoops 23 = .ok (.bipush 13, 2) := by decide +kernel
theorem dX2_openLoops_25 : decode cX2_openLoops 25 = .ok (.if_icmp .ne 6, 3) := by decide +kernel
theorem dX2_openLoops_28 : decode cX2_openLoops 28 = .ok (.iinc 1 1, 3) := by decide +kernel
theorem dX2_openLoops_31 : decode cX2_openLoops 31 = .ok (.iinc 2 1, 3) := by decide +kernel
theorem dX2_openLoops_34 : decode cX2_openLoops 34 = .ok (.goto (-30), 3) := by decide +kernel
theorem dX2_openLoops_37 : decode cX2_openLoops 37 = .ok (.iload_n 1, 1) := by decide +kernel
theorem dX2_openLoops_38 : decode cX2_openLoops 38 = .ok (.ireturn, 1) := by decide +kernel
theorem dX2_openAt_0 : decode cX2_openAt 0 = .ok (.aload_n 0, 1) := by decide +kernel
theorem dX2_openAt_1 : decode cX2_openAt 1 = .ok (.getfield 33, 3) := by decide +kernel
theorem dX2_openAt_4 : decode cX2_openAt 4 = .ok (.bipush 10, 2) := by decide +kernel
theorem dX2_openAt_6 : decode cX2_openAt 6 = .ok (.if_icmp .ge 33, 3) := by decide +kernel
theorem dX2_openAt_9 : decode cX2_openAt 9 = .ok (.aload_n 0, 1) := by decide +kernel
theorem dX2_openAt_10 : decode cX2_openAt 10 = .ok (.getfield 27, 3) := by decide +kernel
theorem dX2_openAt_13 : decode cX2_openAt 13 = .ok (.aload_n 0, 1) := by decide +kernel
theorem dX2_openAt_14 : decode cX2_openAt 14 = .ok (.getfield 33, 3) := by decide +kernel
theorem dX2_openAt_17 : decode cX2_openAt 17 = .ok (.iload_n 1, 1) := by decide +kernel
theorem dX2_openAt_18 : decode cX2_openAt 18 = .ok (.iastore, 1) := by decide +kernel
theorem dX2_openAt_19 : decode cX2_openAt 19 = .ok (.aload_n 0, 1) := by decide +kernel
theorem dX2_openAt_20 : decode cX2_openAt 20 = .ok (.getfield 30, 3) := by decide +kernel
theorem dX2_openAt_23 : decode cX2_openAt 23 = .ok (.aload_n 0, 1) := by decide +kernel
theorem dX2_openAt_24 : decode cX2_openAt 24 = .ok (.getfield 33, 3) := by decide +kernel
theorem dX2_openAt_27 : decode cX2_openAt 27 = .ok (.iload_n 1, 1) := by decide +kernel
theorem dX2_openAt_28 : decode cX2_openAt 28 = .ok (.iastore, 1) := by decide +kernel
theorem dX2_openAt_29 : decode cX2_openAt 29 = .ok (.aload_n 0, 1) := by decide +kernel
theorem dX2_openAt_30 : decode cX2_openAt 30 = .ok (.dup, 1) := by decide +kernel
theorem dX2_openAt_31 : decode cX2_openAt 31 = .ok (.getfield 33, 3) := by decide +kernel
theorem dX2_openAt_34 : decode cX2_openAt 34 = .ok (.iconst 1, 1) := by decide +kernel
theorem dX2_openAt_35 : decode cX2_openAt 35 = .ok (.iadd, 1) := by decide +kernel
theorem dX2_openAt_36 : decode cX2_openAt 36 = .ok (.putfield 33, 3) := by decide +kernel
theorem dX2_openAt_39 : decode cX2_openAt 39 = .ok (.return_, 1) := by decide +kernel
theorem dX2_beginPartAt_0 : decode cX2_beginPartAt 0 = .ok (.aload_n 0, 1) := by decide +kernel
theorem dX2_beginPartAt_1 : decode cX2_beginPartAt 1 = .ok (.getfield 33, 3) := by decide +kernel
theorem dX2_beginPartAt_4 : decode cX2_beginPartAt 4 = .ok (.ifCond .le 32, 3) := by decide +kernel
theorem dX2_beginPartAt_7 : decode cX2_beginPartAt 7 = .ok (.aload_n 0, 1) := by decide +kernel
theorem dX2_beginPartAt_8 : decode cX2_beginPartAt 8 = .ok (.getfield 21, 3) := by decide +kernel
theorem dX2_beginPartAt_11 : decode cX2_beginPartAt 11 = .ok (.aload_n 0, 1) := by decide +kernel
theorem dX2_beginPartAt_12 : decode cX2_beginPartAt 12 = .ok (.getfield 30, 3) := by decide +kernel
theorem dX2_beginPartAt_15 : decode cX2_beginPartAt 15 = .ok (.aload_n 0, 1) := by decide +kernel
theorem dX2_beginPartAt_16 : decode cX2_beginPartAt 16 = .ok (.getfield 33, 3) := by decide +kernel
theorem dX2_beginPartAt_19 : decode cX2_beginPartAt 19 = .ok (.iconst 1, 1) := by decide +kernel
theorem dX2_beginPartAt_20 : decode cX2_beginPartAt 20 = .ok (.isub, 1) := by decide +kernel
theorem dX2_beginPartAt_21 : decode cX2_beginPartAt 21 = .ok (.iaload, 1) := by decide +kernel
theorem dX2_beginPartAt_22 : decode cX2_beginPartAt 22 = .ok (.iload_n 1, 1) := by decide +kernel
theorem dX2_beginPartAt_23 : decode cX2_beginPartAt 23 = .ok (.iastore, 1) := by decide +kernel
theorem dX2_beginPartAt_24 : decode cX2_beginPartAt 24 = .ok (.aload_n 0, 1) := by decide +kernel
theorem dX2_beginPartAt_25 : decode cX2_beginPartAt 25 = .ok (.getfield 30, 3) := by decide +kernel
theorem dX2_beginPartAt_28 : decode cX2_beginPartAt 28 = .ok (.aload_n 0, 1) := by decide +kernel
theorem dX2_beginPartAt_29 : decode cX2_beginPartAt 29 = .ok (.getfield 33, 3) := by decide +kernel
theorem dX2_beginPartAt_32 : decode cX2_beginPartAt 32 = .ok (.iconst 1, 1) := by decide +kernel
theorem dX2_beginPartAt_33 : decode cX2_beginPartAt 33 = .ok (.isub, 1) := by decide +kernel
theorem dX2_beginPartAt_34 : decode cX2_beginPartAt 34 = .ok (.iload_n 1, 1) := by decide +kernel
theorem dX2_beginPartAt_35 : decode cX2_beginPartAt 35 = .ok (.iastore, 1) := by decide +kernel
theorem dX2_beginPartAt_36 : decode cX2_beginPartAt 36 = .ok (.return_, 1) := by decide +kernel
theorem dX2_closeAt_0 : decode cX2_closeAt 0 = .ok (.aload_n 0, 1) := by decide +kernel
theorem dX2_closeAt_1 : decode cX2_closeAt 1 = .ok (.getfield 33, 3) := by decide +kernel
theorem dX2_closeAt_4 : decode cX2_closeAt 4 = .ok (.ifCond .le 43, 3) := by decide +kernel
theorem dX2_closeAt_7 : decode cX2_closeAt 7 = .ok (.aload_n 0, 1) := by decide +kernel
theorem dX2_closeAt_8 : decode cX2_closeAt 8 = .ok (.dup, 1) := by decide +kernel
theorem dX2_closeAt_9 : decode cX2_closeAt 9 = .ok (.getfield 33, 3) := by decide +kernel
theorem dX2_closeAt_12 : decode cX2_closeAt 12 = .ok (.iconst 1, 1) := by decide +kernel
theorem dX2_closeAt_13 : decode cX2_closeAt 13 = .ok (.isub, 1) := by decide +kernel
theorem dX2_closeAt_14 : decode cX2_closeAt 14 = .ok (.putfield 33, 3) := by decide +kernel
theorem dX2_closeAt_17 : decode cX2_closeAt 17 = .ok (.aload_n 0, 1) := by decide +kernel
theorem dX2_closeAt_18 : decode cX2_closeAt 18 = .ok (.getfield 21, 3) := by decide +kernel
theorem dX2_closeAt_21 : decode cX2_closeAt 21 = .ok (.aload_n 0, 1) := by decide +kernel
theorem dX2_closeAt_22 : decode cX2_closeAt 22 = .ok (.getfield 30, 3) := by decide +kernel
theorem dX2_closeAt_25 : decode cX2_closeAt 25 = .ok (.aload_n 0, 1) := by decide +kernel
theorem dX2_closeAt_26 : decode cX2_closeAt 26 = .ok (.getfield 33, 3) := by decide +kernel
theorem dX2_closeAt_29 : decode cX2_closeAt 29 = .ok (.iaload, 1) := by decide +kernel
theorem dX2_closeAt_30 : decode cX2_closeAt 30 = .ok (.iload_n 1, 1) := by decide +kernel
theorem dX2_closeAt_31 : decode cX2_closeAt 31 = .ok (.iastore, 1) := by decide +kernel
theorem dX2_closeAt_32 : decode cX2_closeAt 32 = .ok (.aload_n 0, 1) := by decide +kernel
theorem dX2_closeAt_33 : decode cX2_closeAt 33 = .ok (.getfield 24, 3) := by decide +kernel
theorem dX2_closeAt_36 : decode cX2_closeAt 36 = .ok (.aload_n 0, 1) := by decide +kernel
theorem dX2_closeAt_37 : decode cX2_closeAt 37 = .ok (.getfield 27, 3) := by decide +kernel
theorem dX2_closeAt_40 : decode cX2_closeAt 40 = .ok (.aload_n 0, 1) := by decide +kernel
theorem dX2_closeAt_41 : decode cX2_closeAt 41 = .ok (.getfield 33, 3) := by decide +kernel
theorem dX2_closeAt_44 : decode cX2_closeAt 44 = .ok (.iaload, 1) := by decide +kernel
theorem dX2_closeAt_45 : decode cX2_closeAt 45 = .ok (.iload_n 1, 1) := by decide +kernel
theorem dX2_closeAt_46 : decode cX2_closeAt 46 = .ok (.iastore, 1) := by decide +kernel
theorem dX2_closeAt_47 : decode cX2_closeAt 47 = .ok (.return_, 1) := by decide +kernel
theorem dX3_init_0 : decode cX3_init 0 = .ok (.aload_n 0, 1) := by decide +kernel
theorem dX3_init_1 : decode cX3_init 1 = .ok (.invokespecial 1, 3) := by decide +kernel
theorem dX3_init_4 : decode cX3_init 4 = .ok (.aload_n 0, 1) := by decide +kernel
theorem dX3_init_5 : decode cX3_init 5 = .ok (.bipush 8, 2) := by decide +kernel
theorem dX3_init_7 : decode cX3_init 7 = .ok (.anewarray 9, 3) := by decide +kernel
theorem dX3_init_10 : decode cX3_init 10 = .ok (.putfield 11, 3) := by decide +kernel
theorem dX3_init_13 : decode cX3_init 13 = .ok (.iconst 0, 1) := by decide +kernel
theorem dX3_init_14 : decode cX3_init 14 = .ok (.istore_n 1, 1) := by decide +kernel
theorem dX3_init_15 : decode cX3_init 15 = .ok (.iload_n 1, 1) := by decide +kernel
theorem dX3_init_16 : decode cX3_init 16 = .ok (.bipush 8, 2) := by decide +kernel
theorem dX3_init_18 : decode cX3_init 18 = .ok (.if_icmp .ge 22, 3) := by decide +kernel
theorem dX3_init_21 : decode cX3_init 21 = .ok (.aload_n 0, 1) := by decide +kernel
theorem dX3_init_22 : decode cX3_init 22 = .ok (.getfield 11, 3) := by decide +kernel
theorem dX3_init_25 : decode cX3_init 25 = .ok (.iload_n 1, 1) := by decide +kernel
theorem dX3_init_26 : decode cX3_init 26 = .ok (.new 9, 3) := by decide +kernel
theorem dX3_init_29 : decode cX3_init 29 = .ok (.dup, 1) := by decide +kernel
theorem dX3_init_30 : decode cX3_init 30 = .ok (.invokespecial 15, 3) := by decide +kernel
theorem dX3_init_33 : decode cX3_init 33 = .ok (.aastore, 1) := by decide +kernel
theorem dX3_init_34 : decode cX3_init 34 = .ok (.iinc 1 1, 3) := by decide +kernel
theorem dX3_init_37 : decode cX3_init 37 = .ok (.goto (-22), 3) := by decide +kernel
theorem dX3_init_40 : decode cX3_init 40 = .ok (.aload_n 0, 1) := by decide +kernel
theorem dX3_init_41 : decode cX3_init 41 = .ok (.new 16, 3) := by decide +kernel
theorem dX3_init_44 : decode cX3_init 44 = .ok (.dup, 1) := by decide +kernel
theorem dX3_init_45 : decode cX3_init 45 = .ok (.invokespecial 18, 3) := by decide +kernel
theorem dX3_init_48 : decode cX3_init 48 = .ok (.putfield 19, 3) := by decide +kernel
theorem dX3_init_51 : decode cX3_init 51 = .ok (.aload_n 0, 1) := by decide +kernel
theorem dX3_init_52 : decode cX3_init 52 = .ok (.new 23, 3) := by decide +kernel
theorem dX3_init_55 : decode cX3_init 55 = .ok (.dup, 1) := by decide +kernel
theorem dX3_init_56 : decode cX3_init 56 = .ok (.invokespecial 25, 3) := by decide +kernel
theorem dX3_init_59 : decode cX3_init 59 = .ok (.putfield 26, 3) := by decide +kernel
theorem dX3_init_62 : decode cX3_init 62 = .ok (.return_, 1) := by decide +kernel
theorem dX3_node_0 : decode cX3_node 0 = .ok (.iload_n 1, 1) := by decide +kernel
theorem dX3_node_1 : decode cX3_node 1 = .ok (.bipush 8, 2) := by decide +kernel
theorem dX3_node_3 : decode cX3_node 3 = .ok (.invokestatic 30, 3) := by decide +kernel
theorem dX3_node_6 : decode cX3_node 6 = .ok (.iload_n 2, 1) := by decide +kernel
theorem dX3_node_7 : decode cX3_node 7 = .ok (.bipush 24, 2) := by decide +kernel
theorem dX3_node_9 : decode cX3_node 9 = .ok (.invokestatic 30, 3) := by decide +kernel
theorem dX3_node_12 : decode cX3_node 12 = .ok (.iload_n 3, 1) := by decide +kernel
theorem dX3_node_13 : decode cX3_node 13 = .ok (.getstatic 34, 3) := by decide +kernel
theorem dX3_node_16 : decode cX3_node 16 = .ok (.iload_n 2, 1) := by decide +kernel
theorem dX3_node_17 : decode cX3_node 17 = .ok (.iaload, 1) := by decide +kernel
theorem dX3_node_18 : decode cX3_node 18 = .ok (.invokestatic 38, 3) := by decide +kernel
theorem dX3_node_21 : decode cX3_node 21 = .ok (.ifCond .eq 20, 3) := by decide +kernel
theorem dX3_node_24 : decode cX3_node 24 = .ok (.iload 4, 2) := by decide +kernel
theorem dX3_node_26 : decode cX3_node 26 = .ok (.getstatic 42, 3) := by decide +kernel
theorem dX3_node_29 : decode cX3_node 29 = .ok (.iload_n 2, 1) := by decide +kernel
theorem dX3_node_30 : decode cX3_node 30 = .ok (.iaload, 1) := by decide +kernel
theorem dX3_node_31 : decode cX3_node 31 = .ok (.invokestatic 38, 3) := by decide +kernel
theorem dX3_node_34 : decode cX3_node 34 = .ok (.ifCond .eq 7, 3) := by decide +kernel
theorem dX3_node_37 : decode cX3_node 37 = .ok (.iconst 1, 1) := by decide +kernel
theorem dX3_node_38 : decode cX3_node 38 = .ok (.goto 4, 3) := by decide +kernel
theorem dX3_node_41 : decode cX3_node 41 = .ok (.iconst 0, 1) := by decide +kernel
theorem dX3_node_42 : decode cX3_node 42 = .ok (.invokestatic 45, 3) := by decide +kernel
theorem dX3_node_45 : decode cX3_node 45 = .ok (.aload_n 0, 1) := by decide +kernel
theorem dX3_node_46 : decode cX3_node 46 = .ok (.getfield 11, 3) := by decide +kernel
theorem dX3_node_49 : decode cX3_node 49 = .ok (.iload_n 1, 1) := by decide +kernel
theorem dX3_node_50 : decode cX3_node 50 = .ok (.aaload, 1) := by decide +kernel
theorem dX3_node_51 : decode cX3_node 51 = .ok (.astore 5, 2) := by decide +kernel
theorem dX3_node_53 : decode cX3_node 53 = .ok (.aload 5, 2) := by decide +kernel
theorem dX3_node_55 : decode cX3_node 55 = .ok (.iload_n 2, 1) := by decide +kernel
theorem dX3_node_56 : decode cX3_node 56 = .ok (.iload 4, 2) := by decide +kernel
theorem dX3_node_58 : decode cX3_node 58 = .ok (.invokevirtual 49, 3) := by decide +kernel
theorem dX3_node_61 : decode cX3_node 61 = .ok (.ifCond .ne 13, 3) := by decide +kernel
theorem dX3_node_64 : decode cX3_node 64 = .ok (.new 52, 3) := by decide +kernel
theorem dX3_node_67 : decode cX3_node 67 = .ok (.dup, 1) := by decide +kernel
theorem dX3_node_68 : decode cX3_node 68 = .ok (.ldc 54, 2) := by decide +kernel
theorem dX3_node_70 : decode cX3_node 70 = .ok (.invokespecial 56, 3) := by decide +kernel
theorem dX3_node_73 : decode cX3_node 73 = .ok (.athrow, 1) := by decide +kernel
theorem dX3_node_74 : decode cX3_node 74 = .ok (.aload 5, 2) := by decide +kernel
theorem dX3_node_76 : decode cX3_node 76 = .ok (.iload_n 2, 1) := by decide +kernel
theorem dX3_node_77 : decode cX3_node 77 = .ok (.iload_n 3, 1) := by decide +kernel
theorem dX3_node_78 : decode cX3_node 78 = .ok (.iload 4, 2) := by decide +kernel
theorem dX3_node_80 : decode cX3_node 80 = .ok (.invokevirtual 59, 3) := by decide +kernel
theorem dX3_node_83 : decode cX3_node 83 = .ok (.aload 5, 2) := by decide +kernel
theorem dX3_node_85 : decode cX3_node 85 = .ok (.getfield 63, 3) := by decide +kernel
theorem dX3_node_88 : decode cX3_node 88 = .ok (.ireturn, 1) := by decide +kernel
theorem dX3_clear_0 : decode cX3_clear 0 = .ok (.iload_n 1, 1) := by decide +kernel
theorem dX3_clear_1 : decode cX3_clear 1 = .ok (.bipush 8, 2) := by decide +kernel
theorem dX3_clear_3 : decode cX3_clear 3 = .ok (.invokestatic 30, 3) := by decide +kernel
theorem dX3_clear_6 : decode cX3_clear 6 = .ok (.aload_n 0, 1) := by decide +kernel
theorem dX3_clear_7 : decode cX3_clear 7 = .ok (.getfield 11, 3) := by decide +kernel
theorem dX3_clear_10 : decode cX3_clear 10 = .ok (.iload_n 1, 1) := by decide +kernel
theorem dX3_clear_11 : decode cX3_clear 11 = .ok (.aaload, 1) := by decide +kernel
theorem dX3_clear_12 : decode cX3_clear 12 = .ok (.invokevirtual 67, 3) := by decide +kernel
theorem dX3_clear_15 : decode cX3_clear 15 = .ok (.return_, 1) := by decide +kernel
theorem dX3_run_0 : decode cX3_run 0 = .ok (.iload_n 1, 1) := by decide +kernel
theorem dX3_run_1 : decode cX3_run 1 = .ok (.bipush 8, 2) := by decide +kernel
theorem dX3_run_3 : decode cX3_run 3 = .ok (.invokestatic 30, 3) := by decide +kernel
theorem dX3_run_6 : decode cX3_run 6 = .ok (.aload_n 0, 1) := by decide +kernel
theorem dX3_run_7 : decode cX3_run 7 = .ok (.getfield 11, 3) := by decide +kernel
theorem dX3_run_10 : decode cX3_run 10 = .ok (.iload_n 1, 1) := by decide +kernel
theorem dX3_run_11 : decode cX3_run 11 = .ok (.aaload, 1) := by decide +kernel
theorem dX3_run_12 : decode cX3_run 12 = .ok (.astore_n 2, 1) := by decide +kernel
theorem dX3_run_13 : decode cX3_run 13 = .ok (.aload_n 2, 1) := by decide +kernel
theorem dX3_run_14 : decode cX3_run 14 = .ok (.invokevirtual 70, 3) := by decide +kernel
theorem dX3_run_17 : decode cX3_run 17 = .ok (.ifCond .ne 13, 3) := by decide +kernel
theorem dX3_run_20 : decode cX3_run 20 = .ok (.new 52, 3) := by decide +kernel
theorem dX3_run_23 : decode cX3_run 23 = .ok (.dup, 1) := by decide +kernel
theorem dX3_run_24 : decode cX3_run 24 = .ok (.ldc 74, 2) := by decide +kernel
theorem dX3_run_26 : decode cX3_run 26 = .ok (.invokespecial 56, 3) := by decide +kernel
theorem dX3_run_29 : decode cX3_run 29 = .ok (.athrow, 1) := by decide +kernel
theorem dX3_run_30 : decode cX3_run 30 = .ok (.aload_n 0, 1) := by decide +kernel
theorem dX3_run_31 : decode cX3_run 31 = .ok (.dup, 1) := by decide +kernel
theorem dX3_run_32 : decode cX3_run 32 = .ok (.getfield 76, 3) := by decide +kernel
theorem dX3_run_35 : decode cX3_run 35 = .ok (.iconst 1, 1) := by decide +kernel
theorem dX3_run_36 : decode cX3_run 36 = .ok (.iadd, 1) := by decide +kernel
theorem dX3_run_37 : decode cX3_run 37 = .ok (.putfield 76, 3) := by decide +kernel
theorem dX3_run_40 : decode cX3_run 40 = .ok (.aload_n 0, 1) := by decide +kernel
theorem dX3_run_41 : decode cX3_run 41 = .ok (.iconst 0, 1) := by decide +kernel
theorem dX3_run_42 : decode cX3_run 42 = .ok (.putfield 79, 3) := by decide +kernel
theorem dX3_run_45 : decode cX3_run 45 = .ok (.aload_n 0, 1) := by decide +kernel
theorem dX3_run_46 : decode cX3_run 46 = .ok (.getfield 19, 3) := by decide +kernel
theorem dX3_run_49 : decode cX3_run 49 = .ok (.iconst 0, 1) := by decide +kernel
theorem dX3_run_50 : decode cX3_run 50 = .ok (.putfield 82, 3) := by decide +kernel
theorem dX3_run_53 : decode cX3_run 53 = .ok (.aload_n 0, 1) := by decide +kernel
theorem dX3_run_54 : decode cX3_run 54 = .ok (.aload_n 2, 1) := by decide +kernel
theorem dX3_run_55 : decode cX3_run 55 = .ok (.iconst (-1), 1) := by decide +kernel
theorem dX3_run_56 : decode cX3_run 56 = .ok (.iconst 1, 1) := by decide +kernel
theorem dX3_run_57 : decode cX3_run 57 = .ok (.invokevirtual 85, 3) := by decide +kernel
theorem dX3_run_60 : decode cX3_run 60 = .ok (.lstore_n 3, 1) := by decide +kernel
theorem dX3_run_61 : decode cX3_run 61 = .ok (.aload_n 0, 1) := by decide +kernel
theorem dX3_run_62 : decode cX3_run 62 = .ok (.lload_n 3, 1) := by decide +kernel
theorem dX3_run_63 : decode cX3_run 63 = .ok (.invokestatic 89, 3) := by decide +kernel
theorem dX3_run_66 : decode cX3_run 66 = .ok (.iconst 3, 1) := by decide +kernel
theorem dX3_run_67 : decode cX3_run 67 = .ok (.if_icmp .ne 10, 3) := by decide +kernel
theorem dX3_run_70 : decode cX3_run 70 = .ok (.lload_n 3, 1) := by decide +kernel
theorem dX3_run_71 : decode cX3_run 71 = .ok (.invokestatic 93, 3) := by decide +kernel
theorem dX3_run_74 : decode cX3_run 74 = .ok (.goto 4, 3) := by decide +kernel
theorem dX3_run_77 : decode cX3_run 77 = .ok (.iconst 0, 1) := by decide +kernel
theorem dX3_run_78 : decode cX3_run 78 = .ok (.putfield 96, 3) := by decide +kernel
theorem dX3_run_81 : decode cX3_run 81 = .ok (.lload_n 3, 1) := by decide +kernel
theorem dX3_run_82 : decode cX3_run 82 = .ok (.invokestatic 99, 3) := by decide +kernel
theorem dX3_run_85 : decode cX3_run 85 = .ok (.ireturn, 1) := by decide +kernel
theorem dX3_given_0 : decode cX3_given 0 = .ok (.aload_n 0, 1) := by decide +kernel
theorem dX3_given_1 : decode cX3_given 1 = .ok (.getfield 96, 3) := by decide +kernel
theorem dX3_given_4 : decode cX3_given 4 = .ok (.ireturn, 1) := by decide +kernel
theorem dX3_number_0 : decode cX3_number 0 = .ok (.iload_n 1, 1) := by decide +kernel
theorem dX3_number_1 : decode cX3_number 1 = .ok (.bipush 8, 2) := by decide +kernel
theorem dX3_number_3 : decode cX3_number 3 = .ok (.invokestatic 30, 3) := by decide +kernel
theorem dX3_number_6 : decode cX3_number 6 = .ok (.aload_n 0, 1) := by decide +kernel
theorem dX3_number_7 : decode cX3_number 7 = .ok (.getfield 19, 3) := by decide +kernel
theorem dX3_number_10 : decode cX3_number 10 = .ok (.getfield 102, 3) := by decide +kernel
theorem dX3_number_13 : decode cX3_number 13 = .ok (.iload_n 1, 1) := by decide +kernel
theorem dX3_number_14 : decode cX3_number 14 = .ok (.iaload, 1) := by decide +kernel
theorem dX3_number_15 : decode cX3_number 15 = .ok (.ireturn, 1) := by decide +kernel
theorem dX3_row_0 : decode cX3_row 0 = .ok (.iload_n 1, 1) := by decide +kernel
theorem dX3_row_1 : decode cX3_row 1 = .ok (.aload_n 0, 1) := by decide +kernel
theorem dX3_row_2 : decode cX3_row 2 = .ok (.getfield 19, 3) := by decide +kernel
theorem dX3_row_5 : decode cX3_row 5 = .ok (.getfield 105, 3) := by decide +kernel
theorem dX3_row_8 : decode cX3_row 8 = .ok (.invokestatic 30, 3) := by decide +kernel
theorem dX3_row_11 : decode cX3_row 11 = .ok (.aload_n 0, 1) := by decide +kernel
theorem dX3_row_12 : decode cX3_row 12 = .ok (.getfield 19, 3) := by decide +kernel
theorem dX3_row_15 : decode cX3_row 15 = .ok (.getfield 108, 3) := by decide +kernel
theorem dX3_row_18 : decode cX3_row 18 = .ok (.iload_n 1, 1) := by decide +kernel
theorem dX3_row_19 : decode cX3_row 19 = .ok (.iaload, 1) := by decide +kernel
theorem dX3_row_20 : decode cX3_row 20 = .ok (.ireturn, 1) := by decide +kernel
theorem dX3_log_0 : decode cX3_log 0 = .ok (.iload_n 1, 1) := by decide +kernel
theorem dX3_log_1 : decode cX3_log 1 = .ok (.aload_n 0, 1) := by decide +kernel
theorem dX3_log_2 : decode cX3_log 2 = .ok (.getfield 19, 3) := by decide +kernel
theorem dX3_log_5 : decode cX3_log 5 = .ok (.getfield 82, 3) := by decide +kernel
theorem dX3_log_8 : decode cX3_log 8 = .ok (.invokestatic 30, 3) := by decide +kernel
theorem dX3_log_11 : decode cX3_log 11 = .ok (.aload_n 0, 1) := by decide +kernel
theorem dX3_log_12 : decode cX3_log 12 = .ok (.getfield 19, 3) := by decide +kernel
theorem dX3_log_15 : decode cX3_log 15 = .ok (.getfield 111, 3) := by decide +kernel
theorem dX3_log_18 : decode cX3_log 18 = .ok (.iload_n 1, 1) := by decide +kernel
theorem dX3_log_19 : decode cX3_log 19 = .ok (.iaload, 1) := by decide +kernel
theorem dX3_log_20 : decode cX3_log 20 = .ok (.ireturn, 1) := by decide +kernel
theorem dX3_count_0 : decode cX3_count 0 = .ok (.iload_n 1, 1) := by decide +kernel
theorem dX3_count_1 : decode cX3_count 1 = .ok (.tableswitch 131 0 13 #[71, 79, 87, 92, 100, 108, 113, 131, 131, 131, 118, 118, 118, 118], 71) := by decide +kernel
theorem dX3_count_72 : decode cX3_count 72 = .ok (.aload_n 0, 1) := by decide +kernel
theorem dX3_count_73 : decode cX3_count 73 = .ok (.getfield 19, 3) := by decide +kernel
theorem dX3_count_76 : decode cX3_count 76 = .ok (.getfield 105, 3) := by decide +kernel
theorem dX3_count_79 : decode cX3_count 79 = .ok (.ireturn, 1) := by decide +kernel
theorem dX3_count_80 : decode cX3_count 80 = .ok (.aload_n 0, 1) := by decide +kernel
theorem dX3_count_81 : decode cX3_count 81 = .ok (.getfield 19, 3) := by decide +kernel
theorem dX3_count_84 : decode cX3_count 84 = .ok (.getfield 82, 3) := by decide +kernel
theorem dX3_count_87 : decode cX3_count 87 = .ok (.ireturn, 1) := by decide +kernel
theorem dX3_count_88 : decode cX3_count 88 = .ok (.aload_n 0, 1) := by decide +kernel
theorem dX3_count_89 : decode cX3_count 89 = .ok (.getfield 79, 3) := by decide +kernel
theorem dX3_count_92 : decode cX3_count 92 = .ok (.ireturn, 1) := by decide +kernel
theorem dX3_count_93 : decode cX3_count 93 = .ok (.aload_n 0, 1) := by decide +kernel
theorem dX3_count_94 : decode cX3_count 94 = .ok (.getfield 26, 3) := by decide +kernel
theorem dX3_count_97 : decode cX3_count 97 = .ok (.getfield 114, 3) := by decide +kernel
theorem dX3_count_100 : decode cX3_count 100 = .ok (.ireturn, 1) := by decide +kernel
theorem dX3_count_101 : decode cX3_count 101 = .ok (.aload_n 0, 1) := by decide +kernel
theorem dX3_count_102 : decode cX3_count 102 = .ok (.getfield 26, 3) := by decide +kernel
theorem dX3_count_105 : decode cX3_count 105 = .ok (.getfield 117, 3) := by decide +kernel
theorem dX3_count_108 : decode cX3_count 108 = .ok (.ireturn, 1) := by decide +kernel
theorem dX3_count_109 : decode cX3_count 109 = .ok (.aload_n 0, 1) := by decide +kernel
theorem dX3_count_110 : decode cX3_count 110 = .ok (.invokevirtual 120, 3) := by decide +kernel
theorem dX3_count_113 : decode cX3_count 113 = .ok (.ireturn, 1) := by decide +kernel
theorem dX3_count_114 : decode cX3_count 114 = .ok (.aload_n 0, 1) := by decide +kernel
theorem dX3_count_115 : decode cX3_count 115 = .ok (.getfield 76, 3) := by decide +kernel
theorem dX3_count_118 : decode cX3_count 118 = .ok (.ireturn, 1) := by decide +kernel
theorem dX3_count_119 : decode cX3_count 119 = .ok (.aload_n 0, 1) := by decide +kernel
theorem dX3_count_120 : decode cX3_count 120 = .ok (.getfield 19, 3) := by decide +kernel
theorem dX3_count_123 : decode cX3_count 123 = .ok (.getfield 124, 3) := by decide +kernel
theorem dX3_count_126 : decode cX3_count 126 = .ok (.iload_n 1, 1) := by decide +kernel
theorem dX3_count_127 : decode cX3_count 127 = .ok (.bipush 10, 2) := by decide +kernel
theorem dX3_count_129 : decode cX3_count 129 = .ok (.isub, 1) := by decide +kernel
theorem dX3_count_130 : decode cX3_count 130 = .ok (.iaload, 1) := by decide +kernel
theorem dX3_count_131 : decode cX3_count 131 = .ok (.ireturn, 1) := by decide +kernel
theorem dX3_count_132 : decode cX3_count 132 = .ok (.iconst (-1), 1) := by decide +kernel
theorem dX3_count_133 : decode cX3_count 133 = .ok (.ireturn, 1) := by decide +kernel
theorem dX3_demand_0 : decode cX3_demand 0 = .ok (.iload_n 0, 1) := by decide +kernel
theorem dX3_demand_1 : decode cX3_demand 1 = .ok (.ifCond .ne 13, 3) := by decide +kernel
theorem dX3_demand_4 : decode cX3_demand 4 = .ok (.new 127, 3) := by decide +kernel
theorem dX3_demand_7 : decode cX3_demand 7 = .ok (.dup, 1) := by decide +kernel
theorem dX3_demand_8 : decode cX3_demand 8 = .ok (.ldc 129, 2) := by decide +kernel
theorem dX3_demand_10 : decode cX3_demand 10 = .ok (.invokespecial 131, 3) := by decide +kernel
theorem dX3_demand_13 : decode cX3_demand 13 = .ok (.athrow, 1) := by decide +kernel
theorem dX3_demand_14 : decode cX3_demand 14 = .ok (.return_, 1) := by decide +kernel
theorem dX3_demandRange_0 : decode cX3_demandRange 0 = .ok (.iload_n 0, 1) := by decide +kernel
theorem dX3_demandRange_1 : decode cX3_demandRange 1 = .ok (.ifCond .lt 12, 3) := by decide +kernel
theorem dX3_demandRange_4 : decode cX3_demandRange 4 = .ok (.iload_n 0, 1) := by decide +kernel
theorem dX3_demandRange_5 : decode cX3_demandRange 5 = .ok (.iload_n 1, 1) := by decide +kernel
theorem dX3_demandRange_6 : decode cX3_demandRange 6 = .ok (.if_icmp .ge 7, 3) := by decide +kernel
theorem dX3_demandRange_9 : decode cX3_demandRange 9 = .ok (.iconst 1, 1) := by decide +kernel
theorem dX3_demandRange_10 : decode cX3_demandRange 10 = .ok (.goto 4, 3) := by decide +kernel
theorem dX3_demandRange_13 : decode cX3_demandRange 13 = .ok (.iconst 0, 1) := by decide +kernel
theorem dX3_demandRange_14 : decode cX3_demandRange 14 = .ok (.invokestatic 45, 3) := by decide +kernel
theorem dX3_demandRange_17 : decode cX3_demandRange 17 = .ok (.return_, 1) := by decide +kernel
theorem dX3_isBelow_0 : decode cX3_isBelow 0 = .ok (.iload_n 1, 1) := by decide +kernel
theorem dX3_isBelow_1 : decode cX3_isBelow 1 = .ok (.ifCond .eq 12, 3) := by decide +kernel
theorem dX3_isBelow_4 : decode cX3_isBelow 4 = .ok (.iload_n 0, 1) := by decide +kernel
theorem dX3_isBelow_5 : decode cX3_isBelow 5 = .ok (.ifCond .lt 12, 3) := by decide +kernel
theorem dX3_isBelow_8 : decode cX3_isBelow 8 = .ok (.iload_n 0, 1) := by decide +kernel
theorem dX3_isBelow_9 : decode cX3_isBelow 9 = .ok (.iload_n 1, 1) := by decide +kernel
theorem dX3_isBelow_10 : decode cX3_isBelow 10 = .ok (.if_icmp .ge 7, 3) := by decide +kernel
theorem dX3_isBelow_13 : decode cX3_isBelow 13 = .ok (.iconst 1, 1) := by decide +kernel
theorem dX3_isBelow_14 : decode cX3_isBelow 14 = .ok (.goto 4, 3) := by decide +kernel
theorem dX3_isBelow_17 : decode cX3_isBelow 17 = .ok (.iconst 0, 1) := by decide +kernel
theorem dX3_isBelow_18 : decode cX3_isBelow 18 = .ok (.ireturn, 1) := by decide +kernel
theorem dX3_allNodes_0 : decode cX3_allNodes 0 = .ok (.iconst 0, 1) := by decide +kernel
theorem dX3_allNodes_1 : decode cX3_allNodes 1 = .ok (.istore_n 1, 1) := by decide +kernel
theorem dX3_allNodes_2 : decode cX3_allNodes 2 = .ok (.iconst 0, 1) := by decide +kernel
theorem dX3_allNodes_3 : decode cX3_allNodes 3 = .ok (.istore_n 2, 1) := by decide +kernel
theorem dX3_allNodes_4 : decode cX3_allNodes 4 = .ok (.iload_n 2, 1) := by decide +kernel
theorem dX3_allNodes_5 : decode cX3_allNodes 5 = .ok (.bipush 8, 2) := by decide +kernel
theorem dX3_allNodes_7 : decode cX3_allNodes 7 = .ok (.if_icmp .ge 21, 3) := by decide +kernel
theorem dX3_allNodes_10 : decode cX3_allNodes 10 = .ok (.iload_n 1, 1) := by decide +kernel
theorem dX3_allNodes_11 : decode cX3_allNodes 11 = .ok (.aload_n 0, 1) := by decide +kernel
theorem dX3_allNodes_12 : decode cX3_allNodes 12 = .ok (.getfield 11, 3) := by decide +kernel
theorem dX3_allNodes_15 : decode cX3_allNodes 15 = .ok (.iload_n 2, 1) := by decide +kernel
theorem dX3_allNodes_16 : decode cX3_allNodes 16 = .ok (.aaload, 1) := by decide +kernel
theorem dX3_allNodes_17 : decode cX3_allNodes 17 = .ok (.getfield 63, 3) := by decide +kernel
theorem dX3_allNodes_20 : decode cX3_allNodes 20 = .ok (.iadd, 1) := by decide +kernel
theorem dX3_allNodes_21 : decode cX3_allNodes 21 = .ok (.istore_n 1, 1) := by decide +kernel
theorem dX3_allNodes_22 : decode cX3_allNodes 22 = .ok (.iinc 2 1, 3) := by decide +kernel
theorem dX3_allNodes_25 : decode cX3_allNodes 25 = .ok (.goto (-21), 3) := by decide +kernel
theorem dX3_allNodes_28 : decode cX3_allNodes 28 = .ok (.iload_n 1, 1) := by decide +kernel
theorem dX3_allNodes_29 : decode cX3_allNodes 29 = .ok (.ireturn, 1) := by decide +kernel
theorem dX3_wayOf_0 : decode cX3_wayOf 0 = .ok (.iload_n 1, 1) := by decide +kernel
theorem dX3_wayOf_1 : decode cX3_wayOf 1 = .ok (.i2l, 1) := by decide +kernel
theorem dX3_wayOf_2 : decode cX3_wayOf 2 = .ok (.iconst 3, 1) := by decide +kernel
theorem dX3_wayOf_3 : decode cX3_wayOf 3 = .ok (.lshl, 1) := by decide +kernel
theorem dX3_wayOf_4 : decode cX3_wayOf 4 = .ok (.iload_n 0, 1) := by decide +kernel
theorem dX3_wayOf_5 : decode cX3_wayOf 5 = .ok (.i2l, 1) := by decide +kernel
theorem dX3_wayOf_6 : decode cX3_wayOf 6 = .ok (.lor, 1) := by decide +kernel
theorem dX3_wayOf_7 : decode cX3_wayOf 7 = .ok (.lreturn, 1) := by decide +kernel
theorem dX3_howOf_0 : decode cX3_howOf 0 = .ok (.lload_n 0, 1) := by decide +kernel
theorem dX3_howOf_1 : decode cX3_howOf 1 = .ok (.ldc2_w 132, 3) := by decide +kernel
theorem dX3_howOf_4 : decode cX3_howOf 4 = .ok (.land, 1) := by decide +kernel
theorem dX3_howOf_5 : decode cX3_howOf 5 = .ok (.l2i, 1) := by decide +kernel
theorem dX3_howOf_6 : decode cX3_howOf 6 = .ok (.ireturn, 1) := by decide +kernel
theorem dX3_numberOf_0 : decode cX3_numberOf 0 = .ok (.lload_n 0, 1) := by decide +kernel
theorem dX3_numberOf_1 : decode cX3_numberOf 1 = .ok (.iconst 3, 1) := by decide +kernel
theorem dX3_numberOf_2 : decode cX3_numberOf 2 = .ok (.lshr, 1) := by decide +kernel
theorem dX3_numberOf_3 : decode cX3_numberOf 3 = .ok (.l2i, 1) := by decide +kernel
theorem dX3_numberOf_4 : decode cX3_numberOf 4 = .ok (.ireturn, 1) := by decide +kernel
theorem dX3_failing_0 : decode cX3_failing 0 = .ok (.iconst 4, 1) := by decide +kernel
theorem dX3_failing_1 : decode cX3_failing 1 = .ok (.iload_n 0, 1) := by decide +kernel
theorem dX3_failing_2 : decode cX3_failing 2 = .ok (.invokestatic 134, 3) := by decide +kernel
theorem dX3_failing_5 : decode cX3_failing 5 = .ok (.lreturn, 1) := by decide +kernel
theorem dX3_answerOf_0 : decode cX3_answerOf 0 = .ok (.lload_n 0, 1) := by decide +kernel
theorem dX3_answerOf_1 : decode cX3_answerOf 1 = .ok (.invokestatic 89, 3) := by decide +kernel
theorem dX3_answerOf_4 : decode cX3_answerOf 4 = .ok (.tableswitch 39 3 5 #[28, 30, 37], 28) := by decide +kernel
theorem dX3_answerOf_32 : decode cX3_answerOf 32 = .ok (.iconst 1, 1) := by decide +kernel
theorem dX3_answerOf_33 : decode cX3_answerOf 33 = .ok (.ireturn, 1) := by decide +kernel
theorem dX3_answerOf_34 : decode cX3_answerOf 34 = .ok (.iconst 2, 1) := by decide +kernel
theorem dX3_answerOf_35 : decode cX3_answerOf 35 = .ok (.lload_n 0, 1) := by decide +kernel
theorem dX3_answerOf_36 : decode cX3_answerOf 36 = .ok (.invokestatic 93, 3) := by decide +kernel
theorem dX3_answerOf_39 : decode cX3_answerOf 39 = .ok (.iadd, 1) := by decide +kernel
theorem dX3_answerOf_40 : decode cX3_answerOf 40 = .ok (.ireturn, 1) := by decide +kernel
theorem dX3_answerOf_41 : decode cX3_answerOf 41 = .ok (.iconst (-1), 1) := by decide +kernel
theorem dX3_answerOf_42 : decode cX3_answerOf 42 = .ok (.ireturn, 1) := by decide +kernel
theorem dX3_answerOf_43 : decode cX3_answerOf 43 = .ok (.iconst 0, 1) := by decide +kernel
theorem dX3_answerOf_44 : decode cX3_answerOf 44 = .ok (.ireturn, 1) := by decide +kernel
theorem dX3_canPay_0 : decode cX3_canPay 0 = .ok (.aload_n 0, 1) := by decide +kernel
theorem dX3_canPay_1 : decode cX3_canPay 1 = .ok (.getfield 79, 3) := by decide +kernel
theorem dX3_canPay_4 : decode cX3_canPay 4 = .ok (.bipush 60, 2) := by decide +kernel
theorem dX3_canPay_6 : decode cX3_canPay 6 = .ok (.if_icmp .lt 5, 3) := by decide +kernel
theorem dX3_canPay_9 : decode cX3_canPay 9 = .ok (.iconst 0, 1) := by decide +kernel
theorem dX3_canPay_10 : decode cX3_canPay 10 = .ok (.ireturn, 1) := by decide +kernel
theorem dX3_canPay_11 : decode cX3_canPay 11 = .ok (.aload_n 0, 1) := by decide +kernel
theorem dX3_canPay_12 : decode cX3_canPay 12 = .ok (.dup, 1) := by decide +kernel
theorem dX3_canPay_13 : decode cX3_canPay 13 = .ok (.getfield 79, 3) := by decide +kernel
theorem dX3_canPay_16 : decode cX3_canPay 16 = .ok (.iconst 1, 1) := by decide +kernel
theorem dX3_canPay_17 : decode cX3_canPay 17 = .ok (.iadd, 1) := by decide +kernel
theorem dX3_canPay_18 : decode cX3_canPay 18 = .ok (.putfield 79, 3) := by decide +kernel
theorem dX3_canPay_21 : decode cX3_canPay 21 = .ok (.iconst 1, 1) := by decide +kernel
theorem dX3_canPay_22 : decode cX3_canPay 22 = .ok (.ireturn, 1) := by decide +kernel
theorem dX3_doPart_0 : decode cX3_doPart 0 = .ok (.iload_n 2, 1) := by decide +kernel
theorem dX3_doPart_1 : decode cX3_doPart 1 = .ok (.iconst (-1), 1) := by decide +kernel
theorem dX3_doPart_2 : decode cX3_doPart 2 = .ok (.if_icmp .ne 10, 3) := by decide +kernel
theorem dX3_doPart_5 : decode cX3_doPart 5 = .ok (.aload_n 1, 1) := by decide +kernel
theorem dX3_doPart_6 : decode cX3_doPart 6 = .ok (.getfield 63, 3) := by decide +kernel
theorem dX3_doPart_9 : decode cX3_doPart 9 = .ok (.goto 9, 3) := by decide +kernel
theorem dX3_doPart_12 : decode cX3_doPart 12 = .ok (.aload_n 1, 1) := by decide +kernel
theorem dX3_doPart_13 : decode cX3_doPart 13 = .ok (.getfield 138, 3) := by decide +kernel
theorem dX3_doPart_16 : decode cX3_doPart 16 = .ok (.iload_n 2, 1) := by decide +kernel
theorem dX3_doPart_17 : decode cX3_doPart 17 = .ok (.iaload, 1) := by decide +kernel
theorem dX3_doPart_18 : decode cX3_doPart 18 = .ok (.istore 4, 2) := by decide +kernel
theorem dX3_doPart_20 : decode cX3_doPart 20 = .ok (.iload_n 2, 1) := by decide +kernel
theorem dX3_doPart_21 : decode cX3_doPart 21 = .ok (.iconst 1, 1) := by decide +kernel
theorem dX3_doPart_22 : decode cX3_doPart 22 = .ok (.iadd, 1) := by decide +kernel
theorem dX3_doPart_23 : decode cX3_doPart 23 = .ok (.istore 5, 2) := by decide +kernel
theorem dX3_doPart_25 : decode cX3_doPart 25 = .ok (.iload 5, 2) := by decide +kernel
theorem dX3_doPart_27 : decode cX3_doPart 27 = .ok (.iload 4, 2) := by decide +kernel
theorem dX3_doPart_29 : decode cX3_doPart 29 = .ok (.if_icmp .ge 42, 3) := by decide +kernel
theorem dX3_doPart_32 : decode cX3_doPart 32 = .ok (.aload_n 0, 1) := by decide +kernel
theorem dX3_doPart_33 : decode cX3_doPart 33 = .ok (.aload_n 1, 1) := by decide +kernel
theorem dX3_doPart_34 : decode cX3_doPart 34 = .ok (.iload 5, 2) := by decide +kernel
theorem dX3_doPart_36 : decode cX3_doPart 36 = .ok (.iload_n 3, 1) := by decide +kernel
theorem dX3_doPart_37 : decode cX3_doPart 37 = .ok (.invokevirtual 141, 3) := by decide +kernel
theorem dX3_doPart_40 : decode cX3_doPart 40 = .ok (.lstore 6, 2) := by decide +kernel
theorem dX3_doPart_42 : decode cX3_doPart 42 = .ok (.lload 6, 2) := by decide +kernel
theorem dX3_doPart_44 : decode cX3_doPart 44 = .ok (.lconst 0, 1) := by decide +kernel
theorem dX3_doPart_45 : decode cX3_doPart 45 = .ok (.lcmp, 1) := by decide +kernel
theorem dX3_doPart_46 : decode cX3_doPart 46 = .ok (.ifCond .eq 6, 3) := by decide +kernel
theorem dX3_doPart_49 : decode cX3_doPart 49 = .ok (.lload 6, 2) := by decide +kernel
theorem dX3_doPart_51 : decode cX3_doPart 51 = .ok (.lreturn, 1) := by decide +kernel
theorem dX3_doPart_52 : decode cX3_doPart 52 = .ok (.iload 5, 2) := by decide +kernel
theorem dX3_doPart_54 : decode cX3_doPart 54 = .ok (.aload_n 1, 1) := by decide +kernel
theorem dX3_doPart_55 : decode cX3_doPart 55 = .ok (.getfield 144, 3) := by decide +kernel
theorem dX3_doPart_58 : decode cX3_doPart 58 = .ok (.iload 5, 2) := by decide +kernel
theorem dX3_doPart_60 : decode cX3_doPart 60 = .ok (.iaload, 1) := by decide +kernel
theorem dX3_doPart_61 : decode cX3_doPart 61 = .ok (.invokestatic 147, 3) := by decide +kernel
theorem dX3_doPart_64 : decode cX3_doPart 64 = .ok (.iconst 1, 1) := by decide +kernel
theorem dX3_doPart_65 : decode cX3_doPart 65 = .ok (.iadd, 1) := by decide +kernel
theorem dX3_doPart_66 : decode cX3_doPart 66 = .ok (.istore 5, 2) := by decide +kernel
theorem dX3_doPart_68 : decode cX3_doPart 68 = .ok (.goto (-43), 3) := by decide +kernel
theorem dX3_doPart_71 : decode cX3_doPart 71 = .ok (.lconst 0, 1) := by decide +kernel
theorem dX3_doPart_72 : decode cX3_doPart 72 = .ok (.lreturn, 1) := by decide +kernel
theorem dX3_doNode_0 : decode cX3_doNode 0 = .ok (.aload_n 0, 1) := by decide +kernel
theorem dX3_doNode_1 : decode cX3_doNode 1 = .ok (.invokevirtual 153, 3) := by decide +kernel
theorem dX3_doNode_4 : decode cX3_doNode 4 = .ok (.ifCond .ne 9, 3) := by decide +kernel
theorem dX3_doNode_7 : decode cX3_doNode 7 = .ok (.iconst 5, 1) := by decide +kernel
theorem dX3_doNode_8 : decode cX3_doNode 8 = .ok (.iconst 0, 1) := by decide +kernel
theorem dX3_doNode_9 : decode cX3_doNode 9 = .ok (.invokestatic 134, 3) := by decide +kernel
theorem dX3_doNode_12 : decode cX3_doNode 12 = .ok (.lreturn, 1) := by decide +kernel
theorem dX3_doNode_13 : decode cX3_doNode 13 = .ok (.aload_n 1, 1) := by decide +kernel
theorem dX3_doNode_14 : decode cX3_doNode 14 = .ok (.getfield 156, 3) := by decide +kernel
theorem dX3_doNode_17 : decode cX3_doNode 17 = .ok (.iload_n 2, 1) := by decide +kernel
theorem dX3_doNode_18 : decode cX3_doNode 18 = .ok (.iaload, 1) := by decide +kernel
theorem dX3_doNode_19 : decode cX3_doNode 19 = .ok (.istore 4, 2) := by decide +kernel
theorem dX3_doNode_21 : decode cX3_doNode 21 = .ok (.aload_n 1, 1) := by decide +kernel
theorem dX3_doNode_22 : decode cX3_doNode 22 = .ok (.getfield 159, 3) := by decide +kernel
theorem dX3_doNode_25 : decode cX3_doNode 25 = .ok (.iload_n 2, 1) := by decide +kernel
theorem dX3_doNode_26 : decode cX3_doNode 26 = .ok (.iaload, 1) := by decide +kernel
theorem dX3_doNode_27 : decode cX3_doNode 27 = .ok (.istore 5, 2) := by decide +kernel
theorem dX3_doNode_29 : decode cX3_doNode 29 = .ok (.aload_n 1, 1) := by decide +kernel
theorem dX3_doNode_30 : decode cX3_doNode 30 = .ok (.getfield 162, 3) := by decide +kernel
theorem dX3_doNode_33 : decode cX3_doNode 33 = .ok (.iload_n 2, 1) := by decide +kernel
theorem dX3_doNode_34 : decode cX3_doNode 34 = .ok (.iaload, 1) := by decide +kernel
theorem dX3_doNode_35 : decode cX3_doNode 35 = .ok (.tableswitch 150 9 21 #[144, 65, 150, 150, 73, 81, 89, 150, 115, 122, 129, 105, 97], 65) := by decide +kernel
theorem dX3_doNode_100 : decode cX3_doNode 100 = .ok (.aload_n 0, 1) := by decide +kernel
theorem dX3_doNode_101 : decode cX3_doNode 101 = .ok (.aload_n 1, 1) := by decide +kernel
theorem dX3_doNode_102 : decode cX3_doNode 102 = .ok (.iload_n 2, 1) := by decide +kernel
theorem dX3_doNode_103 : decode cX3_doNode 103 = .ok (.iload_n 3, 1) := by decide +kernel
theorem dX3_doNode_104 : decode cX3_doNode 104 = .ok (.invokevirtual 165, 3) := by decide +kernel
theorem dX3_doNode_107 : decode cX3_doNode 107 = .ok (.lreturn, 1) := by decide +kernel
theorem dX3_doNode_108 : decode cX3_doNode 108 = .ok (.aload_n 0, 1) := by decide +kernel
theorem dX3_doNode_109 : decode cX3_doNode 109 = .ok (.aload_n 1, 1) := by decide +kernel
theorem dX3_doNode_110 : decode cX3_doNode 110 = .ok (.iload_n 2, 1) := by decide +kernel
theorem dX3_doNode_111 : decode cX3_doNode 111 = .ok (.iload_n 3, 1) := by decide +kernel
theorem dX3_doNode_112 : decode cX3_doNode 112 = .ok (.invokevirtual 168, 3) := by decide +kernel
theorem dX3_doNode_115 : decode cX3_doNode 115 = .ok (.lreturn, 1) := by decide +kernel
theorem dX3_doNode_116 : decode cX3_doNode 116 = .ok (.aload_n 0, 1) := by decide +kernel
theorem dX3_doNode_117 : decode cX3_doNode 117 = .ok (.aload_n 1, 1) := by decide +kernel
theorem dX3_doNode_118 : decode cX3_doNode 118 = .ok (.iload_n 2, 1) := by decide +kernel
theorem dX3_doNode_119 : decode cX3_doNode 119 = .ok (.iload_n 3, 1) := by decide +kernel
theorem dX3_doNode_120 : decode cX3_doNode 120 = .ok (.invokevirtual 171, 3) := by decide +kernel
theorem dX3_doNode_123 : decode cX3_doNode 123 = .ok (.lreturn, 1) := by decide +kernel
theorem dX3_doNode_124 : decode cX3_doNode 124 = .ok (.aload_n 0, 1) := by decide +kernel
theorem dX3_doNode_125 : decode cX3_doNode 125 = .ok (.aload_n 1, 1) := by decide +kernel
theorem dX3_doNode_126 : decode cX3_doNode 126 = .ok (.iload_n 2, 1) := by decide +kernel
theorem dX3_doNode_127 : decode cX3_doNode 127 = .ok (.iload_n 3, 1) := by decide +kernel
theorem dX3_doNode_128 : decode cX3_doNode 128 = .ok (.invokevirtual 174, 3) := by decide +kernel
theorem dX3_doNode_131 : decode cX3_doNode 131 = .ok (.lreturn, 1) := by decide +kernel
theorem dX3_doNode_132 : decode cX3_doNode 132 = .ok (.aload_n 0, 1) := by decide +kernel
theorem dX3_doNode_133 : decode cX3_doNode 133 = .ok (.aload_n 1, 1) := by decide +kernel
theorem dX3_doNode_134 : decode cX3_doNode 134 = .ok (.iload_n 2, 1) := by decide +kernel
theorem dX3_doNode_135 : decode cX3_doNode 135 = .ok (.iload_n 3, 1) := by decide +kernel
theorem dX3_doNode_136 : decode cX3_doNode 136 = .ok (.invokevirtual 177, 3) := by decide +kernel
theorem dX3_doNode_139 : decode cX3_doNode 139 = .ok (.lreturn, 1) := by decide +kernel
theorem dX3_doNode_140 : decode cX3_doNode 140 = .ok (.aload_n 0, 1) := by decide +kernel
theorem dX3_doNode_141 : decode cX3_doNode 141 = .ok (.iload 4, 2) := by decide +kernel
theorem dX3_doNode_143 : decode cX3_doNode 143 = .ok (.iload 5, 2) := by decide +kernel
theorem dX3_doNode_145 : decode cX3_doNode 145 = .ok (.iload_n 3, 1) := by decide +kernel
theorem dX3_doNode_146 : decode cX3_doNode 146 = .ok (.invokevirtual 180, 3) := by decide +kernel
theorem dX3_doNode_149 : decode cX3_doNode 149 = .ok (.lreturn, 1) := by decide +kernel
theorem dX3_doNode_150 : decode cX3_doNode 150 = .ok (.iconst 1, 1) := by decide +kernel
theorem dX3_doNode_151 : decode cX3_doNode 151 = .ok (.iload 5, 2) := by decide +kernel
theorem dX3_doNode_153 : decode cX3_doNode 153 = .ok (.invokestatic 134, 3) := by decide +kernel
theorem dX3_doNode_156 : decode cX3_doNode 156 = .ok (.lreturn, 1) := by decide +kernel
theorem dX3_doNode_157 : decode cX3_doNode 157 = .ok (.iconst 2, 1) := by decide +kernel
theorem dX3_doNode_158 : decode cX3_doNode 158 = .ok (.iload 5, 2) := by decide +kernel
theorem dX3_doNode_160 : decode cX3_doNode 160 = .ok (.invokestatic 134, 3) := by decide +kernel
theorem dX3_doNode_163 : decode cX3_doNode 163 = .ok (.lreturn, 1) := by decide +kernel
theorem dX3_doNode_164 : decode cX3_doNode 164 = .ok (.iconst 3, 1) := by decide +kernel
theorem dX3_doNode_165 : decode cX3_doNode 165 = .ok (.aload_n 0, 1) := by decide +kernel
theorem dX3_doNode_166 : decode cX3_doNode 166 = .ok (.getfield 19, 3) := by decide +kernel
theorem dX3_doNode_169 : decode cX3_doNode 169 = .ok (.getfield 102, 3) := by decide +kernel
theorem dX3_doNode_172 : decode cX3_doNode 172 = .ok (.iload 4, 2) := by decide +kernel
theorem dX3_doNode_174 : decode cX3_doNode 174 = .ok (.iaload, 1) := by decide +kernel
theorem dX3_doNode_175 : decode cX3_doNode 175 = .ok (.invokestatic 134, 3) := by decide +kernel
theorem dX3_doNode_178 : decode cX3_doNode 178 = .ok (.lreturn, 1) := by decide +kernel
theorem dX3_doNode_179 : decode cX3_doNode 179 = .ok (.iload 5, 2) := by decide +kernel
theorem dX3_doNode_181 : decode cX3_doNode 181 = .ok (.invokestatic 184, 3) := by decide +kernel
theorem dX3_doNode_184 : decode cX3_doNode 184 = .ok (.lreturn, 1) := by decide +kernel
theorem dX3_doNode_185 : decode cX3_doNode 185 = .ok (.aload_n 0, 1) := by decide +kernel
theorem dX3_doNode_186 : decode cX3_doNode 186 = .ok (.aload_n 1, 1) := by decide +kernel
theorem dX3_doNode_187 : decode cX3_doNode 187 = .ok (.getfield 162, 3) := by decide +kernel
theorem dX3_doNode_190 : decode cX3_doNode 190 = .ok (.iload_n 2, 1) := by decide +kernel
theorem dX3_doNode_191 : decode cX3_doNode 191 = .ok (.iaload, 1) := by decide +kernel
theorem dX3_doNode_192 : decode cX3_doNode 192 = .ok (.iload 4, 2) := by decide +kernel
theorem dX3_doNode_194 : decode cX3_doNode 194 = .ok (.iload 5, 2) := by decide +kernel
theorem dX3_doNode_196 : decode cX3_doNode 196 = .ok (.invokevirtual 188, 3) := by decide +kernel
theorem dX3_doNode_199 : decode cX3_doNode 199 = .ok (.lreturn, 1) := by decide +kernel
theorem dX3_doTry_0 : decode cX3_doTry 0 = .ok (.aload_n 0, 1) := by decide +kernel
theorem dX3_doTry_1 : decode cX3_doTry 1 = .ok (.aload_n 1, 1) := by decide +kernel
theorem dX3_doTry_2 : decode cX3_doTry 2 = .ok (.iload_n 2, 1) := by decide +kernel
theorem dX3_doTry_3 : decode cX3_doTry 3 = .ok (.iload_n 3, 1) := by decide +kernel
theorem dX3_doTry_4 : decode cX3_doTry 4 = .ok (.invokevirtual 85, 3) := by decide +kernel
theorem dX3_doTry_7 : decode cX3_doTry 7 = .ok (.lstore 4, 2) := by decide +kernel
theorem dX3_doTry_9 : decode cX3_doTry 9 = .ok (.aload_n 1, 1) := by decide +kernel
theorem dX3_doTry_10 : decode cX3_doTry 10 = .ok (.getfield 138, 3) := by decide +kernel
theorem dX3_doTry_13 : decode cX3_doTry 13 = .ok (.iload_n 2, 1) := by decide +kernel
theorem dX3_doTry_14 : decode cX3_doTry 14 = .ok (.iaload, 1) := by decide +kernel
theorem dX3_doTry_15 : decode cX3_doTry 15 = .ok (.istore 6, 2) := by decide +kernel
theorem dX3_doTry_17 : decode cX3_doTry 17 = .ok (.aload_n 1, 1) := by decide +kernel
theorem dX3_doTry_18 : decode cX3_doTry 18 = .ok (.getfield 162, 3) := by decide +kernel
theorem dX3_doTry_21 : decode cX3_doTry 21 = .ok (.iload 6, 2) := by decide +kernel
theorem dX3_doTry_23 : decode cX3_doTry 23 = .ok (.iaload, 1) := by decide +kernel
theorem dX3_doTry_24 : decode cX3_doTry 24 = .ok (.bipush 11, 2) := by decide +kernel
theorem dX3_doTry_26 : decode cX3_doTry 26 = .ok (.if_icmp .ne 64, 3) := by decide +kernel
theorem dX3_doTry_29 : decode cX3_doTry 29 = .ok (.lload 4, 2) := by decide +kernel
theorem dX3_doTry_31 : decode cX3_doTry 31 = .ok (.invokestatic 89, 3) := by decide +kernel
theorem dX3_doTry_34 : decode cX3_doTry 34 = .ok (.iconst 4, 1) := by decide +kernel
theorem dX3_doTry_35 : decode cX3_doTry 35 = .ok (.if_icmp .ne 46, 3) := by decide +kernel
theorem dX3_doTry_38 : decode cX3_doTry 38 = .ok (.aload_n 1, 1) := by decide +kernel
theorem dX3_doTry_39 : decode cX3_doTry 39 = .ok (.getfield 159, 3) := by decide +kernel
theorem dX3_doTry_42 : decode cX3_doTry 42 = .ok (.iload_n 2, 1) := by decide +kernel
theorem dX3_doTry_43 : decode cX3_doTry 43 = .ok (.iaload, 1) := by decide +kernel
theorem dX3_doTry_44 : decode cX3_doTry 44 = .ok (.lload 4, 2) := by decide +kernel
theorem dX3_doTry_46 : decode cX3_doTry 46 = .ok (.invokestatic 93, 3) := by decide +kernel
theorem dX3_doTry_49 : decode cX3_doTry 49 = .ok (.ishr, 1) := by decide +kernel
theorem dX3_doTry_50 : decode cX3_doTry 50 = .ok (.iconst 1, 1) := by decide +kernel
theorem dX3_doTry_51 : decode cX3_doTry 51 = .ok (.iand, 1) := by decide +kernel
theorem dX3_doTry_52 : decode cX3_doTry 52 = .ok (.iconst 1, 1) := by decide +kernel
theorem dX3_doTry_53 : decode cX3_doTry 53 = .ok (.if_icmp .ne 28, 3) := by decide +kernel
theorem dX3_doTry_56 : decode cX3_doTry 56 = .ok (.aload_n 0, 1) := by decide +kernel
theorem dX3_doTry_57 : decode cX3_doTry 57 = .ok (.getfield 19, 3) := by decide +kernel
theorem dX3_doTry_60 : decode cX3_doTry 60 = .ok (.getfield 102, 3) := by decide +kernel
theorem dX3_doTry_63 : decode cX3_doTry 63 = .ok (.bipush 7, 2) := by decide +kernel
theorem dX3_doTry_65 : decode cX3_doTry 65 = .ok (.lload 4, 2) := by decide +kernel
theorem dX3_doTry_67 : decode cX3_doTry 67 = .ok (.invokestatic 93, 3) := by decide +kernel
theorem dX3_doTry_70 : decode cX3_doTry 70 = .ok (.iastore, 1) := by decide +kernel
theorem dX3_doTry_71 : decode cX3_doTry 71 = .ok (.aload_n 0, 1) := by decide +kernel
theorem dX3_doTry_72 : decode cX3_doTry 72 = .ok (.aload_n 1, 1) := by decide +kernel
theorem dX3_doTry_73 : decode cX3_doTry 73 = .ok (.iload 6, 2) := by decide +kernel
theorem dX3_doTry_75 : decode cX3_doTry 75 = .ok (.iload_n 3, 1) := by decide +kernel
theorem dX3_doTry_76 : decode cX3_doTry 76 = .ok (.invokevirtual 85, 3) := by decide +kernel
theorem dX3_doTry_79 : decode cX3_doTry 79 = .ok (.lstore 4, 2) := by decide +kernel
theorem dX3_doTry_81 : decode cX3_doTry 81 = .ok (.aload_n 1, 1) := by decide +kernel
theorem dX3_doTry_82 : decode cX3_doTry 82 = .ok (.getfield 138, 3) := by decide +kernel
theorem dX3_doTry_85 : decode cX3_doTry 85 = .ok (.iload 6, 2) := by decide +kernel
theorem dX3_doTry_87 : decode cX3_doTry 87 = .ok (.iaload, 1) := by decide +kernel
theorem dX3_doTry_88 : decode cX3_doTry 88 = .ok (.istore 6, 2) := by decide +kernel
theorem dX3_doTry_90 : decode cX3_doTry 90 = .ok (.aload_n 1, 1) := by decide +kernel
theorem dX3_doTry_91 : decode cX3_doTry 91 = .ok (.getfield 162, 3) := by decide +kernel
theorem dX3_doTry_94 : decode cX3_doTry 94 = .ok (.iload 6, 2) := by decide +kernel
theorem dX3_doTry_96 : decode cX3_doTry 96 = .ok (.iaload, 1) := by decide +kernel
theorem dX3_doTry_97 : decode cX3_doTry 97 = .ok (.bipush 12, 2) := by decide +kernel
theorem dX3_doTry_99 : decode cX3_doTry 99 = .ok (.if_icmp .ne 37, 3) := by decide +kernel
theorem dX3_doTry_102 : decode cX3_doTry 102 = .ok (.lload 4, 2) := by decide +kernel
theorem dX3_doTry_104 : decode cX3_doTry 104 = .ok (.invokestatic 89, 3) := by decide +kernel
theorem dX3_doTry_107 : decode cX3_doTry 107 = .ok (.iconst 5, 1) := by decide +kernel
theorem dX3_doTry_108 : decode cX3_doTry 108 = .ok (.if_icmp .eq 28, 3) := by decide +kernel
theorem dX3_doTry_111 : decode cX3_doTry 111 = .ok (.aload_n 0, 1) := by decide +kernel
theorem dX3_doTry_112 : decode cX3_doTry 112 = .ok (.aload_n 1, 1) := by decide +kernel
theorem dX3_doTry_113 : decode cX3_doTry 113 = .ok (.iload 6, 2) := by decide +kernel
theorem dX3_doTry_115 : decode cX3_doTry 115 = .ok (.iload_n 3, 1) := by decide +kernel
theorem dX3_doTry_116 : decode cX3_doTry 116 = .ok (.invokevirtual 85, 3) := by decide +kernel
theorem dX3_doTry_119 : decode cX3_doTry 119 = .ok (.lstore 7, 2) := by decide +kernel
theorem dX3_doTry_121 : decode cX3_doTry 121 = .ok (.lload 7, 2) := by decide +kernel
theorem dX3_doTry_123 : decode cX3_doTry 123 = .ok (.lconst 0, 1) := by decide +kernel
theorem dX3_doTry_124 : decode cX3_doTry 124 = .ok (.lcmp, 1) := by decide +kernel
theorem dX3_doTry_125 : decode cX3_doTry 125 = .ok (.ifCond .ne 8, 3) := by decide +kernel
theorem dX3_doTry_128 : decode cX3_doTry 128 = .ok (.lload 4, 2) := by decide +kernel
theorem dX3_doTry_130 : decode cX3_doTry 130 = .ok (.goto 5, 3) := by decide +kernel
theorem dX3_doTry_133 : decode cX3_doTry 133 = .ok (.lload 7, 2) := by decide +kernel
theorem dX3_doTry_135 : decode cX3_doTry 135 = .ok (.lreturn, 1) := by decide +kernel
theorem dX3_doTry_136 : decode cX3_doTry 136 = .ok (.lload 4, 2) := by decide +kernel
theorem dX3_doTry_138 : decode cX3_doTry 138 = .ok (.lreturn, 1) := by decide +kernel
theorem dX3_doLoop_0 : decode cX3_doLoop 0 = .ok (.iconst 0, 1) := by decide +kernel
theorem dX3_doLoop_1 : decode cX3_doLoop 1 = .ok (.istore 4, 2) := by decide +kernel
theorem dX3_doLoop_3 : decode cX3_doLoop 3 = .ok (.iload 4, 2) := by decide +kernel
theorem dX3_doLoop_5 : decode cX3_doLoop 5 = .ok (.aload_n 1, 1) := by decide +kernel
theorem dX3_doLoop_6 : decode cX3_doLoop 6 = .ok (.getfield 159, 3) := by decide +kernel
theorem dX3_doLoop_9 : decode cX3_doLoop 9 = .ok (.iload_n 2, 1) := by decide +kernel
theorem dX3_doLoop_10 : decode cX3_doLoop 10 = .ok (.iaload, 1) := by decide +kernel
theorem dX3_doLoop_11 : decode cX3_doLoop 11 = .ok (.if_icmp .ge 89, 3) := by decide +kernel
theorem dX3_doLoop_14 : decode cX3_doLoop 14 = .ok (.aload_n 0, 1) := by decide +kernel
theorem dX3_doLoop_15 : decode cX3_doLoop 15 = .ok (.invokevirtual 153, 3) := by decide +kernel
theorem dX3_doLoop_18 : decode cX3_doLoop 18 = .ok (.ifCond .ne 9, 3) := by decide +kernel
theorem dX3_doLoop_21 : decode cX3_doLoop 21 = .ok (.iconst 5, 1) := by decide +kernel
theorem dX3_doLoop_22 : decode cX3_doLoop 22 = .ok (.iconst 0, 1) := by decide +kernel
theorem dX3_doLoop_23 : decode cX3_doLoop 23 = .ok (.invokestatic 134, 3) := by decide +kernel
theorem dX3_doLoop_26 : decode cX3_doLoop 26 = .ok (.lreturn, 1) := by decide +kernel
theorem dX3_doLoop_27 : decode cX3_doLoop 27 = .ok (.aload_n 0, 1) := by decide +kernel
theorem dX3_doLoop_28 : decode cX3_doLoop 28 = .ok (.aload_n 1, 1) := by decide +kernel
theorem dX3_doLoop_29 : decode cX3_doLoop 29 = .ok (.iload_n 2, 1) := by decide +kernel
theorem dX3_doLoop_30 : decode cX3_doLoop 30 = .ok (.iload_n 3, 1) := by decide +kernel
theorem dX3_doLoop_31 : decode cX3_doLoop 31 = .ok (.invokevirtual 85, 3) := by decide +kernel
theorem dX3_doLoop_34 : decode cX3_doLoop 34 = .ok (.lstore 5, 2) := by decide +kernel
theorem dX3_doLoop_36 : decode cX3_doLoop 36 = .ok (.lload 5, 2) := by decide +kernel
theorem dX3_doLoop_38 : decode cX3_doLoop 38 = .ok (.invokestatic 89, 3) := by decide +kernel
theorem dX3_doLoop_41 : decode cX3_doLoop 41 = .ok (.istore 7, 2) := by decide +kernel
theorem dX3_doLoop_43 : decode cX3_doLoop 43 = .ok (.iload 7, 2) := by decide +kernel
theorem dX3_doLoop_45 : decode cX3_doLoop 45 = .ok (.iconst 1, 1) := by decide +kernel
theorem dX3_doLoop_46 : decode cX3_doLoop 46 = .ok (.if_icmp .eq 9, 3) := by decide +kernel
theorem dX3_doLoop_49 : decode cX3_doLoop 49 = .ok (.iload 7, 2) := by decide +kernel
theorem dX3_doLoop_51 : decode cX3_doLoop 51 = .ok (.iconst 2, 1) := by decide +kernel
theorem dX3_doLoop_52 : decode cX3_doLoop 52 = .ok (.if_icmp .ne 32, 3) := by decide +kernel
theorem dX3_doLoop_55 : decode cX3_doLoop 55 = .ok (.lload 5, 2) := by decide +kernel
theorem dX3_doLoop_57 : decode cX3_doLoop 57 = .ok (.invokestatic 93, 3) := by decide +kernel
theorem dX3_doLoop_60 : decode cX3_doLoop 60 = .ok (.ifCond .le 16, 3) := by decide +kernel
theorem dX3_doLoop_63 : decode cX3_doLoop 63 = .ok (.iload 7, 2) := by decide +kernel
theorem dX3_doLoop_65 : decode cX3_doLoop 65 = .ok (.lload 5, 2) := by decide +kernel
theorem dX3_doLoop_67 : decode cX3_doLoop 67 = .ok (.invokestatic 93, 3) := by decide +kernel
theorem dX3_doLoop_70 : decode cX3_doLoop 70 = .ok (.iconst 1, 1) := by decide +kernel
theorem dX3_doLoop_71 : decode cX3_doLoop 71 = .ok (.isub, 1) := by decide +kernel
theorem dX3_doLoop_72 : decode cX3_doLoop 72 = .ok (.invokestatic 134, 3) := by decide +kernel
theorem dX3_doLoop_75 : decode cX3_doLoop 75 = .ok (.lreturn, 1) := by decide +kernel
theorem dX3_doLoop_76 : decode cX3_doLoop 76 = .ok (.iload 7, 2) := by decide +kernel
theorem dX3_doLoop_78 : decode cX3_doLoop 78 = .ok (.iconst 1, 1) := by decide +kernel
theorem dX3_doLoop_79 : decode cX3_doLoop 79 = .ok (.if_icmp .ne 15, 3) := by decide +kernel
theorem dX3_doLoop_82 : decode cX3_doLoop 82 = .ok (.lconst 0, 1) := by decide +kernel
theorem dX3_doLoop_83 : decode cX3_doLoop 83 = .ok (.lreturn, 1) := by decide +kernel
theorem dX3_doLoop_84 : decode cX3_doLoop 84 = .ok (.lload 5, 2) := by decide +kernel
theorem dX3_doLoop_86 : decode cX3_doLoop 86 = .ok (.lconst 0, 1) := by decide +kernel
theorem dX3_doLoop_87 : decode cX3_doLoop 87 = .ok (.lcmp, 1) := by decide +kernel
theorem dX3_doLoop_88 : decode cX3_doLoop 88 = .ok (.ifCond .eq 6, 3) := by decide +kernel
theorem dX3_doLoop_91 : decode cX3_doLoop 91 = .ok (.lload 5, 2) := by decide +kernel
theorem dX3_doLoop_93 : decode cX3_doLoop 93 = .ok (.lreturn, 1) := by decide +kernel
theorem dX3_doLoop_94 : decode cX3_doLoop 94 = .ok (.iinc 4 1, 3) := by decide +kernel
theorem dX3_doLoop_97 : decode cX3_doLoop 97 = .ok (.goto (-94), 3) := by decide +kernel
theorem dX3_doLoop_100 : decode cX3_doLoop 100 = .ok (.lconst 0, 1) := by decide +kernel
theorem dX3_doLoop_101 : decode cX3_doLoop 101 = .ok (.lreturn, 1) := by decide +kernel
theorem dX3_doScope_0 : decode cX3_doScope 0 = .ok (.aload_n 0, 1) := by decide +kernel
theorem dX3_doScope_1 : decode cX3_doScope 1 = .ok (.getfield 26, 3) := by decide +kernel
theorem dX3_doScope_4 : decode cX3_doScope 4 = .ok (.invokevirtual 191, 3) := by decide +kernel
theorem dX3_doScope_7 : decode cX3_doScope 7 = .ok (.istore 4, 2) := by decide +kernel
theorem dX3_doScope_9 : decode cX3_doScope 9 = .ok (.aload_n 0, 1) := by decide +kernel
theorem dX3_doScope_10 : decode cX3_doScope 10 = .ok (.aload_n 1, 1) := by decide +kernel
theorem dX3_doScope_11 : decode cX3_doScope 11 = .ok (.iload_n 2, 1) := by decide +kernel
theorem dX3_doScope_12 : decode cX3_doScope 12 = .ok (.iload_n 3, 1) := by decide +kernel
theorem dX3_doScope_13 : decode cX3_doScope 13 = .ok (.invokevirtual 85, 3) := by decide +kernel
theorem dX3_doScope_16 : decode cX3_doScope 16 = .ok (.lstore 5, 2) := by decide +kernel
theorem dX3_doScope_18 : decode cX3_doScope 18 = .ok (.lload 5, 2) := by decide +kernel
theorem dX3_doScope_20 : decode cX3_doScope 20 = .ok (.invokestatic 89, 3) := by decide +kernel
theorem dX3_doScope_23 : decode cX3_doScope 23 = .ok (.iconst 4, 1) := by decide +kernel
theorem dX3_doScope_24 : decode cX3_doScope 24 = .ok (.if_icmp .ne 14, 3) := by decide +kernel
theorem dX3_doScope_27 : decode cX3_doScope 27 = .ok (.aload_n 0, 1) := by decide +kernel
theorem dX3_doScope_28 : decode cX3_doScope 28 = .ok (.getfield 26, 3) := by decide +kernel
theorem dX3_doScope_31 : decode cX3_doScope 31 = .ok (.aload_n 0, 1) := by decide +kernel
theorem dX3_doScope_32 : decode cX3_doScope 32 = .ok (.getfield 19, 3) := by decide +kernel
theorem dX3_doScope_35 : decode cX3_doScope 35 = .ok (.invokevirtual 194, 3) := by decide +kernel
theorem dX3_doScope_38 : decode cX3_doScope 38 = .ok (.aload_n 0, 1) := by decide +kernel
theorem dX3_doScope_39 : decode cX3_doScope 39 = .ok (.getfield 26, 3) := by decide +kernel
theorem dX3_doScope_42 : decode cX3_doScope 42 = .ok (.iload 4, 2) := by decide +kernel
theorem dX3_doScope_44 : decode cX3_doScope 44 = .ok (.invokevirtual 198, 3) := by decide +kernel
theorem dX3_doScope_47 : decode cX3_doScope 47 = .ok (.lload 5, 2) := by decide +kernel
theorem dX3_doScope_49 : decode cX3_doScope 49 = .ok (.lreturn, 1) := by decide +kernel
theorem dX3_doMute_0 : decode cX3_doMute 0 = .ok (.aload_n 0, 1) := by decide +kernel
theorem dX3_doMute_1 : decode cX3_doMute 1 = .ok (.aload_n 1, 1) := by decide +kernel
theorem dX3_doMute_2 : decode cX3_doMute 2 = .ok (.iload_n 2, 1) := by decide +kernel
theorem dX3_doMute_3 : decode cX3_doMute 3 = .ok (.iload_n 3, 1) := by decide +kernel
theorem dX3_doMute_4 : decode cX3_doMute 4 = .ok (.invokevirtual 85, 3) := by decide +kernel
theorem dX3_doMute_7 : decode cX3_doMute 7 = .ok (.lstore 4, 2) := by decide +kernel
theorem dX3_doMute_9 : decode cX3_doMute 9 = .ok (.lload 4, 2) := by decide +kernel
theorem dX3_doMute_11 : decode cX3_doMute 11 = .ok (.invokestatic 89, 3) := by decide +kernel
theorem dX3_doMute_14 : decode cX3_doMute 14 = .ok (.iconst 5, 1) := by decide +kernel
theorem dX3_doMute_15 : decode cX3_doMute 15 = .ok (.if_icmp .ne 8, 3) := by decide +kernel
theorem dX3_doMute_18 : decode cX3_doMute 18 = .ok (.lload 4, 2) := by decide +kernel
theorem dX3_doMute_20 : decode cX3_doMute 20 = .ok (.goto 4, 3) := by decide +kernel
theorem dX3_doMute_23 : decode cX3_doMute 23 = .ok (.lconst 0, 1) := by decide +kernel
theorem dX3_doMute_24 : decode cX3_doMute 24 = .ok (.lreturn, 1) := by decide +kernel
theorem dX3_doIf_0 : decode cX3_doIf 0 = .ok (.aload_n 0, 1) := by decide +kernel
theorem dX3_doIf_1 : decode cX3_doIf 1 = .ok (.getfield 19, 3) := by decide +kernel
theorem dX3_doIf_4 : decode cX3_doIf 4 = .ok (.getfield 102, 3) := by decide +kernel
theorem dX3_doIf_7 : decode cX3_doIf 7 = .ok (.aload_n 1, 1) := by decide +kernel
theorem dX3_doIf_8 : decode cX3_doIf 8 = .ok (.getfield 156, 3) := by decide +kernel
theorem dX3_doIf_11 : decode cX3_doIf 11 = .ok (.iload_n 2, 1) := by decide +kernel
theorem dX3_doIf_12 : decode cX3_doIf 12 = .ok (.iaload, 1) := by decide +kernel
theorem dX3_doIf_13 : decode cX3_doIf 13 = .ok (.iaload, 1) := by decide +kernel
theorem dX3_doIf_14 : decode cX3_doIf 14 = .ok (.ifCond .eq 11, 3) := by decide +kernel
theorem dX3_doIf_17 : decode cX3_doIf 17 = .ok (.aload_n 0, 1) := by decide +kernel
theorem dX3_doIf_18 : decode cX3_doIf 18 = .ok (.aload_n 1, 1) := by decide +kernel
theorem dX3_doIf_19 : decode cX3_doIf 19 = .ok (.iload_n 2, 1) := by decide +kernel
theorem dX3_doIf_20 : decode cX3_doIf 20 = .ok (.iload_n 3, 1) := by decide +kernel
theorem dX3_doIf_21 : decode cX3_doIf 21 = .ok (.invokevirtual 85, 3) := by decide +kernel
theorem dX3_doIf_24 : decode cX3_doIf 24 = .ok (.lreturn, 1) := by decide +kernel
theorem dX3_doIf_25 : decode cX3_doIf 25 = .ok (.aload_n 1, 1) := by decide +kernel
theorem dX3_doIf_26 : decode cX3_doIf 26 = .ok (.getfield 138, 3) := by decide +kernel
theorem dX3_doIf_29 : decode cX3_doIf 29 = .ok (.iload_n 2, 1) := by decide +kernel
theorem dX3_doIf_30 : decode cX3_doIf 30 = .ok (.iaload, 1) := by decide +kernel
theorem dX3_doIf_31 : decode cX3_doIf 31 = .ok (.istore 4, 2) := by decide +kernel
theorem dX3_doIf_33 : decode cX3_doIf 33 = .ok (.aload_n 1, 1) := by decide +kernel
theorem dX3_doIf_34 : decode cX3_doIf 34 = .ok (.getfield 162, 3) := by decide +kernel
theorem dX3_doIf_37 : decode cX3_doIf 37 = .ok (.iload 4, 2) := by decide +kernel
theorem dX3_doIf_39 : decode cX3_doIf 39 = .ok (.iaload, 1) := by decide +kernel
theorem dX3_doIf_40 : decode cX3_doIf 40 = .ok (.bipush 22, 2) := by decide +kernel
theorem dX3_doIf_42 : decode cX3_doIf 42 = .ok (.if_icmp .ne 14, 3) := by decide +kernel
theorem dX3_doIf_45 : decode cX3_doIf 45 = .ok (.aload_n 0, 1) := by decide +kernel
theorem dX3_doIf_46 : decode cX3_doIf 46 = .ok (.aload_n 1, 1) := by decide +kernel
theorem dX3_doIf_47 : decode cX3_doIf 47 = .ok (.iload 4, 2) := by decide +kernel
theorem dX3_doIf_49 : decode cX3_doIf 49 = .ok (.iload_n 3, 1) := by decide +kernel
theorem dX3_doIf_50 : decode cX3_doIf 50 = .ok (.invokevirtual 85, 3) := by decide +kernel
theorem dX3_doIf_53 : decode cX3_doIf 53 = .ok (.goto 4, 3) := by decide +kernel
theorem dX3_doIf_56 : decode cX3_doIf 56 = .ok (.lconst 0, 1) := by decide +kernel
theorem dX3_doIf_57 : decode cX3_doIf 57 = .ok (.lreturn, 1) := by decide +kernel
theorem dX3_doCall_0 : decode cX3_doCall 0 = .ok (.aload_n 0, 1) := by decide +kernel
theorem dX3_doCall_1 : decode cX3_doCall 1 = .ok (.getfield 11, 3) := by decide +kernel
theorem dX3_doCall_4 : decode cX3_doCall 4 = .ok (.iload_n 2, 1) := by decide +kernel
theorem dX3_doCall_5 : decode cX3_doCall 5 = .ok (.aaload, 1) := by decide +kernel
theorem dX3_doCall_6 : decode cX3_doCall 6 = .ok (.astore 4, 2) := by decide +kernel
theorem dX3_doCall_8 : decode cX3_doCall 8 = .ok (.aload 4, 2) := by decide +kernel
theorem dX3_doCall_10 : decode cX3_doCall 10 = .ok (.invokevirtual 70, 3) := by decide +kernel
theorem dX3_doCall_13 : decode cX3_doCall 13 = .ok (.ifCond .eq 9, 3) := by decide +kernel
theorem dX3_doCall_16 : decode cX3_doCall 16 = .ok (.iload_n 3, 1) := by decide +kernel
theorem dX3_doCall_17 : decode cX3_doCall 17 = .ok (.bipush 6, 2) := by decide +kernel
theorem dX3_doCall_19 : decode cX3_doCall 19 = .ok (.if_icmp .lt 9, 3) := by decide +kernel
theorem dX3_doCall_22 : decode cX3_doCall 22 = .ok (.bipush 7, 2) := by decide +kernel
theorem dX3_doCall_24 : decode cX3_doCall 24 = .ok (.invokestatic 184, 3) := by decide +kernel
theorem dX3_doCall_27 : decode cX3_doCall 27 = .ok (.lreturn, 1) := by decide +kernel
theorem dX3_doCall_28 : decode cX3_doCall 28 = .ok (.aload_n 0, 1) := by decide +kernel
theorem dX3_doCall_29 : decode cX3_doCall 29 = .ok (.aload 4, 2) := by decide +kernel
theorem dX3_doCall_31 : decode cX3_doCall 31 = .ok (.iconst (-1), 1) := by decide +kernel
theorem dX3_doCall_32 : decode cX3_doCall 32 = .ok (.iload_n 3, 1) := by decide +kernel
theorem dX3_doCall_33 : decode cX3_doCall 33 = .ok (.iconst 1, 1) := by decide +kernel
theorem dX3_doCall_34 : decode cX3_doCall 34 = .ok (.iadd, 1) := by decide +kernel
theorem dX3_doCall_35 : decode cX3_doCall 35 = .ok (.invokevirtual 85, 3) := by decide +kernel
theorem dX3_doCall_38 : decode cX3_doCall 38 = .ok (.lstore 5, 2) := by decide +kernel
theorem dX3_doCall_40 : decode cX3_doCall 40 = .ok (.lload 5, 2) := by decide +kernel
theorem dX3_doCall_42 : decode cX3_doCall 42 = .ok (.invokestatic 89, 3) := by decide +kernel
theorem dX3_doCall_45 : decode cX3_doCall 45 = .ok (.istore 7, 2) := by decide +kernel
theorem dX3_doCall_47 : decode cX3_doCall 47 = .ok (.iload 7, 2) := by decide +kernel
theorem dX3_doCall_49 : decode cX3_doCall 49 = .ok (.iconst 4, 1) := by decide +kernel
theorem dX3_doCall_50 : decode cX3_doCall 50 = .ok (.if_icmp .eq 9, 3) := by decide +kernel
theorem dX3_doCall_53 : decode cX3_doCall 53 = .ok (.iload 7, 2) := by decide +kernel
theorem dX3_doCall_55 : decode cX3_doCall 55 = .ok (.iconst 5, 1) := by decide +kernel
theorem dX3_doCall_56 : decode cX3_doCall 56 = .ok (.if_icmp .ne 6, 3) := by decide +kernel
theorem dX3_doCall_59 : decode cX3_doCall 59 = .ok (.lload 5, 2) := by decide +kernel
theorem dX3_doCall_61 : decode cX3_doCall 61 = .ok (.lreturn, 1) := by decide +kernel
theorem dX3_doCall_62 : decode cX3_doCall 62 = .ok (.aload_n 0, 1) := by decide +kernel
theorem dX3_doCall_63 : decode cX3_doCall 63 = .ok (.getfield 19, 3) := by decide +kernel
theorem dX3_doCall_66 : decode cX3_doCall 66 = .ok (.getfield 102, 3) := by decide +kernel
theorem dX3_doCall_69 : decode cX3_doCall 69 = .ok (.iload_n 1, 1) := by decide +kernel
theorem dX3_doCall_70 : decode cX3_doCall 70 = .ok (.iload 7, 2) := by decide +kernel
theorem dX3_doCall_72 : decode cX3_doCall 72 = .ok (.iconst 3, 1) := by decide +kernel
theorem dX3_doCall_73 : decode cX3_doCall 73 = .ok (.if_icmp .ne 11, 3) := by decide +kernel
theorem dX3_doCall_76 : decode cX3_doCall 76 = .ok (.lload 5, 2) := by decide +kernel
theorem dX3_doCall_78 : decode cX3_doCall 78 = .ok (.invokestatic 93, 3) := by decide +kernel
theorem dX3_doCall_81 : decode cX3_doCall 81 = .ok (.goto 4, 3) := by decide +kernel
theorem dX3_doCall_84 : decode cX3_doCall 84 = .ok (.iconst 0, 1) := by decide +kernel
theorem dX3_doCall_85 : decode cX3_doCall 85 = .ok (.iastore, 1) := by decide +kernel
theorem dX3_doCall_86 : decode cX3_doCall 86 = .ok (.lconst 0, 1) := by decide +kernel
theorem dX3_doCall_87 : decode cX3_doCall 87 = .ok (.lreturn, 1) := by decide +kernel
theorem dX3_doStep_0 : decode cX3_doStep 0 = .ok (.iload_n 1, 1) := by decide +kernel
theorem dX3_doStep_1 : decode cX3_doStep 1 = .ok (.tableswitch 176 0 23 #[111, 117, 124, 131, 138, 145, 152, 158, 165, 176, 176, 176, 176, 176, 176, 176, 176, 176, 176, 176, 176, 176, 176, 171], 111) := by decide +kernel
theorem dX3_doStep_112 : decode cX3_doStep 112 = .ok (.aload_n 0, 1) := by decide +kernel
theorem dX3_doStep_113 : decode cX3_doStep 113 = .ok (.iload_n 2, 1) := by decide +kernel
theorem dX3_doStep_114 : decode cX3_doStep 114 = .ok (.invokevirtual 202, 3) := by decide +kernel
theorem dX3_doStep_117 : decode cX3_doStep 117 = .ok (.lreturn, 1) := by decide +kernel
theorem dX3_doStep_118 : decode cX3_doStep 118 = .ok (.aload_n 0, 1) := by decide +kernel
theorem dX3_doStep_119 : decode cX3_doStep 119 = .ok (.iload_n 2, 1) := by decide +kernel
theorem dX3_doStep_120 : decode cX3_doStep 120 = .ok (.iload_n 3, 1) := by decide +kernel
theorem dX3_doStep_121 : decode cX3_doStep 121 = .ok (.invokevirtual 205, 3) := by decide +kernel
theorem dX3_doStep_124 : decode cX3_doStep 124 = .ok (.lreturn, 1) := by decide +kernel
theorem dX3_doStep_125 : decode cX3_doStep 125 = .ok (.aload_n 0, 1) := by decide +kernel
theorem dX3_doStep_126 : decode cX3_doStep 126 = .ok (.iload_n 2, 1) := by decide +kernel
theorem dX3_doStep_127 : decode cX3_doStep 127 = .ok (.iload_n 3, 1) := by decide +kernel
theorem dX3_doStep_128 : decode cX3_doStep 128 = .ok (.invokevirtual 208, 3) := by decide +kernel
theorem dX3_doStep_131 : decode cX3_doStep 131 = .ok (.lreturn, 1) := by decide +kernel
theorem dX3_doStep_132 : decode cX3_doStep 132 = .ok (.aload_n 0, 1) := by decide +kernel
theorem dX3_doStep_133 : decode cX3_doStep 133 = .ok (.iload_n 2, 1) := by decide +kernel
theorem dX3_doStep_134 : decode cX3_doStep 134 = .ok (.iload_n 3, 1) := by decide +kernel
theorem dX3_doStep_135 : decode cX3_doStep 135 = .ok (.invokevirtual 211, 3) := by decide +kernel
theorem dX3_doStep_138 : decode cX3_doStep 138 = .ok (.lreturn, 1) := by decide +kernel
theorem dX3_doStep_139 : decode cX3_doStep 139 = .ok (.aload_n 0, 1) := by decide +kernel
theorem dX3_doStep_140 : decode cX3_doStep 140 = .ok (.iload_n 2, 1) := by decide +kernel
theorem dX3_doStep_141 : decode cX3_doStep 141 = .ok (.iload_n 3, 1) := by decide +kernel
theorem dX3_doStep_142 : decode cX3_doStep 142 = .ok (.invokevirtual 214, 3) := by decide +kernel
theorem dX3_doStep_145 : decode cX3_doStep 145 = .ok (.lreturn, 1) := by decide +kernel
theorem dX3_doStep_146 : decode cX3_doStep 146 = .ok (.aload_n 0, 1) := by decide +kernel
theorem dX3_doStep_147 : decode cX3_doStep 147 = .ok (.iload_n 2, 1) := by decide +kernel
theorem dX3_doStep_148 : decode cX3_doStep 148 = .ok (.iload_n 3, 1) := by decide +kernel
theorem dX3_doStep_149 : decode cX3_doStep 149 = .ok (.invokevirtual 217, 3) := by decide +kernel
theorem dX3_doStep_152 : decode cX3_doStep 152 = .ok (.lreturn, 1) := by decide +kernel
theorem dX3_doStep_153 : decode cX3_doStep 153 = .ok (.aload_n 0, 1) := by decide +kernel
theorem dX3_doStep_154 : decode cX3_doStep 154 = .ok (.iload_n 2, 1) := by decide +kernel
theorem dX3_doStep_155 : decode cX3_doStep 155 = .ok (.invokevirtual 220, 3) := by decide +kernel
theorem dX3_doStep_158 : decode cX3_doStep 158 = .ok (.lreturn, 1) := by decide +kernel
theorem dX3_doStep_159 : decode cX3_doStep 159 = .ok (.aload_n 0, 1) := by decide +kernel
theorem dX3_doStep_160 : decode cX3_doStep 160 = .ok (.iload_n 2, 1) := by decide +kernel
theorem dX3_doStep_161 : decode cX3_doStep 161 = .ok (.iload_n 3, 1) := by decide +kernel
theorem dX3_doStep_162 : decode cX3_doStep 162 = .ok (.invokevirtual 223, 3) := by decide +kernel
theorem dX3_doStep_165 : decode cX3_doStep 165 = .ok (.lreturn, 1) := by decide +kernel
theorem dX3_doStep_166 : decode cX3_doStep 166 = .ok (.aload_n 0, 1) := by decide +kernel
theorem dX3_doStep_167 : decode cX3_doStep 167 = .ok (.iload_n 2, 1) := by decide +kernel
theorem dX3_doStep_168 : decode cX3_doStep 168 = .ok (.invokevirtual 226, 3) := by decide +kernel
theorem dX3_doStep_171 : decode cX3_doStep 171 = .ok (.lreturn, 1) := by decide +kernel
theorem dX3_doStep_172 : decode cX3_doStep 172 = .ok (.aload_n 0, 1) := by decide +kernel
theorem dX3_doStep_173 : decode cX3_doStep 173 = .ok (.invokevirtual 229, 3) := by decide +kernel
theorem dX3_doStep_176 : decode cX3_doStep 176 = .ok (.lreturn, 1) := by decide +kernel
theorem dX3_doStep_177 : decode cX3_doStep 177 = .ok (.lconst 0, 1) := by decide +kernel
theorem dX3_doStep_178 : decode cX3_doStep 178 = .ok (.lreturn, 1) := by decide +kernel
theorem dX3_doNote_0 : decode cX3_doNote 0 = .ok (.aload_n 0, 1) := by decide +kernel
theorem dX3_doNote_1 : decode cX3_doNote 1 = .ok (.getfield 19, 3) := by decide +kernel
theorem dX3_doNote_4 : decode cX3_doNote 4 = .ok (.aload_n 0, 1) := by decide +kernel
theorem dX3_doNote_5 : decode cX3_doNote 5 = .ok (.getfield 19, 3) := by decide +kernel
theorem dX3_doNote_8 : decode cX3_doNote 8 = .ok (.getfield 102, 3) := by decide +kernel
theorem dX3_doNote_11 : decode cX3_doNote 11 = .ok (.iload_n 1, 1) := by decide +kernel
theorem dX3_doNote_12 : decode cX3_doNote 12 = .ok (.iaload, 1) := by decide +kernel
theorem dX3_doNote_13 : decode cX3_doNote 13 = .ok (.invokevirtual 233, 3) := by decide +kernel
theorem dX3_doNote_16 : decode cX3_doNote 16 = .ok (.lconst 0, 1) := by decide +kernel
theorem dX3_doNote_17 : decode cX3_doNote 17 = .ok (.lreturn, 1) := by decide +kernel
theorem dX3_doAdd_0 : decode cX3_doAdd 0 = .ok (.aload_n 0, 1) := by decide +kernel
theorem dX3_doAdd_1 : decode cX3_doAdd 1 = .ok (.getfield 26, 3) := by decide +kernel
theorem dX3_doAdd_4 : decode cX3_doAdd 4 = .ok (.iconst 1, 1) := by decide +kernel
theorem dX3_doAdd_5 : decode cX3_doAdd 5 = .ok (.iload_n 1, 1) := by decide +kernel
theorem dX3_doAdd_6 : decode cX3_doAdd 6 = .ok (.iload_n 2, 1) := by decide +kernel
theorem dX3_doAdd_7 : decode cX3_doAdd 7 = .ok (.invokevirtual 236, 3) := by decide +kernel
theorem dX3_doAdd_10 : decode cX3_doAdd 10 = .ok (.aload_n 0, 1) := by decide +kernel
theorem dX3_doAdd_11 : decode cX3_doAdd 11 = .ok (.getfield 19, 3) := by decide +kernel
theorem dX3_doAdd_14 : decode cX3_doAdd 14 = .ok (.getfield 102, 3) := by decide +kernel
theorem dX3_doAdd_17 : decode cX3_doAdd 17 = .ok (.iload_n 1, 1) := by decide +kernel
theorem dX3_doAdd_18 : decode cX3_doAdd 18 = .ok (.dup2, 1) := by decide +kernel
theorem dX3_doAdd_19 : decode cX3_doAdd 19 = .ok (.iaload, 1) := by decide +kernel
theorem dX3_doAdd_20 : decode cX3_doAdd 20 = .ok (.iload_n 2, 1) := by decide +kernel
theorem dX3_doAdd_21 : decode cX3_doAdd 21 = .ok (.iadd, 1) := by decide +kernel
theorem dX3_doAdd_22 : decode cX3_doAdd 22 = .ok (.iastore, 1) := by decide +kernel
theorem dX3_doAdd_23 : decode cX3_doAdd 23 = .ok (.lconst 0, 1) := by decide +kernel
theorem dX3_doAdd_24 : decode cX3_doAdd 24 = .ok (.lreturn, 1) := by decide +kernel
theorem dX3_doSet_0 : decode cX3_doSet 0 = .ok (.aload_n 0, 1) := by decide +kernel
theorem dX3_doSet_1 : decode cX3_doSet 1 = .ok (.getfield 26, 3) := by decide +kernel
theorem dX3_doSet_4 : decode cX3_doSet 4 = .ok (.iconst 2, 1) := by decide +kernel
theorem dX3_doSet_5 : decode cX3_doSet 5 = .ok (.iload_n 1, 1) := by decide +kernel
theorem dX3_doSet_6 : decode cX3_doSet 6 = .ok (.aload_n 0, 1) := by decide +kernel
theorem dX3_doSet_7 : decode cX3_doSet 7 = .ok (.getfield 19, 3) := by decide +kernel
theorem dX3_doSet_10 : decode cX3_doSet 10 = .ok (.getfield 102, 3) := by decide +kernel
theorem dX3_doSet_13 : decode cX3_doSet 13 = .ok (.iload_n 1, 1) := by decide +kernel
theorem dX3_doSet_14 : decode cX3_doSet 14 = .ok (.iaload, 1) := by decide +kernel
theorem dX3_doSet_15 : decode cX3_doSet 15 = .ok (.invokevirtual 236, 3) := by decide +kernel
theorem dX3_doSet_18 : decode cX3_doSet 18 = .ok (.aload_n 0, 1) := by decide +kernel
theorem dX3_doSet_19 : decode cX3_doSet 19 = .ok (.getfield 19, 3) := by decide +kernel
theorem dX3_doSet_22 : decode cX3_doSet 22 = .ok (.getfield 102, 3) := by decide +kernel
theorem dX3_doSet_25 : decode cX3_doSet 25 = .ok (.iload_n 1, 1) := by decide +kernel
theorem dX3_doSet_26 : decode cX3_doSet 26 = .ok (.iload_n 2, 1) := by decide +kernel
theorem dX3_doSet_27 : decode cX3_doSet 27 = .ok (.iastore, 1) := by decide +kernel
theorem dX3_doSet_28 : decode cX3_doSet 28 = .ok (.lconst 0, 1) := by decide +kernel
theorem dX3_doSet_29 : decode cX3_doSet 29 = .ok (.lreturn, 1) := by decide +kernel
theorem dX3_doDivide_0 : decode cX3_doDivide 0 = .ok (.aload_n 0, 1) := by decide +kernel
theorem dX3_doDivide_1 : decode cX3_doDivide 1 = .ok (.getfield 19, 3) := by decide +kernel
theorem dX3_doDivide_4 : decode cX3_doDivide 4 = .ok (.getfield 102, 3) := by decide +kernel
theorem dX3_doDivide_7 : decode cX3_doDivide 7 = .ok (.iload_n 2, 1) := by decide +kernel
theorem dX3_doDivide_8 : decode cX3_doDivide 8 = .ok (.iaload, 1) := by decide +kernel
theorem dX3_doDivide_9 : decode cX3_doDivide 9 = .ok (.istore_n 3, 1) := by decide +kernel
theorem dX3_doDivide_10 : decode cX3_doDivide 10 = .ok (.iload_n 3, 1) := by decide +kernel
theorem dX3_doDivide_11 : decode cX3_doDivide 11 = .ok (.ifCond .ne 8, 3) := by decide +kernel
theorem dX3_doDivide_14 : decode cX3_doDivide 14 = .ok (.iconst 1, 1) := by decide +kernel
theorem dX3_doDivide_15 : decode cX3_doDivide 15 = .ok (.invokestatic 184, 3) := by decide +kernel
theorem dX3_doDivide_18 : decode cX3_doDivide 18 = .ok (.lreturn, 1) := by decide +kernel
theorem dX3_doDivide_19 : decode cX3_doDivide 19 = .ok (.aload_n 0, 1) := by decide +kernel
theorem dX3_doDivide_20 : decode cX3_doDivide 20 = .ok (.getfield 26, 3) := by decide +kernel
theorem dX3_doDivide_23 : decode cX3_doDivide 23 = .ok (.iconst 3, 1) := by decide +kernel
theorem dX3_doDivide_24 : decode cX3_doDivide 24 = .ok (.iload_n 1, 1) := by decide +kernel
theorem dX3_doDivide_25 : decode cX3_doDivide 25 = .ok (.aload_n 0, 1) := by decide +kernel
theorem dX3_doDivide_26 : decode cX3_doDivide 26 = .ok (.getfield 19, 3) := by decide +kernel
theorem dX3_doDivide_29 : decode cX3_doDivide 29 = .ok (.getfield 102, 3) := by decide +kernel
theorem dX3_doDivide_32 : decode cX3_doDivide 32 = .ok (.iload_n 1, 1) := by decide +kernel
theorem dX3_doDivide_33 : decode cX3_doDivide 33 = .ok (.iaload, 1) := by decide +kernel
theorem dX3_doDivide_34 : decode cX3_doDivide 34 = .ok (.invokevirtual 236, 3) := by decide +kernel
theorem dX3_doDivide_37 : decode cX3_doDivide 37 = .ok (.aload_n 0, 1) := by decide +kernel
theorem dX3_doDivide_38 : decode cX3_doDivide 38 = .ok (.getfield 19, 3) := by decide +kernel
theorem dX3_doDivide_41 : decode cX3_doDivide 41 = .ok (.getfield 102, 3) := by decide +kernel
theorem dX3_doDivide_44 : decode cX3_doDivide 44 = .ok (.iload_n 1, 1) := by decide +kernel
theorem dX3_doDivide_45 : decode cX3_doDivide 45 = .ok (.aload_n 0, 1) := by decide +kernel
theorem dX3_doDivide_46 : decode cX3_doDivide 46 = .ok (.getfield 19, 3) := by decide +kernel
theorem dX3_doDivide_49 : decode cX3_doDivide 49 = .ok (.getfield 102, 3) := by decide +kernel
theorem dX3_doDivide_52 : decode cX3_doDivide 52 = .ok (.iload_n 1, 1) := by decide +kernel
theorem dX3_doDivide_53 : decode cX3_doDivide 53 = .ok (.iaload, 1) := by decide +kernel
theorem dX3_doDivide_54 : decode cX3_doDivide 54 = .ok (.iload_n 3, 1) := by decide +kernel
theorem dX3_doDivide_55 : decode cX3_doDivide 55 = .ok (.idiv, 1) := by decide +kernel
theorem dX3_doDivide_56 : decode cX3_doDivide 56 = .ok (.iastore, 1) := by decide +kernel
theorem dX3_doDivide_57 : decode cX3_doDivide 57 = .ok (.lconst 0, 1) := by decide +kernel
theorem dX3_doDivide_58 : decode cX3_doDivide 58 = .ok (.lreturn, 1) := by decide +kernel
theorem dX3_doRead_0 : decode cX3_doRead 0 = .ok (.aload_n 0, 1) := by decide +kernel
theorem dX3_doRead_1 : decode cX3_doRead 1 = .ok (.getfield 19, 3) := by decide +kernel
theorem dX3_doRead_4 : decode cX3_doRead 4 = .ok (.getfield 102, 3) := by decide +kernel
theorem dX3_doRead_7 : decode cX3_doRead 7 = .ok (.iload_n 2, 1) := by decide +kernel
theorem dX3_doRead_8 : decode cX3_doRead 8 = .ok (.iaload, 1) := by decide +kernel
theorem dX3_doRead_9 : decode cX3_doRead 9 = .ok (.istore_n 3, 1) := by decide +kernel
theorem dX3_doRead_10 : decode cX3_doRead 10 = .ok (.aload_n 0, 1) := by decide +kernel
theorem dX3_doRead_11 : decode cX3_doRead 11 = .ok (.getfield 19, 3) := by decide +kernel
theorem dX3_doRead_14 : decode cX3_doRead 14 = .ok (.iload_n 3, 1) := by decide +kernel
theorem dX3_doRead_15 : decode cX3_doRead 15 = .ok (.invokevirtual 239, 3) := by decide +kernel
theorem dX3_doRead_18 : decode cX3_doRead 18 = .ok (.ifCond .ne 8, 3) := by decide +kernel
theorem dX3_doRead_21 : decode cX3_doRead 21 = .ok (.iconst 2, 1) := by decide +kernel
theorem dX3_doRead_22 : decode cX3_doRead 22 = .ok (.invokestatic 184, 3) := by decide +kernel
theorem dX3_doRead_25 : decode cX3_doRead 25 = .ok (.lreturn, 1) := by decide +kernel
theorem dX3_doRead_26 : decode cX3_doRead 26 = .ok (.aload_n 0, 1) := by decide +kernel
theorem dX3_doRead_27 : decode cX3_doRead 27 = .ok (.getfield 19, 3) := by decide +kernel
theorem dX3_doRead_30 : decode cX3_doRead 30 = .ok (.getfield 102, 3) := by decide +kernel
theorem dX3_doRead_33 : decode cX3_doRead 33 = .ok (.iload_n 1, 1) := by decide +kernel
theorem dX3_doRead_34 : decode cX3_doRead 34 = .ok (.aload_n 0, 1) := by decide +kernel
theorem dX3_doRead_35 : decode cX3_doRead 35 = .ok (.getfield 19, 3) := by decide +kernel
theorem dX3_doRead_38 : decode cX3_doRead 38 = .ok (.getfield 108, 3) := by decide +kernel
theorem dX3_doRead_41 : decode cX3_doRead 41 = .ok (.iload_n 3, 1) := by decide +kernel
theorem dX3_doRead_42 : decode cX3_doRead 42 = .ok (.iaload, 1) := by decide +kernel
theorem dX3_doRead_43 : decode cX3_doRead 43 = .ok (.iastore, 1) := by decide +kernel
theorem dX3_doRead_44 : decode cX3_doRead 44 = .ok (.lconst 0, 1) := by decide +kernel
theorem dX3_doRead_45 : decode cX3_doRead 45 = .ok (.lreturn, 1) := by decide +kernel
theorem dX3_doWrite_0 : decode cX3_doWrite 0 = .ok (.aload_n 0, 1) := by decide +kernel
theorem dX3_doWrite_1 : decode cX3_doWrite 1 = .ok (.getfield 19, 3) := by decide +kernel
theorem dX3_doWrite_4 : decode cX3_doWrite 4 = .ok (.getfield 102, 3) := by decide +kernel
theorem dX3_doWrite_7 : decode cX3_doWrite 7 = .ok (.iload_n 1, 1) := by decide +kernel
theorem dX3_doWrite_8 : decode cX3_doWrite 8 = .ok (.iaload, 1) := by decide +kernel
theorem dX3_doWrite_9 : decode cX3_doWrite 9 = .ok (.istore_n 3, 1) := by decide +kernel
theorem dX3_doWrite_10 : decode cX3_doWrite 10 = .ok (.aload_n 0, 1) := by decide +kernel
theorem dX3_doWrite_11 : decode cX3_doWrite 11 = .ok (.getfield 19, 3) := by decide +kernel
theorem dX3_doWrite_14 : decode cX3_doWrite 14 = .ok (.iload_n 3, 1) := by decide +kernel
theorem dX3_doWrite_15 : decode cX3_doWrite 15 = .ok (.invokevirtual 239, 3) := by decide +kernel
theorem dX3_doWrite_18 : decode cX3_doWrite 18 = .ok (.ifCond .ne 8, 3) := by decide +kernel
theorem dX3_doWrite_21 : decode cX3_doWrite 21 = .ok (.iconst 2, 1) := by decide +kernel
theorem dX3_doWrite_22 : decode cX3_doWrite 22 = .ok (.invokestatic 184, 3) := by decide +kernel
theorem dX3_doWrite_25 : decode cX3_doWrite 25 = .ok (.lreturn, 1) := by decide +kernel
theorem dX3_doWrite_26 : decode cX3_doWrite 26 = .ok (.aload_n 0, 1) := by decide +kernel
theorem dX3_doWrite_27 : decode cX3_doWrite 27 = .ok (.getfield 26, 3) := by decide +kernel
theorem dX3_doWrite_30 : decode cX3_doWrite 30 = .ok (.iconst 5, 1) := by decide +kernel
theorem dX3_doWrite_31 : decode cX3_doWrite 31 = .ok (.iload_n 3, 1) := by decide +kernel
theorem dX3_doWrite_32 : decode cX3_doWrite 32 = .ok (.aload_n 0, 1) := by decide +kernel
theorem dX3_doWrite_33 : decode cX3_doWrite 33 = .ok (.getfield 19, 3) := by decide +kernel
theorem dX3_doWrite_36 : decode cX3_doWrite 36 = .ok (.getfield 108, 3) := by decide +kernel
theorem dX3_doWrite_39 : decode cX3_doWrite 39 = .ok (.iload_n 3, 1) := by decide +kernel
theorem dX3_doWrite_40 : decode cX3_doWrite 40 = .ok (.iaload, 1) := by decide +kernel
theorem dX3_doWrite_41 : decode cX3_doWrite 41 = .ok (.invokevirtual 236, 3) := by decide +kernel
theorem dX3_doWrite_44 : decode cX3_doWrite 44 = .ok (.aload_n 0, 1) := by decide +kernel
theorem dX3_doWrite_45 : decode cX3_doWrite 45 = .ok (.getfield 19, 3) := by decide +kernel
theorem dX3_doWrite_48 : decode cX3_doWrite 48 = .ok (.getfield 108, 3) := by decide +kernel
theorem dX3_doWrite_51 : decode cX3_doWrite 51 = .ok (.iload_n 3, 1) := by decide +kernel
theorem dX3_doWrite_52 : decode cX3_doWrite 52 = .ok (.aload_n 0, 1) := by decide +kernel
theorem dX3_doWrite_53 : decode cX3_doWrite 53 = .ok (.getfield 19, 3) := by decide +kernel
theorem dX3_doWrite_56 : decode cX3_doWrite 56 = .ok (.getfield 102, 3) := by decide +kernel
theorem dX3_doWrite_59 : decode cX3_doWrite 59 = .ok (.iload_n 2, 1) := by decide +kernel
theorem dX3_doWrite_60 : decode cX3_doWrite 60 = .ok (.iaload, 1) := by decide +kernel
theorem dX3_doWrite_61 : decode cX3_doWrite 61 = .ok (.iastore, 1) := by decide +kernel
theorem dX3_doWrite_62 : decode cX3_doWrite 62 = .ok (.lconst 0, 1) := by decide +kernel
theorem dX3_doWrite_63 : decode cX3_doWrite 63 = .ok (.lreturn, 1) := by decide +kernel
theorem dX3_doMake_0 : decode cX3_doMake 0 = .ok (.aload_n 0, 1) := by decide +kernel
theorem dX3_doMake_1 : decode cX3_doMake 1 = .ok (.getfield 19, 3) := by decide +kernel
theorem dX3_doMake_4 : decode cX3_doMake 4 = .ok (.getfield 102, 3) := by decide +kernel
theorem dX3_doMake_7 : decode cX3_doMake 7 = .ok (.iload_n 1, 1) := by decide +kernel
theorem dX3_doMake_8 : decode cX3_doMake 8 = .ok (.iaload, 1) := by decide +kernel
theorem dX3_doMake_9 : decode cX3_doMake 9 = .ok (.istore_n 2, 1) := by decide +kernel
theorem dX3_doMake_10 : decode cX3_doMake 10 = .ok (.iload_n 2, 1) := by decide +kernel
theorem dX3_doMake_11 : decode cX3_doMake 11 = .ok (.ifCond .ge 8, 3) := by decide +kernel
theorem dX3_doMake_14 : decode cX3_doMake 14 = .ok (.iconst 3, 1) := by decide +kernel
theorem dX3_doMake_15 : decode cX3_doMake 15 = .ok (.invokestatic 184, 3) := by decide +kernel
theorem dX3_doMake_18 : decode cX3_doMake 18 = .ok (.lreturn, 1) := by decide +kernel
theorem dX3_doMake_19 : decode cX3_doMake 19 = .ok (.iload_n 2, 1) := by decide +kernel
theorem dX3_doMake_20 : decode cX3_doMake 20 = .ok (.bipush 16, 2) := by decide +kernel
theorem dX3_doMake_22 : decode cX3_doMake 22 = .ok (.if_icmp .le 8, 3) := by decide +kernel
theorem dX3_doMake_25 : decode cX3_doMake 25 = .ok (.iconst 4, 1) := by decide +kernel
theorem dX3_doMake_26 : decode cX3_doMake 26 = .ok (.invokestatic 184, 3) := by decide +kernel
theorem dX3_doMake_29 : decode cX3_doMake 29 = .ok (.lreturn, 1) := by decide +kernel
theorem dX3_doMake_30 : decode cX3_doMake 30 = .ok (.aload_n 0, 1) := by decide +kernel
theorem dX3_doMake_31 : decode cX3_doMake 31 = .ok (.getfield 26, 3) := by decide +kernel
theorem dX3_doMake_34 : decode cX3_doMake 34 = .ok (.aload_n 0, 1) := by decide +kernel
theorem dX3_doMake_35 : decode cX3_doMake 35 = .ok (.getfield 19, 3) := by decide +kernel
theorem dX3_doMake_38 : decode cX3_doMake 38 = .ok (.invokevirtual 243, 3) := by decide +kernel
theorem dX3_doMake_41 : decode cX3_doMake 41 = .ok (.aload_n 0, 1) := by decide +kernel
theorem dX3_doMake_42 : decode cX3_doMake 42 = .ok (.getfield 19, 3) := by decide +kernel
theorem dX3_doMake_45 : decode cX3_doMake 45 = .ok (.iload_n 2, 1) := by decide +kernel
theorem dX3_doMake_46 : decode cX3_doMake 46 = .ok (.invokevirtual 246, 3) := by decide +kernel
theorem dX3_doMake_49 : decode cX3_doMake 49 = .ok (.lconst 0, 1) := by decide +kernel
theorem dX3_doMake_50 : decode cX3_doMake 50 = .ok (.lreturn, 1) := by decide +kernel
theorem dX3_doHold_0 : decode cX3_doHold 0 = .ok (.aload_n 0, 1) := by decide +kernel
theorem dX3_doHold_1 : decode cX3_doHold 1 = .ok (.getfield 26, 3) := by decide +kernel
theorem dX3_doHold_4 : decode cX3_doHold 4 = .ok (.iload_n 1, 1) := by decide +kernel
theorem dX3_doHold_5 : decode cX3_doHold 5 = .ok (.aload_n 0, 1) := by decide +kernel
theorem dX3_doHold_6 : decode cX3_doHold 6 = .ok (.getfield 19, 3) := by decide +kernel
theorem dX3_doHold_9 : decode cX3_doHold 9 = .ok (.invokevirtual 249, 3) := by decide +kernel
theorem dX3_doHold_12 : decode cX3_doHold 12 = .ok (.aload_n 0, 1) := by decide +kernel
theorem dX3_doHold_13 : decode cX3_doHold 13 = .ok (.getfield 19, 3) := by decide +kernel
theorem dX3_doHold_16 : decode cX3_doHold 16 = .ok (.getfield 124, 3) := by decide +kernel
theorem dX3_doHold_19 : decode cX3_doHold 19 = .ok (.iload_n 1, 1) := by decide +kernel
theorem dX3_doHold_20 : decode cX3_doHold 20 = .ok (.iload_n 2, 1) := by decide +kernel
theorem dX3_doHold_21 : decode cX3_doHold 21 = .ok (.iastore, 1) := by decide +kernel
theorem dX3_doHold_22 : decode cX3_doHold 22 = .ok (.aload_n 0, 1) := by decide +kernel
theorem dX3_doHold_23 : decode cX3_doHold 23 = .ok (.getfield 19, 3) := by decide +kernel
theorem dX3_doHold_26 : decode cX3_doHold 26 = .ok (.getfield 253, 3) := by decide +kernel
theorem dX3_doHold_29 : decode cX3_doHold 29 = .ok (.iload_n 1, 1) := by decide +kernel
theorem dX3_doHold_30 : decode cX3_doHold 30 = .ok (.iconst 0, 1) := by decide +kernel
theorem dX3_doHold_31 : decode cX3_doHold 31 = .ok (.iastore, 1) := by decide +kernel
theorem dX3_doHold_32 : decode cX3_doHold 32 = .ok (.lconst 0, 1) := by decide +kernel
theorem dX3_doHold_33 : decode cX3_doHold 33 = .ok (.lreturn, 1) := by decide +kernel
theorem dX3_doUse_0 : decode cX3_doUse 0 = .ok (.aload_n 0, 1) := by decide +kernel
theorem dX3_doUse_1 : decode cX3_doUse 1 = .ok (.getfield 19, 3) := by decide +kernel
theorem dX3_doUse_4 : decode cX3_doUse 4 = .ok (.getfield 124, 3) := by decide +kernel
theorem dX3_doUse_7 : decode cX3_doUse 7 = .ok (.iload_n 1, 1) := by decide +kernel
theorem dX3_doUse_8 : decode cX3_doUse 8 = .ok (.iaload, 1) := by decide +kernel
theorem dX3_doUse_9 : decode cX3_doUse 9 = .ok (.ifCond .ne 8, 3) := by decide +kernel
theorem dX3_doUse_12 : decode cX3_doUse 12 = .ok (.iconst 5, 1) := by decide +kernel
theorem dX3_doUse_13 : decode cX3_doUse 13 = .ok (.invokestatic 184, 3) := by decide +kernel
theorem dX3_doUse_16 : decode cX3_doUse 16 = .ok (.lreturn, 1) := by decide +kernel
theorem dX3_doUse_17 : decode cX3_doUse 17 = .ok (.aload_n 0, 1) := by decide +kernel
theorem dX3_doUse_18 : decode cX3_doUse 18 = .ok (.getfield 19, 3) := by decide +kernel
theorem dX3_doUse_21 : decode cX3_doUse 21 = .ok (.getfield 124, 3) := by decide +kernel
theorem dX3_doUse_24 : decode cX3_doUse 24 = .ok (.iload_n 1, 1) := by decide +kernel
theorem dX3_doUse_25 : decode cX3_doUse 25 = .ok (.iaload, 1) := by decide +kernel
theorem dX3_doUse_26 : decode cX3_doUse 26 = .ok (.iconst 2, 1) := by decide +kernel
theorem dX3_doUse_27 : decode cX3_doUse 27 = .ok (.if_icmp .ne 9, 3) := by decide +kernel
theorem dX3_doUse_30 : decode cX3_doUse 30 = .ok (.bipush 6, 2) := by decide +kernel
theorem dX3_doUse_32 : decode cX3_doUse 32 = .ok (.invokestatic 184, 3) := by decide +kernel
theorem dX3_doUse_35 : decode cX3_doUse 35 = .ok (.lreturn, 1) := by decide +kernel
theorem dX3_doUse_36 : decode cX3_doUse 36 = .ok (.aload_n 0, 1) := by decide +kernel
theorem dX3_doUse_37 : decode cX3_doUse 37 = .ok (.getfield 19, 3) := by decide +kernel
theorem dX3_doUse_40 : decode cX3_doUse 40 = .ok (.getfield 253, 3) := by decide +kernel
theorem dX3_doUse_43 : decode cX3_doUse 43 = .ok (.iload_n 1, 1) := by decide +kernel
theorem dX3_doUse_44 : decode cX3_doUse 44 = .ok (.dup2, 1) := by decide +kernel
theorem dX3_doUse_45 : decode cX3_doUse 45 = .ok (.iaload, 1) := by decide +kernel
theorem dX3_doUse_46 : decode cX3_doUse 46 = .ok (.iconst 1, 1) := by decide +kernel
theorem dX3_doUse_47 : decode cX3_doUse 47 = .ok (.iadd, 1) := by decide +kernel
theorem dX3_doUse_48 : decode cX3_doUse 48 = .ok (.iastore, 1) := by decide +kernel
theorem dX3_doUse_49 : decode cX3_doUse 49 = .ok (.aload_n 0, 1) := by decide +kernel
theorem dX3_doUse_50 : decode cX3_doUse 50 = .ok (.getfield 19, 3) := by decide +kernel
theorem dX3_doUse_53 : decode cX3_doUse 53 = .ok (.aload_n 0, 1) := by decide +kernel
theorem dX3_doUse_54 : decode cX3_doUse 54 = .ok (.getfield 19, 3) := by decide +kernel
theorem dX3_doUse_57 : decode cX3_doUse 57 = .ok (.getfield 253, 3) := by decide +kernel
theorem dX3_doUse_60 : decode cX3_doUse 60 = .ok (.iload_n 1, 1) := by decide +kernel
theorem dX3_doUse_61 : decode cX3_doUse 61 = .ok (.iaload, 1) := by decide +kernel
theorem dX3_doUse_62 : decode cX3_doUse 62 = .ok (.invokevirtual 233, 3) := by decide +kernel
theorem dX3_doUse_65 : decode cX3_doUse 65 = .ok (.lconst 0, 1) := by decide +kernel
theorem dX3_doUse_66 : decode cX3_doUse 66 = .ok (.lreturn, 1) := by decide +kernel
theorem dX3_doKeep_0 : decode cX3_doKeep 0 = .ok (.aload_n 0, 1) := by decide +kernel
theorem dX3_doKeep_1 : decode cX3_doKeep 1 = .ok (.getfield 26, 3) := by decide +kernel
theorem dX3_doKeep_4 : decode cX3_doKeep 4 = .ok (.invokevirtual 256, 3) := by decide +kernel
theorem dX3_doKeep_7 : decode cX3_doKeep 7 = .ok (.lconst 0, 1) := by decide +kernel
theorem dX3_doKeep_8 : decode cX3_doKeep 8 = .ok (.lreturn, 1) := by decide +kernel
theorem dX4_init_0 : decode cX4_init 0 = .ok (.aload_n 0, 1) := by decide +kernel
theorem dX4_init_1 : decode cX4_init 1 = .ok (.invokespecial 1, 3) := by decide +kernel
theorem dX4_init_4 : decode cX4_init 4 = .ok (.aload_n 0, 1) := by decide +kernel
theorem dX4_init_5 : decode cX4_init 5 = .ok (.sipush 480, 3) := by decide +kernel
theorem dX4_init_8 : decode cX4_init 8 = .ok (.newarray .int, 2) := by decide +kernel
theorem dX4_init_10 : decode cX4_init 10 = .ok (.putfield 7, 3) := by decide +kernel
theorem dX4_init_13 : decode cX4_init 13 = .ok (.aload_n 0, 1) := by decide +kernel
theorem dX4_init_14 : decode cX4_init 14 = .ok (.sipush 480, 3) := by decide +kernel
theorem dX4_init_17 : decode cX4_init 17 = .ok (.newarray .int, 2) := by decide +kernel
theorem dX4_init_19 : decode cX4_init 19 = .ok (.putfield 13, 3) := by decide +kernel
theorem dX4_init_22 : decode cX4_init 22 = .ok (.aload_n 0, 1) := by decide +kernel
theorem dX4_init_23 : decode cX4_init 23 = .ok (.sipush 480, 3) := by decide +kernel
theorem dX4_init_26 : decode cX4_init 26 = .ok (.newarray .int, 2) := by decide +kernel
theorem dX4_init_28 : decode cX4_init 28 = .ok (.putfield 16, 3) := by decide +kernel
theorem dX4_init_31 : decode cX4_init 31 = .ok (.aload_n 0, 1) := by decide +kernel
theorem dX4_init_32 : decode cX4_init 32 = .ok (.bipush 8, 2) := by decide +kernel
theorem dX4_init_34 : decode cX4_init 34 = .ok (.newarray .int, 2) := by decide +kernel
theorem dX4_init_36 : decode cX4_init 36 = .ok (.putfield 19, 3) := by decide +kernel
theorem dX4_init_39 : decode cX4_init 39 = .ok (.aload_n 0, 1) := by decide +kernel
theorem dX4_init_40 : decode cX4_init 40 = .ok (.bipush 8, 2) := by decide +kernel
theorem dX4_init_42 : decode cX4_init 42 = .ok (.newarray .int, 2) := by decide +kernel
theorem dX4_init_44 : decode cX4_init 44 = .ok (.putfield 22, 3) := by decide +kernel
theorem dX4_init_47 : decode cX4_init 47 = .ok (.aload_n 0, 1) := by decide +kernel
theorem dX4_init_48 : decode cX4_init 48 = .ok (.bipush 16, 2) := by decide +kernel
theorem dX4_init_50 : decode cX4_init 50 = .ok (.newarray .int, 2) := by decide +kernel
theorem dX4_init_52 : decode cX4_init 52 = .ok (.putfield 25, 3) := by decide +kernel
theorem dX4_init_55 : decode cX4_init 55 = .ok (.aload_n 0, 1) := by decide +kernel
theorem dX4_init_56 : decode cX4_init 56 = .ok (.bipush 8, 2) := by decide +kernel
theorem dX4_init_58 : decode cX4_init 58 = .ok (.putfield 28, 3) := by decide +kernel
theorem dX4_init_61 : decode cX4_init 61 = .ok (.aload_n 0, 1) := by decide +kernel
theorem dX4_init_62 : decode cX4_init 62 = .ok (.iconst 4, 1) := by decide +kernel
theorem dX4_init_63 : decode cX4_init 63 = .ok (.newarray .int, 2) := by decide +kernel
theorem dX4_init_65 : decode cX4_init 65 = .ok (.putfield 32, 3) := by decide +kernel
theorem dX4_init_68 : decode cX4_init 68 = .ok (.aload_n 0, 1) := by decide +kernel
theorem dX4_init_69 : decode cX4_init 69 = .ok (.bipush 80, 2) := by decide +kernel
theorem dX4_init_71 : decode cX4_init 71 = .ok (.newarray .int, 2) := by decide +kernel
theorem dX4_init_73 : decode cX4_init 73 = .ok (.putfield 35, 3) := by decide +kernel
theorem dX4_init_76 : decode cX4_init 76 = .ok (.aload_n 0, 1) := by decide +kernel
theorem dX4_init_77 : decode cX4_init 77 = .ok (.bipush 80, 2) := by decide +kernel
theorem dX4_init_79 : decode cX4_init 79 = .ok (.newarray .int, 2) := by decide +kernel
theorem dX4_init_81 : decode cX4_init 81 = .ok (.putfield 38, 3) := by decide +kernel
theorem dX4_init_84 : decode cX4_init 84 = .ok (.aload_n 0, 1) := by decide +kernel
theorem dX4_init_85 : decode cX4_init 85 = .ok (.iconst 4, 1) := by decide +kernel
theorem dX4_init_86 : decode cX4_init 86 = .ok (.newarray .int, 2) := by decide +kernel
theorem dX4_init_88 : decode cX4_init 88 = .ok (.putfield 41, 3) := by decide +kernel
theorem dX4_init_91 : decode cX4_init 91 = .ok (.aload_n 0, 1) := by decide +kernel
theorem dX4_init_92 : decode cX4_init 92 = .ok (.iconst 4, 1) := by decide +kernel
theorem dX4_init_93 : decode cX4_init 93 = .ok (.newarray .int, 2) := by decide +kernel
theorem dX4_init_95 : decode cX4_init 95 = .ok (.putfield 44, 3) := by decide +kernel
theorem dX4_init_98 : decode cX4_init 98 = .ok (.aload_n 0, 1) := by decide +kernel
theorem dX4_init_99 : decode cX4_init 99 = .ok (.iconst 1, 1) := by decide +kernel
theorem dX4_init_100 : decode cX4_init 100 = .ok (.putfield 47, 3) := by decide +kernel
theorem dX4_init_103 : decode cX4_init 103 = .ok (.aload_n 0, 1) := by decide +kernel
theorem dX4_init_104 : decode cX4_init 104 = .ok (.bipush 100, 2) := by decide +kernel
theorem dX4_init_106 : decode cX4_init 106 = .ok (.newarray .int, 2) := by decide +kernel
theorem dX4_init_108 : decode cX4_init 108 = .ok (.putfield 50, 3) := by decide +kernel
theorem dX4_init_111 : decode cX4_init 111 = .ok (.aload_n 0, 1) := by decide +kernel
theorem dX4_init_112 : decode cX4_init 112 = .ok (.bipush 70, 2) := by decide +kernel
theorem dX4_init_114 : decode cX4_init 114 = .ok (.newarray .int, 2) := by decide +kernel
theorem dX4_init_116 : decode cX4_init 116 = .ok (.putfield 53, 3) := by decide +kernel
theorem dX4_init_119 : decode cX4_init 119 = .ok (.aload_n 0, 1) := by decide +kernel
theorem dX4_init_120 : decode cX4_init 120 = .ok (.bipush 70, 2) := by decide +kernel
theorem dX4_init_122 : decode cX4_init 122 = .ok (.newarray .int, 2) := by decide +kernel
theorem dX4_init_124 : decode cX4_init 124 = .ok (.putfield 56, 3) := by decide +kernel
theorem dX4_init_127 : decode cX4_init 127 = .ok (.aload_n 0, 1) := by decide +kernel
theorem dX4_init_128 : decode cX4_init 128 = .ok (.bipush 70, 2) := by decide +kernel
theorem dX4_init_130 : decode cX4_init 130 = .ok (.newarray .int, 2) := by decide +kernel
theorem dX4_init_132 : decode cX4_init 132 = .ok (.putfield 59, 3) := by decide +kernel
theorem dX4_init_135 : decode cX4_init 135 = .ok (.aload_n 0, 1) := by decide +kernel
theorem dX4_init_136 : decode cX4_init 136 = .ok (.sipush 1120, 3) := by decide +kernel
theorem dX4_init_139 : decode cX4_init 139 = .ok (.newarray .int, 2) := by decide +kernel
theorem dX4_init_141 : decode cX4_init 141 = .ok (.putfield 62, 3) := by decide +kernel
theorem dX4_init_144 : decode cX4_init 144 = .ok (.aload_n 0, 1) := by decide +kernel
theorem dX4_init_145 : decode cX4_init 145 = .ok (.bipush 70, 2) := by decide +kernel
theorem dX4_init_147 : decode cX4_init 147 = .ok (.newarray .int, 2) := by decide +kernel
theorem dX4_init_149 : decode cX4_init 149 = .ok (.putfield 65, 3) := by decide +kernel
theorem dX4_init_152 : decode cX4_init 152 = .ok (.aload_n 0, 1) := by decide +kernel
theorem dX4_init_153 : decode cX4_init 153 = .ok (.bipush 80, 2) := by decide +kernel
theorem dX4_init_155 : decode cX4_init 155 = .ok (.newarray .int, 2) := by decide +kernel
theorem dX4_init_157 : decode cX4_init 157 = .ok (.putfield 68, 3) := by decide +kernel
theorem dX4_init_160 : decode cX4_init 160 = .ok (.aload_n 0, 1) := by decide +kernel
theorem dX4_init_161 : decode cX4_init 161 = .ok (.bipush 80, 2) := by decide +kernel
theorem dX4_init_163 : decode cX4_init 163 = .ok (.newarray .int, 2) := by decide +kernel
theorem dX4_init_165 : decode cX4_init 165 = .ok (.putfield 71, 3) := by decide +kernel
theorem dX4_init_168 : decode cX4_init 168 = .ok (.aload_n 0, 1) := by decide +kernel
theorem dX4_init_169 : decode cX4_init 169 = .ok (.bipush 80, 2) := by decide +kernel
theorem dX4_init_171 : decode cX4_init 171 = .ok (.newarray .int, 2) := by decide +kernel
theorem dX4_init_173 : decode cX4_init 173 = .ok (.putfield 74, 3) := by decide +kernel
theorem dX4_init_176 : decode cX4_init 176 = .ok (.aload_n 0, 1) := by decide +kernel
theorem dX4_init_177 : decode cX4_init 177 = .ok (.bipush 80, 2) := by decide +kernel
theorem dX4_init_179 : decode cX4_init 179 = .ok (.newarray .int, 2) := by decide +kernel
theorem dX4_init_181 : decode cX4_init 181 = .ok (.putfield 77, 3) := by decide +kernel
theorem dX4_init_184 : decode cX4_init 184 = .ok (.aload_n 0, 1) := by decide +kernel
theorem dX4_init_185 : decode cX4_init 185 = .ok (.bipush 80, 2) := by decide +kernel
theorem dX4_init_187 : decode cX4_init 187 = .ok (.newarray .int, 2) := by decide +kernel
theorem dX4_init_189 : decode cX4_init 189 = .ok (.putfield 80, 3) := by decide +kernel
theorem dX4_init_192 : decode cX4_init 192 = .ok (.aload_n 0, 1) := by decide +kernel
theorem dX4_init_193 : decode cX4_init 193 = .ok (.bipush 80, 2) := by decide +kernel
theorem dX4_init_195 : decode cX4_init 195 = .ok (.newarray .int, 2) := by decide +kernel
theorem dX4_init_197 : decode cX4_init 197 = .ok (.putfield 83, 3) := by decide +kernel
theorem dX4_init_200 : decode cX4_init 200 = .ok (.aload_n 0, 1) := by decide +kernel
theorem dX4_init_201 : decode cX4_init 201 = .ok (.bipush 80, 2) := by decide +kernel
theorem dX4_init_203 : decode cX4_init 203 = .ok (.newarray .int, 2) := by decide +kernel
theorem dX4_init_205 : decode cX4_init 205 = .ok (.putfield 86, 3) := by decide +kernel
theorem dX4_init_208 : decode cX4_init 208 = .ok (.aload_n 0, 1) := by decide +kernel
theorem dX4_init_209 : decode cX4_init 209 = .ok (.bipush 80, 2) := by decide +kernel
theorem dX4_init_211 : decode cX4_init 211 = .ok (.newarray .int, 2) := by decide +kernel
theorem dX4_init_213 : decode cX4_init 213 = .ok (.putfield 89, 3) := by decide +kernel
theorem dX4_init_216 : decode cX4_init 216 = .ok (.return_, 1) := by decide +kernel
theorem dX4_thrown_0 : decode cX4_thrown 0 = .ok (.aload_n 0, 1) := by decide +kernel
theorem dX4_thrown_1 : decode cX4_thrown 1 = .ok (.getfield 92, 3) := by decide +kernel
theorem dX4_thrown_4 : decode cX4_thrown 4 = .ok (.ireturn, 1) := by decide +kernel
theorem dX4_no_0 : decode cX4_no 0 = .ok (.aload_n 0, 1) := by decide +kernel
theorem dX4_no_1 : decode cX4_no 1 = .ok (.iload_n 1, 1) := by decide +kernel
theorem dX4_no_2 : decode cX4_no 2 = .ok (.putfield 92, 3) := by decide +kernel
theorem dX4_no_5 : decode cX4_no 5 = .ok (.iconst 0, 1) := by decide +kernel
theorem dX4_no_6 : decode cX4_no 6 = .ok (.ireturn, 1) := by decide +kernel
theorem dX4_opens_0 : decode cX4_opens 0 = .ok (.iload_n 0, 1) := by decide +kernel
theorem dX4_opens_1 : decode cX4_opens 1 = .ok (.bipush 10, 2) := by decide +kernel
theorem dX4_opens_3 : decode cX4_opens 3 = .ok (.if_icmp .eq 21, 3) := by decide +kernel
theorem dX4_opens_6 : decode cX4_opens 6 = .ok (.iload_n 0, 1) := by decide +kernel
theorem dX4_opens_7 : decode cX4_opens 7 = .ok (.bipush 13, 2) := by decide +kernel
theorem dX4_opens_9 : decode cX4_opens 9 = .ok (.if_icmp .lt 9, 3) := by decide +kernel
theorem dX4_opens_12 : decode cX4_opens 12 = .ok (.iload_n 0, 1) := by decide +kernel
theorem dX4_opens_13 : decode cX4_opens 13 = .ok (.bipush 15, 2) := by decide +kernel
theorem dX4_opens_15 : decode cX4_opens 15 = .ok (.if_icmp .le 9, 3) := by decide +kernel
theorem dX4_opens_18 : decode cX4_opens 18 = .ok (.iload_n 0, 1) := by decide +kernel
theorem dX4_opens_19 : decode cX4_opens 19 = .ok (.bipush 21, 2) := by decide +kernel
theorem dX4_opens_21 : decode cX4_opens 21 = .ok (.if_icmp .ne 7, 3) := by decide +kernel
theorem dX4_opens_24 : decode cX4_opens 24 = .ok (.iconst 1, 1) := by decide +kernel
theorem dX4_opens_25 : decode cX4_opens 25 = .ok (.goto 4, 3) := by decide +kernel
theorem dX4_opens_28 : decode cX4_opens 28 = .ok (.iconst 0, 1) := by decide +kernel
theorem dX4_opens_29 : decode cX4_opens 29 = .ok (.ireturn, 1) := by decide +kernel
theorem dX4_look_0 : decode cX4_look 0 = .ok (.aload_n 0, 1) := by decide +kernel
theorem dX4_look_1 : decode cX4_look 1 = .ok (.iconst 0, 1) := by decide +kernel
theorem dX4_look_2 : decode cX4_look 2 = .ok (.putfield 95, 3) := by decide +kernel
theorem dX4_look_5 : decode cX4_look 5 = .ok (.bipush 60, 2) := by decide +kernel
theorem dX4_look_7 : decode cX4_look 7 = .ok (.iload_n 1, 1) := by decide +kernel
theorem dX4_look_8 : decode cX4_look 8 = .ok (.imul, 1) := by decide +kernel
theorem dX4_look_9 : decode cX4_look 9 = .ok (.istore_n 2, 1) := by decide +kernel
theorem dX4_look_10 : decode cX4_look 10 = .ok (.iload_n 2, 1) := by decide +kernel
theorem dX4_look_11 : decode cX4_look 11 = .ok (.bipush 60, 2) := by decide +kernel
theorem dX4_look_13 : decode cX4_look 13 = .ok (.iload_n 1, 1) := by decide +kernel
theorem dX4_look_14 : decode cX4_look 14 = .ok (.imul, 1) := by decide +kernel
theorem dX4_look_15 : decode cX4_look 15 = .ok (.aload_n 0, 1) := by decide +kernel
theorem dX4_look_16 : decode cX4_look 16 = .ok (.getfield 19, 3) := by decide +kernel
theorem dX4_look_19 : decode cX4_look 19 = .ok (.iload_n 1, 1) := by decide +kernel
theorem dX4_look_20 : decode cX4_look 20 = .ok (.iaload, 1) := by decide +kernel
theorem dX4_look_21 : decode cX4_look 21 = .ok (.iadd, 1) := by decide +kernel
theorem dX4_look_22 : decode cX4_look 22 = .ok (.if_icmp .ge 115, 3) := by decide +kernel
theorem dX4_look_25 : decode cX4_look 25 = .ok (.aload_n 0, 1) := by decide +kernel
theorem dX4_look_26 : decode cX4_look 26 = .ok (.getfield 7, 3) := by decide +kernel
theorem dX4_look_29 : decode cX4_look 29 = .ok (.iload_n 2, 1) := by decide +kernel
theorem dX4_look_30 : decode cX4_look 30 = .ok (.iaload, 1) := by decide +kernel
theorem dX4_look_31 : decode cX4_look 31 = .ok (.istore_n 3, 1) := by decide +kernel
theorem dX4_look_32 : decode cX4_look 32 = .ok (.iload_n 3, 1) := by decide +kernel
theorem dX4_look_33 : decode cX4_look 33 = .ok (.invokestatic 98, 3) := by decide +kernel
theorem dX4_look_36 : decode cX4_look 36 = .ok (.ifCond .eq 36, 3) := by decide +kernel
theorem dX4_look_39 : decode cX4_look 39 = .ok (.aload_n 0, 1) := by decide +kernel
theorem dX4_look_40 : decode cX4_look 40 = .ok (.getfield 68, 3) := by decide +kernel
theorem dX4_look_43 : decode cX4_look 43 = .ok (.aload_n 0, 1) := by decide +kernel
theorem dX4_look_44 : decode cX4_look 44 = .ok (.getfield 95, 3) := by decide +kernel
theorem dX4_look_47 : decode cX4_look 47 = .ok (.iload_n 3, 1) := by decide +kernel
theorem dX4_look_48 : decode cX4_look 48 = .ok (.iastore, 1) := by decide +kernel
theorem dX4_look_49 : decode cX4_look 49 = .ok (.aload_n 0, 1) := by decide +kernel
theorem dX4_look_50 : decode cX4_look 50 = .ok (.getfield 77, 3) := by decide +kernel
theorem dX4_look_53 : decode cX4_look 53 = .ok (.aload_n 0, 1) := by decide +kernel
theorem dX4_look_54 : decode cX4_look 54 = .ok (.getfield 95, 3) := by decide +kernel
theorem dX4_look_57 : decode cX4_look 57 = .ok (.iconst 0, 1) := by decide +kernel
theorem dX4_look_58 : decode cX4_look 58 = .ok (.iastore, 1) := by decide +kernel
theorem dX4_look_59 : decode cX4_look 59 = .ok (.aload_n 0, 1) := by decide +kernel
theorem dX4_look_60 : decode cX4_look 60 = .ok (.dup, 1) := by decide +kernel
theorem dX4_look_61 : decode cX4_look 61 = .ok (.getfield 95, 3) := by decide +kernel
theorem dX4_look_64 : decode cX4_look 64 = .ok (.iconst 1, 1) := by decide +kernel
theorem dX4_look_65 : decode cX4_look 65 = .ok (.iadd, 1) := by decide +kernel
theorem dX4_look_66 : decode cX4_look 66 = .ok (.putfield 95, 3) := by decide +kernel
theorem dX4_look_69 : decode cX4_look 69 = .ok (.goto 62, 3) := by decide +kernel
theorem dX4_look_72 : decode cX4_look 72 = .ok (.iload_n 3, 1) := by decide +kernel
theorem dX4_look_73 : decode cX4_look 73 = .ok (.bipush 16, 2) := by decide +kernel
theorem dX4_look_75 : decode cX4_look 75 = .ok (.if_icmp .ne 16, 3) := by decide +kernel
theorem dX4_look_78 : decode cX4_look 78 = .ok (.aload_n 0, 1) := by decide +kernel
theorem dX4_look_79 : decode cX4_look 79 = .ok (.dup, 1) := by decide +kernel
theorem dX4_look_80 : decode cX4_look 80 = .ok (.getfield 95, 3) := by decide +kernel
theorem dX4_look_83 : decode cX4_look 83 = .ok (.iconst 1, 1) := by decide +kernel
theorem dX4_look_84 : decode cX4_look 84 = .ok (.isub, 1) := by decide +kernel
theorem dX4_look_85 : decode cX4_look 85 = .ok (.putfield 95, 3) := by decide +kernel
theorem dX4_look_88 : decode cX4_look 88 = .ok (.goto 43, 3) := by decide +kernel
theorem dX4_look_91 : decode cX4_look 91 = .ok (.iload_n 3, 1) := by decide +kernel
theorem dX4_look_92 : decode cX4_look 92 = .ok (.bipush 11, 2) := by decide +kernel
theorem dX4_look_94 : decode cX4_look 94 = .ok (.if_icmp .eq 15, 3) := by decide +kernel
theorem dX4_look_97 : decode cX4_look 97 = .ok (.iload_n 3, 1) := by decide +kernel
theorem dX4_look_98 : decode cX4_look 98 = .ok (.bipush 12, 2) := by decide +kernel
theorem dX4_look_100 : decode cX4_look 100 = .ok (.if_icmp .eq 9, 3) := by decide +kernel
theorem dX4_look_103 : decode cX4_look 103 = .ok (.iload_n 3, 1) := by decide +kernel
theorem dX4_look_104 : decode cX4_look 104 = .ok (.bipush 22, 2) := by decide +kernel
theorem dX4_look_106 : decode cX4_look 106 = .ok (.if_icmp .ne 25, 3) := by decide +kernel
theorem dX4_look_109 : decode cX4_look 109 = .ok (.aload_n 0, 1) := by decide +kernel
theorem dX4_look_110 : decode cX4_look 110 = .ok (.getfield 77, 3) := by decide +kernel
theorem dX4_look_113 : decode cX4_look 113 = .ok (.aload_n 0, 1) := by decide +kernel
theorem dX4_look_114 : decode cX4_look 114 = .ok (.getfield 95, 3) := by decide +kernel
theorem dX4_look_117 : decode cX4_look 117 = .ok (.iconst 1, 1) := by decide +kernel
theorem dX4_look_118 : decode cX4_look 118 = .ok (.isub, 1) := by decide +kernel
theorem dX4_look_119 : decode cX4_look 119 = .ok (.iload_n 3, 1) := by decide +kernel
theorem dX4_look_120 : decode cX4_look 120 = .ok (.bipush 12, 2) := by decide +kernel
theorem dX4_look_122 : decode cX4_look 122 = .ok (.if_icmp .ne 7, 3) := by decide +kernel
theorem dX4_look_125 : decode cX4_look 125 = .ok (.iconst 2, 1) := by decide +kernel
theorem dX4_look_126 : decode cX4_look 126 = .ok (.goto 4, 3) := by decide +kernel
theorem dX4_look_129 : decode cX4_look 129 = .ok (.iconst 1, 1) := by decide +kernel
theorem dX4_look_130 : decode cX4_look 130 = .ok (.iastore, 1) := by decide +kernel
theorem dX4_look_131 : decode cX4_look 131 = .ok (.iinc 2 1, 3) := by decide +kernel
theorem dX4_look_134 : decode cX4_look 134 = .ok (.goto (-124), 3) := by decide +kernel
theorem dX4_look_137 : decode cX4_look 137 = .ok (.aload_n 0, 1) := by decide +kernel
theorem dX4_look_138 : decode cX4_look 138 = .ok (.iconst 0, 1) := by decide +kernel
theorem dX4_look_139 : decode cX4_look 139 = .ok (.putfield 102, 3) := by decide +kernel
theorem dX4_look_142 : decode cX4_look 142 = .ok (.iconst 0, 1) := by decide +kernel
theorem dX4_look_143 : decode cX4_look 143 = .ok (.istore_n 2, 1) := by decide +kernel
theorem dX4_look_144 : decode cX4_look 144 = .ok (.iload_n 2, 1) := by decide +kernel
theorem dX4_look_145 : decode cX4_look 145 = .ok (.aload_n 0, 1) := by decide +kernel
theorem dX4_look_146 : decode cX4_look 146 = .ok (.getfield 95, 3) := by decide +kernel
theorem dX4_look_149 : decode cX4_look 149 = .ok (.if_icmp .ge 30, 3) := by decide +kernel
theorem dX4_look_152 : decode cX4_look 152 = .ok (.aload_n 0, 1) := by decide +kernel
theorem dX4_look_153 : decode cX4_look 153 = .ok (.getfield 68, 3) := by decide +kernel
theorem dX4_look_156 : decode cX4_look 156 = .ok (.iload_n 2, 1) := by decide +kernel
theorem dX4_look_157 : decode cX4_look 157 = .ok (.iaload, 1) := by decide +kernel
theorem dX4_look_158 : decode cX4_look 158 = .ok (.bipush 13, 2) := by decide +kernel
theorem dX4_look_160 : decode cX4_look 160 = .ok (.if_icmp .ne 13, 3) := by decide +kernel
theorem dX4_look_163 : decode cX4_look 163 = .ok (.aload_n 0, 1) := by decide +kernel
theorem dX4_look_164 : decode cX4_look 164 = .ok (.dup, 1) := by decide +kernel
theorem dX4_look_165 : decode cX4_look 165 = .ok (.getfield 102, 3) := by decide +kernel
theorem dX4_look_168 : decode cX4_look 168 = .ok (.iconst 1, 1) := by decide +kernel
theorem dX4_look_169 : decode cX4_look 169 = .ok (.iadd, 1) := by decide +kernel
theorem dX4_look_170 : decode cX4_look 170 = .ok (.putfield 102, 3) := by decide +kernel
theorem dX4_look_173 : decode cX4_look 173 = .ok (.iinc 2 1, 3) := by decide +kernel
theorem dX4_look_176 : decode cX4_look 176 = .ok (.goto (-32), 3) := by decide +kernel
theorem dX4_look_179 : decode cX4_look 179 = .ok (.return_, 1) := by decide +kernel
theorem dX4_stands_0 : decode cX4_stands 0 = .ok (.aload_n 0, 1) := by decide +kernel
theorem dX4_stands_1 : decode cX4_stands 1 = .ok (.getfield 95, 3) := by decide +kernel
theorem dX4_stands_4 : decode cX4_stands 4 = .ok (.ifCond .ne 7, 3) := by decide +kernel
theorem dX4_stands_7 : decode cX4_stands 7 = .ok (.iconst (-1), 1) := by decide +kernel
theorem dX4_stands_8 : decode cX4_stands 8 = .ok (.goto 14, 3) := by decide +kernel
theorem dX4_stands_11 : decode cX4_stands 11 = .ok (.aload_n 0, 1) := by decide +kernel
theorem dX4_stands_12 : decode cX4_stands 12 = .ok (.getfield 68, 3) := by decide +kernel
theorem dX4_stands_15 : decode cX4_stands 15 = .ok (.aload_n 0, 1) := by decide +kernel
theorem dX4_stands_16 : decode cX4_stands 16 = .ok (.getfield 95, 3) := by decide +kernel
theorem dX4_stands_19 : decode cX4_stands 19 = .ok (.iconst 1, 1) := by decide +kernel
theorem dX4_stands_20 : decode cX4_stands 20 = .ok (.isub, 1) := by decide +kernel
theorem dX4_stands_21 : decode cX4_stands 21 = .ok (.iaload, 1) := by decide +kernel
theorem dX4_stands_22 : decode cX4_stands 22 = .ok (.istore_n 3, 1) := by decide +kernel
theorem dX4_stands_23 : decode cX4_stands 23 = .ok (.aload_n 0, 1) := by decide +kernel
theorem dX4_stands_24 : decode cX4_stands 24 = .ok (.getfield 95, 3) := by decide +kernel
theorem dX4_stands_27 : decode cX4_stands 27 = .ok (.ifCond .ne 7, 3) := by decide +kernel
theorem dX4_stands_30 : decode cX4_stands 30 = .ok (.iconst 0, 1) := by decide +kernel
theorem dX4_stands_31 : decode cX4_stands 31 = .ok (.goto 14, 3) := by decide +kernel
theorem dX4_stands_34 : decode cX4_stands 34 = .ok (.aload_n 0, 1) := by decide +kernel
theorem dX4_stands_35 : decode cX4_stands 35 = .ok (.getfield 77, 3) := by decide +kernel
theorem dX4_stands_38 : decode cX4_stands 38 = .ok (.aload_n 0, 1) := by decide +kernel
theorem dX4_stands_39 : decode cX4_stands 39 = .ok (.getfield 95, 3) := by decide +kernel
theorem dX4_stands_42 : decode cX4_stands 42 = .ok (.iconst 1, 1) := by decide +kernel
theorem dX4_stands_43 : decode cX4_stands 43 = .ok (.isub, 1) := by decide +kernel
theorem dX4_stands_44 : decode cX4_stands 44 = .ok (.iaload, 1) := by decide +kernel
theorem dX4_stands_45 : decode cX4_stands 45 = .ok (.istore 4, 2) := by decide +kernel
theorem dX4_stands_47 : decode cX4_stands 47 = .ok (.iload_n 1, 1) := by decide +kernel
theorem dX4_stands_48 : decode cX4_stands 48 = .ok (.tableswitch 143 11 22 #[64, 81, 143, 143, 143, 116, 129, 129, 143, 143, 143, 99], 64) := by decide +kernel
theorem dX4_stands_112 : decode cX4_stands 112 = .ok (.iload_n 3, 1) := by decide +kernel
theorem dX4_stands_113 : decode cX4_stands 113 = .ok (.bipush 10, 2) := by decide +kernel
theorem dX4_stands_115 : decode cX4_stands 115 = .ok (.if_icmp .ne 12, 3) := by decide +kernel
theorem dX4_stands_118 : decode cX4_stands 118 = .ok (.iload 4, 2) := by decide +kernel
theorem dX4_stands_120 : decode cX4_stands 120 = .ok (.ifCond .ne 7, 3) := by decide +kernel
theorem dX4_stands_123 : decode cX4_stands 123 = .ok (.iconst 1, 1) := by decide +kernel
theorem dX4_stands_124 : decode cX4_stands 124 = .ok (.goto 4, 3) := by decide +kernel
theorem dX4_stands_127 : decode cX4_stands 127 = .ok (.iconst 0, 1) := by decide +kernel
theorem dX4_stands_128 : decode cX4_stands 128 = .ok (.ireturn, 1) := by decide +kernel
theorem dX4_stands_129 : decode cX4_stands 129 = .ok (.iload_n 3, 1) := by decide +kernel
theorem dX4_stands_130 : decode cX4_stands 130 = .ok (.bipush 10, 2) := by decide +kernel
theorem dX4_stands_132 : decode cX4_stands 132 = .ok (.if_icmp .ne 13, 3) := by decide +kernel
theorem dX4_stands_135 : decode cX4_stands 135 = .ok (.iload 4, 2) := by decide +kernel
theorem dX4_stands_137 : decode cX4_stands 137 = .ok (.iconst 2, 1) := by decide +kernel
theorem dX4_stands_138 : decode cX4_stands 138 = .ok (.if_icmp .ge 7, 3) := by decide +kernel
theorem dX4_stands_141 : decode cX4_stands 141 = .ok (.iconst 1, 1) := by decide +kernel
theorem dX4_stands_142 : decode cX4_stands 142 = .ok (.goto 4, 3) := by decide +kernel
theorem dX4_stands_145 : decode cX4_stands 145 = .ok (.iconst 0, 1) := by decide +kernel
theorem dX4_stands_146 : decode cX4_stands 146 = .ok (.ireturn, 1) := by decide +kernel
theorem dX4_stands_147 : decode cX4_stands 147 = .ok (.iload_n 3, 1) := by decide +kernel
theorem dX4_stands_148 : decode cX4_stands 148 = .ok (.bipush 21, 2) := by decide +kernel
theorem dX4_stands_150 : decode cX4_stands 150 = .ok (.if_icmp .ne 12, 3) := by decide +kernel
theorem dX4_stands_153 : decode cX4_stands 153 = .ok (.iload 4, 2) := by decide +kernel
theorem dX4_stands_155 : decode cX4_stands 155 = .ok (.ifCond .ne 7, 3) := by decide +kernel
theorem dX4_stands_158 : decode cX4_stands 158 = .ok (.iconst 1, 1) := by decide +kernel
theorem dX4_stands_159 : decode cX4_stands 159 = .ok (.goto 4, 3) := by decide +kernel
theorem dX4_stands_162 : decode cX4_stands 162 = .ok (.iconst 0, 1) := by decide +kernel
theorem dX4_stands_163 : decode cX4_stands 163 = .ok (.ireturn, 1) := by decide +kernel
theorem dX4_stands_164 : decode cX4_stands 164 = .ok (.aload_n 0, 1) := by decide +kernel
theorem dX4_stands_165 : decode cX4_stands 165 = .ok (.getfield 95, 3) := by decide +kernel
theorem dX4_stands_168 : decode cX4_stands 168 = .ok (.ifCond .le 7, 3) := by decide +kernel
theorem dX4_stands_171 : decode cX4_stands 171 = .ok (.iconst 1, 1) := by decide +kernel
theorem dX4_stands_172 : decode cX4_stands 172 = .ok (.goto 4, 3) := by decide +kernel
theorem dX4_stands_175 : decode cX4_stands 175 = .ok (.iconst 0, 1) := by decide +kernel
theorem dX4_stands_176 : decode cX4_stands 176 = .ok (.ireturn, 1) := by decide +kernel
theorem dX4_stands_177 : decode cX4_stands 177 = .ok (.aload_n 0, 1) := by decide +kernel
theorem dX4_stands_178 : decode cX4_stands 178 = .ok (.getfield 102, 3) := by decide +kernel
theorem dX4_stands_181 : decode cX4_stands 181 = .ok (.iload_n 2, 1) := by decide +kernel
theorem dX4_stands_182 : decode cX4_stands 182 = .ok (.if_icmp .le 7, 3) := by decide +kernel
theorem dX4_stands_185 : decode cX4_stands 185 = .ok (.iconst 1, 1) := by decide +kernel
theorem dX4_stands_186 : decode cX4_stands 186 = .ok (.goto 4, 3) := by decide +kernel
theorem dX4_stands_189 : decode cX4_stands 189 = .ok (.iconst 0, 1) := by decide +kernel
theorem dX4_stands_190 : decode cX4_stands 190 = .ok (.ireturn, 1) := by decide +kernel
theorem dX4_stands_191 : decode cX4_stands 191 = .ok (.iload_n 1, 1) := by decide +kernel
theorem dX4_stands_192 : decode cX4_stands 192 = .ok (.invokestatic 98, 3) := by decide +kernel
theorem dX4_stands_195 : decode cX4_stands 195 = .ok (.ifCond .eq 12, 3) := by decide +kernel
theorem dX4_stands_198 : decode cX4_stands 198 = .ok (.aload_n 0, 1) := by decide +kernel
theorem dX4_stands_199 : decode cX4_stands 199 = .ok (.getfield 95, 3) := by decide +kernel
theorem dX4_stands_202 : decode cX4_stands 202 = .ok (.bipush 10, 2) := by decide +kernel
theorem dX4_stands_204 : decode cX4_stands 204 = .ok (.if_icmp .ge 7, 3) := by decide +kernel
theorem dX4_stands_207 : decode cX4_stands 207 = .ok (.iconst 1, 1) := by decide +kernel
theorem dX4_stands_208 : decode cX4_stands 208 = .ok (.goto 4, 3) := by decide +kernel
theorem dX4_stands_211 : decode cX4_stands 211 = .ok (.iconst 0, 1) := by decide +kernel
theorem dX4_stands_212 : decode cX4_stands 212 = .ok (.ireturn, 1) := by decide +kernel
theorem dX4_within_0 : decode cX4_within 0 = .ok (.iload_n 0, 1) := by decide +kernel
theorem dX4_within_1 : decode cX4_within 1 = .ok (.ifCond .lt 12, 3) := by decide +kernel
theorem dX4_within_4 : decode cX4_within 4 = .ok (.iload_n 0, 1) := by decide +kernel
theorem dX4_within_5 : decode cX4_within 5 = .ok (.iload_n 1, 1) := by decide +kernel
theorem dX4_within_6 : decode cX4_within 6 = .ok (.if_icmp .gt 7, 3) := by decide +kernel
theorem dX4_within_9 : decode cX4_within 9 = .ok (.iconst 1, 1) := by decide +kernel
theorem dX4_within_10 : decode cX4_within 10 = .ok (.goto 4, 3) := by decide +kernel
theorem dX4_within_13 : decode cX4_within 13 = .ok (.iconst 0, 1) := by decide +kernel
theorem dX4_within_14 : decode cX4_within 14 = .ok (.ireturn, 1) := by decide +kernel
theorem dX4_right_0 : decode cX4_right 0 = .ok (.iload_n 0, 1) := by decide +kernel
theorem dX4_right_1 : decode cX4_right 1 = .ok (.tableswitch 201 0 21 #[103, 103, 103, 110, 110, 110, 103, 134, 156, 162, 169, 201, 201, 162, 201, 201, 201, 162, 162, 103, 177, 103], 103) := by decide +kernel
theorem dX4_right_104 : decode cX4_right 104 = .ok (.iload_n 1, 1) := by decide +kernel
theorem dX4_right_105 : decode cX4_right 105 = .ok (.bipush 7, 2) := by decide +kernel
theorem dX4_right_107 : decode cX4_right 107 = .ok (.invokestatic 105, 3) := by decide +kernel
theorem dX4_right_110 : decode cX4_right 110 = .ok (.ireturn, 1) := by decide +kernel
theorem dX4_right_111 : decode cX4_right 111 = .ok (.iload_n 1, 1) := by decide +kernel
theorem dX4_right_112 : decode cX4_right 112 = .ok (.bipush 7, 2) := by decide +kernel
theorem dX4_right_114 : decode cX4_right 114 = .ok (.invokestatic 105, 3) := by decide +kernel
theorem dX4_right_117 : decode cX4_right 117 = .ok (.ifCond .eq 16, 3) := by decide +kernel
theorem dX4_right_120 : decode cX4_right 120 = .ok (.iload_n 2, 1) := by decide +kernel
theorem dX4_right_121 : decode cX4_right 121 = .ok (.bipush 7, 2) := by decide +kernel
theorem dX4_right_123 : decode cX4_right 123 = .ok (.invokestatic 105, 3) := by decide +kernel
theorem dX4_right_126 : decode cX4_right 126 = .ok (.ifCond .eq 7, 3) := by decide +kernel
theorem dX4_right_129 : decode cX4_right 129 = .ok (.iconst 1, 1) := by decide +kernel
theorem dX4_right_130 : decode cX4_right 130 = .ok (.goto 4, 3) := by decide +kernel
theorem dX4_right_133 : decode cX4_right 133 = .ok (.iconst 0, 1) := by decide +kernel
theorem dX4_right_134 : decode cX4_right 134 = .ok (.ireturn, 1) := by decide +kernel
theorem dX4_right_135 : decode cX4_right 135 = .ok (.iload_n 1, 1) := by decide +kernel
theorem dX4_right_136 : decode cX4_right 136 = .ok (.iconst 3, 1) := by decide +kernel
theorem dX4_right_137 : decode cX4_right 137 = .ok (.invokestatic 105, 3) := by decide +kernel
theorem dX4_right_140 : decode cX4_right 140 = .ok (.ifCond .eq 15, 3) := by decide +kernel
theorem dX4_right_143 : decode cX4_right 143 = .ok (.iload_n 2, 1) := by decide +kernel
theorem dX4_right_144 : decode cX4_right 144 = .ok (.iconst 2, 1) := by decide +kernel
theorem dX4_right_145 : decode cX4_right 145 = .ok (.invokestatic 105, 3) := by decide +kernel
theorem dX4_right_148 : decode cX4_right 148 = .ok (.ifCond .eq 7, 3) := by decide +kernel
theorem dX4_right_151 : decode cX4_right 151 = .ok (.iconst 1, 1) := by decide +kernel
theorem dX4_right_152 : decode cX4_right 152 = .ok (.goto 4, 3) := by decide +kernel
theorem dX4_right_155 : decode cX4_right 155 = .ok (.iconst 0, 1) := by decide +kernel
theorem dX4_right_156 : decode cX4_right 156 = .ok (.ireturn, 1) := by decide +kernel
theorem dX4_right_157 : decode cX4_right 157 = .ok (.iload_n 1, 1) := by decide +kernel
theorem dX4_right_158 : decode cX4_right 158 = .ok (.iconst 3, 1) := by decide +kernel
theorem dX4_right_159 : decode cX4_right 159 = .ok (.invokestatic 105, 3) := by decide +kernel
theorem dX4_right_162 : decode cX4_right 162 = .ok (.ireturn, 1) := by decide +kernel
theorem dX4_right_163 : decode cX4_right 163 = .ok (.iload_n 2, 1) := by decide +kernel
theorem dX4_right_164 : decode cX4_right 164 = .ok (.bipush 9, 2) := by decide +kernel
theorem dX4_right_166 : decode cX4_right 166 = .ok (.invokestatic 105, 3) := by decide +kernel
theorem dX4_right_169 : decode cX4_right 169 = .ok (.ireturn, 1) := by decide +kernel
theorem dX4_right_170 : decode cX4_right 170 = .ok (.iload_n 2, 1) := by decide +kernel
theorem dX4_right_171 : decode cX4_right 171 = .ok (.sipush 1023, 3) := by decide +kernel
theorem dX4_right_174 : decode cX4_right 174 = .ok (.invokestatic 105, 3) := by decide +kernel
theorem dX4_right_177 : decode cX4_right 177 = .ok (.ireturn, 1) := by decide +kernel
theorem dX4_right_178 : decode cX4_right 178 = .ok (.iload_n 1, 1) := by decide +kernel
theorem dX4_right_179 : decode cX4_right 179 = .ok (.bipush 7, 2) := by decide +kernel
theorem dX4_right_181 : decode cX4_right 181 = .ok (.invokestatic 105, 3) := by decide +kernel
theorem dX4_right_184 : decode cX4_right 184 = .ok (.ifCond .eq 16, 3) := by decide +kernel
theorem dX4_right_187 : decode cX4_right 187 = .ok (.iload_n 2, 1) := by decide +kernel
theorem dX4_right_188 : decode cX4_right 188 = .ok (.bipush 7, 2) := by decide +kernel
theorem dX4_right_190 : decode cX4_right 190 = .ok (.invokestatic 105, 3) := by decide +kernel
theorem dX4_right_193 : decode cX4_right 193 = .ok (.ifCond .eq 7, 3) := by decide +kernel
theorem dX4_right_196 : decode cX4_right 196 = .ok (.iconst 1, 1) := by decide +kernel
theorem dX4_right_197 : decode cX4_right 197 = .ok (.goto 4, 3) := by decide +kernel
theorem dX4_right_200 : decode cX4_right 200 = .ok (.iconst 0, 1) := by decide +kernel
theorem dX4_right_201 : decode cX4_right 201 = .ok (.ireturn, 1) := by decide +kernel
theorem dX4_right_202 : decode cX4_right 202 = .ok (.iload_n 0, 1) := by decide +kernel
theorem dX4_right_203 : decode cX4_right 203 = .ok (.bipush 23, 2) := by decide +kernel
theorem dX4_right_205 : decode cX4_right 205 = .ok (.invokestatic 105, 3) := by decide +kernel
theorem dX4_right_208 : decode cX4_right 208 = .ok (.ireturn, 1) := by decide +kernel
theorem dX4_node_0 : decode cX4_node 0 = .ok (.iload_n 1, 1) := by decide +kernel
theorem dX4_node_1 : decode cX4_node 1 = .ok (.bipush 7, 2) := by decide +kernel
theorem dX4_node_3 : decode cX4_node 3 = .ok (.invokestatic 105, 3) := by decide +kernel
theorem dX4_node_6 : decode cX4_node 6 = .ok (.ifCond .eq 13, 3) := by decide +kernel
theorem dX4_node_9 : decode cX4_node 9 = .ok (.iload_n 2, 1) := by decide +kernel
theorem dX4_node_10 : decode cX4_node 10 = .ok (.iload_n 3, 1) := by decide +kernel
theorem dX4_node_11 : decode cX4_node 11 = .ok (.iload 4, 2) := by decide +kernel
theorem dX4_node_13 : decode cX4_node 13 = .ok (.invokestatic 109, 3) := by decide +kernel
theorem dX4_node_16 : decode cX4_node 16 = .ok (.ifCond .ne 9, 3) := by decide +kernel
theorem dX4_node_19 : decode cX4_node 19 = .ok (.aload_n 0, 1) := by decide +kernel
theorem dX4_node_20 : decode cX4_node 20 = .ok (.iconst 1, 1) := by decide +kernel
theorem dX4_node_21 : decode cX4_node 21 = .ok (.invokevirtual 113, 3) := by decide +kernel
theorem dX4_node_24 : decode cX4_node 24 = .ok (.ireturn, 1) := by decide +kernel
theorem dX4_node_25 : decode cX4_node 25 = .ok (.aload_n 0, 1) := by decide +kernel
theorem dX4_node_26 : decode cX4_node 26 = .ok (.iload_n 1, 1) := by decide +kernel
theorem dX4_node_27 : decode cX4_node 27 = .ok (.invokevirtual 117, 3) := by decide +kernel
theorem dX4_node_30 : decode cX4_node 30 = .ok (.aload_n 0, 1) := by decide +kernel
theorem dX4_node_31 : decode cX4_node 31 = .ok (.iload_n 2, 1) := by decide +kernel
theorem dX4_node_32 : decode cX4_node 32 = .ok (.iload 4, 2) := by decide +kernel
theorem dX4_node_34 : decode cX4_node 34 = .ok (.invokevirtual 121, 3) := by decide +kernel
theorem dX4_node_37 : decode cX4_node 37 = .ok (.ifCond .eq 14, 3) := by decide +kernel
theorem dX4_node_40 : decode cX4_node 40 = .ok (.aload_n 0, 1) := by decide +kernel
theorem dX4_node_41 : decode cX4_node 41 = .ok (.getfield 19, 3) := by decide +kernel
theorem dX4_node_44 : decode cX4_node 44 = .ok (.iload_n 1, 1) := by decide +kernel
theorem dX4_node_45 : decode cX4_node 45 = .ok (.iaload, 1) := by decide +kernel
theorem dX4_node_46 : decode cX4_node 46 = .ok (.bipush 60, 2) := by decide +kernel
theorem dX4_node_48 : decode cX4_node 48 = .ok (.if_icmp .ne 9, 3) := by decide +kernel
theorem dX4_node_51 : decode cX4_node 51 = .ok (.aload_n 0, 1) := by decide +kernel
theorem dX4_node_52 : decode cX4_node 52 = .ok (.iconst 2, 1) := by decide +kernel
theorem dX4_node_53 : decode cX4_node 53 = .ok (.invokevirtual 113, 3) := by decide +kernel
theorem dX4_node_56 : decode cX4_node 56 = .ok (.ireturn, 1) := by decide +kernel
theorem dX4_node_57 : decode cX4_node 57 = .ok (.aload_n 0, 1) := by decide +kernel
theorem dX4_node_58 : decode cX4_node 58 = .ok (.iconst 0, 1) := by decide +kernel
theorem dX4_node_59 : decode cX4_node 59 = .ok (.putfield 92, 3) := by decide +kernel
theorem dX4_node_62 : decode cX4_node 62 = .ok (.bipush 60, 2) := by decide +kernel
theorem dX4_node_64 : decode cX4_node 64 = .ok (.iload_n 1, 1) := by decide +kernel
theorem dX4_node_65 : decode cX4_node 65 = .ok (.imul, 1) := by decide +kernel
theorem dX4_node_66 : decode cX4_node 66 = .ok (.aload_n 0, 1) := by decide +kernel
theorem dX4_node_67 : decode cX4_node 67 = .ok (.getfield 19, 3) := by decide +kernel
theorem dX4_node_70 : decode cX4_node 70 = .ok (.iload_n 1, 1) := by decide +kernel
theorem dX4_node_71 : decode cX4_node 71 = .ok (.iaload, 1) := by decide +kernel
theorem dX4_node_72 : decode cX4_node 72 = .ok (.iadd, 1) := by decide +kernel
theorem dX4_node_73 : decode cX4_node 73 = .ok (.istore 5, 2) := by decide +kernel
theorem dX4_node_75 : decode cX4_node 75 = .ok (.aload_n 0, 1) := by decide +kernel
theorem dX4_node_76 : decode cX4_node 76 = .ok (.getfield 7, 3) := by decide +kernel
theorem dX4_node_79 : decode cX4_node 79 = .ok (.iload 5, 2) := by decide +kernel
theorem dX4_node_81 : decode cX4_node 81 = .ok (.iload_n 2, 1) := by decide +kernel
theorem dX4_node_82 : decode cX4_node 82 = .ok (.iastore, 1) := by decide +kernel
theorem dX4_node_83 : decode cX4_node 83 = .ok (.aload_n 0, 1) := by decide +kernel
theorem dX4_node_84 : decode cX4_node 84 = .ok (.getfield 13, 3) := by decide +kernel
theorem dX4_node_87 : decode cX4_node 87 = .ok (.iload 5, 2) := by decide +kernel
theorem dX4_node_89 : decode cX4_node 89 = .ok (.iload_n 3, 1) := by decide +kernel
theorem dX4_node_90 : decode cX4_node 90 = .ok (.iastore, 1) := by decide +kernel
theorem dX4_node_91 : decode cX4_node 91 = .ok (.aload_n 0, 1) := by decide +kernel
theorem dX4_node_92 : decode cX4_node 92 = .ok (.getfield 16, 3) := by decide +kernel
theorem dX4_node_95 : decode cX4_node 95 = .ok (.iload 5, 2) := by decide +kernel
theorem dX4_node_97 : decode cX4_node 97 = .ok (.iload 4, 2) := by decide +kernel
theorem dX4_node_99 : decode cX4_node 99 = .ok (.iastore, 1) := by decide +kernel
theorem dX4_node_100 : decode cX4_node 100 = .ok (.aload_n 0, 1) := by decide +kernel
theorem dX4_node_101 : decode cX4_node 101 = .ok (.getfield 19, 3) := by decide +kernel
theorem dX4_node_104 : decode cX4_node 104 = .ok (.iload_n 1, 1) := by decide +kernel
theorem dX4_node_105 : decode cX4_node 105 = .ok (.dup2, 1) := by decide +kernel
theorem dX4_node_106 : decode cX4_node 106 = .ok (.iaload, 1) := by decide +kernel
theorem dX4_node_107 : decode cX4_node 107 = .ok (.iconst 1, 1) := by decide +kernel
theorem dX4_node_108 : decode cX4_node 108 = .ok (.iadd, 1) := by decide +kernel
theorem dX4_node_109 : decode cX4_node 109 = .ok (.iastore, 1) := by decide +kernel
theorem dX4_node_110 : decode cX4_node 110 = .ok (.aload_n 0, 1) := by decide +kernel
theorem dX4_node_111 : decode cX4_node 111 = .ok (.getfield 19, 3) := by decide +kernel
theorem dX4_node_114 : decode cX4_node 114 = .ok (.iload_n 1, 1) := by decide +kernel
theorem dX4_node_115 : decode cX4_node 115 = .ok (.iaload, 1) := by decide +kernel
theorem dX4_node_116 : decode cX4_node 116 = .ok (.ireturn, 1) := by decide +kernel
theorem dX4_clear_0 : decode cX4_clear 0 = .ok (.aload_n 0, 1) := by decide +kernel
theorem dX4_clear_1 : decode cX4_clear 1 = .ok (.iload_n 1, 1) := by decide +kernel
theorem dX4_clear_2 : decode cX4_clear 2 = .ok (.bipush 7, 2) := by decide +kernel
theorem dX4_clear_4 : decode cX4_clear 4 = .ok (.invokestatic 105, 3) := by decide +kernel
theorem dX4_clear_7 : decode cX4_clear 7 = .ok (.ifCond .eq 7, 3) := by decide +kernel
theorem dX4_clear_10 : decode cX4_clear 10 = .ok (.iconst 0, 1) := by decide +kernel
theorem dX4_clear_11 : decode cX4_clear 11 = .ok (.goto 4, 3) := by decide +kernel
theorem dX4_clear_14 : decode cX4_clear 14 = .ok (.iconst 1, 1) := by decide +kernel
theorem dX4_clear_15 : decode cX4_clear 15 = .ok (.putfield 92, 3) := by decide +kernel
theorem dX4_clear_18 : decode cX4_clear 18 = .ok (.aload_n 0, 1) := by decide +kernel
theorem dX4_clear_19 : decode cX4_clear 19 = .ok (.getfield 92, 3) := by decide +kernel
theorem dX4_clear_22 : decode cX4_clear 22 = .ok (.ifCond .ne 10, 3) := by decide +kernel
theorem dX4_clear_25 : decode cX4_clear 25 = .ok (.aload_n 0, 1) := by decide +kernel
theorem dX4_clear_26 : decode cX4_clear 26 = .ok (.getfield 19, 3) := by decide +kernel
theorem dX4_clear_29 : decode cX4_clear 29 = .ok (.iload_n 1, 1) := by decide +kernel
theorem dX4_clear_30 : decode cX4_clear 30 = .ok (.iconst 0, 1) := by decide +kernel
theorem dX4_clear_31 : decode cX4_clear 31 = .ok (.iastore, 1) := by decide +kernel
theorem dX4_clear_32 : decode cX4_clear 32 = .ok (.return_, 1) := by decide +kernel
theorem dX4_unended_0 : decode cX4_unended 0 = .ok (.iconst 0, 1) := by decide +kernel
theorem dX4_unended_1 : decode cX4_unended 1 = .ok (.istore_n 2, 1) := by decide +kernel
theorem dX4_unended_2 : decode cX4_unended 2 = .ok (.bipush 60, 2) := by decide +kernel
theorem dX4_unended_4 : decode cX4_unended 4 = .ok (.iload_n 1, 1) := by decide +kernel
theorem dX4_unended_5 : decode cX4_unended 5 = .ok (.imul, 1) := by decide +kernel
theorem dX4_unended_6 : decode cX4_unended 6 = .ok (.istore_n 3, 1) := by decide +kernel
theorem dX4_unended_7 : decode cX4_unended 7 = .ok (.iload_n 3, 1) := by decide +kernel
theorem dX4_unended_8 : decode cX4_unended 8 = .ok (.bipush 60, 2) := by decide +kernel
theorem dX4_unended_10 : decode cX4_unended 10 = .ok (.iload_n 1, 1) := by decide +kernel
theorem dX4_unended_11 : decode cX4_unended 11 = .ok (.imul, 1) := by decide +kernel
theorem dX4_unended_12 : decode cX4_unended 12 = .ok (.aload_n 0, 1) := by decide +kernel
theorem dX4_unended_13 : decode cX4_unended 13 = .ok (.getfield 19, 3) := by decide +kernel
theorem dX4_unended_16 : decode cX4_unended 16 = .ok (.iload_n 1, 1) := by decide +kernel
theorem dX4_unended_17 : decode cX4_unended 17 = .ok (.iaload, 1) := by decide +kernel
theorem dX4_unended_18 : decode cX4_unended 18 = .ok (.iadd, 1) := by decide +kernel
theorem dX4_unended_19 : decode cX4_unended 19 = .ok (.if_icmp .ge 38, 3) := by decide +kernel
theorem dX4_unended_22 : decode cX4_unended 22 = .ok (.aload_n 0, 1) := by decide +kernel
theorem dX4_unended_23 : decode cX4_unended 23 = .ok (.getfield 7, 3) := by decide +kernel
theorem dX4_unended_26 : decode cX4_unended 26 = .ok (.iload_n 3, 1) := by decide +kernel
theorem dX4_unended_27 : decode cX4_unended 27 = .ok (.iaload, 1) := by decide +kernel
theorem dX4_unended_28 : decode cX4_unended 28 = .ok (.invokestatic 98, 3) := by decide +kernel
theorem dX4_unended_31 : decode cX4_unended 31 = .ok (.ifCond .eq 6, 3) := by decide +kernel
theorem dX4_unended_34 : decode cX4_unended 34 = .ok (.iinc 2 1, 3) := by decide +kernel
theorem dX4_unended_37 : decode cX4_unended 37 = .ok (.aload_n 0, 1) := by decide +kernel
theorem dX4_unended_38 : decode cX4_unended 38 = .ok (.getfield 7, 3) := by decide +kernel
theorem dX4_unended_41 : decode cX4_unended 41 = .ok (.iload_n 3, 1) := by decide +kernel
theorem dX4_unended_42 : decode cX4_unended 42 = .ok (.iaload, 1) := by decide +kernel
theorem dX4_unended_43 : decode cX4_unended 43 = .ok (.bipush 16, 2) := by decide +kernel
theorem dX4_unended_45 : decode cX4_unended 45 = .ok (.if_icmp .ne 6, 3) := by decide +kernel
theorem dX4_unended_48 : decode cX4_unended 48 = .ok (.iinc 2 (-1), 3) := by decide +kernel
theorem dX4_unended_51 : decode cX4_unended 51 = .ok (.iinc 3 1, 3) := by decide +kernel
theorem dX4_unended_54 : decode cX4_unended 54 = .ok (.goto (-47), 3) := by decide +kernel
theorem dX4_unended_57 : decode cX4_unended 57 = .ok (.iload_n 2, 1) := by decide +kernel
theorem dX4_unended_58 : decode cX4_unended 58 = .ok (.ireturn, 1) := by decide +kernel
theorem dX4_after_0 : decode cX4_after 0 = .ok (.iconst 0, 1) := by decide +kernel
theorem dX4_after_1 : decode cX4_after 1 = .ok (.istore_n 2, 1) := by decide +kernel
theorem dX4_after_2 : decode cX4_after 2 = .ok (.iload_n 1, 1) := by decide +kernel
theorem dX4_after_3 : decode cX4_after 3 = .ok (.istore_n 3, 1) := by decide +kernel
theorem dX4_after_4 : decode cX4_after 4 = .ok (.iload_n 2, 1) := by decide +kernel
theorem dX4_after_5 : decode cX4_after 5 = .ok (.ifCond .gt 47, 3) := by decide +kernel
theorem dX4_after_8 : decode cX4_after 8 = .ok (.aload_n 0, 1) := by decide +kernel
theorem dX4_after_9 : decode cX4_after 9 = .ok (.getfield 7, 3) := by decide +kernel
theorem dX4_after_12 : decode cX4_after 12 = .ok (.iload_n 3, 1) := by decide +kernel
theorem dX4_after_13 : decode cX4_after 13 = .ok (.iaload, 1) := by decide +kernel
theorem dX4_after_14 : decode cX4_after 14 = .ok (.bipush 11, 2) := by decide +kernel
theorem dX4_after_16 : decode cX4_after 16 = .ok (.if_icmp .eq 71, 3) := by decide +kernel
theorem dX4_after_19 : decode cX4_after 19 = .ok (.aload_n 0, 1) := by decide +kernel
theorem dX4_after_20 : decode cX4_after 20 = .ok (.getfield 7, 3) := by decide +kernel
theorem dX4_after_23 : decode cX4_after 23 = .ok (.iload_n 3, 1) := by decide +kernel
theorem dX4_after_24 : decode cX4_after 24 = .ok (.iaload, 1) := by decide +kernel
theorem dX4_after_25 : decode cX4_after 25 = .ok (.bipush 12, 2) := by decide +kernel
theorem dX4_after_27 : decode cX4_after 27 = .ok (.if_icmp .eq 60, 3) := by decide +kernel
theorem dX4_after_30 : decode cX4_after 30 = .ok (.aload_n 0, 1) := by decide +kernel
theorem dX4_after_31 : decode cX4_after 31 = .ok (.getfield 7, 3) := by decide +kernel
theorem dX4_after_34 : decode cX4_after 34 = .ok (.iload_n 3, 1) := by decide +kernel
theorem dX4_after_35 : decode cX4_after 35 = .ok (.iaload, 1) := by decide +kernel
theorem dX4_after_36 : decode cX4_after 36 = .ok (.bipush 22, 2) := by decide +kernel
theorem dX4_after_38 : decode cX4_after 38 = .ok (.if_icmp .eq 49, 3) := by decide +kernel
theorem dX4_after_41 : decode cX4_after 41 = .ok (.aload_n 0, 1) := by decide +kernel
theorem dX4_after_42 : decode cX4_after 42 = .ok (.getfield 7, 3) := by decide +kernel
theorem dX4_after_45 : decode cX4_after 45 = .ok (.iload_n 3, 1) := by decide +kernel
theorem dX4_after_46 : decode cX4_after 46 = .ok (.iaload, 1) := by decide +kernel
theorem dX4_after_47 : decode cX4_after 47 = .ok (.bipush 16, 2) := by decide +kernel
theorem dX4_after_49 : decode cX4_after 49 = .ok (.if_icmp .eq 38, 3) := by decide +kernel
theorem dX4_after_52 : decode cX4_after 52 = .ok (.aload_n 0, 1) := by decide +kernel
theorem dX4_after_53 : decode cX4_after 53 = .ok (.getfield 7, 3) := by decide +kernel
theorem dX4_after_56 : decode cX4_after 56 = .ok (.iload_n 3, 1) := by decide +kernel
theorem dX4_after_57 : decode cX4_after 57 = .ok (.iaload, 1) := by decide +kernel
theorem dX4_after_58 : decode cX4_after 58 = .ok (.invokestatic 98, 3) := by decide +kernel
theorem dX4_after_61 : decode cX4_after 61 = .ok (.ifCond .eq 6, 3) := by decide +kernel
theorem dX4_after_64 : decode cX4_after 64 = .ok (.iinc 2 1, 3) := by decide +kernel
theorem dX4_after_67 : decode cX4_after 67 = .ok (.aload_n 0, 1) := by decide +kernel
theorem dX4_after_68 : decode cX4_after 68 = .ok (.getfield 7, 3) := by decide +kernel
theorem dX4_after_71 : decode cX4_after 71 = .ok (.iload_n 3, 1) := by decide +kernel
theorem dX4_after_72 : decode cX4_after 72 = .ok (.iaload, 1) := by decide +kernel
theorem dX4_after_73 : decode cX4_after 73 = .ok (.bipush 16, 2) := by decide +kernel
theorem dX4_after_75 : decode cX4_after 75 = .ok (.if_icmp .ne 6, 3) := by decide +kernel
theorem dX4_after_78 : decode cX4_after 78 = .ok (.iinc 2 (-1), 3) := by decide +kernel
theorem dX4_after_81 : decode cX4_after 81 = .ok (.iinc 3 1, 3) := by decide +kernel
theorem dX4_after_84 : decode cX4_after 84 = .ok (.goto (-80), 3) := by decide +kernel
theorem dX4_after_87 : decode cX4_after 87 = .ok (.iload_n 3, 1) := by decide +kernel
theorem dX4_after_88 : decode cX4_after 88 = .ok (.ireturn, 1) := by decide +kernel
theorem dX4_endOf_0 : decode cX4_endOf 0 = .ok (.aload_n 0, 1) := by decide +kernel
theorem dX4_endOf_1 : decode cX4_endOf 1 = .ok (.iload_n 1, 1) := by decide +kernel
theorem dX4_endOf_2 : decode cX4_endOf 2 = .ok (.iconst 1, 1) := by decide +kernel
theorem dX4_endOf_3 : decode cX4_endOf 3 = .ok (.iadd, 1) := by decide +kernel
theorem dX4_endOf_4 : decode cX4_endOf 4 = .ok (.invokevirtual 124, 3) := by decide +kernel
theorem dX4_endOf_7 : decode cX4_endOf 7 = .ok (.istore_n 2, 1) := by decide +kernel
theorem dX4_endOf_8 : decode cX4_endOf 8 = .ok (.aload_n 0, 1) := by decide +kernel
theorem dX4_endOf_9 : decode cX4_endOf 9 = .ok (.getfield 7, 3) := by decide +kernel
theorem dX4_endOf_12 : decode cX4_endOf 12 = .ok (.iload_n 2, 1) := by decide +kernel
theorem dX4_endOf_13 : decode cX4_endOf 13 = .ok (.iaload, 1) := by decide +kernel
theorem dX4_endOf_14 : decode cX4_endOf 14 = .ok (.bipush 16, 2) := by decide +kernel
theorem dX4_endOf_16 : decode cX4_endOf 16 = .ok (.if_icmp .eq 14, 3) := by decide +kernel
theorem dX4_endOf_19 : decode cX4_endOf 19 = .ok (.aload_n 0, 1) := by decide +kernel
theorem dX4_endOf_20 : decode cX4_endOf 20 = .ok (.iload_n 2, 1) := by decide +kernel
theorem dX4_endOf_21 : decode cX4_endOf 21 = .ok (.iconst 1, 1) := by decide +kernel
theorem dX4_endOf_22 : decode cX4_endOf 22 = .ok (.iadd, 1) := by decide +kernel
theorem dX4_endOf_23 : decode cX4_endOf 23 = .ok (.invokevirtual 124, 3) := by decide +kernel
theorem dX4_endOf_26 : decode cX4_endOf 26 = .ok (.istore_n 2, 1) := by decide +kernel
theorem dX4_endOf_27 : decode cX4_endOf 27 = .ok (.goto (-19), 3) := by decide +kernel
theorem dX4_endOf_30 : decode cX4_endOf 30 = .ok (.iload_n 2, 1) := by decide +kernel
theorem dX4_endOf_31 : decode cX4_endOf 31 = .ok (.ireturn, 1) := by decide +kernel
theorem dX4_partOf_0 : decode cX4_partOf 0 = .ok (.aload_n 0, 1) := by decide +kernel
theorem dX4_partOf_1 : decode cX4_partOf 1 = .ok (.iload_n 1, 1) := by decide +kernel
theorem dX4_partOf_2 : decode cX4_partOf 2 = .ok (.iconst 1, 1) := by decide +kernel
theorem dX4_partOf_3 : decode cX4_partOf 3 = .ok (.iadd, 1) := by decide +kernel
theorem dX4_partOf_4 : decode cX4_partOf 4 = .ok (.invokevirtual 124, 3) := by decide +kernel
theorem dX4_partOf_7 : decode cX4_partOf 7 = .ok (.istore_n 3, 1) := by decide +kernel
theorem dX4_partOf_8 : decode cX4_partOf 8 = .ok (.aload_n 0, 1) := by decide +kernel
theorem dX4_partOf_9 : decode cX4_partOf 9 = .ok (.getfield 7, 3) := by decide +kernel
theorem dX4_partOf_12 : decode cX4_partOf 12 = .ok (.iload_n 3, 1) := by decide +kernel
theorem dX4_partOf_13 : decode cX4_partOf 13 = .ok (.iaload, 1) := by decide +kernel
theorem dX4_partOf_14 : decode cX4_partOf 14 = .ok (.bipush 16, 2) := by decide +kernel
theorem dX4_partOf_16 : decode cX4_partOf 16 = .ok (.if_icmp .eq 24, 3) := by decide +kernel
theorem dX4_partOf_19 : decode cX4_partOf 19 = .ok (.aload_n 0, 1) := by decide +kernel
theorem dX4_partOf_20 : decode cX4_partOf 20 = .ok (.getfield 7, 3) := by decide +kernel
theorem dX4_partOf_23 : decode cX4_partOf 23 = .ok (.iload_n 3, 1) := by decide +kernel
theorem dX4_partOf_24 : decode cX4_partOf 24 = .ok (.iaload, 1) := by decide +kernel
theorem dX4_partOf_25 : decode cX4_partOf 25 = .ok (.iload_n 2, 1) := by decide +kernel
theorem dX4_partOf_26 : decode cX4_partOf 26 = .ok (.if_icmp .eq 14, 3) := by decide +kernel
theorem dX4_partOf_29 : decode cX4_partOf 29 = .ok (.aload_n 0, 1) := by decide +kernel
theorem dX4_partOf_30 : decode cX4_partOf 30 = .ok (.iload_n 3, 1) := by decide +kernel
theorem dX4_partOf_31 : decode cX4_partOf 31 = .ok (.iconst 1, 1) := by decide +kernel
theorem dX4_partOf_32 : decode cX4_partOf 32 = .ok (.iadd, 1) := by decide +kernel
theorem dX4_partOf_33 : decode cX4_partOf 33 = .ok (.invokevirtual 124, 3) := by decide +kernel
theorem dX4_partOf_36 : decode cX4_partOf 36 = .ok (.istore_n 3, 1) := by decide +kernel
theorem dX4_partOf_37 : decode cX4_partOf 37 = .ok (.goto (-29), 3) := by decide +kernel
theorem dX4_partOf_40 : decode cX4_partOf 40 = .ok (.aload_n 0, 1) := by decide +kernel
theorem dX4_partOf_41 : decode cX4_partOf 41 = .ok (.getfield 7, 3) := by decide +kernel
theorem dX4_partOf_44 : decode cX4_partOf 44 = .ok (.iload_n 3, 1) := by decide +kernel
theorem dX4_partOf_45 : decode cX4_partOf 45 = .ok (.iaload, 1) := by decide +kernel
theorem dX4_partOf_46 : decode cX4_partOf 46 = .ok (.iload_n 2, 1) := by decide +kernel
theorem dX4_partOf_47 : decode cX4_partOf 47 = .ok (.if_icmp .ne 7, 3) := by decide +kernel
theorem dX4_partOf_50 : decode cX4_partOf 50 = .ok (.iload_n 3, 1) := by decide +kernel
theorem dX4_partOf_51 : decode cX4_partOf 51 = .ok (.goto 4, 3) := by decide +kernel
theorem dX4_partOf_54 : decode cX4_partOf 54 = .ok (.iconst (-1), 1) := by decide +kernel
theorem dX4_partOf_55 : decode cX4_partOf 55 = .ok (.ireturn, 1) := by decide +kernel
theorem dX4_remember_0 : decode cX4_remember 0 = .ok (.aload_n 0, 1) := by decide +kernel
theorem dX4_remember_1 : decode cX4_remember 1 = .ok (.getfield 127, 3) := by decide +kernel
theorem dX4_remember_4 : decode cX4_remember 4 = .ok (.ifCond .ne 4, 3) := by decide +kernel
theorem dX4_remember_7 : decode cX4_remember 7 = .ok (.return_, 1) := by decide +kernel
theorem dX4_remember_8 : decode cX4_remember 8 = .ok (.aload_n 0, 1) := by decide +kernel
theorem dX4_remember_9 : decode cX4_remember 9 = .ok (.getfield 53, 3) := by decide +kernel
theorem dX4_remember_12 : decode cX4_remember 12 = .ok (.aload_n 0, 1) := by decide +kernel
theorem dX4_remember_13 : decode cX4_remember 13 = .ok (.getfield 130, 3) := by decide +kernel
theorem dX4_remember_16 : decode cX4_remember 16 = .ok (.iload_n 1, 1) := by decide +kernel
theorem dX4_remember_17 : decode cX4_remember 17 = .ok (.iastore, 1) := by decide +kernel
theorem dX4_remember_18 : decode cX4_remember 18 = .ok (.aload_n 0, 1) := by decide +kernel
theorem dX4_remember_19 : decode cX4_remember 19 = .ok (.getfield 56, 3) := by decide +kernel
theorem dX4_remember_22 : decode cX4_remember 22 = .ok (.aload_n 0, 1) := by decide +kernel
theorem dX4_remember_23 : decode cX4_remember 23 = .ok (.getfield 130, 3) := by decide +kernel
theorem dX4_remember_26 : decode cX4_remember 26 = .ok (.iload_n 2, 1) := by decide +kernel
theorem dX4_remember_27 : decode cX4_remember 27 = .ok (.iastore, 1) := by decide +kernel
theorem dX4_remember_28 : decode cX4_remember 28 = .ok (.aload_n 0, 1) := by decide +kernel
theorem dX4_remember_29 : decode cX4_remember 29 = .ok (.getfield 59, 3) := by decide +kernel
theorem dX4_remember_32 : decode cX4_remember 32 = .ok (.aload_n 0, 1) := by decide +kernel
theorem dX4_remember_33 : decode cX4_remember 33 = .ok (.getfield 130, 3) := by decide +kernel
theorem dX4_remember_36 : decode cX4_remember 36 = .ok (.iload_n 3, 1) := by decide +kernel
theorem dX4_remember_37 : decode cX4_remember 37 = .ok (.iastore, 1) := by decide +kernel
theorem dX4_remember_38 : decode cX4_remember 38 = .ok (.iload_n 1, 1) := by decide +kernel
theorem dX4_remember_39 : decode cX4_remember 39 = .ok (.bipush 6, 2) := by decide +kernel
theorem dX4_remember_41 : decode cX4_remember 41 = .ok (.if_icmp .ne 41, 3) := by decide +kernel
theorem dX4_remember_44 : decode cX4_remember 44 = .ok (.iconst 0, 1) := by decide +kernel
theorem dX4_remember_45 : decode cX4_remember 45 = .ok (.istore 4, 2) := by decide +kernel
theorem dX4_remember_47 : decode cX4_remember 47 = .ok (.iload 4, 2) := by decide +kernel
theorem dX4_remember_49 : decode cX4_remember 49 = .ok (.bipush 16, 2) := by decide +kernel
theorem dX4_remember_51 : decode cX4_remember 51 = .ok (.if_icmp .ge 31, 3) := by decide +kernel
theorem dX4_remember_54 : decode cX4_remember 54 = .ok (.aload_n 0, 1) := by decide +kernel
theorem dX4_remember_55 : decode cX4_remember 55 = .ok (.getfield 62, 3) := by decide +kernel
theorem dX4_remember_58 : decode cX4_remember 58 = .ok (.bipush 16, 2) := by decide +kernel
theorem dX4_remember_60 : decode cX4_remember 60 = .ok (.aload_n 0, 1) := by decide +kernel
theorem dX4_remember_61 : decode cX4_remember 61 = .ok (.getfield 130, 3) := by decide +kernel
theorem dX4_remember_64 : decode cX4_remember 64 = .ok (.imul, 1) := by decide +kernel
theorem dX4_remember_65 : decode cX4_remember 65 = .ok (.iload 4, 2) := by decide +kernel
theorem dX4_remember_67 : decode cX4_remember 67 = .ok (.iadd, 1) := by decide +kernel
theorem dX4_remember_68 : decode cX4_remember 68 = .ok (.aload_n 0, 1) := by decide +kernel
theorem dX4_remember_69 : decode cX4_remember 69 = .ok (.getfield 25, 3) := by decide +kernel
theorem dX4_remember_72 : decode cX4_remember 72 = .ok (.iload 4, 2) := by decide +kernel
theorem dX4_remember_74 : decode cX4_remember 74 = .ok (.iaload, 1) := by decide +kernel
theorem dX4_remember_75 : decode cX4_remember 75 = .ok (.iastore, 1) := by decide +kernel
theorem dX4_remember_76 : decode cX4_remember 76 = .ok (.iinc 4 1, 3) := by decide +kernel
theorem dX4_remember_79 : decode cX4_remember 79 = .ok (.goto (-32), 3) := by decide +kernel
theorem dX4_remember_82 : decode cX4_remember 82 = .ok (.aload_n 0, 1) := by decide +kernel
theorem dX4_remember_83 : decode cX4_remember 83 = .ok (.dup, 1) := by decide +kernel
theorem dX4_remember_84 : decode cX4_remember 84 = .ok (.getfield 130, 3) := by decide +kernel
theorem dX4_remember_87 : decode cX4_remember 87 = .ok (.iconst 1, 1) := by decide +kernel
theorem dX4_remember_88 : decode cX4_remember 88 = .ok (.iadd, 1) := by decide +kernel
theorem dX4_remember_89 : decode cX4_remember 89 = .ok (.putfield 130, 3) := by decide +kernel
theorem dX4_remember_92 : decode cX4_remember 92 = .ok (.return_, 1) := by decide +kernel
theorem dX4_undoOne_0 : decode cX4_undoOne 0 = .ok (.aload_n 0, 1) := by decide +kernel
theorem dX4_undoOne_1 : decode cX4_undoOne 1 = .ok (.dup, 1) := by decide +kernel
theorem dX4_undoOne_2 : decode cX4_undoOne 2 = .ok (.getfield 130, 3) := by decide +kernel
theorem dX4_undoOne_5 : decode cX4_undoOne 5 = .ok (.iconst 1, 1) := by decide +kernel
theorem dX4_undoOne_6 : decode cX4_undoOne 6 = .ok (.isub, 1) := by decide +kernel
theorem dX4_undoOne_7 : decode cX4_undoOne 7 = .ok (.putfield 130, 3) := by decide +kernel
theorem dX4_undoOne_10 : decode cX4_undoOne 10 = .ok (.aload_n 0, 1) := by decide +kernel
theorem dX4_undoOne_11 : decode cX4_undoOne 11 = .ok (.getfield 56, 3) := by decide +kernel
theorem dX4_undoOne_14 : decode cX4_undoOne 14 = .ok (.aload_n 0, 1) := by decide +kernel
theorem dX4_undoOne_15 : decode cX4_undoOne 15 = .ok (.getfield 130, 3) := by decide +kernel
theorem dX4_undoOne_18 : decode cX4_undoOne 18 = .ok (.iaload, 1) := by decide +kernel
theorem dX4_undoOne_19 : decode cX4_undoOne 19 = .ok (.istore_n 1, 1) := by decide +kernel
theorem dX4_undoOne_20 : decode cX4_undoOne 20 = .ok (.aload_n 0, 1) := by decide +kernel
theorem dX4_undoOne_21 : decode cX4_undoOne 21 = .ok (.getfield 53, 3) := by decide +kernel
theorem dX4_undoOne_24 : decode cX4_undoOne 24 = .ok (.aload_n 0, 1) := by decide +kernel
theorem dX4_undoOne_25 : decode cX4_undoOne 25 = .ok (.getfield 130, 3) := by decide +kernel
theorem dX4_undoOne_28 : decode cX4_undoOne 28 = .ok (.iaload, 1) := by decide +kernel
theorem dX4_undoOne_29 : decode cX4_undoOne 29 = .ok (.istore_n 2, 1) := by decide +kernel
theorem dX4_undoOne_30 : decode cX4_undoOne 30 = .ok (.iload_n 2, 1) := by decide +kernel
theorem dX4_undoOne_31 : decode cX4_undoOne 31 = .ok (.iconst 5, 1) := by decide +kernel
theorem dX4_undoOne_32 : decode cX4_undoOne 32 = .ok (.if_icmp .ne 26, 3) := by decide +kernel
theorem dX4_undoOne_35 : decode cX4_undoOne 35 = .ok (.iload_n 1, 1) := by decide +kernel
theorem dX4_undoOne_36 : decode cX4_undoOne 36 = .ok (.ifCond .lt 11, 3) := by decide +kernel
theorem dX4_undoOne_39 : decode cX4_undoOne 39 = .ok (.iload_n 1, 1) := by decide +kernel
theorem dX4_undoOne_40 : decode cX4_undoOne 40 = .ok (.aload_n 0, 1) := by decide +kernel
theorem dX4_undoOne_41 : decode cX4_undoOne 41 = .ok (.getfield 28, 3) := by decide +kernel
theorem dX4_undoOne_44 : decode cX4_undoOne 44 = .ok (.if_icmp .lt 14, 3) := by decide +kernel
theorem dX4_undoOne_47 : decode cX4_undoOne 47 = .ok (.aload_n 0, 1) := by decide +kernel
theorem dX4_undoOne_48 : decode cX4_undoOne 48 = .ok (.dup, 1) := by decide +kernel
theorem dX4_undoOne_49 : decode cX4_undoOne 49 = .ok (.getfield 133, 3) := by decide +kernel
theorem dX4_undoOne_52 : decode cX4_undoOne 52 = .ok (.iconst 1, 1) := by decide +kernel
theorem dX4_undoOne_53 : decode cX4_undoOne 53 = .ok (.iadd, 1) := by decide +kernel
theorem dX4_undoOne_54 : decode cX4_undoOne 54 = .ok (.putfield 133, 3) := by decide +kernel
theorem dX4_undoOne_57 : decode cX4_undoOne 57 = .ok (.return_, 1) := by decide +kernel
theorem dX4_undoOne_58 : decode cX4_undoOne 58 = .ok (.aload_n 0, 1) := by decide +kernel
theorem dX4_undoOne_59 : decode cX4_undoOne 59 = .ok (.dup, 1) := by decide +kernel
theorem dX4_undoOne_60 : decode cX4_undoOne 60 = .ok (.getfield 136, 3) := by decide +kernel
theorem dX4_undoOne_63 : decode cX4_undoOne 63 = .ok (.iconst 1, 1) := by decide +kernel
theorem dX4_undoOne_64 : decode cX4_undoOne 64 = .ok (.iadd, 1) := by decide +kernel
theorem dX4_undoOne_65 : decode cX4_undoOne 65 = .ok (.putfield 136, 3) := by decide +kernel
theorem dX4_undoOne_68 : decode cX4_undoOne 68 = .ok (.iload_n 2, 1) := by decide +kernel
theorem dX4_undoOne_69 : decode cX4_undoOne 69 = .ok (.iconst 1, 1) := by decide +kernel
theorem dX4_undoOne_70 : decode cX4_undoOne 70 = .ok (.if_icmp .ne 24, 3) := by decide +kernel
theorem dX4_undoOne_73 : decode cX4_undoOne 73 = .ok (.aload_n 0, 1) := by decide +kernel
theorem dX4_undoOne_74 : decode cX4_undoOne 74 = .ok (.getfield 22, 3) := by decide +kernel
theorem dX4_undoOne_77 : decode cX4_undoOne 77 = .ok (.iload_n 1, 1) := by decide +kernel
theorem dX4_undoOne_78 : decode cX4_undoOne 78 = .ok (.dup2, 1) := by decide +kernel
theorem dX4_undoOne_79 : decode cX4_undoOne 79 = .ok (.iaload, 1) := by decide +kernel
theorem dX4_undoOne_80 : decode cX4_undoOne 80 = .ok (.aload_n 0, 1) := by decide +kernel
theorem dX4_undoOne_81 : decode cX4_undoOne 81 = .ok (.getfield 59, 3) := by decide +kernel
theorem dX4_undoOne_84 : decode cX4_undoOne 84 = .ok (.aload_n 0, 1) := by decide +kernel
theorem dX4_undoOne_85 : decode cX4_undoOne 85 = .ok (.getfield 130, 3) := by decide +kernel
theorem dX4_undoOne_88 : decode cX4_undoOne 88 = .ok (.iaload, 1) := by decide +kernel
theorem dX4_undoOne_89 : decode cX4_undoOne 89 = .ok (.isub, 1) := by decide +kernel
theorem dX4_undoOne_90 : decode cX4_undoOne 90 = .ok (.iastore, 1) := by decide +kernel
theorem dX4_undoOne_91 : decode cX4_undoOne 91 = .ok (.goto 120, 3) := by decide +kernel
theorem dX4_undoOne_94 : decode cX4_undoOne 94 = .ok (.iload_n 2, 1) := by decide +kernel
theorem dX4_undoOne_95 : decode cX4_undoOne 95 = .ok (.iconst 2, 1) := by decide +kernel
theorem dX4_undoOne_96 : decode cX4_undoOne 96 = .ok (.if_icmp .ne 21, 3) := by decide +kernel
theorem dX4_undoOne_99 : decode cX4_undoOne 99 = .ok (.aload_n 0, 1) := by decide +kernel
theorem dX4_undoOne_100 : decode cX4_undoOne 100 = .ok (.getfield 22, 3) := by decide +kernel
theorem dX4_undoOne_103 : decode cX4_undoOne 103 = .ok (.iload_n 1, 1) := by decide +kernel
theorem dX4_undoOne_104 : decode cX4_undoOne 104 = .ok (.aload_n 0, 1) := by decide +kernel
theorem dX4_undoOne_105 : decode cX4_undoOne 105 = .ok (.getfield 59, 3) := by decide +kernel
theorem dX4_undoOne_108 : decode cX4_undoOne 108 = .ok (.aload_n 0, 1) := by decide +kernel
theorem dX4_undoOne_109 : decode cX4_undoOne 109 = .ok (.getfield 130, 3) := by decide +kernel
theorem dX4_undoOne_112 : decode cX4_undoOne 112 = .ok (.iaload, 1) := by decide +kernel
theorem dX4_undoOne_113 : decode cX4_undoOne 113 = .ok (.iastore, 1) := by decide +kernel
theorem dX4_undoOne_114 : decode cX4_undoOne 114 = .ok (.goto 97, 3) := by decide +kernel
theorem dX4_undoOne_117 : decode cX4_undoOne 117 = .ok (.iload_n 2, 1) := by decide +kernel
theorem dX4_undoOne_118 : decode cX4_undoOne 118 = .ok (.iconst 5, 1) := by decide +kernel
theorem dX4_undoOne_119 : decode cX4_undoOne 119 = .ok (.if_icmp .ne 21, 3) := by decide +kernel
theorem dX4_undoOne_122 : decode cX4_undoOne 122 = .ok (.aload_n 0, 1) := by decide +kernel
theorem dX4_undoOne_123 : decode cX4_undoOne 123 = .ok (.getfield 25, 3) := by decide +kernel
theorem dX4_undoOne_126 : decode cX4_undoOne 126 = .ok (.iload_n 1, 1) := by decide +kernel
theorem dX4_undoOne_127 : decode cX4_undoOne 127 = .ok (.aload_n 0, 1) := by decide +kernel
theorem dX4_undoOne_128 : decode cX4_undoOne 128 = .ok (.getfield 59, 3) := by decide +kernel
theorem dX4_undoOne_131 : decode cX4_undoOne 131 = .ok (.aload_n 0, 1) := by decide +kernel
theorem dX4_undoOne_132 : decode cX4_undoOne 132 = .ok (.getfield 130, 3) := by decide +kernel
theorem dX4_undoOne_135 : decode cX4_undoOne 135 = .ok (.iaload, 1) := by decide +kernel
theorem dX4_undoOne_136 : decode cX4_undoOne 136 = .ok (.iastore, 1) := by decide +kernel
theorem dX4_undoOne_137 : decode cX4_undoOne 137 = .ok (.goto 74, 3) := by decide +kernel
theorem dX4_undoOne_140 : decode cX4_undoOne 140 = .ok (.iload_n 2, 1) := by decide +kernel
theorem dX4_undoOne_141 : decode cX4_undoOne 141 = .ok (.bipush 7, 2) := by decide +kernel
theorem dX4_undoOne_143 : decode cX4_undoOne 143 = .ok (.if_icmp .ne 21, 3) := by decide +kernel
theorem dX4_undoOne_146 : decode cX4_undoOne 146 = .ok (.aload_n 0, 1) := by decide +kernel
theorem dX4_undoOne_147 : decode cX4_undoOne 147 = .ok (.getfield 32, 3) := by decide +kernel
theorem dX4_undoOne_150 : decode cX4_undoOne 150 = .ok (.iload_n 1, 1) := by decide +kernel
theorem dX4_undoOne_151 : decode cX4_undoOne 151 = .ok (.aload_n 0, 1) := by decide +kernel
theorem dX4_undoOne_152 : decode cX4_undoOne 152 = .ok (.getfield 59, 3) := by decide +kernel
theorem dX4_undoOne_155 : decode cX4_undoOne 155 = .ok (.aload_n 0, 1) := by decide +kernel
theorem dX4_undoOne_156 : decode cX4_undoOne 156 = .ok (.getfield 130, 3) := by decide +kernel
theorem dX4_undoOne_159 : decode cX4_undoOne 159 = .ok (.iaload, 1) := by decide +kernel
theorem dX4_undoOne_160 : decode cX4_undoOne 160 = .ok (.iastore, 1) := by decide +kernel
theorem dX4_undoOne_161 : decode cX4_undoOne 161 = .ok (.goto 50, 3) := by decide +kernel
theorem dX4_undoOne_164 : decode cX4_undoOne 164 = .ok (.aload_n 0, 1) := by decide +kernel
theorem dX4_undoOne_165 : decode cX4_undoOne 165 = .ok (.aload_n 0, 1) := by decide +kernel
theorem dX4_undoOne_166 : decode cX4_undoOne 166 = .ok (.getfield 59, 3) := by decide +kernel
theorem dX4_undoOne_169 : decode cX4_undoOne 169 = .ok (.aload_n 0, 1) := by decide +kernel
theorem dX4_undoOne_170 : decode cX4_undoOne 170 = .ok (.getfield 130, 3) := by decide +kernel
theorem dX4_undoOne_173 : decode cX4_undoOne 173 = .ok (.iaload, 1) := by decide +kernel
theorem dX4_undoOne_174 : decode cX4_undoOne 174 = .ok (.putfield 28, 3) := by decide +kernel
theorem dX4_undoOne_177 : decode cX4_undoOne 177 = .ok (.iconst 0, 1) := by decide +kernel
theorem dX4_undoOne_178 : decode cX4_undoOne 178 = .ok (.istore_n 3, 1) := by decide +kernel
theorem dX4_undoOne_179 : decode cX4_undoOne 179 = .ok (.iload_n 3, 1) := by decide +kernel
theorem dX4_undoOne_180 : decode cX4_undoOne 180 = .ok (.bipush 16, 2) := by decide +kernel
theorem dX4_undoOne_182 : decode cX4_undoOne 182 = .ok (.if_icmp .ge 29, 3) := by decide +kernel
theorem dX4_undoOne_185 : decode cX4_undoOne 185 = .ok (.aload_n 0, 1) := by decide +kernel
theorem dX4_undoOne_186 : decode cX4_undoOne 186 = .ok (.getfield 25, 3) := by decide +kernel
theorem dX4_undoOne_189 : decode cX4_undoOne 189 = .ok (.iload_n 3, 1) := by decide +kernel
theorem dX4_undoOne_190 : decode cX4_undoOne 190 = .ok (.aload_n 0, 1) := by decide +kernel
theorem dX4_undoOne_191 : decode cX4_undoOne 191 = .ok (.getfield 62, 3) := by decide +kernel
theorem dX4_undoOne_194 : decode cX4_undoOne 194 = .ok (.bipush 16, 2) := by decide +kernel
theorem dX4_undoOne_196 : decode cX4_undoOne 196 = .ok (.aload_n 0, 1) := by decide +kernel
theorem dX4_undoOne_197 : decode cX4_undoOne 197 = .ok (.getfield 130, 3) := by decide +kernel
theorem dX4_undoOne_200 : decode cX4_undoOne 200 = .ok (.imul, 1) := by decide +kernel
theorem dX4_undoOne_201 : decode cX4_undoOne 201 = .ok (.iload_n 3, 1) := by decide +kernel
theorem dX4_undoOne_202 : decode cX4_undoOne 202 = .ok (.iadd, 1) := by decide +kernel
theorem dX4_undoOne_203 : decode cX4_undoOne 203 = .ok (.iaload, 1) := by decide +kernel
theorem dX4_undoOne_204 : decode cX4_undoOne 204 = .ok (.iastore, 1) := by decide +kernel
theorem dX4_undoOne_205 : decode cX4_undoOne 205 = .ok (.iinc 3 1, 3) := by decide +kernel
theorem dX4_undoOne_208 : decode cX4_undoOne 208 = .ok (.goto (-29), 3) := by decide +kernel
theorem dX4_undoOne_211 : decode cX4_undoOne 211 = .ok (.return_, 1) := by decide +kernel
theorem dX4_pays_0 : decode cX4_pays 0 = .ok (.aload_n 0, 1) := by decide +kernel
theorem dX4_pays_1 : decode cX4_pays 1 = .ok (.getfield 139, 3) := by decide +kernel
theorem dX4_pays_4 : decode cX4_pays 4 = .ok (.bipush 60, 2) := by decide +kernel
theorem dX4_pays_6 : decode cX4_pays 6 = .ok (.if_icmp .ne 5, 3) := by decide +kernel
theorem dX4_pays_9 : decode cX4_pays 9 = .ok (.iconst 0, 1) := by decide +kernel
theorem dX4_pays_10 : decode cX4_pays 10 = .ok (.ireturn, 1) := by decide +kernel
theorem dX4_pays_11 : decode cX4_pays 11 = .ok (.aload_n 0, 1) := by decide +kernel
theorem dX4_pays_12 : decode cX4_pays 12 = .ok (.dup, 1) := by decide +kernel
theorem dX4_pays_13 : decode cX4_pays 13 = .ok (.getfield 139, 3) := by decide +kernel
theorem dX4_pays_16 : decode cX4_pays 16 = .ok (.iconst 1, 1) := by decide +kernel
theorem dX4_pays_17 : decode cX4_pays 17 = .ok (.iadd, 1) := by decide +kernel
theorem dX4_pays_18 : decode cX4_pays 18 = .ok (.putfield 139, 3) := by decide +kernel
theorem dX4_pays_21 : decode cX4_pays 21 = .ok (.iconst 1, 1) := by decide +kernel
theorem dX4_pays_22 : decode cX4_pays 22 = .ok (.ireturn, 1) := by decide +kernel
theorem dX4_fails_0 : decode cX4_fails 0 = .ok (.aload_n 0, 1) := by decide +kernel
theorem dX4_fails_1 : decode cX4_fails 1 = .ok (.iload_n 1, 1) := by decide +kernel
theorem dX4_fails_2 : decode cX4_fails 2 = .ok (.putfield 142, 3) := by decide +kernel
theorem dX4_fails_5 : decode cX4_fails 5 = .ok (.iconst 1, 1) := by decide +kernel
theorem dX4_fails_6 : decode cX4_fails 6 = .ok (.ireturn, 1) := by decide +kernel
theorem dX4_note_0 : decode cX4_note 0 = .ok (.aload_n 0, 1) := by decide +kernel
theorem dX4_note_1 : decode cX4_note 1 = .ok (.getfield 145, 3) := by decide +kernel
theorem dX4_note_4 : decode cX4_note 4 = .ok (.bipush 100, 2) := by decide +kernel
theorem dX4_note_6 : decode cX4_note 6 = .ok (.if_icmp .ne 4, 3) := by decide +kernel
theorem dX4_note_9 : decode cX4_note 9 = .ok (.return_, 1) := by decide +kernel
theorem dX4_note_10 : decode cX4_note 10 = .ok (.aload_n 0, 1) := by decide +kernel
theorem dX4_note_11 : decode cX4_note 11 = .ok (.getfield 50, 3) := by decide +kernel
theorem dX4_note_14 : decode cX4_note 14 = .ok (.aload_n 0, 1) := by decide +kernel
theorem dX4_note_15 : decode cX4_note 15 = .ok (.getfield 145, 3) := by decide +kernel
theorem dX4_note_18 : decode cX4_note 18 = .ok (.iload_n 1, 1) := by decide +kernel
theorem dX4_note_19 : decode cX4_note 19 = .ok (.iastore, 1) := by decide +kernel
theorem dX4_note_20 : decode cX4_note 20 = .ok (.aload_n 0, 1) := by decide +kernel
theorem dX4_note_21 : decode cX4_note 21 = .ok (.dup, 1) := by decide +kernel
theorem dX4_note_22 : decode cX4_note 22 = .ok (.getfield 145, 3) := by decide +kernel
theorem dX4_note_25 : decode cX4_note 25 = .ok (.iconst 1, 1) := by decide +kernel
theorem dX4_note_26 : decode cX4_note 26 = .ok (.iadd, 1) := by decide +kernel
theorem dX4_note_27 : decode cX4_note 27 = .ok (.putfield 145, 3) := by decide +kernel
theorem dX4_note_30 : decode cX4_note 30 = .ok (.return_, 1) := by decide +kernel
theorem dX4_plain_0 : decode cX4_plain 0 = .ok (.iload_n 1, 1) := by decide +kernel
theorem dX4_plain_1 : decode cX4_plain 1 = .ok (.tableswitch 328 0 23 #[111, 123, 142, 163, 211, 211, 219, 230, 264, 275, 328, 328, 328, 328, 328, 328, 328, 281, 286, 292, 328, 328, 328, 304], 111) := by decide +kernel
theorem dX4_plain_112 : decode cX4_plain 112 = .ok (.aload_n 0, 1) := by decide +kernel
theorem dX4_plain_113 : decode cX4_plain 113 = .ok (.aload_n 0, 1) := by decide +kernel
theorem dX4_plain_114 : decode cX4_plain 114 = .ok (.getfield 22, 3) := by decide +kernel
theorem dX4_plain_117 : decode cX4_plain 117 = .ok (.iload_n 2, 1) := by decide +kernel
theorem dX4_plain_118 : decode cX4_plain 118 = .ok (.iaload, 1) := by decide +kernel
theorem dX4_plain_119 : decode cX4_plain 119 = .ok (.invokevirtual 148, 3) := by decide +kernel
theorem dX4_plain_122 : decode cX4_plain 122 = .ok (.iconst 0, 1) := by decide +kernel
theorem dX4_plain_123 : decode cX4_plain 123 = .ok (.ireturn, 1) := by decide +kernel
theorem dX4_plain_124 : decode cX4_plain 124 = .ok (.aload_n 0, 1) := by decide +kernel
theorem dX4_plain_125 : decode cX4_plain 125 = .ok (.getfield 22, 3) := by decide +kernel
theorem dX4_plain_128 : decode cX4_plain 128 = .ok (.iload_n 2, 1) := by decide +kernel
theorem dX4_plain_129 : decode cX4_plain 129 = .ok (.dup2, 1) := by decide +kernel
theorem dX4_plain_130 : decode cX4_plain 130 = .ok (.iaload, 1) := by decide +kernel
theorem dX4_plain_131 : decode cX4_plain 131 = .ok (.iload_n 3, 1) := by decide +kernel
theorem dX4_plain_132 : decode cX4_plain 132 = .ok (.iadd, 1) := by decide +kernel
theorem dX4_plain_133 : decode cX4_plain 133 = .ok (.iastore, 1) := by decide +kernel
theorem dX4_plain_134 : decode cX4_plain 134 = .ok (.aload_n 0, 1) := by decide +kernel
theorem dX4_plain_135 : decode cX4_plain 135 = .ok (.iconst 1, 1) := by decide +kernel
theorem dX4_plain_136 : decode cX4_plain 136 = .ok (.iload_n 2, 1) := by decide +kernel
theorem dX4_plain_137 : decode cX4_plain 137 = .ok (.iload_n 3, 1) := by decide +kernel
theorem dX4_plain_138 : decode cX4_plain 138 = .ok (.invokevirtual 151, 3) := by decide +kernel
theorem dX4_plain_141 : decode cX4_plain 141 = .ok (.iconst 0, 1) := by decide +kernel
theorem dX4_plain_142 : decode cX4_plain 142 = .ok (.ireturn, 1) := by decide +kernel
theorem dX4_plain_143 : decode cX4_plain 143 = .ok (.aload_n 0, 1) := by decide +kernel
theorem dX4_plain_144 : decode cX4_plain 144 = .ok (.iconst 2, 1) := by decide +kernel
theorem dX4_plain_145 : decode cX4_plain 145 = .ok (.iload_n 2, 1) := by decide +kernel
theorem dX4_plain_146 : decode cX4_plain 146 = .ok (.aload_n 0, 1) := by decide +kernel
theorem dX4_plain_147 : decode cX4_plain 147 = .ok (.getfield 22, 3) := by decide +kernel
theorem dX4_plain_150 : decode cX4_plain 150 = .ok (.iload_n 2, 1) := by decide +kernel
theorem dX4_plain_151 : decode cX4_plain 151 = .ok (.iaload, 1) := by decide +kernel
theorem dX4_plain_152 : decode cX4_plain 152 = .ok (.invokevirtual 151, 3) := by decide +kernel
theorem dX4_plain_155 : decode cX4_plain 155 = .ok (.aload_n 0, 1) := by decide +kernel
theorem dX4_plain_156 : decode cX4_plain 156 = .ok (.getfield 22, 3) := by decide +kernel
theorem dX4_plain_159 : decode cX4_plain 159 = .ok (.iload_n 2, 1) := by decide +kernel
theorem dX4_plain_160 : decode cX4_plain 160 = .ok (.iload_n 3, 1) := by decide +kernel
theorem dX4_plain_161 : decode cX4_plain 161 = .ok (.iastore, 1) := by decide +kernel
theorem dX4_plain_162 : decode cX4_plain 162 = .ok (.iconst 0, 1) := by decide +kernel
theorem dX4_plain_163 : decode cX4_plain 163 = .ok (.ireturn, 1) := by decide +kernel
theorem dX4_plain_164 : decode cX4_plain 164 = .ok (.aload_n 0, 1) := by decide +kernel
theorem dX4_plain_165 : decode cX4_plain 165 = .ok (.getfield 22, 3) := by decide +kernel
theorem dX4_plain_168 : decode cX4_plain 168 = .ok (.iload_n 3, 1) := by decide +kernel
theorem dX4_plain_169 : decode cX4_plain 169 = .ok (.iaload, 1) := by decide +kernel
theorem dX4_plain_170 : decode cX4_plain 170 = .ok (.ifCond .ne 9, 3) := by decide +kernel
theorem dX4_plain_173 : decode cX4_plain 173 = .ok (.aload_n 0, 1) := by decide +kernel
theorem dX4_plain_174 : decode cX4_plain 174 = .ok (.iconst 1, 1) := by decide +kernel
theorem dX4_plain_175 : decode cX4_plain 175 = .ok (.invokevirtual 155, 3) := by decide +kernel
theorem dX4_plain_178 : decode cX4_plain 178 = .ok (.ireturn, 1) := by decide +kernel
theorem dX4_plain_179 : decode cX4_plain 179 = .ok (.aload_n 0, 1) := by decide +kernel
theorem dX4_plain_180 : decode cX4_plain 180 = .ok (.iconst 2, 1) := by decide +kernel
theorem dX4_plain_181 : decode cX4_plain 181 = .ok (.iload_n 2, 1) := by decide +kernel
theorem dX4_plain_182 : decode cX4_plain 182 = .ok (.aload_n 0, 1) := by decide +kernel
theorem dX4_plain_183 : decode cX4_plain 183 = .ok (.getfield 22, 3) := by decide +kernel
theorem dX4_plain_186 : decode cX4_plain 186 = .ok (.iload_n 2, 1) := by decide +kernel
theorem dX4_plain_187 : decode cX4_plain 187 = .ok (.iaload, 1) := by decide +kernel
theorem dX4_plain_188 : decode cX4_plain 188 = .ok (.invokevirtual 151, 3) := by decide +kernel
theorem dX4_plain_191 : decode cX4_plain 191 = .ok (.aload_n 0, 1) := by decide +kernel
theorem dX4_plain_192 : decode cX4_plain 192 = .ok (.getfield 22, 3) := by decide +kernel
theorem dX4_plain_195 : decode cX4_plain 195 = .ok (.iload_n 2, 1) := by decide +kernel
theorem dX4_plain_196 : decode cX4_plain 196 = .ok (.aload_n 0, 1) := by decide +kernel
theorem dX4_plain_197 : decode cX4_plain 197 = .ok (.getfield 22, 3) := by decide +kernel
theorem dX4_plain_200 : decode cX4_plain 200 = .ok (.iload_n 2, 1) := by decide +kernel
theorem dX4_plain_201 : decode cX4_plain 201 = .ok (.iaload, 1) := by decide +kernel
theorem dX4_plain_202 : decode cX4_plain 202 = .ok (.aload_n 0, 1) := by decide +kernel
theorem dX4_plain_203 : decode cX4_plain 203 = .ok (.getfield 22, 3) := by decide +kernel
theorem dX4_plain_206 : decode cX4_plain 206 = .ok (.iload_n 3, 1) := by decide +kernel
theorem dX4_plain_207 : decode cX4_plain 207 = .ok (.iaload, 1) := by decide +kernel
theorem dX4_plain_208 : decode cX4_plain 208 = .ok (.idiv, 1) := by decide +kernel
theorem dX4_plain_209 : decode cX4_plain 209 = .ok (.iastore, 1) := by decide +kernel
theorem dX4_plain_210 : decode cX4_plain 210 = .ok (.iconst 0, 1) := by decide +kernel
theorem dX4_plain_211 : decode cX4_plain 211 = .ok (.ireturn, 1) := by decide +kernel
theorem dX4_plain_212 : decode cX4_plain 212 = .ok (.aload_n 0, 1) := by decide +kernel
theorem dX4_plain_213 : decode cX4_plain 213 = .ok (.iload_n 1, 1) := by decide +kernel
theorem dX4_plain_214 : decode cX4_plain 214 = .ok (.iload_n 2, 1) := by decide +kernel
theorem dX4_plain_215 : decode cX4_plain 215 = .ok (.iload_n 3, 1) := by decide +kernel
theorem dX4_plain_216 : decode cX4_plain 216 = .ok (.invokevirtual 158, 3) := by decide +kernel
theorem dX4_plain_219 : decode cX4_plain 219 = .ok (.ireturn, 1) := by decide +kernel
theorem dX4_plain_220 : decode cX4_plain 220 = .ok (.aload_n 0, 1) := by decide +kernel
theorem dX4_plain_221 : decode cX4_plain 221 = .ok (.aload_n 0, 1) := by decide +kernel
theorem dX4_plain_222 : decode cX4_plain 222 = .ok (.getfield 22, 3) := by decide +kernel
theorem dX4_plain_225 : decode cX4_plain 225 = .ok (.iload_n 2, 1) := by decide +kernel
theorem dX4_plain_226 : decode cX4_plain 226 = .ok (.iaload, 1) := by decide +kernel
theorem dX4_plain_227 : decode cX4_plain 227 = .ok (.invokevirtual 162, 3) := by decide +kernel
theorem dX4_plain_230 : decode cX4_plain 230 = .ok (.ireturn, 1) := by decide +kernel
theorem dX4_plain_231 : decode cX4_plain 231 = .ok (.aload_n 0, 1) := by decide +kernel
theorem dX4_plain_232 : decode cX4_plain 232 = .ok (.bipush 7, 2) := by decide +kernel
theorem dX4_plain_234 : decode cX4_plain 234 = .ok (.iload_n 2, 1) := by decide +kernel
theorem dX4_plain_235 : decode cX4_plain 235 = .ok (.aload_n 0, 1) := by decide +kernel
theorem dX4_plain_236 : decode cX4_plain 236 = .ok (.getfield 32, 3) := by decide +kernel
theorem dX4_plain_239 : decode cX4_plain 239 = .ok (.iload_n 2, 1) := by decide +kernel
theorem dX4_plain_240 : decode cX4_plain 240 = .ok (.iaload, 1) := by decide +kernel
theorem dX4_plain_241 : decode cX4_plain 241 = .ok (.invokevirtual 151, 3) := by decide +kernel
theorem dX4_plain_244 : decode cX4_plain 244 = .ok (.aload_n 0, 1) := by decide +kernel
theorem dX4_plain_245 : decode cX4_plain 245 = .ok (.getfield 32, 3) := by decide +kernel
theorem dX4_plain_248 : decode cX4_plain 248 = .ok (.iload_n 2, 1) := by decide +kernel
theorem dX4_plain_249 : decode cX4_plain 249 = .ok (.iload_n 3, 1) := by decide +kernel
theorem dX4_plain_250 : decode cX4_plain 250 = .ok (.ifCond .ne 7, 3) := by decide +kernel
theorem dX4_plain_253 : decode cX4_plain 253 = .ok (.iconst 0, 1) := by decide +kernel
theorem dX4_plain_254 : decode cX4_plain 254 = .ok (.goto 8, 3) := by decide +kernel
theorem dX4_plain_257 : decode cX4_plain 257 = .ok (.aload_n 0, 1) := by decide +kernel
theorem dX4_plain_258 : decode cX4_plain 258 = .ok (.iload_n 3, 1) := by decide +kernel
theorem dX4_plain_259 : decode cX4_plain 259 = .ok (.invokevirtual 165, 3) := by decide +kernel
theorem dX4_plain_262 : decode cX4_plain 262 = .ok (.iastore, 1) := by decide +kernel
theorem dX4_plain_263 : decode cX4_plain 263 = .ok (.iconst 0, 1) := by decide +kernel
theorem dX4_plain_264 : decode cX4_plain 264 = .ok (.ireturn, 1) := by decide +kernel
theorem dX4_plain_265 : decode cX4_plain 265 = .ok (.aload_n 0, 1) := by decide +kernel
theorem dX4_plain_266 : decode cX4_plain 266 = .ok (.aload_n 0, 1) := by decide +kernel
theorem dX4_plain_267 : decode cX4_plain 267 = .ok (.getfield 32, 3) := by decide +kernel
theorem dX4_plain_270 : decode cX4_plain 270 = .ok (.iload_n 2, 1) := by decide +kernel
theorem dX4_plain_271 : decode cX4_plain 271 = .ok (.iaload, 1) := by decide +kernel
theorem dX4_plain_272 : decode cX4_plain 272 = .ok (.invokevirtual 168, 3) := by decide +kernel
theorem dX4_plain_275 : decode cX4_plain 275 = .ok (.ireturn, 1) := by decide +kernel
theorem dX4_plain_276 : decode cX4_plain 276 = .ok (.aload_n 0, 1) := by decide +kernel
theorem dX4_plain_277 : decode cX4_plain 277 = .ok (.iload_n 3, 1) := by decide +kernel
theorem dX4_plain_278 : decode cX4_plain 278 = .ok (.invokevirtual 155, 3) := by decide +kernel
theorem dX4_plain_281 : decode cX4_plain 281 = .ok (.ireturn, 1) := by decide +kernel
theorem dX4_plain_282 : decode cX4_plain 282 = .ok (.bipush 100, 2) := by decide +kernel
theorem dX4_plain_284 : decode cX4_plain 284 = .ok (.iload_n 3, 1) := by decide +kernel
theorem dX4_plain_285 : decode cX4_plain 285 = .ok (.iadd, 1) := by decide +kernel
theorem dX4_plain_286 : decode cX4_plain 286 = .ok (.ireturn, 1) := by decide +kernel
theorem dX4_plain_287 : decode cX4_plain 287 = .ok (.sipush 200, 3) := by decide +kernel
theorem dX4_plain_290 : decode cX4_plain 290 = .ok (.iload_n 3, 1) := by decide +kernel
theorem dX4_plain_291 : decode cX4_plain 291 = .ok (.iadd, 1) := by decide +kernel
theorem dX4_plain_292 : decode cX4_plain 292 = .ok (.ireturn, 1) := by decide +kernel
theorem dX4_plain_293 : decode cX4_plain 293 = .ok (.aload_n 0, 1) := by decide +kernel
theorem dX4_plain_294 : decode cX4_plain 294 = .ok (.aload_n 0, 1) := by decide +kernel
theorem dX4_plain_295 : decode cX4_plain 295 = .ok (.getfield 22, 3) := by decide +kernel
theorem dX4_plain_298 : decode cX4_plain 298 = .ok (.iload_n 2, 1) := by decide +kernel
theorem dX4_plain_299 : decode cX4_plain 299 = .ok (.iaload, 1) := by decide +kernel
theorem dX4_plain_300 : decode cX4_plain 300 = .ok (.putfield 171, 3) := by decide +kernel
theorem dX4_plain_303 : decode cX4_plain 303 = .ok (.iconst 2, 1) := by decide +kernel
theorem dX4_plain_304 : decode cX4_plain 304 = .ok (.ireturn, 1) := by decide +kernel
theorem dX4_plain_305 : decode cX4_plain 305 = .ok (.aload_n 0, 1) := by decide +kernel
theorem dX4_plain_306 : decode cX4_plain 306 = .ok (.getfield 127, 3) := by decide +kernel
theorem dX4_plain_309 : decode cX4_plain 309 = .ok (.ifCond .le 18, 3) := by decide +kernel
theorem dX4_plain_312 : decode cX4_plain 312 = .ok (.aload_n 0, 1) := by decide +kernel
theorem dX4_plain_313 : decode cX4_plain 313 = .ok (.aload_n 0, 1) := by decide +kernel
theorem dX4_plain_314 : decode cX4_plain 314 = .ok (.getfield 65, 3) := by decide +kernel
theorem dX4_plain_317 : decode cX4_plain 317 = .ok (.aload_n 0, 1) := by decide +kernel
theorem dX4_plain_318 : decode cX4_plain 318 = .ok (.getfield 127, 3) := by decide +kernel
theorem dX4_plain_321 : decode cX4_plain 321 = .ok (.iconst 1, 1) := by decide +kernel
theorem dX4_plain_322 : decode cX4_plain 322 = .ok (.isub, 1) := by decide +kernel
theorem dX4_plain_323 : decode cX4_plain 323 = .ok (.iaload, 1) := by decide +kernel
theorem dX4_plain_324 : decode cX4_plain 324 = .ok (.putfield 130, 3) := by decide +kernel
theorem dX4_plain_327 : decode cX4_plain 327 = .ok (.iconst 0, 1) := by decide +kernel
theorem dX4_plain_328 : decode cX4_plain 328 = .ok (.ireturn, 1) := by decide +kernel
theorem dX4_plain_329 : decode cX4_plain 329 = .ok (.iconst 0, 1) := by decide +kernel
theorem dX4_plain_330 : decode cX4_plain 330 = .ok (.ireturn, 1) := by decide +kernel
theorem dX4_makes_0 : decode cX4_makes 0 = .ok (.iload_n 1, 1) := by decide +kernel
theorem dX4_makes_1 : decode cX4_makes 1 = .ok (.ifCond .ge 9, 3) := by decide +kernel
theorem dX4_makes_4 : decode cX4_makes 4 = .ok (.aload_n 0, 1) := by decide +kernel
theorem dX4_makes_5 : decode cX4_makes 5 = .ok (.iconst 3, 1) := by decide +kernel
theorem dX4_makes_6 : decode cX4_makes 6 = .ok (.invokevirtual 155, 3) := by decide +kernel
theorem dX4_makes_9 : decode cX4_makes 9 = .ok (.ireturn, 1) := by decide +kernel
theorem dX4_makes_10 : decode cX4_makes 10 = .ok (.iload_n 1, 1) := by decide +kernel
theorem dX4_makes_11 : decode cX4_makes 11 = .ok (.bipush 16, 2) := by decide +kernel
theorem dX4_makes_13 : decode cX4_makes 13 = .ok (.if_icmp .le 9, 3) := by decide +kernel
theorem dX4_makes_16 : decode cX4_makes 16 = .ok (.aload_n 0, 1) := by decide +kernel
theorem dX4_makes_17 : decode cX4_makes 17 = .ok (.iconst 4, 1) := by decide +kernel
theorem dX4_makes_18 : decode cX4_makes 18 = .ok (.invokevirtual 155, 3) := by decide +kernel
theorem dX4_makes_21 : decode cX4_makes 21 = .ok (.ireturn, 1) := by decide +kernel
theorem dX4_makes_22 : decode cX4_makes 22 = .ok (.aload_n 0, 1) := by decide +kernel
theorem dX4_makes_23 : decode cX4_makes 23 = .ok (.bipush 6, 2) := by decide +kernel
theorem dX4_makes_25 : decode cX4_makes 25 = .ok (.iconst 0, 1) := by decide +kernel
theorem dX4_makes_26 : decode cX4_makes 26 = .ok (.aload_n 0, 1) := by decide +kernel
theorem dX4_makes_27 : decode cX4_makes 27 = .ok (.getfield 28, 3) := by decide +kernel
theorem dX4_makes_30 : decode cX4_makes 30 = .ok (.invokevirtual 151, 3) := by decide +kernel
theorem dX4_makes_33 : decode cX4_makes 33 = .ok (.aload_n 0, 1) := by decide +kernel
theorem dX4_makes_34 : decode cX4_makes 34 = .ok (.iload_n 1, 1) := by decide +kernel
theorem dX4_makes_35 : decode cX4_makes 35 = .ok (.putfield 28, 3) := by decide +kernel
theorem dX4_makes_38 : decode cX4_makes 38 = .ok (.iconst 0, 1) := by decide +kernel
theorem dX4_makes_39 : decode cX4_makes 39 = .ok (.istore_n 2, 1) := by decide +kernel
theorem dX4_makes_40 : decode cX4_makes 40 = .ok (.iload_n 2, 1) := by decide +kernel
theorem dX4_makes_41 : decode cX4_makes 41 = .ok (.bipush 16, 2) := by decide +kernel
theorem dX4_makes_43 : decode cX4_makes 43 = .ok (.if_icmp .ge 16, 3) := by decide +kernel
theorem dX4_makes_46 : decode cX4_makes 46 = .ok (.aload_n 0, 1) := by decide +kernel
theorem dX4_makes_47 : decode cX4_makes 47 = .ok (.getfield 25, 3) := by decide +kernel
theorem dX4_makes_50 : decode cX4_makes 50 = .ok (.iload_n 2, 1) := by decide +kernel
theorem dX4_makes_51 : decode cX4_makes 51 = .ok (.iconst 0, 1) := by decide +kernel
theorem dX4_makes_52 : decode cX4_makes 52 = .ok (.iastore, 1) := by decide +kernel
theorem dX4_makes_53 : decode cX4_makes 53 = .ok (.iinc 2 1, 3) := by decide +kernel
theorem dX4_makes_56 : decode cX4_makes 56 = .ok (.goto (-16), 3) := by decide +kernel
theorem dX4_makes_59 : decode cX4_makes 59 = .ok (.iconst 0, 1) := by decide +kernel
theorem dX4_makes_60 : decode cX4_makes 60 = .ok (.ireturn, 1) := by decide +kernel
theorem dX4_onRow_0 : decode cX4_onRow 0 = .ok (.aload_n 0, 1) := by decide +kernel
theorem dX4_onRow_1 : decode cX4_onRow 1 = .ok (.getfield 22, 3) := by decide +kernel
theorem dX4_onRow_4 : decode cX4_onRow 4 = .ok (.iload_n 1, 1) := by decide +kernel
theorem dX4_onRow_5 : decode cX4_onRow 5 = .ok (.iconst 4, 1) := by decide +kernel
theorem dX4_onRow_6 : decode cX4_onRow 6 = .ok (.if_icmp .ne 7, 3) := by decide +kernel
theorem dX4_onRow_9 : decode cX4_onRow 9 = .ok (.iload_n 3, 1) := by decide +kernel
theorem dX4_onRow_10 : decode cX4_onRow 10 = .ok (.goto 4, 3) := by decide +kernel
theorem dX4_onRow_13 : decode cX4_onRow 13 = .ok (.iload_n 2, 1) := by decide +kernel
theorem dX4_onRow_14 : decode cX4_onRow 14 = .ok (.iaload, 1) := by decide +kernel
theorem dX4_onRow_15 : decode cX4_onRow 15 = .ok (.istore 4, 2) := by decide +kernel
theorem dX4_onRow_17 : decode cX4_onRow 17 = .ok (.iload 4, 2) := by decide +kernel
theorem dX4_onRow_19 : decode cX4_onRow 19 = .ok (.ifCond .lt 12, 3) := by decide +kernel
theorem dX4_onRow_22 : decode cX4_onRow 22 = .ok (.iload 4, 2) := by decide +kernel
theorem dX4_onRow_24 : decode cX4_onRow 24 = .ok (.aload_n 0, 1) := by decide +kernel
theorem dX4_onRow_25 : decode cX4_onRow 25 = .ok (.getfield 28, 3) := by decide +kernel
theorem dX4_onRow_28 : decode cX4_onRow 28 = .ok (.if_icmp .lt 9, 3) := by decide +kernel
theorem dX4_onRow_31 : decode cX4_onRow 31 = .ok (.aload_n 0, 1) := by decide +kernel
theorem dX4_onRow_32 : decode cX4_onRow 32 = .ok (.iconst 2, 1) := by decide +kernel
theorem dX4_onRow_33 : decode cX4_onRow 33 = .ok (.invokevirtual 155, 3) := by decide +kernel
theorem dX4_onRow_36 : decode cX4_onRow 36 = .ok (.ireturn, 1) := by decide +kernel
theorem dX4_onRow_37 : decode cX4_onRow 37 = .ok (.iload_n 1, 1) := by decide +kernel
theorem dX4_onRow_38 : decode cX4_onRow 38 = .ok (.iconst 4, 1) := by decide +kernel
theorem dX4_onRow_39 : decode cX4_onRow 39 = .ok (.if_icmp .ne 18, 3) := by decide +kernel
theorem dX4_onRow_42 : decode cX4_onRow 42 = .ok (.aload_n 0, 1) := by decide +kernel
theorem dX4_onRow_43 : decode cX4_onRow 43 = .ok (.getfield 22, 3) := by decide +kernel
theorem dX4_onRow_46 : decode cX4_onRow 46 = .ok (.iload_n 2, 1) := by decide +kernel
theorem dX4_onRow_47 : decode cX4_onRow 47 = .ok (.aload_n 0, 1) := by decide +kernel
theorem dX4_onRow_48 : decode cX4_onRow 48 = .ok (.getfield 25, 3) := by decide +kernel
theorem dX4_onRow_51 : decode cX4_onRow 51 = .ok (.iload 4, 2) := by decide +kernel
theorem dX4_onRow_53 : decode cX4_onRow 53 = .ok (.iaload, 1) := by decide +kernel
theorem dX4_onRow_54 : decode cX4_onRow 54 = .ok (.iastore, 1) := by decide +kernel
theorem dX4_onRow_55 : decode cX4_onRow 55 = .ok (.iconst 0, 1) := by decide +kernel
theorem dX4_onRow_56 : decode cX4_onRow 56 = .ok (.ireturn, 1) := by decide +kernel
theorem dX4_onRow_57 : decode cX4_onRow 57 = .ok (.aload_n 0, 1) := by decide +kernel
theorem dX4_onRow_58 : decode cX4_onRow 58 = .ok (.iconst 5, 1) := by decide +kernel
theorem dX4_onRow_59 : decode cX4_onRow 59 = .ok (.iload 4, 2) := by decide +kernel
theorem dX4_onRow_61 : decode cX4_onRow 61 = .ok (.aload_n 0, 1) := by decide +kernel
theorem dX4_onRow_62 : decode cX4_onRow 62 = .ok (.getfield 25, 3) := by decide +kernel
theorem dX4_onRow_65 : decode cX4_onRow 65 = .ok (.iload 4, 2) := by decide +kernel
theorem dX4_onRow_67 : decode cX4_onRow 67 = .ok (.iaload, 1) := by decide +kernel
theorem dX4_onRow_68 : decode cX4_onRow 68 = .ok (.invokevirtual 151, 3) := by decide +kernel
theorem dX4_onRow_71 : decode cX4_onRow 71 = .ok (.aload_n 0, 1) := by decide +kernel
theorem dX4_onRow_72 : decode cX4_onRow 72 = .ok (.getfield 25, 3) := by decide +kernel
theorem dX4_onRow_75 : decode cX4_onRow 75 = .ok (.iload 4, 2) := by decide +kernel
theorem dX4_onRow_77 : decode cX4_onRow 77 = .ok (.aload_n 0, 1) := by decide +kernel
theorem dX4_onRow_78 : decode cX4_onRow 78 = .ok (.getfield 22, 3) := by decide +kernel
theorem dX4_onRow_81 : decode cX4_onRow 81 = .ok (.iload_n 3, 1) := by decide +kernel
theorem dX4_onRow_82 : decode cX4_onRow 82 = .ok (.iaload, 1) := by decide +kernel
theorem dX4_onRow_83 : decode cX4_onRow 83 = .ok (.iastore, 1) := by decide +kernel
theorem dX4_onRow_84 : decode cX4_onRow 84 = .ok (.iconst 0, 1) := by decide +kernel
theorem dX4_onRow_85 : decode cX4_onRow 85 = .ok (.ireturn, 1) := by decide +kernel
theorem dX4_uses_0 : decode cX4_uses 0 = .ok (.iload_n 1, 1) := by decide +kernel
theorem dX4_uses_1 : decode cX4_uses 1 = .ok (.ifCond .ne 9, 3) := by decide +kernel
theorem dX4_uses_4 : decode cX4_uses 4 = .ok (.aload_n 0, 1) := by decide +kernel
theorem dX4_uses_5 : decode cX4_uses 5 = .ok (.iconst 5, 1) := by decide +kernel
theorem dX4_uses_6 : decode cX4_uses 6 = .ok (.invokevirtual 155, 3) := by decide +kernel
theorem dX4_uses_9 : decode cX4_uses 9 = .ok (.ireturn, 1) := by decide +kernel
theorem dX4_uses_10 : decode cX4_uses 10 = .ok (.aload_n 0, 1) := by decide +kernel
theorem dX4_uses_11 : decode cX4_uses 11 = .ok (.getfield 35, 3) := by decide +kernel
theorem dX4_uses_14 : decode cX4_uses 14 = .ok (.iload_n 1, 1) := by decide +kernel
theorem dX4_uses_15 : decode cX4_uses 15 = .ok (.iaload, 1) := by decide +kernel
theorem dX4_uses_16 : decode cX4_uses 16 = .ok (.iconst 2, 1) := by decide +kernel
theorem dX4_uses_17 : decode cX4_uses 17 = .ok (.if_icmp .ne 10, 3) := by decide +kernel
theorem dX4_uses_20 : decode cX4_uses 20 = .ok (.aload_n 0, 1) := by decide +kernel
theorem dX4_uses_21 : decode cX4_uses 21 = .ok (.bipush 6, 2) := by decide +kernel
theorem dX4_uses_23 : decode cX4_uses 23 = .ok (.invokevirtual 155, 3) := by decide +kernel
theorem dX4_uses_26 : decode cX4_uses 26 = .ok (.ireturn, 1) := by decide +kernel
theorem dX4_uses_27 : decode cX4_uses 27 = .ok (.aload_n 0, 1) := by decide +kernel
theorem dX4_uses_28 : decode cX4_uses 28 = .ok (.getfield 38, 3) := by decide +kernel
theorem dX4_uses_31 : decode cX4_uses 31 = .ok (.iload_n 1, 1) := by decide +kernel
theorem dX4_uses_32 : decode cX4_uses 32 = .ok (.dup2, 1) := by decide +kernel
theorem dX4_uses_33 : decode cX4_uses 33 = .ok (.iaload, 1) := by decide +kernel
theorem dX4_uses_34 : decode cX4_uses 34 = .ok (.iconst 1, 1) := by decide +kernel
theorem dX4_uses_35 : decode cX4_uses 35 = .ok (.iadd, 1) := by decide +kernel
theorem dX4_uses_36 : decode cX4_uses 36 = .ok (.iastore, 1) := by decide +kernel
theorem dX4_uses_37 : decode cX4_uses 37 = .ok (.aload_n 0, 1) := by decide +kernel
theorem dX4_uses_38 : decode cX4_uses 38 = .ok (.aload_n 0, 1) := by decide +kernel
theorem dX4_uses_39 : decode cX4_uses 39 = .ok (.getfield 38, 3) := by decide +kernel
theorem dX4_uses_42 : decode cX4_uses 42 = .ok (.iload_n 1, 1) := by decide +kernel
theorem dX4_uses_43 : decode cX4_uses 43 = .ok (.iaload, 1) := by decide +kernel
theorem dX4_uses_44 : decode cX4_uses 44 = .ok (.invokevirtual 148, 3) := by decide +kernel
theorem dX4_uses_47 : decode cX4_uses 47 = .ok (.iconst 0, 1) := by decide +kernel
theorem dX4_uses_48 : decode cX4_uses 48 = .ok (.ireturn, 1) := by decide +kernel
theorem dX4_box_0 : decode cX4_box 0 = .ok (.aload_n 0, 1) := by decide +kernel
theorem dX4_box_1 : decode cX4_box 1 = .ok (.getfield 35, 3) := by decide +kernel
theorem dX4_box_4 : decode cX4_box 4 = .ok (.aload_n 0, 1) := by decide +kernel
theorem dX4_box_5 : decode cX4_box 5 = .ok (.getfield 47, 3) := by decide +kernel
theorem dX4_box_8 : decode cX4_box 8 = .ok (.iload_n 1, 1) := by decide +kernel
theorem dX4_box_9 : decode cX4_box 9 = .ok (.iastore, 1) := by decide +kernel
theorem dX4_box_10 : decode cX4_box 10 = .ok (.aload_n 0, 1) := by decide +kernel
theorem dX4_box_11 : decode cX4_box 11 = .ok (.getfield 38, 3) := by decide +kernel
theorem dX4_box_14 : decode cX4_box 14 = .ok (.aload_n 0, 1) := by decide +kernel
theorem dX4_box_15 : decode cX4_box 15 = .ok (.getfield 47, 3) := by decide +kernel
theorem dX4_box_18 : decode cX4_box 18 = .ok (.iconst 0, 1) := by decide +kernel
theorem dX4_box_19 : decode cX4_box 19 = .ok (.iastore, 1) := by decide +kernel
theorem dX4_box_20 : decode cX4_box 20 = .ok (.aload_n 0, 1) := by decide +kernel
theorem dX4_box_21 : decode cX4_box 21 = .ok (.dup, 1) := by decide +kernel
theorem dX4_box_22 : decode cX4_box 22 = .ok (.getfield 47, 3) := by decide +kernel
theorem dX4_box_25 : decode cX4_box 25 = .ok (.iconst 1, 1) := by decide +kernel
theorem dX4_box_26 : decode cX4_box 26 = .ok (.iadd, 1) := by decide +kernel
theorem dX4_box_27 : decode cX4_box 27 = .ok (.putfield 47, 3) := by decide +kernel
theorem dX4_box_30 : decode cX4_box 30 = .ok (.aload_n 0, 1) := by decide +kernel
theorem dX4_box_31 : decode cX4_box 31 = .ok (.getfield 47, 3) := by decide +kernel
theorem dX4_box_34 : decode cX4_box 34 = .ok (.iconst 1, 1) := by decide +kernel
theorem dX4_box_35 : decode cX4_box 35 = .ok (.isub, 1) := by decide +kernel
theorem dX4_box_36 : decode cX4_box 36 = .ok (.ireturn, 1) := by decide +kernel
theorem dX4_push_0 : decode cX4_push 0 = .ok (.aload_n 0, 1) := by decide +kernel
theorem dX4_push_1 : decode cX4_push 1 = .ok (.getfield 68, 3) := by decide +kernel
theorem dX4_push_4 : decode cX4_push 4 = .ok (.aload_n 0, 1) := by decide +kernel
theorem dX4_push_5 : decode cX4_push 5 = .ok (.getfield 95, 3) := by decide +kernel
theorem dX4_push_8 : decode cX4_push 8 = .ok (.iload_n 1, 1) := by decide +kernel
theorem dX4_push_9 : decode cX4_push 9 = .ok (.iastore, 1) := by decide +kernel
theorem dX4_push_10 : decode cX4_push 10 = .ok (.aload_n 0, 1) := by decide +kernel
theorem dX4_push_11 : decode cX4_push 11 = .ok (.getfield 71, 3) := by decide +kernel
theorem dX4_push_14 : decode cX4_push 14 = .ok (.aload_n 0, 1) := by decide +kernel
theorem dX4_push_15 : decode cX4_push 15 = .ok (.getfield 95, 3) := by decide +kernel
theorem dX4_push_18 : decode cX4_push 18 = .ok (.iload_n 2, 1) := by decide +kernel
theorem dX4_push_19 : decode cX4_push 19 = .ok (.iastore, 1) := by decide +kernel
theorem dX4_push_20 : decode cX4_push 20 = .ok (.aload_n 0, 1) := by decide +kernel
theorem dX4_push_21 : decode cX4_push 21 = .ok (.getfield 74, 3) := by decide +kernel
theorem dX4_push_24 : decode cX4_push 24 = .ok (.aload_n 0, 1) := by decide +kernel
theorem dX4_push_25 : decode cX4_push 25 = .ok (.getfield 95, 3) := by decide +kernel
theorem dX4_push_28 : decode cX4_push 28 = .ok (.iload_n 3, 1) := by decide +kernel
theorem dX4_push_29 : decode cX4_push 29 = .ok (.iastore, 1) := by decide +kernel
theorem dX4_push_30 : decode cX4_push 30 = .ok (.aload_n 0, 1) := by decide +kernel
theorem dX4_push_31 : decode cX4_push 31 = .ok (.getfield 77, 3) := by decide +kernel
theorem dX4_push_34 : decode cX4_push 34 = .ok (.aload_n 0, 1) := by decide +kernel
theorem dX4_push_35 : decode cX4_push 35 = .ok (.getfield 95, 3) := by decide +kernel
theorem dX4_push_38 : decode cX4_push 38 = .ok (.iconst 0, 1) := by decide +kernel
theorem dX4_push_39 : decode cX4_push 39 = .ok (.iastore, 1) := by decide +kernel
theorem dX4_push_40 : decode cX4_push 40 = .ok (.aload_n 0, 1) := by decide +kernel
theorem dX4_push_41 : decode cX4_push 41 = .ok (.getfield 80, 3) := by decide +kernel
theorem dX4_push_44 : decode cX4_push 44 = .ok (.aload_n 0, 1) := by decide +kernel
theorem dX4_push_45 : decode cX4_push 45 = .ok (.getfield 95, 3) := by decide +kernel
theorem dX4_push_48 : decode cX4_push 48 = .ok (.iconst 0, 1) := by decide +kernel
theorem dX4_push_49 : decode cX4_push 49 = .ok (.iastore, 1) := by decide +kernel
theorem dX4_push_50 : decode cX4_push 50 = .ok (.aload_n 0, 1) := by decide +kernel
theorem dX4_push_51 : decode cX4_push 51 = .ok (.dup, 1) := by decide +kernel
theorem dX4_push_52 : decode cX4_push 52 = .ok (.getfield 95, 3) := by decide +kernel
theorem dX4_push_55 : decode cX4_push 55 = .ok (.iconst 1, 1) := by decide +kernel
theorem dX4_push_56 : decode cX4_push 56 = .ok (.iadd, 1) := by decide +kernel
theorem dX4_push_57 : decode cX4_push 57 = .ok (.putfield 95, 3) := by decide +kernel
theorem dX4_push_60 : decode cX4_push 60 = .ok (.return_, 1) := by decide +kernel
theorem dX4_begin_0 : decode cX4_begin 0 = .ok (.aload_n 0, 1) := by decide +kernel
theorem dX4_begin_1 : decode cX4_begin 1 = .ok (.iload_n 1, 1) := by decide +kernel
theorem dX4_begin_2 : decode cX4_begin 2 = .ok (.aload_n 0, 1) := by decide +kernel
theorem dX4_begin_3 : decode cX4_begin 3 = .ok (.getfield 174, 3) := by decide +kernel
theorem dX4_begin_6 : decode cX4_begin 6 = .ok (.aload_n 0, 1) := by decide +kernel
theorem dX4_begin_7 : decode cX4_begin 7 = .ok (.aload_n 0, 1) := by decide +kernel
theorem dX4_begin_8 : decode cX4_begin 8 = .ok (.getfield 174, 3) := by decide +kernel
theorem dX4_begin_11 : decode cX4_begin 11 = .ok (.invokevirtual 177, 3) := by decide +kernel
theorem dX4_begin_14 : decode cX4_begin 14 = .ok (.invokevirtual 180, 3) := by decide +kernel
theorem dX4_begin_17 : decode cX4_begin 17 = .ok (.aload_n 0, 1) := by decide +kernel
theorem dX4_begin_18 : decode cX4_begin 18 = .ok (.getfield 174, 3) := by decide +kernel
theorem dX4_begin_21 : decode cX4_begin 21 = .ok (.istore_n 2, 1) := by decide +kernel
theorem dX4_begin_22 : decode cX4_begin 22 = .ok (.aload_n 0, 1) := by decide +kernel
theorem dX4_begin_23 : decode cX4_begin 23 = .ok (.dup, 1) := by decide +kernel
theorem dX4_begin_24 : decode cX4_begin 24 = .ok (.getfield 174, 3) := by decide +kernel
theorem dX4_begin_27 : decode cX4_begin 27 = .ok (.iconst 1, 1) := by decide +kernel
theorem dX4_begin_28 : decode cX4_begin 28 = .ok (.iadd, 1) := by decide +kernel
theorem dX4_begin_29 : decode cX4_begin 29 = .ok (.putfield 174, 3) := by decide +kernel
theorem dX4_begin_32 : decode cX4_begin 32 = .ok (.iload_n 1, 1) := by decide +kernel
theorem dX4_begin_33 : decode cX4_begin 33 = .ok (.bipush 13, 2) := by decide +kernel
theorem dX4_begin_35 : decode cX4_begin 35 = .ok (.if_icmp .ne 27, 3) := by decide +kernel
theorem dX4_begin_38 : decode cX4_begin 38 = .ok (.aload_n 0, 1) := by decide +kernel
theorem dX4_begin_39 : decode cX4_begin 39 = .ok (.getfield 80, 3) := by decide +kernel
theorem dX4_begin_42 : decode cX4_begin 42 = .ok (.aload_n 0, 1) := by decide +kernel
theorem dX4_begin_43 : decode cX4_begin 43 = .ok (.getfield 95, 3) := by decide +kernel
theorem dX4_begin_46 : decode cX4_begin 46 = .ok (.iconst 1, 1) := by decide +kernel
theorem dX4_begin_47 : decode cX4_begin 47 = .ok (.isub, 1) := by decide +kernel
theorem dX4_begin_48 : decode cX4_begin 48 = .ok (.aload_n 0, 1) := by decide +kernel
theorem dX4_begin_49 : decode cX4_begin 49 = .ok (.getfield 16, 3) := by decide +kernel
theorem dX4_begin_52 : decode cX4_begin 52 = .ok (.iload_n 2, 1) := by decide +kernel
theorem dX4_begin_53 : decode cX4_begin 53 = .ok (.iaload, 1) := by decide +kernel
theorem dX4_begin_54 : decode cX4_begin 54 = .ok (.iastore, 1) := by decide +kernel
theorem dX4_begin_55 : decode cX4_begin 55 = .ok (.aload_n 0, 1) := by decide +kernel
theorem dX4_begin_56 : decode cX4_begin 56 = .ok (.invokevirtual 183, 3) := by decide +kernel
theorem dX4_begin_59 : decode cX4_begin 59 = .ok (.goto 88, 3) := by decide +kernel
theorem dX4_begin_62 : decode cX4_begin 62 = .ok (.iload_n 1, 1) := by decide +kernel
theorem dX4_begin_63 : decode cX4_begin 63 = .ok (.bipush 14, 2) := by decide +kernel
theorem dX4_begin_65 : decode cX4_begin 65 = .ok (.if_icmp .ne 29, 3) := by decide +kernel
theorem dX4_begin_68 : decode cX4_begin 68 = .ok (.aload_n 0, 1) := by decide +kernel
theorem dX4_begin_69 : decode cX4_begin 69 = .ok (.getfield 65, 3) := by decide +kernel
theorem dX4_begin_72 : decode cX4_begin 72 = .ok (.aload_n 0, 1) := by decide +kernel
theorem dX4_begin_73 : decode cX4_begin 73 = .ok (.getfield 127, 3) := by decide +kernel
theorem dX4_begin_76 : decode cX4_begin 76 = .ok (.aload_n 0, 1) := by decide +kernel
theorem dX4_begin_77 : decode cX4_begin 77 = .ok (.getfield 130, 3) := by decide +kernel
theorem dX4_begin_80 : decode cX4_begin 80 = .ok (.iastore, 1) := by decide +kernel
theorem dX4_begin_81 : decode cX4_begin 81 = .ok (.aload_n 0, 1) := by decide +kernel
theorem dX4_begin_82 : decode cX4_begin 82 = .ok (.dup, 1) := by decide +kernel
theorem dX4_begin_83 : decode cX4_begin 83 = .ok (.getfield 127, 3) := by decide +kernel
theorem dX4_begin_86 : decode cX4_begin 86 = .ok (.iconst 1, 1) := by decide +kernel
theorem dX4_begin_87 : decode cX4_begin 87 = .ok (.iadd, 1) := by decide +kernel
theorem dX4_begin_88 : decode cX4_begin 88 = .ok (.putfield 127, 3) := by decide +kernel
theorem dX4_begin_91 : decode cX4_begin 91 = .ok (.goto 56, 3) := by decide +kernel
theorem dX4_begin_94 : decode cX4_begin 94 = .ok (.iload_n 1, 1) := by decide +kernel
theorem dX4_begin_95 : decode cX4_begin 95 = .ok (.bipush 21, 2) := by decide +kernel
theorem dX4_begin_97 : decode cX4_begin 97 = .ok (.if_icmp .ne 50, 3) := by decide +kernel
theorem dX4_begin_100 : decode cX4_begin 100 = .ok (.aload_n 0, 1) := by decide +kernel
theorem dX4_begin_101 : decode cX4_begin 101 = .ok (.getfield 22, 3) := by decide +kernel
theorem dX4_begin_104 : decode cX4_begin 104 = .ok (.aload_n 0, 1) := by decide +kernel
theorem dX4_begin_105 : decode cX4_begin 105 = .ok (.getfield 13, 3) := by decide +kernel
theorem dX4_begin_108 : decode cX4_begin 108 = .ok (.iload_n 2, 1) := by decide +kernel
theorem dX4_begin_109 : decode cX4_begin 109 = .ok (.iaload, 1) := by decide +kernel
theorem dX4_begin_110 : decode cX4_begin 110 = .ok (.iaload, 1) := by decide +kernel
theorem dX4_begin_111 : decode cX4_begin 111 = .ok (.ifCond .ne 36, 3) := by decide +kernel
theorem dX4_begin_114 : decode cX4_begin 114 = .ok (.aload_n 0, 1) := by decide +kernel
theorem dX4_begin_115 : decode cX4_begin 115 = .ok (.iload_n 2, 1) := by decide +kernel
theorem dX4_begin_116 : decode cX4_begin 116 = .ok (.bipush 22, 2) := by decide +kernel
theorem dX4_begin_118 : decode cX4_begin 118 = .ok (.invokevirtual 186, 3) := by decide +kernel
theorem dX4_begin_121 : decode cX4_begin 121 = .ok (.istore_n 3, 1) := by decide +kernel
theorem dX4_begin_122 : decode cX4_begin 122 = .ok (.aload_n 0, 1) := by decide +kernel
theorem dX4_begin_123 : decode cX4_begin 123 = .ok (.iload_n 3, 1) := by decide +kernel
theorem dX4_begin_124 : decode cX4_begin 124 = .ok (.ifCond .ge 17, 3) := by decide +kernel
theorem dX4_begin_127 : decode cX4_begin 127 = .ok (.aload_n 0, 1) := by decide +kernel
theorem dX4_begin_128 : decode cX4_begin 128 = .ok (.getfield 74, 3) := by decide +kernel
theorem dX4_begin_131 : decode cX4_begin 131 = .ok (.aload_n 0, 1) := by decide +kernel
theorem dX4_begin_132 : decode cX4_begin 132 = .ok (.getfield 95, 3) := by decide +kernel
theorem dX4_begin_135 : decode cX4_begin 135 = .ok (.iconst 1, 1) := by decide +kernel
theorem dX4_begin_136 : decode cX4_begin 136 = .ok (.isub, 1) := by decide +kernel
theorem dX4_begin_137 : decode cX4_begin 137 = .ok (.iaload, 1) := by decide +kernel
theorem dX4_begin_138 : decode cX4_begin 138 = .ok (.goto 6, 3) := by decide +kernel
theorem dX4_begin_141 : decode cX4_begin 141 = .ok (.iload_n 3, 1) := by decide +kernel
theorem dX4_begin_142 : decode cX4_begin 142 = .ok (.iconst 1, 1) := by decide +kernel
theorem dX4_begin_143 : decode cX4_begin 143 = .ok (.iadd, 1) := by decide +kernel
theorem dX4_begin_144 : decode cX4_begin 144 = .ok (.putfield 174, 3) := by decide +kernel
theorem dX4_begin_147 : decode cX4_begin 147 = .ok (.return_, 1) := by decide +kernel
theorem dX4_round_0 : decode cX4_round 0 = .ok (.aload_n 0, 1) := by decide +kernel
theorem dX4_round_1 : decode cX4_round 1 = .ok (.getfield 95, 3) := by decide +kernel
theorem dX4_round_4 : decode cX4_round 4 = .ok (.iconst 1, 1) := by decide +kernel
theorem dX4_round_5 : decode cX4_round 5 = .ok (.isub, 1) := by decide +kernel
theorem dX4_round_6 : decode cX4_round 6 = .ok (.istore_n 1, 1) := by decide +kernel
theorem dX4_round_7 : decode cX4_round 7 = .ok (.aload_n 0, 1) := by decide +kernel
theorem dX4_round_8 : decode cX4_round 8 = .ok (.getfield 80, 3) := by decide +kernel
theorem dX4_round_11 : decode cX4_round 11 = .ok (.iload_n 1, 1) := by decide +kernel
theorem dX4_round_12 : decode cX4_round 12 = .ok (.iaload, 1) := by decide +kernel
theorem dX4_round_13 : decode cX4_round 13 = .ok (.ifCond .ne 8, 3) := by decide +kernel
theorem dX4_round_16 : decode cX4_round 16 = .ok (.aload_n 0, 1) := by decide +kernel
theorem dX4_round_17 : decode cX4_round 17 = .ok (.invokevirtual 190, 3) := by decide +kernel
theorem dX4_round_20 : decode cX4_round 20 = .ok (.return_, 1) := by decide +kernel
theorem dX4_round_21 : decode cX4_round 21 = .ok (.aload_n 0, 1) := by decide +kernel
theorem dX4_round_22 : decode cX4_round 22 = .ok (.invokevirtual 193, 3) := by decide +kernel
theorem dX4_round_25 : decode cX4_round 25 = .ok (.ifCond .ne 13, 3) := by decide +kernel
theorem dX4_round_28 : decode cX4_round 28 = .ok (.aload_n 0, 1) := by decide +kernel
theorem dX4_round_29 : decode cX4_round 29 = .ok (.iconst 3, 1) := by decide +kernel
theorem dX4_round_30 : decode cX4_round 30 = .ok (.putfield 197, 3) := by decide +kernel
theorem dX4_round_33 : decode cX4_round 33 = .ok (.aload_n 0, 1) := by decide +kernel
theorem dX4_round_34 : decode cX4_round 34 = .ok (.invokevirtual 190, 3) := by decide +kernel
theorem dX4_round_37 : decode cX4_round 37 = .ok (.return_, 1) := by decide +kernel
theorem dX4_round_38 : decode cX4_round 38 = .ok (.aload_n 0, 1) := by decide +kernel
theorem dX4_round_39 : decode cX4_round 39 = .ok (.getfield 80, 3) := by decide +kernel
theorem dX4_round_42 : decode cX4_round 42 = .ok (.iload_n 1, 1) := by decide +kernel
theorem dX4_round_43 : decode cX4_round 43 = .ok (.dup2, 1) := by decide +kernel
theorem dX4_round_44 : decode cX4_round 44 = .ok (.iaload, 1) := by decide +kernel
theorem dX4_round_45 : decode cX4_round 45 = .ok (.iconst 1, 1) := by decide +kernel
theorem dX4_round_46 : decode cX4_round 46 = .ok (.isub, 1) := by decide +kernel
theorem dX4_round_47 : decode cX4_round 47 = .ok (.iastore, 1) := by decide +kernel
theorem dX4_round_48 : decode cX4_round 48 = .ok (.aload_n 0, 1) := by decide +kernel
theorem dX4_round_49 : decode cX4_round 49 = .ok (.aload_n 0, 1) := by decide +kernel
theorem dX4_round_50 : decode cX4_round 50 = .ok (.getfield 71, 3) := by decide +kernel
theorem dX4_round_53 : decode cX4_round 53 = .ok (.iload_n 1, 1) := by decide +kernel
theorem dX4_round_54 : decode cX4_round 54 = .ok (.iaload, 1) := by decide +kernel
theorem dX4_round_55 : decode cX4_round 55 = .ok (.iconst 1, 1) := by decide +kernel
theorem dX4_round_56 : decode cX4_round 56 = .ok (.iadd, 1) := by decide +kernel
theorem dX4_round_57 : decode cX4_round 57 = .ok (.putfield 174, 3) := by decide +kernel
theorem dX4_round_60 : decode cX4_round 60 = .ok (.return_, 1) := by decide +kernel
theorem dX4_leave_0 : decode cX4_leave 0 = .ok (.aload_n 0, 1) := by decide +kernel
theorem dX4_leave_1 : decode cX4_leave 1 = .ok (.dup, 1) := by decide +kernel
theorem dX4_leave_2 : decode cX4_leave 2 = .ok (.getfield 95, 3) := by decide +kernel
theorem dX4_leave_5 : decode cX4_leave 5 = .ok (.iconst 1, 1) := by decide +kernel
theorem dX4_leave_6 : decode cX4_leave 6 = .ok (.isub, 1) := by decide +kernel
theorem dX4_leave_7 : decode cX4_leave 7 = .ok (.putfield 95, 3) := by decide +kernel
theorem dX4_leave_10 : decode cX4_leave 10 = .ok (.aload_n 0, 1) := by decide +kernel
theorem dX4_leave_11 : decode cX4_leave 11 = .ok (.aload_n 0, 1) := by decide +kernel
theorem dX4_leave_12 : decode cX4_leave 12 = .ok (.getfield 74, 3) := by decide +kernel
theorem dX4_leave_15 : decode cX4_leave 15 = .ok (.aload_n 0, 1) := by decide +kernel
theorem dX4_leave_16 : decode cX4_leave 16 = .ok (.getfield 95, 3) := by decide +kernel
theorem dX4_leave_19 : decode cX4_leave 19 = .ok (.iaload, 1) := by decide +kernel
theorem dX4_leave_20 : decode cX4_leave 20 = .ok (.iconst 1, 1) := by decide +kernel
theorem dX4_leave_21 : decode cX4_leave 21 = .ok (.iadd, 1) := by decide +kernel
theorem dX4_leave_22 : decode cX4_leave 22 = .ok (.putfield 174, 3) := by decide +kernel
theorem dX4_leave_25 : decode cX4_leave 25 = .ok (.return_, 1) := by decide +kernel
theorem dX4_call_0 : decode cX4_call 0 = .ok (.aload_n 0, 1) := by decide +kernel
theorem dX4_call_1 : decode cX4_call 1 = .ok (.getfield 16, 3) := by decide +kernel
theorem dX4_call_4 : decode cX4_call 4 = .ok (.iload_n 1, 1) := by decide +kernel
theorem dX4_call_5 : decode cX4_call 5 = .ok (.iaload, 1) := by decide +kernel
theorem dX4_call_6 : decode cX4_call 6 = .ok (.istore_n 2, 1) := by decide +kernel
theorem dX4_call_7 : decode cX4_call 7 = .ok (.aload_n 0, 1) := by decide +kernel
theorem dX4_call_8 : decode cX4_call 8 = .ok (.getfield 200, 3) := by decide +kernel
theorem dX4_call_11 : decode cX4_call 11 = .ok (.bipush 6, 2) := by decide +kernel
theorem dX4_call_13 : decode cX4_call 13 = .ok (.if_icmp .eq 11, 3) := by decide +kernel
theorem dX4_call_16 : decode cX4_call 16 = .ok (.aload_n 0, 1) := by decide +kernel
theorem dX4_call_17 : decode cX4_call 17 = .ok (.iload_n 2, 1) := by decide +kernel
theorem dX4_call_18 : decode cX4_call 18 = .ok (.invokevirtual 203, 3) := by decide +kernel
theorem dX4_call_21 : decode cX4_call 21 = .ok (.ifCond .eq 14, 3) := by decide +kernel
theorem dX4_call_24 : decode cX4_call 24 = .ok (.aload_n 0, 1) := by decide +kernel
theorem dX4_call_25 : decode cX4_call 25 = .ok (.aload_n 0, 1) := by decide +kernel
theorem dX4_call_26 : decode cX4_call 26 = .ok (.bipush 7, 2) := by decide +kernel
theorem dX4_call_28 : decode cX4_call 28 = .ok (.invokevirtual 155, 3) := by decide +kernel
theorem dX4_call_31 : decode cX4_call 31 = .ok (.putfield 197, 3) := by decide +kernel
theorem dX4_call_34 : decode cX4_call 34 = .ok (.return_, 1) := by decide +kernel
theorem dX4_call_35 : decode cX4_call 35 = .ok (.aload_n 0, 1) := by decide +kernel
theorem dX4_call_36 : decode cX4_call 36 = .ok (.dup, 1) := by decide +kernel
theorem dX4_call_37 : decode cX4_call 37 = .ok (.getfield 200, 3) := by decide +kernel
theorem dX4_call_40 : decode cX4_call 40 = .ok (.iconst 1, 1) := by decide +kernel
theorem dX4_call_41 : decode cX4_call 41 = .ok (.iadd, 1) := by decide +kernel
theorem dX4_call_42 : decode cX4_call 42 = .ok (.putfield 200, 3) := by decide +kernel
theorem dX4_call_45 : decode cX4_call 45 = .ok (.aload_n 0, 1) := by decide +kernel
theorem dX4_call_46 : decode cX4_call 46 = .ok (.iconst 0, 1) := by decide +kernel
theorem dX4_call_47 : decode cX4_call 47 = .ok (.putfield 171, 3) := by decide +kernel
theorem dX4_call_50 : decode cX4_call 50 = .ok (.aload_n 0, 1) := by decide +kernel
theorem dX4_call_51 : decode cX4_call 51 = .ok (.iconst 0, 1) := by decide +kernel
theorem dX4_call_52 : decode cX4_call 52 = .ok (.iload_n 1, 1) := by decide +kernel
theorem dX4_call_53 : decode cX4_call 53 = .ok (.bipush 60, 2) := by decide +kernel
theorem dX4_call_55 : decode cX4_call 55 = .ok (.iload_n 2, 1) := by decide +kernel
theorem dX4_call_56 : decode cX4_call 56 = .ok (.imul, 1) := by decide +kernel
theorem dX4_call_57 : decode cX4_call 57 = .ok (.aload_n 0, 1) := by decide +kernel
theorem dX4_call_58 : decode cX4_call 58 = .ok (.getfield 19, 3) := by decide +kernel
theorem dX4_call_61 : decode cX4_call 61 = .ok (.iload_n 2, 1) := by decide +kernel
theorem dX4_call_62 : decode cX4_call 62 = .ok (.iaload, 1) := by decide +kernel
theorem dX4_call_63 : decode cX4_call 63 = .ok (.iadd, 1) := by decide +kernel
theorem dX4_call_64 : decode cX4_call 64 = .ok (.invokevirtual 180, 3) := by decide +kernel
theorem dX4_call_67 : decode cX4_call 67 = .ok (.aload_n 0, 1) := by decide +kernel
theorem dX4_call_68 : decode cX4_call 68 = .ok (.bipush 60, 2) := by decide +kernel
theorem dX4_call_70 : decode cX4_call 70 = .ok (.iload_n 2, 1) := by decide +kernel
theorem dX4_call_71 : decode cX4_call 71 = .ok (.imul, 1) := by decide +kernel
theorem dX4_call_72 : decode cX4_call 72 = .ok (.putfield 174, 3) := by decide +kernel
theorem dX4_call_75 : decode cX4_call 75 = .ok (.return_, 1) := by decide +kernel
theorem dX4_step_0 : decode cX4_step 0 = .ok (.aload_n 0, 1) := by decide +kernel
theorem dX4_step_1 : decode cX4_step 1 = .ok (.getfield 7, 3) := by decide +kernel
theorem dX4_step_4 : decode cX4_step 4 = .ok (.aload_n 0, 1) := by decide +kernel
theorem dX4_step_5 : decode cX4_step 5 = .ok (.getfield 174, 3) := by decide +kernel
theorem dX4_step_8 : decode cX4_step 8 = .ok (.iaload, 1) := by decide +kernel
theorem dX4_step_9 : decode cX4_step 9 = .ok (.istore_n 1, 1) := by decide +kernel
theorem dX4_step_10 : decode cX4_step 10 = .ok (.aload_n 0, 1) := by decide +kernel
theorem dX4_step_11 : decode cX4_step 11 = .ok (.invokevirtual 193, 3) := by decide +kernel
theorem dX4_step_14 : decode cX4_step 14 = .ok (.ifCond .ne 11, 3) := by decide +kernel
theorem dX4_step_17 : decode cX4_step 17 = .ok (.aload_n 0, 1) := by decide +kernel
theorem dX4_step_18 : decode cX4_step 18 = .ok (.iconst 3, 1) := by decide +kernel
theorem dX4_step_19 : decode cX4_step 19 = .ok (.putfield 197, 3) := by decide +kernel
theorem dX4_step_22 : decode cX4_step 22 = .ok (.goto 72, 3) := by decide +kernel
theorem dX4_step_25 : decode cX4_step 25 = .ok (.iload_n 1, 1) := by decide +kernel
theorem dX4_step_26 : decode cX4_step 26 = .ok (.invokestatic 98, 3) := by decide +kernel
theorem dX4_step_29 : decode cX4_step 29 = .ok (.ifCond .eq 11, 3) := by decide +kernel
theorem dX4_step_32 : decode cX4_step 32 = .ok (.aload_n 0, 1) := by decide +kernel
theorem dX4_step_33 : decode cX4_step 33 = .ok (.iload_n 1, 1) := by decide +kernel
theorem dX4_step_34 : decode cX4_step 34 = .ok (.invokevirtual 206, 3) := by decide +kernel
theorem dX4_step_37 : decode cX4_step 37 = .ok (.goto 57, 3) := by decide +kernel
theorem dX4_step_40 : decode cX4_step 40 = .ok (.iload_n 1, 1) := by decide +kernel
theorem dX4_step_41 : decode cX4_step 41 = .ok (.bipush 20, 2) := by decide +kernel
theorem dX4_step_43 : decode cX4_step 43 = .ok (.if_icmp .ne 14, 3) := by decide +kernel
theorem dX4_step_46 : decode cX4_step 46 = .ok (.aload_n 0, 1) := by decide +kernel
theorem dX4_step_47 : decode cX4_step 47 = .ok (.aload_n 0, 1) := by decide +kernel
theorem dX4_step_48 : decode cX4_step 48 = .ok (.getfield 174, 3) := by decide +kernel
theorem dX4_step_51 : decode cX4_step 51 = .ok (.invokevirtual 209, 3) := by decide +kernel
theorem dX4_step_54 : decode cX4_step 54 = .ok (.goto 40, 3) := by decide +kernel
theorem dX4_step_57 : decode cX4_step 57 = .ok (.aload_n 0, 1) := by decide +kernel
theorem dX4_step_58 : decode cX4_step 58 = .ok (.aload_n 0, 1) := by decide +kernel
theorem dX4_step_59 : decode cX4_step 59 = .ok (.iload_n 1, 1) := by decide +kernel
theorem dX4_step_60 : decode cX4_step 60 = .ok (.aload_n 0, 1) := by decide +kernel
theorem dX4_step_61 : decode cX4_step 61 = .ok (.getfield 13, 3) := by decide +kernel
theorem dX4_step_64 : decode cX4_step 64 = .ok (.aload_n 0, 1) := by decide +kernel
theorem dX4_step_65 : decode cX4_step 65 = .ok (.getfield 174, 3) := by decide +kernel
theorem dX4_step_68 : decode cX4_step 68 = .ok (.iaload, 1) := by decide +kernel
theorem dX4_step_69 : decode cX4_step 69 = .ok (.aload_n 0, 1) := by decide +kernel
theorem dX4_step_70 : decode cX4_step 70 = .ok (.getfield 16, 3) := by decide +kernel
theorem dX4_step_73 : decode cX4_step 73 = .ok (.aload_n 0, 1) := by decide +kernel
theorem dX4_step_74 : decode cX4_step 74 = .ok (.getfield 174, 3) := by decide +kernel
theorem dX4_step_77 : decode cX4_step 77 = .ok (.iaload, 1) := by decide +kernel
theorem dX4_step_78 : decode cX4_step 78 = .ok (.invokevirtual 212, 3) := by decide +kernel
theorem dX4_step_81 : decode cX4_step 81 = .ok (.putfield 197, 3) := by decide +kernel
theorem dX4_step_84 : decode cX4_step 84 = .ok (.aload_n 0, 1) := by decide +kernel
theorem dX4_step_85 : decode cX4_step 85 = .ok (.dup, 1) := by decide +kernel
theorem dX4_step_86 : decode cX4_step 86 = .ok (.getfield 174, 3) := by decide +kernel
theorem dX4_step_89 : decode cX4_step 89 = .ok (.iconst 1, 1) := by decide +kernel
theorem dX4_step_90 : decode cX4_step 90 = .ok (.iadd, 1) := by decide +kernel
theorem dX4_step_91 : decode cX4_step 91 = .ok (.putfield 174, 3) := by decide +kernel
theorem dX4_step_94 : decode cX4_step 94 = .ok (.return_, 1) := by decide +kernel
theorem dX4_ended_0 : decode cX4_ended 0 = .ok (.aload_n 0, 1) := by decide +kernel
theorem dX4_ended_1 : decode cX4_ended 1 = .ok (.getfield 95, 3) := by decide +kernel
theorem dX4_ended_4 : decode cX4_ended 4 = .ok (.iconst 1, 1) := by decide +kernel
theorem dX4_ended_5 : decode cX4_ended 5 = .ok (.isub, 1) := by decide +kernel
theorem dX4_ended_6 : decode cX4_ended 6 = .ok (.istore_n 1, 1) := by decide +kernel
theorem dX4_ended_7 : decode cX4_ended 7 = .ok (.aload_n 0, 1) := by decide +kernel
theorem dX4_ended_8 : decode cX4_ended 8 = .ok (.getfield 68, 3) := by decide +kernel
theorem dX4_ended_11 : decode cX4_ended 11 = .ok (.iload_n 1, 1) := by decide +kernel
theorem dX4_ended_12 : decode cX4_ended 12 = .ok (.iaload, 1) := by decide +kernel
theorem dX4_ended_13 : decode cX4_ended 13 = .ok (.lookupswitch 154 #[(0, 51), (10, 59), (13, 67), (14, 74), (15, 134)], 51) := by decide +kernel
theorem dX4_ended_64 : decode cX4_ended 64 = .ok (.aload_n 0, 1) := by decide +kernel
theorem dX4_ended_65 : decode cX4_ended 65 = .ok (.iload_n 1, 1) := by decide +kernel
theorem dX4_ended_66 : decode cX4_ended 66 = .ok (.invokevirtual 215, 3) := by decide +kernel
theorem dX4_ended_69 : decode cX4_ended 69 = .ok (.goto 102, 3) := by decide +kernel
theorem dX4_ended_72 : decode cX4_ended 72 = .ok (.aload_n 0, 1) := by decide +kernel
theorem dX4_ended_73 : decode cX4_ended 73 = .ok (.iload_n 1, 1) := by decide +kernel
theorem dX4_ended_74 : decode cX4_ended 74 = .ok (.invokevirtual 218, 3) := by decide +kernel
theorem dX4_ended_77 : decode cX4_ended 77 = .ok (.goto 94, 3) := by decide +kernel
theorem dX4_ended_80 : decode cX4_ended 80 = .ok (.aload_n 0, 1) := by decide +kernel
theorem dX4_ended_81 : decode cX4_ended 81 = .ok (.invokevirtual 221, 3) := by decide +kernel
theorem dX4_ended_84 : decode cX4_ended 84 = .ok (.goto 87, 3) := by decide +kernel
theorem dX4_ended_87 : decode cX4_ended 87 = .ok (.aload_n 0, 1) := by decide +kernel
theorem dX4_ended_88 : decode cX4_ended 88 = .ok (.dup, 1) := by decide +kernel
theorem dX4_ended_89 : decode cX4_ended 89 = .ok (.getfield 127, 3) := by decide +kernel
theorem dX4_ended_92 : decode cX4_ended 92 = .ok (.iconst 1, 1) := by decide +kernel
theorem dX4_ended_93 : decode cX4_ended 93 = .ok (.isub, 1) := by decide +kernel
theorem dX4_ended_94 : decode cX4_ended 94 = .ok (.putfield 127, 3) := by decide +kernel
theorem dX4_ended_97 : decode cX4_ended 97 = .ok (.aload_n 0, 1) := by decide +kernel
theorem dX4_ended_98 : decode cX4_ended 98 = .ok (.getfield 197, 3) := by decide +kernel
theorem dX4_ended_101 : decode cX4_ended 101 = .ok (.iconst 1, 1) := by decide +kernel
theorem dX4_ended_102 : decode cX4_ended 102 = .ok (.if_icmp .ne 26, 3) := by decide +kernel
theorem dX4_ended_105 : decode cX4_ended 105 = .ok (.aload_n 0, 1) := by decide +kernel
theorem dX4_ended_106 : decode cX4_ended 106 = .ok (.getfield 130, 3) := by decide +kernel
theorem dX4_ended_109 : decode cX4_ended 109 = .ok (.aload_n 0, 1) := by decide +kernel
theorem dX4_ended_110 : decode cX4_ended 110 = .ok (.getfield 65, 3) := by decide +kernel
theorem dX4_ended_113 : decode cX4_ended 113 = .ok (.aload_n 0, 1) := by decide +kernel
theorem dX4_ended_114 : decode cX4_ended 114 = .ok (.getfield 127, 3) := by decide +kernel
theorem dX4_ended_117 : decode cX4_ended 117 = .ok (.iaload, 1) := by decide +kernel
theorem dX4_ended_118 : decode cX4_ended 118 = .ok (.if_icmp .le 10, 3) := by decide +kernel
theorem dX4_ended_121 : decode cX4_ended 121 = .ok (.aload_n 0, 1) := by decide +kernel
theorem dX4_ended_122 : decode cX4_ended 122 = .ok (.invokevirtual 224, 3) := by decide +kernel
theorem dX4_ended_125 : decode cX4_ended 125 = .ok (.goto (-20), 3) := by decide +kernel
theorem dX4_ended_128 : decode cX4_ended 128 = .ok (.aload_n 0, 1) := by decide +kernel
theorem dX4_ended_129 : decode cX4_ended 129 = .ok (.getfield 127, 3) := by decide +kernel
theorem dX4_ended_132 : decode cX4_ended 132 = .ok (.ifCond .ne 8, 3) := by decide +kernel
theorem dX4_ended_135 : decode cX4_ended 135 = .ok (.aload_n 0, 1) := by decide +kernel
theorem dX4_ended_136 : decode cX4_ended 136 = .ok (.iconst 0, 1) := by decide +kernel
theorem dX4_ended_137 : decode cX4_ended 137 = .ok (.putfield 130, 3) := by decide +kernel
theorem dX4_ended_140 : decode cX4_ended 140 = .ok (.aload_n 0, 1) := by decide +kernel
theorem dX4_ended_141 : decode cX4_ended 141 = .ok (.invokevirtual 190, 3) := by decide +kernel
theorem dX4_ended_144 : decode cX4_ended 144 = .ok (.goto 27, 3) := by decide +kernel
theorem dX4_ended_147 : decode cX4_ended 147 = .ok (.aload_n 0, 1) := by decide +kernel
theorem dX4_ended_148 : decode cX4_ended 148 = .ok (.getfield 197, 3) := by decide +kernel
theorem dX4_ended_151 : decode cX4_ended 151 = .ok (.iconst 3, 1) := by decide +kernel
theorem dX4_ended_152 : decode cX4_ended 152 = .ok (.if_icmp .eq 8, 3) := by decide +kernel
theorem dX4_ended_155 : decode cX4_ended 155 = .ok (.aload_n 0, 1) := by decide +kernel
theorem dX4_ended_156 : decode cX4_ended 156 = .ok (.iconst 0, 1) := by decide +kernel
theorem dX4_ended_157 : decode cX4_ended 157 = .ok (.putfield 197, 3) := by decide +kernel
theorem dX4_ended_160 : decode cX4_ended 160 = .ok (.aload_n 0, 1) := by decide +kernel
theorem dX4_ended_161 : decode cX4_ended 161 = .ok (.invokevirtual 190, 3) := by decide +kernel
theorem dX4_ended_164 : decode cX4_ended 164 = .ok (.goto 7, 3) := by decide +kernel
theorem dX4_ended_167 : decode cX4_ended 167 = .ok (.aload_n 0, 1) := by decide +kernel
theorem dX4_ended_168 : decode cX4_ended 168 = .ok (.invokevirtual 190, 3) := by decide +kernel
theorem dX4_ended_171 : decode cX4_ended 171 = .ok (.return_, 1) := by decide +kernel
theorem dX4_back_0 : decode cX4_back 0 = .ok (.aload_n 0, 1) := by decide +kernel
theorem dX4_back_1 : decode cX4_back 1 = .ok (.dup, 1) := by decide +kernel
theorem dX4_back_2 : decode cX4_back 2 = .ok (.getfield 95, 3) := by decide +kernel
theorem dX4_back_5 : decode cX4_back 5 = .ok (.iconst 1, 1) := by decide +kernel
theorem dX4_back_6 : decode cX4_back 6 = .ok (.isub, 1) := by decide +kernel
theorem dX4_back_7 : decode cX4_back 7 = .ok (.putfield 95, 3) := by decide +kernel
theorem dX4_back_10 : decode cX4_back 10 = .ok (.aload_n 0, 1) := by decide +kernel
theorem dX4_back_11 : decode cX4_back 11 = .ok (.dup, 1) := by decide +kernel
theorem dX4_back_12 : decode cX4_back 12 = .ok (.getfield 200, 3) := by decide +kernel
theorem dX4_back_15 : decode cX4_back 15 = .ok (.iconst 1, 1) := by decide +kernel
theorem dX4_back_16 : decode cX4_back 16 = .ok (.isub, 1) := by decide +kernel
theorem dX4_back_17 : decode cX4_back 17 = .ok (.putfield 200, 3) := by decide +kernel
theorem dX4_back_20 : decode cX4_back 20 = .ok (.aload_n 0, 1) := by decide +kernel
theorem dX4_back_21 : decode cX4_back 21 = .ok (.getfield 95, 3) := by decide +kernel
theorem dX4_back_24 : decode cX4_back 24 = .ok (.ifCond .ne 4, 3) := by decide +kernel
theorem dX4_back_27 : decode cX4_back 27 = .ok (.return_, 1) := by decide +kernel
theorem dX4_back_28 : decode cX4_back 28 = .ok (.aload_n 0, 1) := by decide +kernel
theorem dX4_back_29 : decode cX4_back 29 = .ok (.aload_n 0, 1) := by decide +kernel
theorem dX4_back_30 : decode cX4_back 30 = .ok (.getfield 71, 3) := by decide +kernel
theorem dX4_back_33 : decode cX4_back 33 = .ok (.iload_n 1, 1) := by decide +kernel
theorem dX4_back_34 : decode cX4_back 34 = .ok (.iaload, 1) := by decide +kernel
theorem dX4_back_35 : decode cX4_back 35 = .ok (.iconst 1, 1) := by decide +kernel
theorem dX4_back_36 : decode cX4_back 36 = .ok (.iadd, 1) := by decide +kernel
theorem dX4_back_37 : decode cX4_back 37 = .ok (.putfield 174, 3) := by decide +kernel
theorem dX4_back_40 : decode cX4_back 40 = .ok (.aload_n 0, 1) := by decide +kernel
theorem dX4_back_41 : decode cX4_back 41 = .ok (.getfield 197, 3) := by decide +kernel
theorem dX4_back_44 : decode cX4_back 44 = .ok (.iconst 1, 1) := by decide +kernel
theorem dX4_back_45 : decode cX4_back 45 = .ok (.if_icmp .eq 11, 3) := by decide +kernel
theorem dX4_back_48 : decode cX4_back 48 = .ok (.aload_n 0, 1) := by decide +kernel
theorem dX4_back_49 : decode cX4_back 49 = .ok (.getfield 197, 3) := by decide +kernel
theorem dX4_back_52 : decode cX4_back 52 = .ok (.iconst 3, 1) := by decide +kernel
theorem dX4_back_53 : decode cX4_back 53 = .ok (.if_icmp .ne 4, 3) := by decide +kernel
theorem dX4_back_56 : decode cX4_back 56 = .ok (.return_, 1) := by decide +kernel
theorem dX4_back_57 : decode cX4_back 57 = .ok (.aload_n 0, 1) := by decide +kernel
theorem dX4_back_58 : decode cX4_back 58 = .ok (.getfield 22, 3) := by decide +kernel
theorem dX4_back_61 : decode cX4_back 61 = .ok (.aload_n 0, 1) := by decide +kernel
theorem dX4_back_62 : decode cX4_back 62 = .ok (.getfield 13, 3) := by decide +kernel
theorem dX4_back_65 : decode cX4_back 65 = .ok (.aload_n 0, 1) := by decide +kernel
theorem dX4_back_66 : decode cX4_back 66 = .ok (.getfield 71, 3) := by decide +kernel
theorem dX4_back_69 : decode cX4_back 69 = .ok (.iload_n 1, 1) := by decide +kernel
theorem dX4_back_70 : decode cX4_back 70 = .ok (.iaload, 1) := by decide +kernel
theorem dX4_back_71 : decode cX4_back 71 = .ok (.iaload, 1) := by decide +kernel
theorem dX4_back_72 : decode cX4_back 72 = .ok (.aload_n 0, 1) := by decide +kernel
theorem dX4_back_73 : decode cX4_back 73 = .ok (.getfield 197, 3) := by decide +kernel
theorem dX4_back_76 : decode cX4_back 76 = .ok (.iconst 2, 1) := by decide +kernel
theorem dX4_back_77 : decode cX4_back 77 = .ok (.if_icmp .ne 10, 3) := by decide +kernel
theorem dX4_back_80 : decode cX4_back 80 = .ok (.aload_n 0, 1) := by decide +kernel
theorem dX4_back_81 : decode cX4_back 81 = .ok (.getfield 171, 3) := by decide +kernel
theorem dX4_back_84 : decode cX4_back 84 = .ok (.goto 4, 3) := by decide +kernel
theorem dX4_back_87 : decode cX4_back 87 = .ok (.iconst 0, 1) := by decide +kernel
theorem dX4_back_88 : decode cX4_back 88 = .ok (.iastore, 1) := by decide +kernel
theorem dX4_back_89 : decode cX4_back 89 = .ok (.aload_n 0, 1) := by decide +kernel
theorem dX4_back_90 : decode cX4_back 90 = .ok (.iconst 0, 1) := by decide +kernel
theorem dX4_back_91 : decode cX4_back 91 = .ok (.putfield 197, 3) := by decide +kernel
theorem dX4_back_94 : decode cX4_back 94 = .ok (.return_, 1) := by decide +kernel
theorem dX4_tried_0 : decode cX4_tried 0 = .ok (.aload_n 0, 1) := by decide +kernel
theorem dX4_tried_1 : decode cX4_tried 1 = .ok (.getfield 71, 3) := by decide +kernel
theorem dX4_tried_4 : decode cX4_tried 4 = .ok (.iload_n 1, 1) := by decide +kernel
theorem dX4_tried_5 : decode cX4_tried 5 = .ok (.iaload, 1) := by decide +kernel
theorem dX4_tried_6 : decode cX4_tried 6 = .ok (.istore_n 2, 1) := by decide +kernel
theorem dX4_tried_7 : decode cX4_tried 7 = .ok (.aload_n 0, 1) := by decide +kernel
theorem dX4_tried_8 : decode cX4_tried 8 = .ok (.getfield 77, 3) := by decide +kernel
theorem dX4_tried_11 : decode cX4_tried 11 = .ok (.iload_n 1, 1) := by decide +kernel
theorem dX4_tried_12 : decode cX4_tried 12 = .ok (.iaload, 1) := by decide +kernel
theorem dX4_tried_13 : decode cX4_tried 13 = .ok (.iconst 2, 1) := by decide +kernel
theorem dX4_tried_14 : decode cX4_tried 14 = .ok (.if_icmp .ne 45, 3) := by decide +kernel
theorem dX4_tried_17 : decode cX4_tried 17 = .ok (.aload_n 0, 1) := by decide +kernel
theorem dX4_tried_18 : decode cX4_tried 18 = .ok (.getfield 197, 3) := by decide +kernel
theorem dX4_tried_21 : decode cX4_tried 21 = .ok (.ifCond .ne 33, 3) := by decide +kernel
theorem dX4_tried_24 : decode cX4_tried 24 = .ok (.aload_n 0, 1) := by decide +kernel
theorem dX4_tried_25 : decode cX4_tried 25 = .ok (.aload_n 0, 1) := by decide +kernel
theorem dX4_tried_26 : decode cX4_tried 26 = .ok (.getfield 83, 3) := by decide +kernel
theorem dX4_tried_29 : decode cX4_tried 29 = .ok (.iload_n 1, 1) := by decide +kernel
theorem dX4_tried_30 : decode cX4_tried 30 = .ok (.iaload, 1) := by decide +kernel
theorem dX4_tried_31 : decode cX4_tried 31 = .ok (.putfield 197, 3) := by decide +kernel
theorem dX4_tried_34 : decode cX4_tried 34 = .ok (.aload_n 0, 1) := by decide +kernel
theorem dX4_tried_35 : decode cX4_tried 35 = .ok (.aload_n 0, 1) := by decide +kernel
theorem dX4_tried_36 : decode cX4_tried 36 = .ok (.getfield 86, 3) := by decide +kernel
theorem dX4_tried_39 : decode cX4_tried 39 = .ok (.iload_n 1, 1) := by decide +kernel
theorem dX4_tried_40 : decode cX4_tried 40 = .ok (.iaload, 1) := by decide +kernel
theorem dX4_tried_41 : decode cX4_tried 41 = .ok (.putfield 142, 3) := by decide +kernel
theorem dX4_tried_44 : decode cX4_tried 44 = .ok (.aload_n 0, 1) := by decide +kernel
theorem dX4_tried_45 : decode cX4_tried 45 = .ok (.aload_n 0, 1) := by decide +kernel
theorem dX4_tried_46 : decode cX4_tried 46 = .ok (.getfield 89, 3) := by decide +kernel
theorem dX4_tried_49 : decode cX4_tried 49 = .ok (.iload_n 1, 1) := by decide +kernel
theorem dX4_tried_50 : decode cX4_tried 50 = .ok (.iaload, 1) := by decide +kernel
theorem dX4_tried_51 : decode cX4_tried 51 = .ok (.putfield 171, 3) := by decide +kernel
theorem dX4_tried_54 : decode cX4_tried 54 = .ok (.aload_n 0, 1) := by decide +kernel
theorem dX4_tried_55 : decode cX4_tried 55 = .ok (.invokevirtual 190, 3) := by decide +kernel
theorem dX4_tried_58 : decode cX4_tried 58 = .ok (.return_, 1) := by decide +kernel
theorem dX4_tried_59 : decode cX4_tried 59 = .ok (.aload_n 0, 1) := by decide +kernel
theorem dX4_tried_60 : decode cX4_tried 60 = .ok (.iload_n 2, 1) := by decide +kernel
theorem dX4_tried_61 : decode cX4_tried 61 = .ok (.bipush 11, 2) := by decide +kernel
theorem dX4_tried_63 : decode cX4_tried 63 = .ok (.invokevirtual 186, 3) := by decide +kernel
theorem dX4_tried_66 : decode cX4_tried 66 = .ok (.istore_n 3, 1) := by decide +kernel
theorem dX4_tried_67 : decode cX4_tried 67 = .ok (.aload_n 0, 1) := by decide +kernel
theorem dX4_tried_68 : decode cX4_tried 68 = .ok (.getfield 77, 3) := by decide +kernel
theorem dX4_tried_71 : decode cX4_tried 71 = .ok (.iload_n 1, 1) := by decide +kernel
theorem dX4_tried_72 : decode cX4_tried 72 = .ok (.iaload, 1) := by decide +kernel
theorem dX4_tried_73 : decode cX4_tried 73 = .ok (.ifCond .ne 62, 3) := by decide +kernel
theorem dX4_tried_76 : decode cX4_tried 76 = .ok (.aload_n 0, 1) := by decide +kernel
theorem dX4_tried_77 : decode cX4_tried 77 = .ok (.getfield 197, 3) := by decide +kernel
theorem dX4_tried_80 : decode cX4_tried 80 = .ok (.iconst 1, 1) := by decide +kernel
theorem dX4_tried_81 : decode cX4_tried 81 = .ok (.if_icmp .ne 54, 3) := by decide +kernel
theorem dX4_tried_84 : decode cX4_tried 84 = .ok (.iload_n 3, 1) := by decide +kernel
theorem dX4_tried_85 : decode cX4_tried 85 = .ok (.ifCond .lt 50, 3) := by decide +kernel
theorem dX4_tried_88 : decode cX4_tried 88 = .ok (.aload_n 0, 1) := by decide +kernel
theorem dX4_tried_89 : decode cX4_tried 89 = .ok (.getfield 16, 3) := by decide +kernel
theorem dX4_tried_92 : decode cX4_tried 92 = .ok (.iload_n 2, 1) := by decide +kernel
theorem dX4_tried_93 : decode cX4_tried 93 = .ok (.iaload, 1) := by decide +kernel
theorem dX4_tried_94 : decode cX4_tried 94 = .ok (.aload_n 0, 1) := by decide +kernel
theorem dX4_tried_95 : decode cX4_tried 95 = .ok (.getfield 142, 3) := by decide +kernel
theorem dX4_tried_98 : decode cX4_tried 98 = .ok (.ishr, 1) := by decide +kernel
theorem dX4_tried_99 : decode cX4_tried 99 = .ok (.iconst 1, 1) := by decide +kernel
theorem dX4_tried_100 : decode cX4_tried 100 = .ok (.iand, 1) := by decide +kernel
theorem dX4_tried_101 : decode cX4_tried 101 = .ok (.ifCond .eq 34, 3) := by decide +kernel
theorem dX4_tried_104 : decode cX4_tried 104 = .ok (.aload_n 0, 1) := by decide +kernel
theorem dX4_tried_105 : decode cX4_tried 105 = .ok (.getfield 22, 3) := by decide +kernel
theorem dX4_tried_108 : decode cX4_tried 108 = .ok (.bipush 7, 2) := by decide +kernel
theorem dX4_tried_110 : decode cX4_tried 110 = .ok (.aload_n 0, 1) := by decide +kernel
theorem dX4_tried_111 : decode cX4_tried 111 = .ok (.getfield 142, 3) := by decide +kernel
theorem dX4_tried_114 : decode cX4_tried 114 = .ok (.iastore, 1) := by decide +kernel
theorem dX4_tried_115 : decode cX4_tried 115 = .ok (.aload_n 0, 1) := by decide +kernel
theorem dX4_tried_116 : decode cX4_tried 116 = .ok (.getfield 77, 3) := by decide +kernel
theorem dX4_tried_119 : decode cX4_tried 119 = .ok (.iload_n 1, 1) := by decide +kernel
theorem dX4_tried_120 : decode cX4_tried 120 = .ok (.iconst 1, 1) := by decide +kernel
theorem dX4_tried_121 : decode cX4_tried 121 = .ok (.iastore, 1) := by decide +kernel
theorem dX4_tried_122 : decode cX4_tried 122 = .ok (.aload_n 0, 1) := by decide +kernel
theorem dX4_tried_123 : decode cX4_tried 123 = .ok (.iconst 0, 1) := by decide +kernel
theorem dX4_tried_124 : decode cX4_tried 124 = .ok (.putfield 197, 3) := by decide +kernel
theorem dX4_tried_127 : decode cX4_tried 127 = .ok (.aload_n 0, 1) := by decide +kernel
theorem dX4_tried_128 : decode cX4_tried 128 = .ok (.iload_n 3, 1) := by decide +kernel
theorem dX4_tried_129 : decode cX4_tried 129 = .ok (.iconst 1, 1) := by decide +kernel
theorem dX4_tried_130 : decode cX4_tried 130 = .ok (.iadd, 1) := by decide +kernel
theorem dX4_tried_131 : decode cX4_tried 131 = .ok (.putfield 174, 3) := by decide +kernel
theorem dX4_tried_134 : decode cX4_tried 134 = .ok (.return_, 1) := by decide +kernel
theorem dX4_tried_135 : decode cX4_tried 135 = .ok (.aload_n 0, 1) := by decide +kernel
theorem dX4_tried_136 : decode cX4_tried 136 = .ok (.iload_n 2, 1) := by decide +kernel
theorem dX4_tried_137 : decode cX4_tried 137 = .ok (.bipush 12, 2) := by decide +kernel
theorem dX4_tried_139 : decode cX4_tried 139 = .ok (.invokevirtual 186, 3) := by decide +kernel
theorem dX4_tried_142 : decode cX4_tried 142 = .ok (.istore 4, 2) := by decide +kernel
theorem dX4_tried_144 : decode cX4_tried 144 = .ok (.iload 4, 2) := by decide +kernel
theorem dX4_tried_146 : decode cX4_tried 146 = .ok (.ifCond .lt 11, 3) := by decide +kernel
theorem dX4_tried_149 : decode cX4_tried 149 = .ok (.aload_n 0, 1) := by decide +kernel
theorem dX4_tried_150 : decode cX4_tried 150 = .ok (.getfield 197, 3) := by decide +kernel
theorem dX4_tried_153 : decode cX4_tried 153 = .ok (.iconst 3, 1) := by decide +kernel
theorem dX4_tried_154 : decode cX4_tried 154 = .ok (.if_icmp .ne 8, 3) := by decide +kernel
theorem dX4_tried_157 : decode cX4_tried 157 = .ok (.aload_n 0, 1) := by decide +kernel
theorem dX4_tried_158 : decode cX4_tried 158 = .ok (.invokevirtual 190, 3) := by decide +kernel
theorem dX4_tried_161 : decode cX4_tried 161 = .ok (.return_, 1) := by decide +kernel
theorem dX4_tried_162 : decode cX4_tried 162 = .ok (.aload_n 0, 1) := by decide +kernel
theorem dX4_tried_163 : decode cX4_tried 163 = .ok (.getfield 83, 3) := by decide +kernel
theorem dX4_tried_166 : decode cX4_tried 166 = .ok (.iload_n 1, 1) := by decide +kernel
theorem dX4_tried_167 : decode cX4_tried 167 = .ok (.aload_n 0, 1) := by decide +kernel
theorem dX4_tried_168 : decode cX4_tried 168 = .ok (.getfield 197, 3) := by decide +kernel
theorem dX4_tried_171 : decode cX4_tried 171 = .ok (.iastore, 1) := by decide +kernel
theorem dX4_tried_172 : decode cX4_tried 172 = .ok (.aload_n 0, 1) := by decide +kernel
theorem dX4_tried_173 : decode cX4_tried 173 = .ok (.getfield 86, 3) := by decide +kernel
theorem dX4_tried_176 : decode cX4_tried 176 = .ok (.iload_n 1, 1) := by decide +kernel
theorem dX4_tried_177 : decode cX4_tried 177 = .ok (.aload_n 0, 1) := by decide +kernel
theorem dX4_tried_178 : decode cX4_tried 178 = .ok (.getfield 142, 3) := by decide +kernel
theorem dX4_tried_181 : decode cX4_tried 181 = .ok (.iastore, 1) := by decide +kernel
theorem dX4_tried_182 : decode cX4_tried 182 = .ok (.aload_n 0, 1) := by decide +kernel
theorem dX4_tried_183 : decode cX4_tried 183 = .ok (.getfield 89, 3) := by decide +kernel
theorem dX4_tried_186 : decode cX4_tried 186 = .ok (.iload_n 1, 1) := by decide +kernel
theorem dX4_tried_187 : decode cX4_tried 187 = .ok (.aload_n 0, 1) := by decide +kernel
theorem dX4_tried_188 : decode cX4_tried 188 = .ok (.getfield 171, 3) := by decide +kernel
theorem dX4_tried_191 : decode cX4_tried 191 = .ok (.iastore, 1) := by decide +kernel
theorem dX4_tried_192 : decode cX4_tried 192 = .ok (.aload_n 0, 1) := by decide +kernel
theorem dX4_tried_193 : decode cX4_tried 193 = .ok (.getfield 77, 3) := by decide +kernel
theorem dX4_tried_196 : decode cX4_tried 196 = .ok (.iload_n 1, 1) := by decide +kernel
theorem dX4_tried_197 : decode cX4_tried 197 = .ok (.iconst 2, 1) := by decide +kernel
theorem dX4_tried_198 : decode cX4_tried 198 = .ok (.iastore, 1) := by decide +kernel
theorem dX4_tried_199 : decode cX4_tried 199 = .ok (.aload_n 0, 1) := by decide +kernel
theorem dX4_tried_200 : decode cX4_tried 200 = .ok (.iconst 0, 1) := by decide +kernel
theorem dX4_tried_201 : decode cX4_tried 201 = .ok (.putfield 197, 3) := by decide +kernel
theorem dX4_tried_204 : decode cX4_tried 204 = .ok (.aload_n 0, 1) := by decide +kernel
theorem dX4_tried_205 : decode cX4_tried 205 = .ok (.iload 4, 2) := by decide +kernel
theorem dX4_tried_207 : decode cX4_tried 207 = .ok (.iconst 1, 1) := by decide +kernel
theorem dX4_tried_208 : decode cX4_tried 208 = .ok (.iadd, 1) := by decide +kernel
theorem dX4_tried_209 : decode cX4_tried 209 = .ok (.putfield 174, 3) := by decide +kernel
theorem dX4_tried_212 : decode cX4_tried 212 = .ok (.return_, 1) := by decide +kernel
theorem dX4_looped_0 : decode cX4_looped 0 = .ok (.aload_n 0, 1) := by decide +kernel
theorem dX4_looped_1 : decode cX4_looped 1 = .ok (.getfield 197, 3) := by decide +kernel
theorem dX4_looped_4 : decode cX4_looped 4 = .ok (.ifCond .eq 13, 3) := by decide +kernel
theorem dX4_looped_7 : decode cX4_looped 7 = .ok (.aload_n 0, 1) := by decide +kernel
theorem dX4_looped_8 : decode cX4_looped 8 = .ok (.getfield 197, 3) := by decide +kernel
theorem dX4_looped_11 : decode cX4_looped 11 = .ok (.sipush 200, 3) := by decide +kernel
theorem dX4_looped_14 : decode cX4_looped 14 = .ok (.if_icmp .ne 13, 3) := by decide +kernel
theorem dX4_looped_17 : decode cX4_looped 17 = .ok (.aload_n 0, 1) := by decide +kernel
theorem dX4_looped_18 : decode cX4_looped 18 = .ok (.iconst 0, 1) := by decide +kernel
theorem dX4_looped_19 : decode cX4_looped 19 = .ok (.putfield 197, 3) := by decide +kernel
theorem dX4_looped_22 : decode cX4_looped 22 = .ok (.aload_n 0, 1) := by decide +kernel
theorem dX4_looped_23 : decode cX4_looped 23 = .ok (.invokevirtual 183, 3) := by decide +kernel
theorem dX4_looped_26 : decode cX4_looped 26 = .ok (.return_, 1) := by decide +kernel
theorem dX4_looped_27 : decode cX4_looped 27 = .ok (.aload_n 0, 1) := by decide +kernel
theorem dX4_looped_28 : decode cX4_looped 28 = .ok (.getfield 197, 3) := by decide +kernel
theorem dX4_looped_31 : decode cX4_looped 31 = .ok (.bipush 100, 2) := by decide +kernel
theorem dX4_looped_33 : decode cX4_looped 33 = .ok (.if_icmp .ne 11, 3) := by decide +kernel
theorem dX4_looped_36 : decode cX4_looped 36 = .ok (.aload_n 0, 1) := by decide +kernel
theorem dX4_looped_37 : decode cX4_looped 37 = .ok (.iconst 0, 1) := by decide +kernel
theorem dX4_looped_38 : decode cX4_looped 38 = .ok (.putfield 197, 3) := by decide +kernel
theorem dX4_looped_41 : decode cX4_looped 41 = .ok (.goto 22, 3) := by decide +kernel
theorem dX4_looped_44 : decode cX4_looped 44 = .ok (.aload_n 0, 1) := by decide +kernel
theorem dX4_looped_45 : decode cX4_looped 45 = .ok (.getfield 197, 3) := by decide +kernel
theorem dX4_looped_48 : decode cX4_looped 48 = .ok (.bipush 100, 2) := by decide +kernel
theorem dX4_looped_50 : decode cX4_looped 50 = .ok (.if_icmp .le 13, 3) := by decide +kernel
theorem dX4_looped_53 : decode cX4_looped 53 = .ok (.aload_n 0, 1) := by decide +kernel
theorem dX4_looped_54 : decode cX4_looped 54 = .ok (.dup, 1) := by decide +kernel
theorem dX4_looped_55 : decode cX4_looped 55 = .ok (.getfield 197, 3) := by decide +kernel
theorem dX4_looped_58 : decode cX4_looped 58 = .ok (.iconst 1, 1) := by decide +kernel
theorem dX4_looped_59 : decode cX4_looped 59 = .ok (.isub, 1) := by decide +kernel
theorem dX4_looped_60 : decode cX4_looped 60 = .ok (.putfield 197, 3) := by decide +kernel
theorem dX4_looped_63 : decode cX4_looped 63 = .ok (.aload_n 0, 1) := by decide +kernel
theorem dX4_looped_64 : decode cX4_looped 64 = .ok (.invokevirtual 190, 3) := by decide +kernel
theorem dX4_looped_67 : decode cX4_looped 67 = .ok (.return_, 1) := by decide +kernel
theorem dX4_atEnd_0 : decode cX4_atEnd 0 = .ok (.aload_n 0, 1) := by decide +kernel
theorem dX4_atEnd_1 : decode cX4_atEnd 1 = .ok (.getfield 68, 3) := by decide +kernel
theorem dX4_atEnd_4 : decode cX4_atEnd 4 = .ok (.aload_n 0, 1) := by decide +kernel
theorem dX4_atEnd_5 : decode cX4_atEnd 5 = .ok (.getfield 95, 3) := by decide +kernel
theorem dX4_atEnd_8 : decode cX4_atEnd 8 = .ok (.iconst 1, 1) := by decide +kernel
theorem dX4_atEnd_9 : decode cX4_atEnd 9 = .ok (.isub, 1) := by decide +kernel
theorem dX4_atEnd_10 : decode cX4_atEnd 10 = .ok (.iaload, 1) := by decide +kernel
theorem dX4_atEnd_11 : decode cX4_atEnd 11 = .ok (.ifCond .ne 27, 3) := by decide +kernel
theorem dX4_atEnd_14 : decode cX4_atEnd 14 = .ok (.aload_n 0, 1) := by decide +kernel
theorem dX4_atEnd_15 : decode cX4_atEnd 15 = .ok (.getfield 174, 3) := by decide +kernel
theorem dX4_atEnd_18 : decode cX4_atEnd 18 = .ok (.aload_n 0, 1) := by decide +kernel
theorem dX4_atEnd_19 : decode cX4_atEnd 19 = .ok (.getfield 74, 3) := by decide +kernel
theorem dX4_atEnd_22 : decode cX4_atEnd 22 = .ok (.aload_n 0, 1) := by decide +kernel
theorem dX4_atEnd_23 : decode cX4_atEnd 23 = .ok (.getfield 95, 3) := by decide +kernel
theorem dX4_atEnd_26 : decode cX4_atEnd 26 = .ok (.iconst 1, 1) := by decide +kernel
theorem dX4_atEnd_27 : decode cX4_atEnd 27 = .ok (.isub, 1) := by decide +kernel
theorem dX4_atEnd_28 : decode cX4_atEnd 28 = .ok (.iaload, 1) := by decide +kernel
theorem dX4_atEnd_29 : decode cX4_atEnd 29 = .ok (.if_icmp .ne 7, 3) := by decide +kernel
theorem dX4_atEnd_32 : decode cX4_atEnd 32 = .ok (.iconst 1, 1) := by decide +kernel
theorem dX4_atEnd_33 : decode cX4_atEnd 33 = .ok (.goto 4, 3) := by decide +kernel
theorem dX4_atEnd_36 : decode cX4_atEnd 36 = .ok (.iconst 0, 1) := by decide +kernel
theorem dX4_atEnd_37 : decode cX4_atEnd 37 = .ok (.ireturn, 1) := by decide +kernel
theorem dX4_atEnd_38 : decode cX4_atEnd 38 = .ok (.aload_n 0, 1) := by decide +kernel
theorem dX4_atEnd_39 : decode cX4_atEnd 39 = .ok (.getfield 7, 3) := by decide +kernel
theorem dX4_atEnd_42 : decode cX4_atEnd 42 = .ok (.aload_n 0, 1) := by decide +kernel
theorem dX4_atEnd_43 : decode cX4_atEnd 43 = .ok (.getfield 174, 3) := by decide +kernel
theorem dX4_atEnd_46 : decode cX4_atEnd 46 = .ok (.iaload, 1) := by decide +kernel
theorem dX4_atEnd_47 : decode cX4_atEnd 47 = .ok (.istore_n 1, 1) := by decide +kernel
theorem dX4_atEnd_48 : decode cX4_atEnd 48 = .ok (.iload_n 1, 1) := by decide +kernel
theorem dX4_atEnd_49 : decode cX4_atEnd 49 = .ok (.bipush 11, 2) := by decide +kernel
theorem dX4_atEnd_51 : decode cX4_atEnd 51 = .ok (.if_icmp .eq 21, 3) := by decide +kernel
theorem dX4_atEnd_54 : decode cX4_atEnd 54 = .ok (.iload_n 1, 1) := by decide +kernel
theorem dX4_atEnd_55 : decode cX4_atEnd 55 = .ok (.bipush 12, 2) := by decide +kernel
theorem dX4_atEnd_57 : decode cX4_atEnd 57 = .ok (.if_icmp .eq 15, 3) := by decide +kernel
theorem dX4_atEnd_60 : decode cX4_atEnd 60 = .ok (.iload_n 1, 1) := by decide +kernel
theorem dX4_atEnd_61 : decode cX4_atEnd 61 = .ok (.bipush 22, 2) := by decide +kernel
theorem dX4_atEnd_63 : decode cX4_atEnd 63 = .ok (.if_icmp .eq 9, 3) := by decide +kernel
theorem dX4_atEnd_66 : decode cX4_atEnd 66 = .ok (.iload_n 1, 1) := by decide +kernel
theorem dX4_atEnd_67 : decode cX4_atEnd 67 = .ok (.bipush 16, 2) := by decide +kernel
theorem dX4_atEnd_69 : decode cX4_atEnd 69 = .ok (.if_icmp .ne 7, 3) := by decide +kernel
theorem dX4_atEnd_72 : decode cX4_atEnd 72 = .ok (.iconst 1, 1) := by decide +kernel
theorem dX4_atEnd_73 : decode cX4_atEnd 73 = .ok (.goto 4, 3) := by decide +kernel
theorem dX4_atEnd_76 : decode cX4_atEnd 76 = .ok (.iconst 0, 1) := by decide +kernel
theorem dX4_atEnd_77 : decode cX4_atEnd 77 = .ok (.ireturn, 1) := by decide +kernel
theorem dX4_settle_0 : decode cX4_settle 0 = .ok (.iconst 0, 1) := by decide +kernel
theorem dX4_settle_1 : decode cX4_settle 1 = .ok (.istore_n 1, 1) := by decide +kernel
theorem dX4_settle_2 : decode cX4_settle 2 = .ok (.iload_n 1, 1) := by decide +kernel
theorem dX4_settle_3 : decode cX4_settle 3 = .ok (.iconst 4, 1) := by decide +kernel
theorem dX4_settle_4 : decode cX4_settle 4 = .ok (.if_icmp .ge 43, 3) := by decide +kernel
theorem dX4_settle_7 : decode cX4_settle 7 = .ok (.aload_n 0, 1) := by decide +kernel
theorem dX4_settle_8 : decode cX4_settle 8 = .ok (.getfield 41, 3) := by decide +kernel
theorem dX4_settle_11 : decode cX4_settle 11 = .ok (.iload_n 1, 1) := by decide +kernel
theorem dX4_settle_12 : decode cX4_settle 12 = .ok (.aload_n 0, 1) := by decide +kernel
theorem dX4_settle_13 : decode cX4_settle 13 = .ok (.getfield 35, 3) := by decide +kernel
theorem dX4_settle_16 : decode cX4_settle 16 = .ok (.aload_n 0, 1) := by decide +kernel
theorem dX4_settle_17 : decode cX4_settle 17 = .ok (.getfield 32, 3) := by decide +kernel
theorem dX4_settle_20 : decode cX4_settle 20 = .ok (.iload_n 1, 1) := by decide +kernel
theorem dX4_settle_21 : decode cX4_settle 21 = .ok (.iaload, 1) := by decide +kernel
theorem dX4_settle_22 : decode cX4_settle 22 = .ok (.iaload, 1) := by decide +kernel
theorem dX4_settle_23 : decode cX4_settle 23 = .ok (.iastore, 1) := by decide +kernel
theorem dX4_settle_24 : decode cX4_settle 24 = .ok (.aload_n 0, 1) := by decide +kernel
theorem dX4_settle_25 : decode cX4_settle 25 = .ok (.getfield 44, 3) := by decide +kernel
theorem dX4_settle_28 : decode cX4_settle 28 = .ok (.iload_n 1, 1) := by decide +kernel
theorem dX4_settle_29 : decode cX4_settle 29 = .ok (.aload_n 0, 1) := by decide +kernel
theorem dX4_settle_30 : decode cX4_settle 30 = .ok (.getfield 38, 3) := by decide +kernel
theorem dX4_settle_33 : decode cX4_settle 33 = .ok (.aload_n 0, 1) := by decide +kernel
theorem dX4_settle_34 : decode cX4_settle 34 = .ok (.getfield 32, 3) := by decide +kernel
theorem dX4_settle_37 : decode cX4_settle 37 = .ok (.iload_n 1, 1) := by decide +kernel
theorem dX4_settle_38 : decode cX4_settle 38 = .ok (.iaload, 1) := by decide +kernel
theorem dX4_settle_39 : decode cX4_settle 39 = .ok (.iaload, 1) := by decide +kernel
theorem dX4_settle_40 : decode cX4_settle 40 = .ok (.iastore, 1) := by decide +kernel
theorem dX4_settle_41 : decode cX4_settle 41 = .ok (.iinc 1 1, 3) := by decide +kernel
theorem dX4_settle_44 : decode cX4_settle 44 = .ok (.goto (-42), 3) := by decide +kernel
theorem dX4_settle_47 : decode cX4_settle 47 = .ok (.iconst 0, 1) := by decide +kernel
theorem dX4_settle_48 : decode cX4_settle 48 = .ok (.istore_n 1, 1) := by decide +kernel
theorem dX4_settle_49 : decode cX4_settle 49 = .ok (.iload_n 1, 1) := by decide +kernel
theorem dX4_settle_50 : decode cX4_settle 50 = .ok (.iconst 4, 1) := by decide +kernel
theorem dX4_settle_51 : decode cX4_settle 51 = .ok (.if_icmp .ge 59, 3) := by decide +kernel
theorem dX4_settle_54 : decode cX4_settle 54 = .ok (.aload_n 0, 1) := by decide +kernel
theorem dX4_settle_55 : decode cX4_settle 55 = .ok (.getfield 35, 3) := by decide +kernel
theorem dX4_settle_58 : decode cX4_settle 58 = .ok (.iload_n 1, 1) := by decide +kernel
theorem dX4_settle_59 : decode cX4_settle 59 = .ok (.iconst 1, 1) := by decide +kernel
theorem dX4_settle_60 : decode cX4_settle 60 = .ok (.iadd, 1) := by decide +kernel
theorem dX4_settle_61 : decode cX4_settle 61 = .ok (.aload_n 0, 1) := by decide +kernel
theorem dX4_settle_62 : decode cX4_settle 62 = .ok (.getfield 41, 3) := by decide +kernel
theorem dX4_settle_65 : decode cX4_settle 65 = .ok (.iload_n 1, 1) := by decide +kernel
theorem dX4_settle_66 : decode cX4_settle 66 = .ok (.iaload, 1) := by decide +kernel
theorem dX4_settle_67 : decode cX4_settle 67 = .ok (.iastore, 1) := by decide +kernel
theorem dX4_settle_68 : decode cX4_settle 68 = .ok (.aload_n 0, 1) := by decide +kernel
theorem dX4_settle_69 : decode cX4_settle 69 = .ok (.getfield 38, 3) := by decide +kernel
theorem dX4_settle_72 : decode cX4_settle 72 = .ok (.iload_n 1, 1) := by decide +kernel
theorem dX4_settle_73 : decode cX4_settle 73 = .ok (.iconst 1, 1) := by decide +kernel
theorem dX4_settle_74 : decode cX4_settle 74 = .ok (.iadd, 1) := by decide +kernel
theorem dX4_settle_75 : decode cX4_settle 75 = .ok (.aload_n 0, 1) := by decide +kernel
theorem dX4_settle_76 : decode cX4_settle 76 = .ok (.getfield 44, 3) := by decide +kernel
theorem dX4_settle_79 : decode cX4_settle 79 = .ok (.iload_n 1, 1) := by decide +kernel
theorem dX4_settle_80 : decode cX4_settle 80 = .ok (.iaload, 1) := by decide +kernel
theorem dX4_settle_81 : decode cX4_settle 81 = .ok (.iastore, 1) := by decide +kernel
theorem dX4_settle_82 : decode cX4_settle 82 = .ok (.aload_n 0, 1) := by decide +kernel
theorem dX4_settle_83 : decode cX4_settle 83 = .ok (.getfield 32, 3) := by decide +kernel
theorem dX4_settle_86 : decode cX4_settle 86 = .ok (.iload_n 1, 1) := by decide +kernel
theorem dX4_settle_87 : decode cX4_settle 87 = .ok (.aload_n 0, 1) := by decide +kernel
theorem dX4_settle_88 : decode cX4_settle 88 = .ok (.getfield 32, 3) := by decide +kernel
theorem dX4_settle_91 : decode cX4_settle 91 = .ok (.iload_n 1, 1) := by decide +kernel
theorem dX4_settle_92 : decode cX4_settle 92 = .ok (.iaload, 1) := by decide +kernel
theorem dX4_settle_93 : decode cX4_settle 93 = .ok (.ifCond .ne 7, 3) := by decide +kernel
theorem dX4_settle_96 : decode cX4_settle 96 = .ok (.iconst 0, 1) := by decide +kernel
theorem dX4_settle_97 : decode cX4_settle 97 = .ok (.goto 6, 3) := by decide +kernel
theorem dX4_settle_100 : decode cX4_settle 100 = .ok (.iload_n 1, 1) := by decide +kernel
theorem dX4_settle_101 : decode cX4_settle 101 = .ok (.iconst 1, 1) := by decide +kernel
theorem dX4_settle_102 : decode cX4_settle 102 = .ok (.iadd, 1) := by decide +kernel
theorem dX4_settle_103 : decode cX4_settle 103 = .ok (.iastore, 1) := by decide +kernel
theorem dX4_settle_104 : decode cX4_settle 104 = .ok (.iinc 1 1, 3) := by decide +kernel
theorem dX4_settle_107 : decode cX4_settle 107 = .ok (.goto (-58), 3) := by decide +kernel
theorem dX4_settle_110 : decode cX4_settle 110 = .ok (.aload_n 0, 1) := by decide +kernel
theorem dX4_settle_111 : decode cX4_settle 111 = .ok (.iconst 5, 1) := by decide +kernel
theorem dX4_settle_112 : decode cX4_settle 112 = .ok (.putfield 47, 3) := by decide +kernel
theorem dX4_settle_115 : decode cX4_settle 115 = .ok (.return_, 1) := by decide +kernel
theorem dX4_run_0 : decode cX4_run 0 = .ok (.iload_n 1, 1) := by decide +kernel
theorem dX4_run_1 : decode cX4_run 1 = .ok (.bipush 7, 2) := by decide +kernel
theorem dX4_run_3 : decode cX4_run 3 = .ok (.invokestatic 105, 3) := by decide +kernel
theorem dX4_run_6 : decode cX4_run 6 = .ok (.ifCond .ne 9, 3) := by decide +kernel
theorem dX4_run_9 : decode cX4_run 9 = .ok (.aload_n 0, 1) := by decide +kernel
theorem dX4_run_10 : decode cX4_run 10 = .ok (.iconst 1, 1) := by decide +kernel
theorem dX4_run_11 : decode cX4_run 11 = .ok (.invokevirtual 113, 3) := by decide +kernel
theorem dX4_run_14 : decode cX4_run 14 = .ok (.ireturn, 1) := by decide +kernel
theorem dX4_run_15 : decode cX4_run 15 = .ok (.aload_n 0, 1) := by decide +kernel
theorem dX4_run_16 : decode cX4_run 16 = .ok (.iload_n 1, 1) := by decide +kernel
theorem dX4_run_17 : decode cX4_run 17 = .ok (.invokevirtual 203, 3) := by decide +kernel
theorem dX4_run_20 : decode cX4_run 20 = .ok (.ifCond .eq 9, 3) := by decide +kernel
theorem dX4_run_23 : decode cX4_run 23 = .ok (.aload_n 0, 1) := by decide +kernel
theorem dX4_run_24 : decode cX4_run 24 = .ok (.iconst 2, 1) := by decide +kernel
theorem dX4_run_25 : decode cX4_run 25 = .ok (.invokevirtual 113, 3) := by decide +kernel
theorem dX4_run_28 : decode cX4_run 28 = .ok (.ireturn, 1) := by decide +kernel
theorem dX4_run_29 : decode cX4_run 29 = .ok (.aload_n 0, 1) := by decide +kernel
theorem dX4_run_30 : decode cX4_run 30 = .ok (.iconst 0, 1) := by decide +kernel
theorem dX4_run_31 : decode cX4_run 31 = .ok (.putfield 92, 3) := by decide +kernel
theorem dX4_run_34 : decode cX4_run 34 = .ok (.aload_n 0, 1) := by decide +kernel
theorem dX4_run_35 : decode cX4_run 35 = .ok (.iconst 0, 1) := by decide +kernel
theorem dX4_run_36 : decode cX4_run 36 = .ok (.putfield 145, 3) := by decide +kernel
theorem dX4_run_39 : decode cX4_run 39 = .ok (.aload_n 0, 1) := by decide +kernel
theorem dX4_run_40 : decode cX4_run 40 = .ok (.iconst 0, 1) := by decide +kernel
theorem dX4_run_41 : decode cX4_run 41 = .ok (.putfield 139, 3) := by decide +kernel
theorem dX4_run_44 : decode cX4_run 44 = .ok (.aload_n 0, 1) := by decide +kernel
theorem dX4_run_45 : decode cX4_run 45 = .ok (.iconst 0, 1) := by decide +kernel
theorem dX4_run_46 : decode cX4_run 46 = .ok (.putfield 127, 3) := by decide +kernel
theorem dX4_run_49 : decode cX4_run 49 = .ok (.aload_n 0, 1) := by decide +kernel
theorem dX4_run_50 : decode cX4_run 50 = .ok (.iconst 0, 1) := by decide +kernel
theorem dX4_run_51 : decode cX4_run 51 = .ok (.putfield 130, 3) := by decide +kernel
theorem dX4_run_54 : decode cX4_run 54 = .ok (.aload_n 0, 1) := by decide +kernel
theorem dX4_run_55 : decode cX4_run 55 = .ok (.iconst 1, 1) := by decide +kernel
theorem dX4_run_56 : decode cX4_run 56 = .ok (.putfield 200, 3) := by decide +kernel
theorem dX4_run_59 : decode cX4_run 59 = .ok (.aload_n 0, 1) := by decide +kernel
theorem dX4_run_60 : decode cX4_run 60 = .ok (.iconst 0, 1) := by decide +kernel
theorem dX4_run_61 : decode cX4_run 61 = .ok (.putfield 171, 3) := by decide +kernel
theorem dX4_run_64 : decode cX4_run 64 = .ok (.aload_n 0, 1) := by decide +kernel
theorem dX4_run_65 : decode cX4_run 65 = .ok (.iconst 0, 1) := by decide +kernel
theorem dX4_run_66 : decode cX4_run 66 = .ok (.putfield 95, 3) := by decide +kernel
theorem dX4_run_69 : decode cX4_run 69 = .ok (.aload_n 0, 1) := by decide +kernel
theorem dX4_run_70 : decode cX4_run 70 = .ok (.iconst 0, 1) := by decide +kernel
theorem dX4_run_71 : decode cX4_run 71 = .ok (.putfield 197, 3) := by decide +kernel
theorem dX4_run_74 : decode cX4_run 74 = .ok (.aload_n 0, 1) := by decide +kernel
theorem dX4_run_75 : decode cX4_run 75 = .ok (.dup, 1) := by decide +kernel
theorem dX4_run_76 : decode cX4_run 76 = .ok (.getfield 227, 3) := by decide +kernel
theorem dX4_run_79 : decode cX4_run 79 = .ok (.iconst 1, 1) := by decide +kernel
theorem dX4_run_80 : decode cX4_run 80 = .ok (.iadd, 1) := by decide +kernel
theorem dX4_run_81 : decode cX4_run 81 = .ok (.putfield 227, 3) := by decide +kernel
theorem dX4_run_84 : decode cX4_run 84 = .ok (.aload_n 0, 1) := by decide +kernel
theorem dX4_run_85 : decode cX4_run 85 = .ok (.invokevirtual 230, 3) := by decide +kernel
theorem dX4_run_88 : decode cX4_run 88 = .ok (.aload_n 0, 1) := by decide +kernel
theorem dX4_run_89 : decode cX4_run 89 = .ok (.iconst 0, 1) := by decide +kernel
theorem dX4_run_90 : decode cX4_run 90 = .ok (.iconst 0, 1) := by decide +kernel
theorem dX4_run_91 : decode cX4_run 91 = .ok (.bipush 60, 2) := by decide +kernel
theorem dX4_run_93 : decode cX4_run 93 = .ok (.iload_n 1, 1) := by decide +kernel
theorem dX4_run_94 : decode cX4_run 94 = .ok (.imul, 1) := by decide +kernel
theorem dX4_run_95 : decode cX4_run 95 = .ok (.aload_n 0, 1) := by decide +kernel
theorem dX4_run_96 : decode cX4_run 96 = .ok (.getfield 19, 3) := by decide +kernel
theorem dX4_run_99 : decode cX4_run 99 = .ok (.iload_n 1, 1) := by decide +kernel
theorem dX4_run_100 : decode cX4_run 100 = .ok (.iaload, 1) := by decide +kernel
theorem dX4_run_101 : decode cX4_run 101 = .ok (.iadd, 1) := by decide +kernel
theorem dX4_run_102 : decode cX4_run 102 = .ok (.invokevirtual 180, 3) := by decide +kernel
theorem dX4_run_105 : decode cX4_run 105 = .ok (.aload_n 0, 1) := by decide +kernel
theorem dX4_run_106 : decode cX4_run 106 = .ok (.bipush 60, 2) := by decide +kernel
theorem dX4_run_108 : decode cX4_run 108 = .ok (.iload_n 1, 1) := by decide +kernel
theorem dX4_run_109 : decode cX4_run 109 = .ok (.imul, 1) := by decide +kernel
theorem dX4_run_110 : decode cX4_run 110 = .ok (.putfield 174, 3) := by decide +kernel
theorem dX4_run_113 : decode cX4_run 113 = .ok (.aload_n 0, 1) := by decide +kernel
theorem dX4_run_114 : decode cX4_run 114 = .ok (.getfield 95, 3) := by decide +kernel
theorem dX4_run_117 : decode cX4_run 117 = .ok (.ifCond .le 31, 3) := by decide +kernel
theorem dX4_run_120 : decode cX4_run 120 = .ok (.aload_n 0, 1) := by decide +kernel
theorem dX4_run_121 : decode cX4_run 121 = .ok (.getfield 197, 3) := by decide +kernel
theorem dX4_run_124 : decode cX4_run 124 = .ok (.ifCond .ne 10, 3) := by decide +kernel
theorem dX4_run_127 : decode cX4_run 127 = .ok (.aload_n 0, 1) := by decide +kernel
theorem dX4_run_128 : decode cX4_run 128 = .ok (.invokevirtual 233, 3) := by decide +kernel
theorem dX4_run_131 : decode cX4_run 131 = .ok (.ifCond .eq 10, 3) := by decide +kernel
theorem dX4_run_134 : decode cX4_run 134 = .ok (.aload_n 0, 1) := by decide +kernel
theorem dX4_run_135 : decode cX4_run 135 = .ok (.invokevirtual 236, 3) := by decide +kernel
theorem dX4_run_138 : decode cX4_run 138 = .ok (.goto (-25), 3) := by decide +kernel
theorem dX4_run_141 : decode cX4_run 141 = .ok (.aload_n 0, 1) := by decide +kernel
theorem dX4_run_142 : decode cX4_run 142 = .ok (.invokevirtual 239, 3) := by decide +kernel
theorem dX4_run_145 : decode cX4_run 145 = .ok (.goto (-32), 3) := by decide +kernel
theorem dX4_run_148 : decode cX4_run 148 = .ok (.aload_n 0, 1) := by decide +kernel
theorem dX4_run_149 : decode cX4_run 149 = .ok (.aload_n 0, 1) := by decide +kernel
theorem dX4_run_150 : decode cX4_run 150 = .ok (.getfield 197, 3) := by decide +kernel
theorem dX4_run_153 : decode cX4_run 153 = .ok (.iconst 2, 1) := by decide +kernel
theorem dX4_run_154 : decode cX4_run 154 = .ok (.if_icmp .ne 10, 3) := by decide +kernel
theorem dX4_run_157 : decode cX4_run 157 = .ok (.aload_n 0, 1) := by decide +kernel
theorem dX4_run_158 : decode cX4_run 158 = .ok (.getfield 171, 3) := by decide +kernel
theorem dX4_run_161 : decode cX4_run 161 = .ok (.goto 4, 3) := by decide +kernel
theorem dX4_run_164 : decode cX4_run 164 = .ok (.iconst 0, 1) := by decide +kernel
theorem dX4_run_165 : decode cX4_run 165 = .ok (.putfield 242, 3) := by decide +kernel
theorem dX4_run_168 : decode cX4_run 168 = .ok (.aload_n 0, 1) := by decide +kernel
theorem dX4_run_169 : decode cX4_run 169 = .ok (.getfield 197, 3) := by decide +kernel
theorem dX4_run_172 : decode cX4_run 172 = .ok (.ifCond .ne 7, 3) := by decide +kernel
theorem dX4_run_175 : decode cX4_run 175 = .ok (.iconst 0, 1) := by decide +kernel
theorem dX4_run_176 : decode cX4_run 176 = .ok (.goto 33, 3) := by decide +kernel
theorem dX4_run_179 : decode cX4_run 179 = .ok (.aload_n 0, 1) := by decide +kernel
theorem dX4_run_180 : decode cX4_run 180 = .ok (.getfield 197, 3) := by decide +kernel
theorem dX4_run_183 : decode cX4_run 183 = .ok (.iconst 2, 1) := by decide +kernel
theorem dX4_run_184 : decode cX4_run 184 = .ok (.if_icmp .ne 7, 3) := by decide +kernel
theorem dX4_run_187 : decode cX4_run 187 = .ok (.iconst 1, 1) := by decide +kernel
theorem dX4_run_188 : decode cX4_run 188 = .ok (.goto 21, 3) := by decide +kernel
theorem dX4_run_191 : decode cX4_run 191 = .ok (.aload_n 0, 1) := by decide +kernel
theorem dX4_run_192 : decode cX4_run 192 = .ok (.getfield 197, 3) := by decide +kernel
theorem dX4_run_195 : decode cX4_run 195 = .ok (.iconst 1, 1) := by decide +kernel
theorem dX4_run_196 : decode cX4_run 196 = .ok (.if_icmp .ne 12, 3) := by decide +kernel
theorem dX4_run_199 : decode cX4_run 199 = .ok (.iconst 2, 1) := by decide +kernel
theorem dX4_run_200 : decode cX4_run 200 = .ok (.aload_n 0, 1) := by decide +kernel
theorem dX4_run_201 : decode cX4_run 201 = .ok (.getfield 142, 3) := by decide +kernel
theorem dX4_run_204 : decode cX4_run 204 = .ok (.iadd, 1) := by decide +kernel
theorem dX4_run_205 : decode cX4_run 205 = .ok (.goto 4, 3) := by decide +kernel
theorem dX4_run_208 : decode cX4_run 208 = .ok (.iconst (-1), 1) := by decide +kernel
theorem dX4_run_209 : decode cX4_run 209 = .ok (.ireturn, 1) := by decide +kernel
theorem dX4_given_0 : decode cX4_given 0 = .ok (.aload_n 0, 1) := by decide +kernel
theorem dX4_given_1 : decode cX4_given 1 = .ok (.iconst 0, 1) := by decide +kernel
theorem dX4_given_2 : decode cX4_given 2 = .ok (.putfield 92, 3) := by decide +kernel
theorem dX4_given_5 : decode cX4_given 5 = .ok (.aload_n 0, 1) := by decide +kernel
theorem dX4_given_6 : decode cX4_given 6 = .ok (.getfield 242, 3) := by decide +kernel
theorem dX4_given_9 : decode cX4_given 9 = .ok (.ireturn, 1) := by decide +kernel
theorem dX4_number_0 : decode cX4_number 0 = .ok (.iload_n 1, 1) := by decide +kernel
theorem dX4_number_1 : decode cX4_number 1 = .ok (.bipush 7, 2) := by decide +kernel
theorem dX4_number_3 : decode cX4_number 3 = .ok (.invokestatic 105, 3) := by decide +kernel
theorem dX4_number_6 : decode cX4_number 6 = .ok (.ifCond .ne 9, 3) := by decide +kernel
theorem dX4_number_9 : decode cX4_number 9 = .ok (.aload_n 0, 1) := by decide +kernel
theorem dX4_number_10 : decode cX4_number 10 = .ok (.iconst 1, 1) := by decide +kernel
theorem dX4_number_11 : decode cX4_number 11 = .ok (.invokevirtual 113, 3) := by decide +kernel
theorem dX4_number_14 : decode cX4_number 14 = .ok (.ireturn, 1) := by decide +kernel
theorem dX4_number_15 : decode cX4_number 15 = .ok (.aload_n 0, 1) := by decide +kernel
theorem dX4_number_16 : decode cX4_number 16 = .ok (.iconst 0, 1) := by decide +kernel
theorem dX4_number_17 : decode cX4_number 17 = .ok (.putfield 92, 3) := by decide +kernel
theorem dX4_number_20 : decode cX4_number 20 = .ok (.aload_n 0, 1) := by decide +kernel
theorem dX4_number_21 : decode cX4_number 21 = .ok (.getfield 22, 3) := by decide +kernel
theorem dX4_number_24 : decode cX4_number 24 = .ok (.iload_n 1, 1) := by decide +kernel
theorem dX4_number_25 : decode cX4_number 25 = .ok (.iaload, 1) := by decide +kernel
theorem dX4_number_26 : decode cX4_number 26 = .ok (.ireturn, 1) := by decide +kernel
theorem dX4_row_0 : decode cX4_row 0 = .ok (.iload_n 1, 1) := by decide +kernel
theorem dX4_row_1 : decode cX4_row 1 = .ok (.ifCond .lt 11, 3) := by decide +kernel
theorem dX4_row_4 : decode cX4_row 4 = .ok (.iload_n 1, 1) := by decide +kernel
theorem dX4_row_5 : decode cX4_row 5 = .ok (.aload_n 0, 1) := by decide +kernel
theorem dX4_row_6 : decode cX4_row 6 = .ok (.getfield 28, 3) := by decide +kernel
theorem dX4_row_9 : decode cX4_row 9 = .ok (.if_icmp .lt 9, 3) := by decide +kernel
theorem dX4_row_12 : decode cX4_row 12 = .ok (.aload_n 0, 1) := by decide +kernel
theorem dX4_row_13 : decode cX4_row 13 = .ok (.iconst 1, 1) := by decide +kernel
theorem dX4_row_14 : decode cX4_row 14 = .ok (.invokevirtual 113, 3) := by decide +kernel
theorem dX4_row_17 : decode cX4_row 17 = .ok (.ireturn, 1) := by decide +kernel
theorem dX4_row_18 : decode cX4_row 18 = .ok (.aload_n 0, 1) := by decide +kernel
theorem dX4_row_19 : decode cX4_row 19 = .ok (.iconst 0, 1) := by decide +kernel
theorem dX4_row_20 : decode cX4_row 20 = .ok (.putfield 92, 3) := by decide +kernel
theorem dX4_row_23 : decode cX4_row 23 = .ok (.aload_n 0, 1) := by decide +kernel
theorem dX4_row_24 : decode cX4_row 24 = .ok (.getfield 25, 3) := by decide +kernel
theorem dX4_row_27 : decode cX4_row 27 = .ok (.iload_n 1, 1) := by decide +kernel
theorem dX4_row_28 : decode cX4_row 28 = .ok (.iaload, 1) := by decide +kernel
theorem dX4_row_29 : decode cX4_row 29 = .ok (.ireturn, 1) := by decide +kernel
theorem dX4_log_0 : decode cX4_log 0 = .ok (.iload_n 1, 1) := by decide +kernel
theorem dX4_log_1 : decode cX4_log 1 = .ok (.ifCond .lt 11, 3) := by decide +kernel
theorem dX4_log_4 : decode cX4_log 4 = .ok (.iload_n 1, 1) := by decide +kernel
theorem dX4_log_5 : decode cX4_log 5 = .ok (.aload_n 0, 1) := by decide +kernel
theorem dX4_log_6 : decode cX4_log 6 = .ok (.getfield 145, 3) := by decide +kernel
theorem dX4_log_9 : decode cX4_log 9 = .ok (.if_icmp .lt 9, 3) := by decide +kernel
theorem dX4_log_12 : decode cX4_log 12 = .ok (.aload_n 0, 1) := by decide +kernel
theorem dX4_log_13 : decode cX4_log 13 = .ok (.iconst 1, 1) := by decide +kernel
theorem dX4_log_14 : decode cX4_log 14 = .ok (.invokevirtual 113, 3) := by decide +kernel
theorem dX4_log_17 : decode cX4_log 17 = .ok (.ireturn, 1) := by decide +kernel
theorem dX4_log_18 : decode cX4_log 18 = .ok (.aload_n 0, 1) := by decide +kernel
theorem dX4_log_19 : decode cX4_log 19 = .ok (.iconst 0, 1) := by decide +kernel
theorem dX4_log_20 : decode cX4_log 20 = .ok (.putfield 92, 3) := by decide +kernel
theorem dX4_log_23 : decode cX4_log 23 = .ok (.aload_n 0, 1) := by decide +kernel
theorem dX4_log_24 : decode cX4_log 24 = .ok (.getfield 50, 3) := by decide +kernel
theorem dX4_log_27 : decode cX4_log 27 = .ok (.iload_n 1, 1) := by decide +kernel
theorem dX4_log_28 : decode cX4_log 28 = .ok (.iaload, 1) := by decide +kernel
theorem dX4_log_29 : decode cX4_log 29 = .ok (.ireturn, 1) := by decide +kernel
theorem dX4_count_0 : decode cX4_count 0 = .ok (.aload_n 0, 1) := by decide +kernel
theorem dX4_count_1 : decode cX4_count 1 = .ok (.iconst 0, 1) := by decide +kernel
theorem dX4_count_2 : decode cX4_count 2 = .ok (.putfield 92, 3) := by decide +kernel
theorem dX4_count_5 : decode cX4_count 5 = .ok (.iconst 0, 1) := by decide +kernel
theorem dX4_count_6 : decode cX4_count 6 = .ok (.istore_n 2, 1) := by decide +kernel
theorem dX4_count_7 : decode cX4_count 7 = .ok (.iload_n 1, 1) := by decide +kernel
theorem dX4_count_8 : decode cX4_count 8 = .ok (.tableswitch 158 0 13 #[72, 77, 82, 87, 92, 97, 122, 158, 158, 158, 127, 127, 127, 127], 72) := by decide +kernel
theorem dX4_count_80 : decode cX4_count 80 = .ok (.aload_n 0, 1) := by decide +kernel
theorem dX4_count_81 : decode cX4_count 81 = .ok (.getfield 28, 3) := by decide +kernel
theorem dX4_count_84 : decode cX4_count 84 = .ok (.ireturn, 1) := by decide +kernel
theorem dX4_count_85 : decode cX4_count 85 = .ok (.aload_n 0, 1) := by decide +kernel
theorem dX4_count_86 : decode cX4_count 86 = .ok (.getfield 145, 3) := by decide +kernel
theorem dX4_count_89 : decode cX4_count 89 = .ok (.ireturn, 1) := by decide +kernel
theorem dX4_count_90 : decode cX4_count 90 = .ok (.aload_n 0, 1) := by decide +kernel
theorem dX4_count_91 : decode cX4_count 91 = .ok (.getfield 139, 3) := by decide +kernel
theorem dX4_count_94 : decode cX4_count 94 = .ok (.ireturn, 1) := by decide +kernel
theorem dX4_count_95 : decode cX4_count 95 = .ok (.aload_n 0, 1) := by decide +kernel
theorem dX4_count_96 : decode cX4_count 96 = .ok (.getfield 133, 3) := by decide +kernel
theorem dX4_count_99 : decode cX4_count 99 = .ok (.ireturn, 1) := by decide +kernel
theorem dX4_count_100 : decode cX4_count 100 = .ok (.aload_n 0, 1) := by decide +kernel
theorem dX4_count_101 : decode cX4_count 101 = .ok (.getfield 136, 3) := by decide +kernel
theorem dX4_count_104 : decode cX4_count 104 = .ok (.ireturn, 1) := by decide +kernel
theorem dX4_count_105 : decode cX4_count 105 = .ok (.iconst 0, 1) := by decide +kernel
theorem dX4_count_106 : decode cX4_count 106 = .ok (.istore_n 3, 1) := by decide +kernel
theorem dX4_count_107 : decode cX4_count 107 = .ok (.iload_n 3, 1) := by decide +kernel
theorem dX4_count_108 : decode cX4_count 108 = .ok (.bipush 8, 2) := by decide +kernel
theorem dX4_count_110 : decode cX4_count 110 = .ok (.if_icmp .ge 18, 3) := by decide +kernel
theorem dX4_count_113 : decode cX4_count 113 = .ok (.iload_n 2, 1) := by decide +kernel
theorem dX4_count_114 : decode cX4_count 114 = .ok (.aload_n 0, 1) := by decide +kernel
theorem dX4_count_115 : decode cX4_count 115 = .ok (.getfield 19, 3) := by decide +kernel
theorem dX4_count_118 : decode cX4_count 118 = .ok (.iload_n 3, 1) := by decide +kernel
theorem dX4_count_119 : decode cX4_count 119 = .ok (.iaload, 1) := by decide +kernel
theorem dX4_count_120 : decode cX4_count 120 = .ok (.iadd, 1) := by decide +kernel
theorem dX4_count_121 : decode cX4_count 121 = .ok (.istore_n 2, 1) := by decide +kernel
theorem dX4_count_122 : decode cX4_count 122 = .ok (.iinc 3 1, 3) := by decide +kernel
theorem dX4_count_125 : decode cX4_count 125 = .ok (.goto (-18), 3) := by decide +kernel
theorem dX4_count_128 : decode cX4_count 128 = .ok (.iload_n 2, 1) := by decide +kernel
theorem dX4_count_129 : decode cX4_count 129 = .ok (.ireturn, 1) := by decide +kernel
theorem dX4_count_130 : decode cX4_count 130 = .ok (.aload_n 0, 1) := by decide +kernel
theorem dX4_count_131 : decode cX4_count 131 = .ok (.getfield 227, 3) := by decide +kernel
theorem dX4_count_134 : decode cX4_count 134 = .ok (.ireturn, 1) := by decide +kernel
theorem dX4_count_135 : decode cX4_count 135 = .ok (.aload_n 0, 1) := by decide +kernel
theorem dX4_count_136 : decode cX4_count 136 = .ok (.getfield 32, 3) := by decide +kernel
theorem dX4_count_139 : decode cX4_count 139 = .ok (.iload_n 1, 1) := by decide +kernel
theorem dX4_count_140 : decode cX4_count 140 = .ok (.bipush 10, 2) := by decide +kernel
theorem dX4_count_142 : decode cX4_count 142 = .ok (.isub, 1) := by decide +kernel
theorem dX4_count_143 : decode cX4_count 143 = .ok (.iaload, 1) := by decide +kernel
theorem dX4_count_144 : decode cX4_count 144 = .ok (.ifCond .ne 7, 3) := by decide +kernel
theorem dX4_count_147 : decode cX4_count 147 = .ok (.iconst 0, 1) := by decide +kernel
theorem dX4_count_148 : decode cX4_count 148 = .ok (.goto 17, 3) := by decide +kernel
theorem dX4_count_151 : decode cX4_count 151 = .ok (.aload_n 0, 1) := by decide +kernel
theorem dX4_count_152 : decode cX4_count 152 = .ok (.getfield 35, 3) := by decide +kernel
theorem dX4_count_155 : decode cX4_count 155 = .ok (.aload_n 0, 1) := by decide +kernel
theorem dX4_count_156 : decode cX4_count 156 = .ok (.getfield 32, 3) := by decide +kernel
theorem dX4_count_159 : decode cX4_count 159 = .ok (.iload_n 1, 1) := by decide +kernel
theorem dX4_count_160 : decode cX4_count 160 = .ok (.bipush 10, 2) := by decide +kernel
theorem dX4_count_162 : decode cX4_count 162 = .ok (.isub, 1) := by decide +kernel
theorem dX4_count_163 : decode cX4_count 163 = .ok (.iaload, 1) := by decide +kernel
theorem dX4_count_164 : decode cX4_count 164 = .ok (.iaload, 1) := by decide +kernel
theorem dX4_count_165 : decode cX4_count 165 = .ok (.ireturn, 1) := by decide +kernel
theorem dX4_count_166 : decode cX4_count 166 = .ok (.iconst (-1), 1) := by decide +kernel
theorem dX4_count_167 : decode cX4_count 167 = .ok (.ireturn, 1) := by decide +kernel
theorem dJ9_max_7cf53_0 : decode cJ9_max_7cf53 0 = .ok (.iload_n 0, 1) := by decide +kernel
theorem dJ9_max_7cf53_1 : decode cJ9_max_7cf53 1 = .ok (.iload_n 1, 1) := by decide +kernel
theorem dJ9_max_7cf53_2 : decode cJ9_max_7cf53 2 = .ok (.if_icmp .lt 7, 3) := by decide +kernel
theorem dJ9_max_7cf53_5 : decode cJ9_max_7cf53 5 = .ok (.iload_n 0, 1) := by decide +kernel
theorem dJ9_max_7cf53_6 : decode cJ9_max_7cf53 6 = .ok (.goto 4, 3) := by decide +kernel
theorem dJ9_max_7cf53_9 : decode cJ9_max_7cf53 9 = .ok (.iload_n 1, 1) := by decide +kernel
theorem dJ9_max_7cf53_10 : decode cJ9_max_7cf53 10 = .ok (.ireturn, 1) := by decide +kernel
theorem dL_node_0 : decode cL_node 0 = .ok (.aload 5, 2) := by decide +kernel
theorem dL_node_2 : decode cL_node 2 = .ok (.iconst 0, 1) := by decide +kernel
theorem dL_node_3 : decode cL_node 3 = .ok (.aload_n 0, 1) := by decide +kernel
theorem dL_node_4 : decode cL_node 4 = .ok (.iload_n 1, 1) := by decide +kernel
theorem dL_node_5 : decode cL_node 5 = .ok (.iload_n 2, 1) := by decide +kernel
theorem dL_node_6 : decode cL_node 6 = .ok (.iload_n 3, 1) := by decide +kernel
theorem dL_node_7 : decode cL_node 7 = .ok (.iload 4, 2) := by decide +kernel
theorem dL_node_9 : decode cL_node 9 = .ok (.invokevirtual 7, 3) := by decide +kernel
theorem dL_node_12 : decode cL_node 12 = .ok (.i2l, 1) := by decide +kernel
theorem dL_node_13 : decode cL_node 13 = .ok (.lastore, 1) := by decide +kernel
theorem dL_node_14 : decode cL_node 14 = .ok (.goto 11, 3) := by decide +kernel
theorem dL_node_17 : decode cL_node 17 = .ok (.astore 6, 2) := by decide +kernel
theorem dL_node_19 : decode cL_node 19 = .ok (.iconst 1, 1) := by decide +kernel
theorem dL_node_20 : decode cL_node 20 = .ok (.ireturn, 1) := by decide +kernel
theorem dL_node_21 : decode cL_node 21 = .ok (.astore 6, 2) := by decide +kernel
theorem dL_node_23 : decode cL_node 23 = .ok (.iconst 2, 1) := by decide +kernel
theorem dL_node_24 : decode cL_node 24 = .ok (.ireturn, 1) := by decide +kernel
theorem dL_node_25 : decode cL_node 25 = .ok (.iconst 0, 1) := by decide +kernel
theorem dL_node_26 : decode cL_node 26 = .ok (.ireturn, 1) := by decide +kernel
theorem dL_clear_0 : decode cL_clear 0 = .ok (.aload_n 0, 1) := by decide +kernel
theorem dL_clear_1 : decode cL_clear 1 = .ok (.iload_n 1, 1) := by decide +kernel
theorem dL_clear_2 : decode cL_clear 2 = .ok (.invokevirtual 17, 3) := by decide +kernel
theorem dL_clear_5 : decode cL_clear 5 = .ok (.goto 6, 3) := by decide +kernel
theorem dL_clear_8 : decode cL_clear 8 = .ok (.astore_n 2, 1) := by decide +kernel
theorem dL_clear_9 : decode cL_clear 9 = .ok (.iconst 1, 1) := by decide +kernel
theorem dL_clear_10 : decode cL_clear 10 = .ok (.ireturn, 1) := by decide +kernel
theorem dL_clear_11 : decode cL_clear 11 = .ok (.iconst 0, 1) := by decide +kernel
theorem dL_clear_12 : decode cL_clear 12 = .ok (.ireturn, 1) := by decide +kernel
theorem dL_run_0 : decode cL_run 0 = .ok (.aload_n 2, 1) := by decide +kernel
theorem dL_run_1 : decode cL_run 1 = .ok (.iconst 0, 1) := by decide +kernel
theorem dL_run_2 : decode cL_run 2 = .ok (.aload_n 0, 1) := by decide +kernel
theorem dL_run_3 : decode cL_run 3 = .ok (.iload_n 1, 1) := by decide +kernel
theorem dL_run_4 : decode cL_run 4 = .ok (.invokevirtual 21, 3) := by decide +kernel
theorem dL_run_7 : decode cL_run 7 = .ok (.i2l, 1) := by decide +kernel
theorem dL_run_8 : decode cL_run 8 = .ok (.lastore, 1) := by decide +kernel
theorem dL_run_9 : decode cL_run 9 = .ok (.goto 9, 3) := by decide +kernel
theorem dL_run_12 : decode cL_run 12 = .ok (.astore_n 3, 1) := by decide +kernel
theorem dL_run_13 : decode cL_run 13 = .ok (.iconst 1, 1) := by decide +kernel
theorem dL_run_14 : decode cL_run 14 = .ok (.ireturn, 1) := by decide +kernel
theorem dL_run_15 : decode cL_run 15 = .ok (.astore_n 3, 1) := by decide +kernel
theorem dL_run_16 : decode cL_run 16 = .ok (.iconst 2, 1) := by decide +kernel
theorem dL_run_17 : decode cL_run 17 = .ok (.ireturn, 1) := by decide +kernel
theorem dL_run_18 : decode cL_run 18 = .ok (.iconst 0, 1) := by decide +kernel
theorem dL_run_19 : decode cL_run 19 = .ok (.ireturn, 1) := by decide +kernel
theorem dL_number_0 : decode cL_number 0 = .ok (.aload_n 2, 1) := by decide +kernel
theorem dL_number_1 : decode cL_number 1 = .ok (.iconst 0, 1) := by decide +kernel
theorem dL_number_2 : decode cL_number 2 = .ok (.aload_n 0, 1) := by decide +kernel
theorem dL_number_3 : decode cL_number 3 = .ok (.iload_n 1, 1) := by decide +kernel
theorem dL_number_4 : decode cL_number 4 = .ok (.invokevirtual 25, 3) := by decide +kernel
theorem dL_number_7 : decode cL_number 7 = .ok (.i2l, 1) := by decide +kernel
theorem dL_number_8 : decode cL_number 8 = .ok (.lastore, 1) := by decide +kernel
theorem dL_number_9 : decode cL_number 9 = .ok (.goto 6, 3) := by decide +kernel
theorem dL_number_12 : decode cL_number 12 = .ok (.astore_n 3, 1) := by decide +kernel
theorem dL_number_13 : decode cL_number 13 = .ok (.iconst 1, 1) := by decide +kernel
theorem dL_number_14 : decode cL_number 14 = .ok (.ireturn, 1) := by decide +kernel
theorem dL_number_15 : decode cL_number 15 = .ok (.iconst 0, 1) := by decide +kernel
theorem dL_number_16 : decode cL_number 16 = .ok (.ireturn, 1) := by decide +kernel
theorem dL_row_0 : decode cL_row 0 = .ok (.aload_n 2, 1) := by decide +kernel
theorem dL_row_1 : decode cL_row 1 = .ok (.iconst 0, 1) := by decide +kernel
theorem dL_row_2 : decode cL_row 2 = .ok (.aload_n 0, 1) := by decide +kernel
theorem dL_row_3 : decode cL_row 3 = .ok (.iload_n 1, 1) := by decide +kernel
theorem dL_row_4 : decode cL_row 4 = .ok (.invokevirtual 28, 3) := by decide +kernel
theorem dL_row_7 : decode cL_row 7 = .ok (.i2l, 1) := by decide +kernel
theorem dL_row_8 : decode cL_row 8 = .ok (.lastore, 1) := by decide +kernel
theorem dL_row_9 : decode cL_row 9 = .ok (.goto 6, 3) := by decide +kernel
theorem dL_row_12 : decode cL_row 12 = .ok (.astore_n 3, 1) := by decide +kernel
theorem dL_row_13 : decode cL_row 13 = .ok (.iconst 1, 1) := by decide +kernel
theorem dL_row_14 : decode cL_row 14 = .ok (.ireturn, 1) := by decide +kernel
theorem dL_row_15 : decode cL_row 15 = .ok (.iconst 0, 1) := by decide +kernel
theorem dL_row_16 : decode cL_row 16 = .ok (.ireturn, 1) := by decide +kernel
theorem dL_log_0 : decode cL_log 0 = .ok (.aload_n 2, 1) := by decide +kernel
theorem dL_log_1 : decode cL_log 1 = .ok (.iconst 0, 1) := by decide +kernel
theorem dL_log_2 : decode cL_log 2 = .ok (.aload_n 0, 1) := by decide +kernel
theorem dL_log_3 : decode cL_log 3 = .ok (.iload_n 1, 1) := by decide +kernel
theorem dL_log_4 : decode cL_log 4 = .ok (.invokevirtual 31, 3) := by decide +kernel
theorem dL_log_7 : decode cL_log 7 = .ok (.i2l, 1) := by decide +kernel
theorem dL_log_8 : decode cL_log 8 = .ok (.lastore, 1) := by decide +kernel
theorem dL_log_9 : decode cL_log 9 = .ok (.goto 6, 3) := by decide +kernel
theorem dL_log_12 : decode cL_log 12 = .ok (.astore_n 3, 1) := by decide +kernel
theorem dL_log_13 : decode cL_log 13 = .ok (.iconst 1, 1) := by decide +kernel
theorem dL_log_14 : decode cL_log 14 = .ok (.ireturn, 1) := by decide +kernel
theorem dL_log_15 : decode cL_log 15 = .ok (.iconst 0, 1) := by decide +kernel
theorem dL_log_16 : decode cL_log 16 = .ok (.ireturn, 1) := by decide +kernel
theorem dL_law_0 : decode cL_law 0 = .ok (.new 8, 3) := by decide +kernel
theorem dL_law_3 : decode cL_law 3 = .ok (.dup, 1) := by decide +kernel
theorem dL_law_4 : decode cL_law 4 = .ok (.invokespecial 34, 3) := by decide +kernel
theorem dL_law_7 : decode cL_law 7 = .ok (.astore_n 1, 1) := by decide +kernel
theorem dL_law_8 : decode cL_law 8 = .ok (.new 35, 3) := by decide +kernel
theorem dL_law_11 : decode cL_law 11 = .ok (.dup, 1) := by decide +kernel
theorem dL_law_12 : decode cL_law 12 = .ok (.invokespecial 37, 3) := by decide +kernel
theorem dL_law_15 : decode cL_law 15 = .ok (.astore_n 2, 1) := by decide +kernel
theorem dL_law_16 : decode cL_law 16 = .ok (.iconst 1, 1) := by decide +kernel
theorem dL_law_17 : decode cL_law 17 = .ok (.newarray .long, 2) := by decide +kernel
theorem dL_law_19 : decode cL_law 19 = .ok (.astore_n 3, 1) := by decide +kernel
theorem dL_law_20 : decode cL_law 20 = .ok (.iconst 0, 1) := by decide +kernel
theorem dL_law_21 : decode cL_law 21 = .ok (.istore 4, 2) := by decide +kernel
theorem dL_law_23 : decode cL_law 23 = .ok (.iload 4, 2) := by decide +kernel
theorem dL_law_25 : decode cL_law 25 = .ok (.aload_n 0, 1) := by decide +kernel
theorem dL_law_26 : decode cL_law 26 = .ok (.arraylength, 1) := by decide +kernel
theorem dL_law_27 : decode cL_law 27 = .ok (.iconst 5, 1) := by decide +kernel
theorem dL_law_28 : decode cL_law 28 = .ok (.isub, 1) := by decide +kernel
theorem dL_law_29 : decode cL_law 29 = .ok (.if_icmp .gt 451, 3) := by decide +kernel
theorem dL_law_32 : decode cL_law 32 = .ok (.aload_n 0, 1) := by decide +kernel
theorem dL_law_33 : decode cL_law 33 = .ok (.iload 4, 2) := by decide +kernel
theorem dL_law_35 : decode cL_law 35 = .ok (.iaload, 1) := by decide +kernel
theorem dL_law_36 : decode cL_law 36 = .ok (.bipush 7, 2) := by decide +kernel
theorem dL_law_38 : decode cL_law 38 = .ok (.iand, 1) := by decide +kernel
theorem dL_law_39 : decode cL_law 39 = .ok (.tableswitch 435 0 7 #[45, 137, 173, 229, 242, 298, 354, 410], 45) := by decide +kernel
theorem dL_law_84 : decode cL_law 84 = .ok (.aload_n 1, 1) := by decide +kernel
theorem dL_law_85 : decode cL_law 85 = .ok (.aload_n 0, 1) := by decide +kernel
theorem dL_law_86 : decode cL_law 86 = .ok (.iload 4, 2) := by decide +kernel
theorem dL_law_88 : decode cL_law 88 = .ok (.iconst 1, 1) := by decide +kernel
theorem dL_law_89 : decode cL_law 89 = .ok (.iadd, 1) := by decide +kernel
theorem dL_law_90 : decode cL_law 90 = .ok (.iaload, 1) := by decide +kernel
theorem dL_law_91 : decode cL_law 91 = .ok (.aload_n 0, 1) := by decide +kernel
theorem dL_law_92 : decode cL_law 92 = .ok (.iload 4, 2) := by decide +kernel
theorem dL_law_94 : decode cL_law 94 = .ok (.iconst 2, 1) := by decide +kernel
theorem dL_law_95 : decode cL_law 95 = .ok (.iadd, 1) := by decide +kernel
theorem dL_law_96 : decode cL_law 96 = .ok (.iaload, 1) := by decide +kernel
theorem dL_law_97 : decode cL_law 97 = .ok (.aload_n 0, 1) := by decide +kernel
theorem dL_law_98 : decode cL_law 98 = .ok (.iload 4, 2) := by decide +kernel
theorem dL_law_100 : decode cL_law 100 = .ok (.iconst 3, 1) := by decide +kernel
theorem dL_law_101 : decode cL_law 101 = .ok (.iadd, 1) := by decide +kernel
theorem dL_law_102 : decode cL_law 102 = .ok (.iaload, 1) := by decide +kernel
theorem dL_law_103 : decode cL_law 103 = .ok (.aload_n 0, 1) := by decide +kernel
theorem dL_law_104 : decode cL_law 104 = .ok (.iload 4, 2) := by decide +kernel
theorem dL_law_106 : decode cL_law 106 = .ok (.iconst 4, 1) := by decide +kernel
theorem dL_law_107 : decode cL_law 107 = .ok (.iadd, 1) := by decide +kernel
theorem dL_law_108 : decode cL_law 108 = .ok (.iaload, 1) := by decide +kernel
theorem dL_law_109 : decode cL_law 109 = .ok (.aload_n 3, 1) := by decide +kernel
theorem dL_law_110 : decode cL_law 110 = .ok (.invokestatic 38, 3) := by decide +kernel
theorem dL_law_113 : decode cL_law 113 = .ok (.istore 5, 2) := by decide +kernel
theorem dL_law_115 : decode cL_law 115 = .ok (.aload_n 2, 1) := by decide +kernel
theorem dL_law_116 : decode cL_law 116 = .ok (.aload_n 0, 1) := by decide +kernel
theorem dL_law_117 : decode cL_law 117 = .ok (.iload 4, 2) := by decide +kernel
theorem dL_law_119 : decode cL_law 119 = .ok (.iconst 1, 1) := by decide +kernel
theorem dL_law_120 : decode cL_law 120 = .ok (.iadd, 1) := by decide +kernel
theorem dL_law_121 : decode cL_law 121 = .ok (.iaload, 1) := by decide +kernel
theorem dL_law_122 : decode cL_law 122 = .ok (.aload_n 0, 1) := by decide +kernel
theorem dL_law_123 : decode cL_law 123 = .ok (.iload 4, 2) := by decide +kernel
theorem dL_law_125 : decode cL_law 125 = .ok (.iconst 2, 1) := by decide +kernel
theorem dL_law_126 : decode cL_law 126 = .ok (.iadd, 1) := by decide +kernel
theorem dL_law_127 : decode cL_law 127 = .ok (.iaload, 1) := by decide +kernel
theorem dL_law_128 : decode cL_law 128 = .ok (.aload_n 0, 1) := by decide +kernel
theorem dL_law_129 : decode cL_law 129 = .ok (.iload 4, 2) := by decide +kernel
theorem dL_law_131 : decode cL_law 131 = .ok (.iconst 3, 1) := by decide +kernel
theorem dL_law_132 : decode cL_law 132 = .ok (.iadd, 1) := by decide +kernel
theorem dL_law_133 : decode cL_law 133 = .ok (.iaload, 1) := by decide +kernel
theorem dL_law_134 : decode cL_law 134 = .ok (.aload_n 0, 1) := by decide +kernel
theorem dL_law_135 : decode cL_law 135 = .ok (.iload 4, 2) := by decide +kernel
theorem dL_law_137 : decode cL_law 137 = .ok (.iconst 4, 1) := by decide +kernel
theorem dL_law_138 : decode cL_law 138 = .ok (.iadd, 1) := by decide +kernel
theorem dL_law_139 : decode cL_law 139 = .ok (.iaload, 1) := by decide +kernel
theorem dL_law_140 : decode cL_law 140 = .ok (.invokevirtual 43, 3) := by decide +kernel
theorem dL_law_143 : decode cL_law 143 = .ok (.istore 6, 2) := by decide +kernel
theorem dL_law_145 : decode cL_law 145 = .ok (.aload_n 2, 1) := by decide +kernel
theorem dL_law_146 : decode cL_law 146 = .ok (.invokevirtual 44, 3) := by decide +kernel
theorem dL_law_149 : decode cL_law 149 = .ok (.iload 5, 2) := by decide +kernel
theorem dL_law_151 : decode cL_law 151 = .ok (.if_icmp .eq 5, 3) := by decide +kernel
theorem dL_law_154 : decode cL_law 154 = .ok (.iconst 0, 1) := by decide +kernel
theorem dL_law_155 : decode cL_law 155 = .ok (.ireturn, 1) := by decide +kernel
theorem dL_law_156 : decode cL_law 156 = .ok (.iload 5, 2) := by decide +kernel
theorem dL_law_158 : decode cL_law 158 = .ok (.ifCond .ne 15, 3) := by decide +kernel
theorem dL_law_161 : decode cL_law 161 = .ok (.aload_n 3, 1) := by decide +kernel
theorem dL_law_162 : decode cL_law 162 = .ok (.iconst 0, 1) := by decide +kernel
theorem dL_law_163 : decode cL_law 163 = .ok (.laload, 1) := by decide +kernel
theorem dL_law_164 : decode cL_law 164 = .ok (.iload 6, 2) := by decide +kernel
theorem dL_law_166 : decode cL_law 166 = .ok (.i2l, 1) := by decide +kernel
theorem dL_law_167 : decode cL_law 167 = .ok (.lcmp, 1) := by decide +kernel
theorem dL_law_168 : decode cL_law 168 = .ok (.ifCond .eq 5, 3) := by decide +kernel
theorem dL_law_171 : decode cL_law 171 = .ok (.iconst 0, 1) := by decide +kernel
theorem dL_law_172 : decode cL_law 172 = .ok (.ireturn, 1) := by decide +kernel
theorem dL_law_173 : decode cL_law 173 = .ok (.goto 301, 3) := by decide +kernel
theorem dL_law_176 : decode cL_law 176 = .ok (.aload_n 1, 1) := by decide +kernel
theorem dL_law_177 : decode cL_law 177 = .ok (.aload_n 0, 1) := by decide +kernel
theorem dL_law_178 : decode cL_law 178 = .ok (.iload 4, 2) := by decide +kernel
theorem dL_law_180 : decode cL_law 180 = .ok (.iconst 1, 1) := by decide +kernel
theorem dL_law_181 : decode cL_law 181 = .ok (.iadd, 1) := by decide +kernel
theorem dL_law_182 : decode cL_law 182 = .ok (.iaload, 1) := by decide +kernel
theorem dL_law_183 : decode cL_law 183 = .ok (.invokestatic 48, 3) := by decide +kernel
theorem dL_law_186 : decode cL_law 186 = .ok (.istore 5, 2) := by decide +kernel
theorem dL_law_188 : decode cL_law 188 = .ok (.aload_n 2, 1) := by decide +kernel
theorem dL_law_189 : decode cL_law 189 = .ok (.aload_n 0, 1) := by decide +kernel
theorem dL_law_190 : decode cL_law 190 = .ok (.iload 4, 2) := by decide +kernel
theorem dL_law_192 : decode cL_law 192 = .ok (.iconst 1, 1) := by decide +kernel
theorem dL_law_193 : decode cL_law 193 = .ok (.iadd, 1) := by decide +kernel
theorem dL_law_194 : decode cL_law 194 = .ok (.iaload, 1) := by decide +kernel
theorem dL_law_195 : decode cL_law 195 = .ok (.invokevirtual 51, 3) := by decide +kernel
theorem dL_law_198 : decode cL_law 198 = .ok (.aload_n 2, 1) := by decide +kernel
theorem dL_law_199 : decode cL_law 199 = .ok (.invokevirtual 44, 3) := by decide +kernel
theorem dL_law_202 : decode cL_law 202 = .ok (.iload 5, 2) := by decide +kernel
theorem dL_law_204 : decode cL_law 204 = .ok (.if_icmp .eq 5, 3) := by decide +kernel
theorem dL_law_207 : decode cL_law 207 = .ok (.iconst 0, 1) := by decide +kernel
theorem dL_law_208 : decode cL_law 208 = .ok (.ireturn, 1) := by decide +kernel
theorem dL_law_209 : decode cL_law 209 = .ok (.goto 265, 3) := by decide +kernel
theorem dL_law_212 : decode cL_law 212 = .ok (.aload_n 1, 1) := by decide +kernel
theorem dL_law_213 : decode cL_law 213 = .ok (.aload_n 0, 1) := by decide +kernel
theorem dL_law_214 : decode cL_law 214 = .ok (.iload 4, 2) := by decide +kernel
theorem dL_law_216 : decode cL_law 216 = .ok (.iconst 1, 1) := by decide +kernel
theorem dL_law_217 : decode cL_law 217 = .ok (.iadd, 1) := by decide +kernel
theorem dL_law_218 : decode cL_law 218 = .ok (.iaload, 1) := by decide +kernel
theorem dL_law_219 : decode cL_law 219 = .ok (.aload_n 3, 1) := by decide +kernel
theorem dL_law_220 : decode cL_law 220 = .ok (.invokestatic 52, 3) := by decide +kernel
theorem dL_law_223 : decode cL_law 223 = .ok (.istore 5, 2) := by decide +kernel
theorem dL_law_225 : decode cL_law 225 = .ok (.aload_n 2, 1) := by decide +kernel
theorem dL_law_226 : decode cL_law 226 = .ok (.aload_n 0, 1) := by decide +kernel
theorem dL_law_227 : decode cL_law 227 = .ok (.iload 4, 2) := by decide +kernel
theorem dL_law_229 : decode cL_law 229 = .ok (.iconst 1, 1) := by decide +kernel
theorem dL_law_230 : decode cL_law 230 = .ok (.iadd, 1) := by decide +kernel
theorem dL_law_231 : decode cL_law 231 = .ok (.iaload, 1) := by decide +kernel
theorem dL_law_232 : decode cL_law 232 = .ok (.invokevirtual 55, 3) := by decide +kernel
theorem dL_law_235 : decode cL_law 235 = .ok (.istore 6, 2) := by decide +kernel
theorem dL_law_237 : decode cL_law 237 = .ok (.aload_n 2, 1) := by decide +kernel
theorem dL_law_238 : decode cL_law 238 = .ok (.invokevirtual 44, 3) := by decide +kernel
theorem dL_law_241 : decode cL_law 241 = .ok (.iload 5, 2) := by decide +kernel
theorem dL_law_243 : decode cL_law 243 = .ok (.if_icmp .eq 5, 3) := by decide +kernel
theorem dL_law_246 : decode cL_law 246 = .ok (.iconst 0, 1) := by decide +kernel
theorem dL_law_247 : decode cL_law 247 = .ok (.ireturn, 1) := by decide +kernel
theorem dL_law_248 : decode cL_law 248 = .ok (.iload 5, 2) := by decide +kernel
theorem dL_law_250 : decode cL_law 250 = .ok (.ifCond .ne 15, 3) := by decide +kernel
theorem dL_law_253 : decode cL_law 253 = .ok (.aload_n 3, 1) := by decide +kernel
theorem dL_law_254 : decode cL_law 254 = .ok (.iconst 0, 1) := by decide +kernel
theorem dL_law_255 : decode cL_law 255 = .ok (.laload, 1) := by decide +kernel
theorem dL_law_256 : decode cL_law 256 = .ok (.iload 6, 2) := by decide +kernel
theorem dL_law_258 : decode cL_law 258 = .ok (.i2l, 1) := by decide +kernel
theorem dL_law_259 : decode cL_law 259 = .ok (.lcmp, 1) := by decide +kernel
theorem dL_law_260 : decode cL_law 260 = .ok (.ifCond .eq 5, 3) := by decide +kernel
theorem dL_law_263 : decode cL_law 263 = .ok (.iconst 0, 1) := by decide +kernel
theorem dL_law_264 : decode cL_law 264 = .ok (.ireturn, 1) := by decide +kernel
theorem dL_law_265 : decode cL_law 265 = .ok (.goto 209, 3) := by decide +kernel
theorem dL_law_268 : decode cL_law 268 = .ok (.aload_n 1, 1) := by decide +kernel
theorem dL_law_269 : decode cL_law 269 = .ok (.invokevirtual 56, 3) := by decide +kernel
theorem dL_law_272 : decode cL_law 272 = .ok (.aload_n 2, 1) := by decide +kernel
theorem dL_law_273 : decode cL_law 273 = .ok (.invokevirtual 59, 3) := by decide +kernel
theorem dL_law_276 : decode cL_law 276 = .ok (.if_icmp .eq 198, 3) := by decide +kernel
theorem dL_law_279 : decode cL_law 279 = .ok (.iconst 0, 1) := by decide +kernel
theorem dL_law_280 : decode cL_law 280 = .ok (.ireturn, 1) := by decide +kernel
theorem dL_law_281 : decode cL_law 281 = .ok (.aload_n 1, 1) := by decide +kernel
theorem dL_law_282 : decode cL_law 282 = .ok (.aload_n 0, 1) := by decide +kernel
theorem dL_law_283 : decode cL_law 283 = .ok (.iload 4, 2) := by decide +kernel
theorem dL_law_285 : decode cL_law 285 = .ok (.iconst 1, 1) := by decide +kernel
theorem dL_law_286 : decode cL_law 286 = .ok (.iadd, 1) := by decide +kernel
theorem dL_law_287 : decode cL_law 287 = .ok (.iaload, 1) := by decide +kernel
theorem dL_law_288 : decode cL_law 288 = .ok (.aload_n 3, 1) := by decide +kernel
theorem dL_law_289 : decode cL_law 289 = .ok (.invokestatic 60, 3) := by decide +kernel
theorem dL_law_292 : decode cL_law 292 = .ok (.istore 5, 2) := by decide +kernel
theorem dL_law_294 : decode cL_law 294 = .ok (.aload_n 2, 1) := by decide +kernel
theorem dL_law_295 : decode cL_law 295 = .ok (.aload_n 0, 1) := by decide +kernel
theorem dL_law_296 : decode cL_law 296 = .ok (.iload 4, 2) := by decide +kernel
theorem dL_law_298 : decode cL_law 298 = .ok (.iconst 1, 1) := by decide +kernel
theorem dL_law_299 : decode cL_law 299 = .ok (.iadd, 1) := by decide +kernel
theorem dL_law_300 : decode cL_law 300 = .ok (.iaload, 1) := by decide +kernel
theorem dL_law_301 : decode cL_law 301 = .ok (.invokevirtual 62, 3) := by decide +kernel
theorem dL_law_304 : decode cL_law 304 = .ok (.istore 6, 2) := by decide +kernel
theorem dL_law_306 : decode cL_law 306 = .ok (.aload_n 2, 1) := by decide +kernel
theorem dL_law_307 : decode cL_law 307 = .ok (.invokevirtual 44, 3) := by decide +kernel
theorem dL_law_310 : decode cL_law 310 = .ok (.iload 5, 2) := by decide +kernel
theorem dL_law_312 : decode cL_law 312 = .ok (.if_icmp .eq 5, 3) := by decide +kernel
theorem dL_law_315 : decode cL_law 315 = .ok (.iconst 0, 1) := by decide +kernel
theorem dL_law_316 : decode cL_law 316 = .ok (.ireturn, 1) := by decide +kernel
theorem dL_law_317 : decode cL_law 317 = .ok (.iload 5, 2) := by decide +kernel
theorem dL_law_319 : decode cL_law 319 = .ok (.ifCond .ne 15, 3) := by decide +kernel
theorem dL_law_322 : decode cL_law 322 = .ok (.aload_n 3, 1) := by decide +kernel
theorem dL_law_323 : decode cL_law 323 = .ok (.iconst 0, 1) := by decide +kernel
theorem dL_law_324 : decode cL_law 324 = .ok (.laload, 1) := by decide +kernel
theorem dL_law_325 : decode cL_law 325 = .ok (.iload 6, 2) := by decide +kernel
theorem dL_law_327 : decode cL_law 327 = .ok (.i2l, 1) := by decide +kernel
theorem dL_law_328 : decode cL_law 328 = .ok (.lcmp, 1) := by decide +kernel
theorem dL_law_329 : decode cL_law 329 = .ok (.ifCond .eq 5, 3) := by decide +kernel
theorem dL_law_332 : decode cL_law 332 = .ok (.iconst 0, 1) := by decide +kernel
theorem dL_law_333 : decode cL_law 333 = .ok (.ireturn, 1) := by decide +kernel
theorem dL_law_334 : decode cL_law 334 = .ok (.goto 140, 3) := by decide +kernel
theorem dL_law_337 : decode cL_law 337 = .ok (.aload_n 1, 1) := by decide +kernel
theorem dL_law_338 : decode cL_law 338 = .ok (.aload_n 0, 1) := by decide +kernel
theorem dL_law_339 : decode cL_law 339 = .ok (.iload 4, 2) := by decide +kernel
theorem dL_law_341 : decode cL_law 341 = .ok (.iconst 1, 1) := by decide +kernel
theorem dL_law_342 : decode cL_law 342 = .ok (.iadd, 1) := by decide +kernel
theorem dL_law_343 : decode cL_law 343 = .ok (.iaload, 1) := by decide +kernel
theorem dL_law_344 : decode cL_law 344 = .ok (.aload_n 3, 1) := by decide +kernel
theorem dL_law_345 : decode cL_law 345 = .ok (.invokestatic 63, 3) := by decide +kernel
theorem dL_law_348 : decode cL_law 348 = .ok (.istore 5, 2) := by decide +kernel
theorem dL_law_350 : decode cL_law 350 = .ok (.aload_n 2, 1) := by decide +kernel
theorem dL_law_351 : decode cL_law 351 = .ok (.aload_n 0, 1) := by decide +kernel
theorem dL_law_352 : decode cL_law 352 = .ok (.iload 4, 2) := by decide +kernel
theorem dL_law_354 : decode cL_law 354 = .ok (.iconst 1, 1) := by decide +kernel
theorem dL_law_355 : decode cL_law 355 = .ok (.iadd, 1) := by decide +kernel
theorem dL_law_356 : decode cL_law 356 = .ok (.iaload, 1) := by decide +kernel
theorem dL_law_357 : decode cL_law 357 = .ok (.invokevirtual 65, 3) := by decide +kernel
theorem dL_law_360 : decode cL_law 360 = .ok (.istore 6, 2) := by decide +kernel
theorem dL_law_362 : decode cL_law 362 = .ok (.aload_n 2, 1) := by decide +kernel
theorem dL_law_363 : decode cL_law 363 = .ok (.invokevirtual 44, 3) := by decide +kernel
theorem dL_law_366 : decode cL_law 366 = .ok (.iload 5, 2) := by decide +kernel
theorem dL_law_368 : decode cL_law 368 = .ok (.if_icmp .eq 5, 3) := by decide +kernel
theorem dL_law_371 : decode cL_law 371 = .ok (.iconst 0, 1) := by decide +kernel
theorem dL_law_372 : decode cL_law 372 = .ok (.ireturn, 1) := by decide +kernel
theorem dL_law_373 : decode cL_law 373 = .ok (.iload 5, 2) := by decide +kernel
theorem dL_law_375 : decode cL_law 375 = .ok (.ifCond .ne 15, 3) := by decide +kernel
theorem dL_law_378 : decode cL_law 378 = .ok (.aload_n 3, 1) := by decide +kernel
theorem dL_law_379 : decode cL_law 379 = .ok (.iconst 0, 1) := by decide +kernel
theorem dL_law_380 : decode cL_law 380 = .ok (.laload, 1) := by decide +kernel
theorem dL_law_381 : decode cL_law 381 = .ok (.iload 6, 2) := by decide +kernel
theorem dL_law_383 : decode cL_law 383 = .ok (.i2l, 1) := by decide +kernel
theorem dL_law_384 : decode cL_law 384 = .ok (.lcmp, 1) := by decide +kernel
theorem dL_law_385 : decode cL_law 385 = .ok (.ifCond .eq 5, 3) := by decide +kernel
theorem dL_law_388 : decode cL_law 388 = .ok (.iconst 0, 1) := by decide +kernel
theorem dL_law_389 : decode cL_law 389 = .ok (.ireturn, 1) := by decide +kernel
theorem dL_law_390 : decode cL_law 390 = .ok (.goto 84, 3) := by decide +kernel
theorem dL_law_393 : decode cL_law 393 = .ok (.aload_n 1, 1) := by decide +kernel
theorem dL_law_394 : decode cL_law 394 = .ok (.aload_n 0, 1) := by decide +kernel
theorem dL_law_395 : decode cL_law 395 = .ok (.iload 4, 2) := by decide +kernel
theorem dL_law_397 : decode cL_law 397 = .ok (.iconst 1, 1) := by decide +kernel
theorem dL_law_398 : decode cL_law 398 = .ok (.iadd, 1) := by decide +kernel
theorem dL_law_399 : decode cL_law 399 = .ok (.iaload, 1) := by decide +kernel
theorem dL_law_400 : decode cL_law 400 = .ok (.aload_n 3, 1) := by decide +kernel
theorem dL_law_401 : decode cL_law 401 = .ok (.invokestatic 66, 3) := by decide +kernel
theorem dL_law_404 : decode cL_law 404 = .ok (.istore 5, 2) := by decide +kernel
theorem dL_law_406 : decode cL_law 406 = .ok (.aload_n 2, 1) := by decide +kernel
theorem dL_law_407 : decode cL_law 407 = .ok (.aload_n 0, 1) := by decide +kernel
theorem dL_law_408 : decode cL_law 408 = .ok (.iload 4, 2) := by decide +kernel
theorem dL_law_410 : decode cL_law 410 = .ok (.iconst 1, 1) := by decide +kernel
theorem dL_law_411 : decode cL_law 411 = .ok (.iadd, 1) := by decide +kernel
theorem dL_law_412 : decode cL_law 412 = .ok (.iaload, 1) := by decide +kernel
theorem dL_law_413 : decode cL_law 413 = .ok (.invokevirtual 68, 3) := by decide +kernel
theorem dL_law_416 : decode cL_law 416 = .ok (.istore 6, 2) := by decide +kernel
theorem dL_law_418 : decode cL_law 418 = .ok (.aload_n 2, 1) := by decide +kernel
theorem dL_law_419 : decode cL_law 419 = .ok (.invokevirtual 44, 3) := by decide +kernel
theorem dL_law_422 : decode cL_law 422 = .ok (.iload 5, 2) := by decide +kernel
theorem dL_law_424 : decode cL_law 424 = .ok (.if_icmp .eq 5, 3) := by decide +kernel
theorem dL_law_427 : decode cL_law 427 = .ok (.iconst 0, 1) := by decide +kernel
theorem dL_law_428 : decode cL_law 428 = .ok (.ireturn, 1) := by decide +kernel
theorem dL_law_429 : decode cL_law 429 = .ok (.iload 5, 2) := by decide +kernel
theorem dL_law_431 : decode cL_law 431 = .ok (.ifCond .ne 15, 3) := by decide +kernel
theorem dL_law_434 : decode cL_law 434 = .ok (.aload_n 3, 1) := by decide +kernel
theorem dL_law_435 : decode cL_law 435 = .ok (.iconst 0, 1) := by decide +kernel
theorem dL_law_436 : decode cL_law 436 = .ok (.laload, 1) := by decide +kernel
theorem dL_law_437 : decode cL_law 437 = .ok (.iload 6, 2) := by decide +kernel
theorem dL_law_439 : decode cL_law 439 = .ok (.i2l, 1) := by decide +kernel
theorem dL_law_440 : decode cL_law 440 = .ok (.lcmp, 1) := by decide +kernel
theorem dL_law_441 : decode cL_law 441 = .ok (.ifCond .eq 5, 3) := by decide +kernel
theorem dL_law_444 : decode cL_law 444 = .ok (.iconst 0, 1) := by decide +kernel
theorem dL_law_445 : decode cL_law 445 = .ok (.ireturn, 1) := by decide +kernel
theorem dL_law_446 : decode cL_law 446 = .ok (.goto 28, 3) := by decide +kernel
theorem dL_law_449 : decode cL_law 449 = .ok (.aload_n 1, 1) := by decide +kernel
theorem dL_law_450 : decode cL_law 450 = .ok (.aload_n 0, 1) := by decide +kernel
theorem dL_law_451 : decode cL_law 451 = .ok (.iload 4, 2) := by decide +kernel
theorem dL_law_453 : decode cL_law 453 = .ok (.iconst 1, 1) := by decide +kernel
theorem dL_law_454 : decode cL_law 454 = .ok (.iadd, 1) := by decide +kernel
theorem dL_law_455 : decode cL_law 455 = .ok (.iaload, 1) := by decide +kernel
theorem dL_law_456 : decode cL_law 456 = .ok (.invokevirtual 69, 3) := by decide +kernel
theorem dL_law_459 : decode cL_law 459 = .ok (.aload_n 2, 1) := by decide +kernel
theorem dL_law_460 : decode cL_law 460 = .ok (.aload_n 0, 1) := by decide +kernel
theorem dL_law_461 : decode cL_law 461 = .ok (.iload 4, 2) := by decide +kernel
theorem dL_law_463 : decode cL_law 463 = .ok (.iconst 1, 1) := by decide +kernel
theorem dL_law_464 : decode cL_law 464 = .ok (.iadd, 1) := by decide +kernel
theorem dL_law_465 : decode cL_law 465 = .ok (.iaload, 1) := by decide +kernel
theorem dL_law_466 : decode cL_law 466 = .ok (.invokevirtual 72, 3) := by decide +kernel
theorem dL_law_469 : decode cL_law 469 = .ok (.if_icmp .eq 5, 3) := by decide +kernel
theorem dL_law_472 : decode cL_law 472 = .ok (.iconst 0, 1) := by decide +kernel
theorem dL_law_473 : decode cL_law 473 = .ok (.ireturn, 1) := by decide +kernel
theorem dL_law_474 : decode cL_law 474 = .ok (.iinc 4 5, 3) := by decide +kernel
theorem dL_law_477 : decode cL_law 477 = .ok (.goto (-454), 3) := by decide +kernel
theorem dL_law_480 : decode cL_law 480 = .ok (.iconst 1, 1) := by decide +kernel
theorem dL_law_481 : decode cL_law 481 = .ok (.ireturn, 1) := by decide +kernel
end
section
theorem ab_mem (i : Nat) {w : Cond} (h : lw_tbl[i]? = some w) (g : goodWord w = true) : w ∈ ab_all := List.mem_filter.mpr ⟨List.mem_of_getElem? h, g⟩
theorem ab_in0 : ∀ w ∈ u_ws RX0 TX0 7, w ∈ ab_all := by decide +kernel
theorem ab_in1 : ∀ w ∈ u_ws RX1 TX1 9, w ∈ ab_all := by decide +kernel
theorem ab_in2 : ∀ w ∈ u_ws RX2 TX2 9, w ∈ ab_all := by decide +kernel
theorem ab_in3 : ∀ w ∈ u_ws RX3 TX3 6, w ∈ ab_all := by decide +kernel
theorem ab_in4 : ∀ w ∈ u_ws RX4 TX4 43, w ∈ ab_all := by decide +kernel
theorem fX0_9 : ab_F RX0 9 0 0 := ⟨RX0, TX0, 7, tyX0, rfl, by decide, ab_in0, tyX0_ok, nmX0, ab_mem 127 (by decide +kernel) (by decide +kernel)⟩
theorem fX0_15 : ab_F RX0 15 0 1 := ⟨RX0, TX0, 7, tyX0, rfl, by decide, ab_in0, tyX0_ok, nmX0, ab_mem 130 (by decide +kernel) (by decide +kernel)⟩
theorem fwX0_18 : ab_Fw RX0 18 0 2 := ⟨RX0, TX0, 7, tyX0, rfl, by decide, ab_in0, tyX0_ok, nmX0, ab_mem 133 (by decide +kernel) (by decide +kernel), rfl, by decide +kernel⟩
theorem fX0_18 : ab_F RX0 18 0 2 := by
  obtain ⟨C, T, N, ty0, h1, h2, h3, h4, h5, h6, -, -⟩ := fwX0_18
  exact ⟨C, T, N, ty0, h1, h2, h3, h4, h5, h6⟩
theorem fX0_22 : ab_F RX0 22 0 3 := ⟨RX0, TX0, 7, tyX0, rfl, by decide, ab_in0, tyX0_ok, nmX0, ab_mem 136 (by decide +kernel) (by decide +kernel)⟩
theorem fX0_25 : ab_F RX0 25 0 4 := ⟨RX0, TX0, 7, tyX0, rfl, by decide, ab_in0, tyX0_ok, nmX0, ab_mem 139 (by decide +kernel) (by decide +kernel)⟩
theorem fX0_28 : ab_F RX0 28 0 5 := ⟨RX0, TX0, 7, tyX0, rfl, by decide, ab_in0, tyX0_ok, nmX0, ab_mem 142 (by decide +kernel) (by decide +kernel)⟩
theorem fwX0_31 : ab_Fw RX0 31 0 6 := ⟨RX0, TX0, 7, tyX0, rfl, by decide, ab_in0, tyX0_ok, nmX0, ab_mem 144 (by decide +kernel) (by decide +kernel), rfl, by decide +kernel⟩
theorem fX0_31 : ab_F RX0 31 0 6 := by
  obtain ⟨C, T, N, ty0, h1, h2, h3, h4, h5, h6, -, -⟩ := fwX0_31
  exact ⟨C, T, N, ty0, h1, h2, h3, h4, h5, h6⟩
theorem fX1_11 : ab_F RX1 11 1 0 := ⟨RX1, TX1, 9, tyX1, rfl, by decide, ab_in1, tyX1_ok, nmX1, ab_mem 167 (by decide +kernel) (by decide +kernel)⟩
theorem fX1_15 : ab_F RX1 15 1 1 := ⟨RX1, TX1, 9, tyX1, rfl, by decide, ab_in1, tyX1_ok, nmX1, ab_mem 168 (by decide +kernel) (by decide +kernel)⟩
theorem fX1_18 : ab_F RX1 18 1 2 := ⟨RX1, TX1, 9, tyX1, rfl, by decide, ab_in1, tyX1_ok, nmX1, ab_mem 169 (by decide +kernel) (by decide +kernel)⟩
theorem fX1_21 : ab_F RX1 21 1 3 := ⟨RX1, TX1, 9, tyX1, rfl, by decide, ab_in1, tyX1_ok, nmX1, ab_mem 170 (by decide +kernel) (by decide +kernel)⟩
theorem fX1_24 : ab_F RX1 24 1 4 := ⟨RX1, TX1, 9, tyX1, rfl, by decide, ab_in1, tyX1_ok, nmX1, ab_mem 171 (by decide +kernel) (by decide +kernel)⟩
theorem fwX1_27 : ab_Fw RX1 27 1 6 := ⟨RX1, TX1, 9, tyX1, rfl, by decide, ab_in1, tyX1_ok, nmX1, ab_mem 173 (by decide +kernel) (by decide +kernel), rfl, by decide +kernel⟩
theorem fX1_27 : ab_F RX1 27 1 6 := by
  obtain ⟨C, T, N, ty0, h1, h2, h3, h4, h5, h6, -, -⟩ := fwX1_27
  exact ⟨C, T, N, ty0, h1, h2, h3, h4, h5, h6⟩
theorem fwX1_31 : ab_Fw RX1 31 1 5 := ⟨RX1, TX1, 9, tyX1, rfl, by decide, ab_in1, tyX1_ok, nmX1, ab_mem 172 (by decide +kernel) (by decide +kernel), rfl, by decide +kernel⟩
theorem fX1_31 : ab_F RX1 31 1 5 := by
  obtain ⟨C, T, N, ty0, h1, h2, h3, h4, h5, h6, -, -⟩ := fwX1_31
  exact ⟨C, T, N, ty0, h1, h2, h3, h4, h5, h6⟩
theorem fX1_38 : ab_F RX1 38 0 1 := ⟨RX0, TX0, 7, tyX0, rfl, by decide, ab_in0, tyX0_ok, nmX0, ab_mem 131 (by decide +kernel) (by decide +kernel)⟩
theorem fwX1_49 : ab_Fw RX1 49 0 2 := ⟨RX0, TX0, 7, tyX0, rfl, by decide, ab_in0, tyX0_ok, nmX0, ab_mem 134 (by decide +kernel) (by decide +kernel), rfl, by decide +kernel⟩
theorem fX1_49 : ab_F RX1 49 0 2 := by
  obtain ⟨C, T, N, ty0, h1, h2, h3, h4, h5, h6, -, -⟩ := fwX1_49
  exact ⟨C, T, N, ty0, h1, h2, h3, h4, h5, h6⟩
theorem fX1_56 : ab_F RX1 56 0 3 := ⟨RX0, TX0, 7, tyX0, rfl, by decide, ab_in0, tyX0_ok, nmX0, ab_mem 137 (by decide +kernel) (by decide +kernel)⟩
theorem fX1_59 : ab_F RX1 59 0 4 := ⟨RX0, TX0, 7, tyX0, rfl, by decide, ab_in0, tyX0_ok, nmX0, ab_mem 140 (by decide +kernel) (by decide +kernel)⟩
theorem fwX1_70 : ab_Fw RX1 70 1 8 := ⟨RX1, TX1, 9, tyX1, rfl, by decide, ab_in1, tyX1_ok, nmX1, ab_mem 177 (by decide +kernel) (by decide +kernel), rfl, by decide +kernel⟩
theorem fX1_70 : ab_F RX1 70 1 8 := by
  obtain ⟨C, T, N, ty0, h1, h2, h3, h4, h5, h6, -, -⟩ := fwX1_70
  exact ⟨C, T, N, ty0, h1, h2, h3, h4, h5, h6⟩
theorem fwX1_73 : ab_Fw RX1 73 1 7 := ⟨RX1, TX1, 9, tyX1, rfl, by decide, ab_in1, tyX1_ok, nmX1, ab_mem 175 (by decide +kernel) (by decide +kernel), rfl, by decide +kernel⟩
theorem fX1_73 : ab_F RX1 73 1 7 := by
  obtain ⟨C, T, N, ty0, h1, h2, h3, h4, h5, h6, -, -⟩ := fwX1_73
  exact ⟨C, T, N, ty0, h1, h2, h3, h4, h5, h6⟩
theorem fX1_76 : ab_F RX1 76 0 0 := ⟨RX0, TX0, 7, tyX0, rfl, by decide, ab_in0, tyX0_ok, nmX0, ab_mem 129 (by decide +kernel) (by decide +kernel)⟩
theorem fX2_9 : ab_F RX2 9 2 0 := ⟨RX2, TX2, 9, tyX2, rfl, by decide, ab_in2, tyX2_ok, nmX2, ab_mem 86 (by decide +kernel) (by decide +kernel)⟩
theorem fX2_15 : ab_F RX2 15 2 1 := ⟨RX2, TX2, 9, tyX2, rfl, by decide, ab_in2, tyX2_ok, nmX2, ab_mem 88 (by decide +kernel) (by decide +kernel)⟩
theorem fX2_18 : ab_F RX2 18 2 2 := ⟨RX2, TX2, 9, tyX2, rfl, by decide, ab_in2, tyX2_ok, nmX2, ab_mem 90 (by decide +kernel) (by decide +kernel)⟩
theorem fX2_21 : ab_F RX2 21 2 3 := ⟨RX2, TX2, 9, tyX2, rfl, by decide, ab_in2, tyX2_ok, nmX2, ab_mem 92 (by decide +kernel) (by decide +kernel)⟩
theorem fX2_24 : ab_F RX2 24 2 4 := ⟨RX2, TX2, 9, tyX2, rfl, by decide, ab_in2, tyX2_ok, nmX2, ab_mem 94 (by decide +kernel) (by decide +kernel)⟩
theorem fX2_27 : ab_F RX2 27 2 5 := ⟨RX2, TX2, 9, tyX2, rfl, by decide, ab_in2, tyX2_ok, nmX2, ab_mem 96 (by decide +kernel) (by decide +kernel)⟩
theorem fX2_30 : ab_F RX2 30 2 6 := ⟨RX2, TX2, 9, tyX2, rfl, by decide, ab_in2, tyX2_ok, nmX2, ab_mem 97 (by decide +kernel) (by decide +kernel)⟩
theorem fwX2_33 : ab_Fw RX2 33 2 7 := ⟨RX2, TX2, 9, tyX2, rfl, by decide, ab_in2, tyX2_ok, nmX2, ab_mem 98 (by decide +kernel) (by decide +kernel), rfl, by decide +kernel⟩
theorem fX2_33 : ab_F RX2 33 2 7 := by
  obtain ⟨C, T, N, ty0, h1, h2, h3, h4, h5, h6, -, -⟩ := fwX2_33
  exact ⟨C, T, N, ty0, h1, h2, h3, h4, h5, h6⟩
theorem fwX2_37 : ab_Fw RX2 37 2 8 := ⟨RX2, TX2, 9, tyX2, rfl, by decide, ab_in2, tyX2_ok, nmX2, ab_mem 100 (by decide +kernel) (by decide +kernel), rfl, by decide +kernel⟩
theorem fX2_37 : ab_F RX2 37 2 8 := by
  obtain ⟨C, T, N, ty0, h1, h2, h3, h4, h5, h6, -, -⟩ := fwX2_37
  exact ⟨C, T, N, ty0, h1, h2, h3, h4, h5, h6⟩
theorem fX3_11 : ab_F RX3 11 3 0 := ⟨RX3, TX3, 6, tyX3, rfl, by decide, ab_in3, tyX3_ok, nmX3, ab_mem 197 (by decide +kernel) (by decide +kernel)⟩
theorem fX3_19 : ab_F RX3 19 3 1 := ⟨RX3, TX3, 6, tyX3, rfl, by decide, ab_in3, tyX3_ok, nmX3, ab_mem 198 (by decide +kernel) (by decide +kernel)⟩
theorem fX3_26 : ab_F RX3 26 3 2 := ⟨RX3, TX3, 6, tyX3, rfl, by decide, ab_in3, tyX3_ok, nmX3, ab_mem 199 (by decide +kernel) (by decide +kernel)⟩
theorem fwX3_63 : ab_Fw RX3 63 2 8 := ⟨RX2, TX2, 9, tyX2, rfl, by decide, ab_in2, tyX2_ok, nmX2, ab_mem 99 (by decide +kernel) (by decide +kernel), rfl, by decide +kernel⟩
theorem fX3_63 : ab_F RX3 63 2 8 := by
  obtain ⟨C, T, N, ty0, h1, h2, h3, h4, h5, h6, -, -⟩ := fwX3_63
  exact ⟨C, T, N, ty0, h1, h2, h3, h4, h5, h6⟩
theorem fwX3_76 : ab_Fw RX3 76 3 5 := ⟨RX3, TX3, 6, tyX3, rfl, by decide, ab_in3, tyX3_ok, nmX3, ab_mem 202 (by decide +kernel) (by decide +kernel), rfl, by decide +kernel⟩
theorem fX3_76 : ab_F RX3 76 3 5 := by
  obtain ⟨C, T, N, ty0, h1, h2, h3, h4, h5, h6, -, -⟩ := fwX3_76
  exact ⟨C, T, N, ty0, h1, h2, h3, h4, h5, h6⟩
theorem fwX3_79 : ab_Fw RX3 79 3 3 := ⟨RX3, TX3, 6, tyX3, rfl, by decide, ab_in3, tyX3_ok, nmX3, ab_mem 200 (by decide +kernel) (by decide +kernel), rfl, by decide +kernel⟩
theorem fX3_79 : ab_F RX3 79 3 3 := by
  obtain ⟨C, T, N, ty0, h1, h2, h3, h4, h5, h6, -, -⟩ := fwX3_79
  exact ⟨C, T, N, ty0, h1, h2, h3, h4, h5, h6⟩
theorem fwX3_82 : ab_Fw RX3 82 0 6 := ⟨RX0, TX0, 7, tyX0, rfl, by decide, ab_in0, tyX0_ok, nmX0, ab_mem 145 (by decide +kernel) (by decide +kernel), rfl, by decide +kernel⟩
theorem fX3_82 : ab_F RX3 82 0 6 := by
  obtain ⟨C, T, N, ty0, h1, h2, h3, h4, h5, h6, -, -⟩ := fwX3_82
  exact ⟨C, T, N, ty0, h1, h2, h3, h4, h5, h6⟩
theorem fwX3_96 : ab_Fw RX3 96 3 4 := ⟨RX3, TX3, 6, tyX3, rfl, by decide, ab_in3, tyX3_ok, nmX3, ab_mem 201 (by decide +kernel) (by decide +kernel), rfl, by decide +kernel⟩
theorem fX3_96 : ab_F RX3 96 3 4 := by
  obtain ⟨C, T, N, ty0, h1, h2, h3, h4, h5, h6, -, -⟩ := fwX3_96
  exact ⟨C, T, N, ty0, h1, h2, h3, h4, h5, h6⟩
theorem fX3_102 : ab_F RX3 102 0 0 := ⟨RX0, TX0, 7, tyX0, rfl, by decide, ab_in0, tyX0_ok, nmX0, ab_mem 128 (by decide +kernel) (by decide +kernel)⟩
theorem fwX3_105 : ab_Fw RX3 105 0 2 := ⟨RX0, TX0, 7, tyX0, rfl, by decide, ab_in0, tyX0_ok, nmX0, ab_mem 135 (by decide +kernel) (by decide +kernel), rfl, by decide +kernel⟩
theorem fX3_105 : ab_F RX3 105 0 2 := by
  obtain ⟨C, T, N, ty0, h1, h2, h3, h4, h5, h6, -, -⟩ := fwX3_105
  exact ⟨C, T, N, ty0, h1, h2, h3, h4, h5, h6⟩
theorem fX3_108 : ab_F RX3 108 0 1 := ⟨RX0, TX0, 7, tyX0, rfl, by decide, ab_in0, tyX0_ok, nmX0, ab_mem 132 (by decide +kernel) (by decide +kernel)⟩
theorem fX3_111 : ab_F RX3 111 0 5 := ⟨RX0, TX0, 7, tyX0, rfl, by decide, ab_in0, tyX0_ok, nmX0, ab_mem 143 (by decide +kernel) (by decide +kernel)⟩
theorem fwX3_114 : ab_Fw RX3 114 1 8 := ⟨RX1, TX1, 9, tyX1, rfl, by decide, ab_in1, tyX1_ok, nmX1, ab_mem 176 (by decide +kernel) (by decide +kernel), rfl, by decide +kernel⟩
theorem fX3_114 : ab_F RX3 114 1 8 := by
  obtain ⟨C, T, N, ty0, h1, h2, h3, h4, h5, h6, -, -⟩ := fwX3_114
  exact ⟨C, T, N, ty0, h1, h2, h3, h4, h5, h6⟩
theorem fwX3_117 : ab_Fw RX3 117 1 7 := ⟨RX1, TX1, 9, tyX1, rfl, by decide, ab_in1, tyX1_ok, nmX1, ab_mem 174 (by decide +kernel) (by decide +kernel), rfl, by decide +kernel⟩
theorem fX3_117 : ab_F RX3 117 1 7 := by
  obtain ⟨C, T, N, ty0, h1, h2, h3, h4, h5, h6, -, -⟩ := fwX3_117
  exact ⟨C, T, N, ty0, h1, h2, h3, h4, h5, h6⟩
theorem fX3_124 : ab_F RX3 124 0 3 := ⟨RX0, TX0, 7, tyX0, rfl, by decide, ab_in0, tyX0_ok, nmX0, ab_mem 138 (by decide +kernel) (by decide +kernel)⟩
theorem fX3_138 : ab_F RX3 138 2 3 := ⟨RX2, TX2, 9, tyX2, rfl, by decide, ab_in2, tyX2_ok, nmX2, ab_mem 93 (by decide +kernel) (by decide +kernel)⟩
theorem fX3_144 : ab_F RX3 144 2 4 := ⟨RX2, TX2, 9, tyX2, rfl, by decide, ab_in2, tyX2_ok, nmX2, ab_mem 95 (by decide +kernel) (by decide +kernel)⟩
theorem fX3_156 : ab_F RX3 156 2 1 := ⟨RX2, TX2, 9, tyX2, rfl, by decide, ab_in2, tyX2_ok, nmX2, ab_mem 89 (by decide +kernel) (by decide +kernel)⟩
theorem fX3_159 : ab_F RX3 159 2 2 := ⟨RX2, TX2, 9, tyX2, rfl, by decide, ab_in2, tyX2_ok, nmX2, ab_mem 91 (by decide +kernel) (by decide +kernel)⟩
theorem fX3_162 : ab_F RX3 162 2 0 := ⟨RX2, TX2, 9, tyX2, rfl, by decide, ab_in2, tyX2_ok, nmX2, ab_mem 87 (by decide +kernel) (by decide +kernel)⟩
theorem fX3_253 : ab_F RX3 253 0 4 := ⟨RX0, TX0, 7, tyX0, rfl, by decide, ab_in0, tyX0_ok, nmX0, ab_mem 141 (by decide +kernel) (by decide +kernel)⟩
theorem fX4_7 : ab_F RX4 7 4 1 := ⟨RX4, TX4, 43, tyX4, rfl, by decide, ab_in4, tyX4_ok, nmX4, ab_mem 564 (by decide +kernel) (by decide +kernel)⟩
theorem fX4_13 : ab_F RX4 13 4 2 := ⟨RX4, TX4, 43, tyX4, rfl, by decide, ab_in4, tyX4_ok, nmX4, ab_mem 565 (by decide +kernel) (by decide +kernel)⟩
theorem fX4_16 : ab_F RX4 16 4 3 := ⟨RX4, TX4, 43, tyX4, rfl, by decide, ab_in4, tyX4_ok, nmX4, ab_mem 566 (by decide +kernel) (by decide +kernel)⟩
theorem fX4_19 : ab_F RX4 19 4 4 := ⟨RX4, TX4, 43, tyX4, rfl, by decide, ab_in4, tyX4_ok, nmX4, ab_mem 567 (by decide +kernel) (by decide +kernel)⟩
theorem fX4_22 : ab_F RX4 22 4 5 := ⟨RX4, TX4, 43, tyX4, rfl, by decide, ab_in4, tyX4_ok, nmX4, ab_mem 568 (by decide +kernel) (by decide +kernel)⟩
theorem fX4_25 : ab_F RX4 25 4 6 := ⟨RX4, TX4, 43, tyX4, rfl, by decide, ab_in4, tyX4_ok, nmX4, ab_mem 569 (by decide +kernel) (by decide +kernel)⟩
theorem fwX4_28 : ab_Fw RX4 28 4 7 := ⟨RX4, TX4, 43, tyX4, rfl, by decide, ab_in4, tyX4_ok, nmX4, ab_mem 570 (by decide +kernel) (by decide +kernel), rfl, by decide +kernel⟩
theorem fX4_28 : ab_F RX4 28 4 7 := by
  obtain ⟨C, T, N, ty0, h1, h2, h3, h4, h5, h6, -, -⟩ := fwX4_28
  exact ⟨C, T, N, ty0, h1, h2, h3, h4, h5, h6⟩
theorem fX4_32 : ab_F RX4 32 4 8 := ⟨RX4, TX4, 43, tyX4, rfl, by decide, ab_in4, tyX4_ok, nmX4, ab_mem 571 (by decide +kernel) (by decide +kernel)⟩
theorem fX4_35 : ab_F RX4 35 4 9 := ⟨RX4, TX4, 43, tyX4, rfl, by decide, ab_in4, tyX4_ok, nmX4, ab_mem 572 (by decide +kernel) (by decide +kernel)⟩
theorem fX4_38 : ab_F RX4 38 4 10 := ⟨RX4, TX4, 43, tyX4, rfl, by decide, ab_in4, tyX4_ok, nmX4, ab_mem 573 (by decide +kernel) (by decide +kernel)⟩
theorem fX4_41 : ab_F RX4 41 4 11 := ⟨RX4, TX4, 43, tyX4, rfl, by decide, ab_in4, tyX4_ok, nmX4, ab_mem 574 (by decide +kernel) (by decide +kernel)⟩
theorem fX4_44 : ab_F RX4 44 4 12 := ⟨RX4, TX4, 43, tyX4, rfl, by decide, ab_in4, tyX4_ok, nmX4, ab_mem 575 (by decide +kernel) (by decide +kernel)⟩
theorem fwX4_47 : ab_Fw RX4 47 4 13 := ⟨RX4, TX4, 43, tyX4, rfl, by decide, ab_in4, tyX4_ok, nmX4, ab_mem 576 (by decide +kernel) (by decide +kernel), rfl, by decide +kernel⟩
theorem fX4_47 : ab_F RX4 47 4 13 := by
  obtain ⟨C, T, N, ty0, h1, h2, h3, h4, h5, h6, -, -⟩ := fwX4_47
  exact ⟨C, T, N, ty0, h1, h2, h3, h4, h5, h6⟩
theorem fX4_50 : ab_F RX4 50 4 14 := ⟨RX4, TX4, 43, tyX4, rfl, by decide, ab_in4, tyX4_ok, nmX4, ab_mem 577 (by decide +kernel) (by decide +kernel)⟩
theorem fX4_53 : ab_F RX4 53 4 24 := ⟨RX4, TX4, 43, tyX4, rfl, by decide, ab_in4, tyX4_ok, nmX4, ab_mem 587 (by decide +kernel) (by decide +kernel)⟩
theorem fX4_56 : ab_F RX4 56 4 25 := ⟨RX4, TX4, 43, tyX4, rfl, by decide, ab_in4, tyX4_ok, nmX4, ab_mem 588 (by decide +kernel) (by decide +kernel)⟩
theorem fX4_59 : ab_F RX4 59 4 26 := ⟨RX4, TX4, 43, tyX4, rfl, by decide, ab_in4, tyX4_ok, nmX4, ab_mem 589 (by decide +kernel) (by decide +kernel)⟩
theorem fX4_62 : ab_F RX4 62 4 27 := ⟨RX4, TX4, 43, tyX4, rfl, by decide, ab_in4, tyX4_ok, nmX4, ab_mem 590 (by decide +kernel) (by decide +kernel)⟩
theorem fX4_65 : ab_F RX4 65 4 29 := ⟨RX4, TX4, 43, tyX4, rfl, by decide, ab_in4, tyX4_ok, nmX4, ab_mem 592 (by decide +kernel) (by decide +kernel)⟩
theorem fX4_68 : ab_F RX4 68 4 31 := ⟨RX4, TX4, 43, tyX4, rfl, by decide, ab_in4, tyX4_ok, nmX4, ab_mem 594 (by decide +kernel) (by decide +kernel)⟩
theorem fX4_71 : ab_F RX4 71 4 32 := ⟨RX4, TX4, 43, tyX4, rfl, by decide, ab_in4, tyX4_ok, nmX4, ab_mem 595 (by decide +kernel) (by decide +kernel)⟩
theorem fX4_74 : ab_F RX4 74 4 33 := ⟨RX4, TX4, 43, tyX4, rfl, by decide, ab_in4, tyX4_ok, nmX4, ab_mem 596 (by decide +kernel) (by decide +kernel)⟩
theorem fX4_77 : ab_F RX4 77 4 34 := ⟨RX4, TX4, 43, tyX4, rfl, by decide, ab_in4, tyX4_ok, nmX4, ab_mem 597 (by decide +kernel) (by decide +kernel)⟩
theorem fX4_80 : ab_F RX4 80 4 35 := ⟨RX4, TX4, 43, tyX4, rfl, by decide, ab_in4, tyX4_ok, nmX4, ab_mem 598 (by decide +kernel) (by decide +kernel)⟩
theorem fX4_83 : ab_F RX4 83 4 36 := ⟨RX4, TX4, 43, tyX4, rfl, by decide, ab_in4, tyX4_ok, nmX4, ab_mem 599 (by decide +kernel) (by decide +kernel)⟩
theorem fX4_86 : ab_F RX4 86 4 37 := ⟨RX4, TX4, 43, tyX4, rfl, by decide, ab_in4, tyX4_ok, nmX4, ab_mem 600 (by decide +kernel) (by decide +kernel)⟩
theorem fX4_89 : ab_F RX4 89 4 38 := ⟨RX4, TX4, 43, tyX4, rfl, by decide, ab_in4, tyX4_ok, nmX4, ab_mem 601 (by decide +kernel) (by decide +kernel)⟩
theorem fwX4_92 : ab_Fw RX4 92 4 0 := ⟨RX4, TX4, 43, tyX4, rfl, by decide, ab_in4, tyX4_ok, nmX4, ab_mem 563 (by decide +kernel) (by decide +kernel), rfl, by decide +kernel⟩
theorem fX4_92 : ab_F RX4 92 4 0 := by
  obtain ⟨C, T, N, ty0, h1, h2, h3, h4, h5, h6, -, -⟩ := fwX4_92
  exact ⟨C, T, N, ty0, h1, h2, h3, h4, h5, h6⟩
theorem fwX4_95 : ab_Fw RX4 95 4 39 := ⟨RX4, TX4, 43, tyX4, rfl, by decide, ab_in4, tyX4_ok, nmX4, ab_mem 602 (by decide +kernel) (by decide +kernel), rfl, by decide +kernel⟩
theorem fX4_95 : ab_F RX4 95 4 39 := by
  obtain ⟨C, T, N, ty0, h1, h2, h3, h4, h5, h6, -, -⟩ := fwX4_95
  exact ⟨C, T, N, ty0, h1, h2, h3, h4, h5, h6⟩
theorem fwX4_102 : ab_Fw RX4 102 4 42 := ⟨RX4, TX4, 43, tyX4, rfl, by decide, ab_in4, tyX4_ok, nmX4, ab_mem 605 (by decide +kernel) (by decide +kernel), rfl, by decide +kernel⟩
theorem fX4_102 : ab_F RX4 102 4 42 := by
  obtain ⟨C, T, N, ty0, h1, h2, h3, h4, h5, h6, -, -⟩ := fwX4_102
  exact ⟨C, T, N, ty0, h1, h2, h3, h4, h5, h6⟩
theorem fwX4_127 : ab_Fw RX4 127 4 30 := ⟨RX4, TX4, 43, tyX4, rfl, by decide, ab_in4, tyX4_ok, nmX4, ab_mem 593 (by decide +kernel) (by decide +kernel), rfl, by decide +kernel⟩
theorem fX4_127 : ab_F RX4 127 4 30 := by
  obtain ⟨C, T, N, ty0, h1, h2, h3, h4, h5, h6, -, -⟩ := fwX4_127
  exact ⟨C, T, N, ty0, h1, h2, h3, h4, h5, h6⟩
theorem fwX4_130 : ab_Fw RX4 130 4 28 := ⟨RX4, TX4, 43, tyX4, rfl, by decide, ab_in4, tyX4_ok, nmX4, ab_mem 591 (by decide +kernel) (by decide +kernel), rfl, by decide +kernel⟩
theorem fX4_130 : ab_F RX4 130 4 28 := by
  obtain ⟨C, T, N, ty0, h1, h2, h3, h4, h5, h6, -, -⟩ := fwX4_130
  exact ⟨C, T, N, ty0, h1, h2, h3, h4, h5, h6⟩
theorem fwX4_133 : ab_Fw RX4 133 4 17 := ⟨RX4, TX4, 43, tyX4, rfl, by decide, ab_in4, tyX4_ok, nmX4, ab_mem 580 (by decide +kernel) (by decide +kernel), rfl, by decide +kernel⟩
theorem fX4_133 : ab_F RX4 133 4 17 := by
  obtain ⟨C, T, N, ty0, h1, h2, h3, h4, h5, h6, -, -⟩ := fwX4_133
  exact ⟨C, T, N, ty0, h1, h2, h3, h4, h5, h6⟩
theorem fwX4_136 : ab_Fw RX4 136 4 18 := ⟨RX4, TX4, 43, tyX4, rfl, by decide, ab_in4, tyX4_ok, nmX4, ab_mem 581 (by decide +kernel) (by decide +kernel), rfl, by decide +kernel⟩
theorem fX4_136 : ab_F RX4 136 4 18 := by
  obtain ⟨C, T, N, ty0, h1, h2, h3, h4, h5, h6, -, -⟩ := fwX4_136
  exact ⟨C, T, N, ty0, h1, h2, h3, h4, h5, h6⟩
theorem fwX4_139 : ab_Fw RX4 139 4 16 := ⟨RX4, TX4, 43, tyX4, rfl, by decide, ab_in4, tyX4_ok, nmX4, ab_mem 579 (by decide +kernel) (by decide +kernel), rfl, by decide +kernel⟩
theorem fX4_139 : ab_F RX4 139 4 16 := by
  obtain ⟨C, T, N, ty0, h1, h2, h3, h4, h5, h6, -, -⟩ := fwX4_139
  exact ⟨C, T, N, ty0, h1, h2, h3, h4, h5, h6⟩
theorem fwX4_142 : ab_Fw RX4 142 4 21 := ⟨RX4, TX4, 43, tyX4, rfl, by decide, ab_in4, tyX4_ok, nmX4, ab_mem 584 (by decide +kernel) (by decide +kernel), rfl, by decide +kernel⟩
theorem fX4_142 : ab_F RX4 142 4 21 := by
  obtain ⟨C, T, N, ty0, h1, h2, h3, h4, h5, h6, -, -⟩ := fwX4_142
  exact ⟨C, T, N, ty0, h1, h2, h3, h4, h5, h6⟩
theorem fwX4_145 : ab_Fw RX4 145 4 15 := ⟨RX4, TX4, 43, tyX4, rfl, by decide, ab_in4, tyX4_ok, nmX4, ab_mem 578 (by decide +kernel) (by decide +kernel), rfl, by decide +kernel⟩
theorem fX4_145 : ab_F RX4 145 4 15 := by
  obtain ⟨C, T, N, ty0, h1, h2, h3, h4, h5, h6, -, -⟩ := fwX4_145
  exact ⟨C, T, N, ty0, h1, h2, h3, h4, h5, h6⟩
theorem fwX4_171 : ab_Fw RX4 171 4 22 := ⟨RX4, TX4, 43, tyX4, rfl, by decide, ab_in4, tyX4_ok, nmX4, ab_mem 585 (by decide +kernel) (by decide +kernel), rfl, by decide +kernel⟩
theorem fX4_171 : ab_F RX4 171 4 22 := by
  obtain ⟨C, T, N, ty0, h1, h2, h3, h4, h5, h6, -, -⟩ := fwX4_171
  exact ⟨C, T, N, ty0, h1, h2, h3, h4, h5, h6⟩
theorem fwX4_174 : ab_Fw RX4 174 4 40 := ⟨RX4, TX4, 43, tyX4, rfl, by decide, ab_in4, tyX4_ok, nmX4, ab_mem 603 (by decide +kernel) (by decide +kernel), rfl, by decide +kernel⟩
theorem fX4_174 : ab_F RX4 174 4 40 := by
  obtain ⟨C, T, N, ty0, h1, h2, h3, h4, h5, h6, -, -⟩ := fwX4_174
  exact ⟨C, T, N, ty0, h1, h2, h3, h4, h5, h6⟩
theorem fwX4_197 : ab_Fw RX4 197 4 41 := ⟨RX4, TX4, 43, tyX4, rfl, by decide, ab_in4, tyX4_ok, nmX4, ab_mem 604 (by decide +kernel) (by decide +kernel), rfl, by decide +kernel⟩
theorem fX4_197 : ab_F RX4 197 4 41 := by
  obtain ⟨C, T, N, ty0, h1, h2, h3, h4, h5, h6, -, -⟩ := fwX4_197
  exact ⟨C, T, N, ty0, h1, h2, h3, h4, h5, h6⟩
theorem fwX4_200 : ab_Fw RX4 200 4 23 := ⟨RX4, TX4, 43, tyX4, rfl, by decide, ab_in4, tyX4_ok, nmX4, ab_mem 586 (by decide +kernel) (by decide +kernel), rfl, by decide +kernel⟩
theorem fX4_200 : ab_F RX4 200 4 23 := by
  obtain ⟨C, T, N, ty0, h1, h2, h3, h4, h5, h6, -, -⟩ := fwX4_200
  exact ⟨C, T, N, ty0, h1, h2, h3, h4, h5, h6⟩
theorem fwX4_227 : ab_Fw RX4 227 4 19 := ⟨RX4, TX4, 43, tyX4, rfl, by decide, ab_in4, tyX4_ok, nmX4, ab_mem 582 (by decide +kernel) (by decide +kernel), rfl, by decide +kernel⟩
theorem fX4_227 : ab_F RX4 227 4 19 := by
  obtain ⟨C, T, N, ty0, h1, h2, h3, h4, h5, h6, -, -⟩ := fwX4_227
  exact ⟨C, T, N, ty0, h1, h2, h3, h4, h5, h6⟩
theorem fwX4_242 : ab_Fw RX4 242 4 20 := ⟨RX4, TX4, 43, tyX4, rfl, by decide, ab_in4, tyX4_ok, nmX4, ab_mem 583 (by decide +kernel) (by decide +kernel), rfl, by decide +kernel⟩
theorem fX4_242 : ab_F RX4 242 4 20 := by
  obtain ⟨C, T, N, ty0, h1, h2, h3, h4, h5, h6, -, -⟩ := fwX4_242
  exact ⟨C, T, N, ty0, h1, h2, h3, h4, h5, h6⟩
abbrev mX0_hasPlace : ab_M := (yX0_hasPlace, cX0_hasPlace, 2, (some .boolean))
abbrev mX0_init : ab_M := (yX0_init, cX0_init, 1, none)
abbrev mX0_makeRow : ab_M := (yX0_makeRow, cX0_makeRow, 3, none)
abbrev mX0_takeNote : ab_M := (yX0_takeNote, cX0_takeNote, 2, none)
abbrev mX1_enterScope : ab_M := (yX1_enterScope, cX1_enterScope, 2, (some .int))
abbrev mX1_hasRoom : ab_M := (yX1_hasRoom, cX1_hasRoom, 1, (some .boolean))
abbrev mX1_init : ab_M := (yX1_init, cX1_init, 1, none)
abbrev mX1_keep : ab_M := (yX1_keep, cX1_keep, 1, none)
abbrev mX1_leaveScope : ab_M := (yX1_leaveScope, cX1_leaveScope, 2, none)
abbrev mX1_remember : ab_M := (yX1_remember, cX1_remember, 4, none)
abbrev mX1_rememberRow : ab_M := (yX1_rememberRow, cX1_rememberRow, 2, none)
abbrev mX1_rememberSlot : ab_M := (yX1_rememberSlot, cX1_rememberSlot, 3, none)
abbrev mX1_undoAt : ab_M := (yX1_undoAt, cX1_undoAt, 4, none)
abbrev mX1_undoScope : ab_M := (yX1_undoScope, cX1_undoScope, 3, none)
abbrev mX2_append : ab_M := (yX2_append, cX2_append, 5, none)
abbrev mX2_beginPartAt : ab_M := (yX2_beginPartAt, cX2_beginPartAt, 2, none)
abbrev mX2_canTake : ab_M := (yX2_canTake, cX2_canTake, 3, (some .boolean))
abbrev mX2_closeAt : ab_M := (yX2_closeAt, cX2_closeAt, 2, none)
abbrev mX2_empty : ab_M := (yX2_empty, cX2_empty, 1, none)
abbrev mX2_init : ab_M := (yX2_init, cX2_init, 1, none)
abbrev mX2_isWhole : ab_M := (yX2_isWhole, cX2_isWhole, 1, (some .boolean))
abbrev mX2_latestPart : ab_M := (yX2_latestPart, cX2_latestPart, 1, (some .int))
abbrev mX2_openAt : ab_M := (yX2_openAt, cX2_openAt, 2, none)
abbrev mX2_openLoops : ab_M := (yX2_openLoops, cX2_openLoops, 3, (some .int))
abbrev mX3_allNodes : ab_M := (yX3_allNodes, cX3_allNodes, 3, (some .int))
abbrev mX3_answerOf : ab_M := (yX3_answerOf, cX3_answerOf, 2, (some .int))
abbrev mX3_canPay : ab_M := (yX3_canPay, cX3_canPay, 1, (some .boolean))
abbrev mX3_clear : ab_M := (yX3_clear, cX3_clear, 2, none)
abbrev mX3_count : ab_M := (yX3_count, cX3_count, 2, (some .int))
abbrev mX3_demand : ab_M := (yX3_demand, cX3_demand, 1, none)
abbrev mX3_demandRange : ab_M := (yX3_demandRange, cX3_demandRange, 2, none)
abbrev mX3_doAdd : ab_M := (yX3_doAdd, cX3_doAdd, 3, (some .long))
abbrev mX3_doCall : ab_M := (yX3_doCall, cX3_doCall, 8, (some .long))
abbrev mX3_doDivide : ab_M := (yX3_doDivide, cX3_doDivide, 4, (some .long))
abbrev mX3_doHold : ab_M := (yX3_doHold, cX3_doHold, 3, (some .long))
abbrev mX3_doIf : ab_M := (yX3_doIf, cX3_doIf, 5, (some .long))
abbrev mX3_doKeep : ab_M := (yX3_doKeep, cX3_doKeep, 1, (some .long))
abbrev mX3_doLoop : ab_M := (yX3_doLoop, cX3_doLoop, 8, (some .long))
abbrev mX3_doMake : ab_M := (yX3_doMake, cX3_doMake, 3, (some .long))
abbrev mX3_doMute : ab_M := (yX3_doMute, cX3_doMute, 6, (some .long))
abbrev mX3_doNode : ab_M := (yX3_doNode, cX3_doNode, 6, (some .long))
abbrev mX3_doNote : ab_M := (yX3_doNote, cX3_doNote, 2, (some .long))
abbrev mX3_doPart : ab_M := (yX3_doPart, cX3_doPart, 8, (some .long))
abbrev mX3_doRead : ab_M := (yX3_doRead, cX3_doRead, 4, (some .long))
abbrev mX3_doScope : ab_M := (yX3_doScope, cX3_doScope, 7, (some .long))
abbrev mX3_doSet : ab_M := (yX3_doSet, cX3_doSet, 3, (some .long))
abbrev mX3_doStep : ab_M := (yX3_doStep, cX3_doStep, 4, (some .long))
abbrev mX3_doTry : ab_M := (yX3_doTry, cX3_doTry, 9, (some .long))
abbrev mX3_doUse : ab_M := (yX3_doUse, cX3_doUse, 2, (some .long))
abbrev mX3_doWrite : ab_M := (yX3_doWrite, cX3_doWrite, 4, (some .long))
abbrev mX3_failing : ab_M := (yX3_failing, cX3_failing, 1, (some .long))
abbrev mX3_given : ab_M := (yX3_given, cX3_given, 1, (some .int))
abbrev mX3_howOf : ab_M := (yX3_howOf, cX3_howOf, 2, (some .int))
abbrev mX3_init : ab_M := (yX3_init, cX3_init, 2, none)
abbrev mX3_isBelow : ab_M := (yX3_isBelow, cX3_isBelow, 2, (some .boolean))
abbrev mX3_log : ab_M := (yX3_log, cX3_log, 2, (some .int))
abbrev mX3_node : ab_M := (yX3_node, cX3_node, 6, (some .int))
abbrev mX3_number : ab_M := (yX3_number, cX3_number, 2, (some .int))
abbrev mX3_numberOf : ab_M := (yX3_numberOf, cX3_numberOf, 2, (some .int))
abbrev mX3_row : ab_M := (yX3_row, cX3_row, 2, (some .int))
abbrev mX3_run : ab_M := (yX3_run, cX3_run, 5, (some .int))
abbrev mX3_wayOf : ab_M := (yX3_wayOf, cX3_wayOf, 2, (some .long))
abbrev mX4_after : ab_M := (yX4_after, cX4_after, 4, (some .int))
abbrev mX4_atEnd : ab_M := (yX4_atEnd, cX4_atEnd, 2, (some .boolean))
abbrev mX4_back : ab_M := (yX4_back, cX4_back, 2, none)
abbrev mX4_begin : ab_M := (yX4_begin, cX4_begin, 4, none)
abbrev mX4_box : ab_M := (yX4_box, cX4_box, 2, (some .int))
abbrev mX4_call : ab_M := (yX4_call, cX4_call, 3, none)
abbrev mX4_clear : ab_M := (yX4_clear, cX4_clear, 2, none)
abbrev mX4_count : ab_M := (yX4_count, cX4_count, 4, (some .int))
abbrev mX4_endOf : ab_M := (yX4_endOf, cX4_endOf, 3, (some .int))
abbrev mX4_ended : ab_M := (yX4_ended, cX4_ended, 2, none)
abbrev mX4_fails : ab_M := (yX4_fails, cX4_fails, 2, (some .int))
abbrev mX4_given : ab_M := (yX4_given, cX4_given, 1, (some .int))
abbrev mX4_init : ab_M := (yX4_init, cX4_init, 1, none)
abbrev mX4_leave : ab_M := (yX4_leave, cX4_leave, 1, none)
abbrev mX4_log : ab_M := (yX4_log, cX4_log, 2, (some .int))
abbrev mX4_look : ab_M := (yX4_look, cX4_look, 4, none)
abbrev mX4_looped : ab_M := (yX4_looped, cX4_looped, 1, none)
abbrev mX4_makes : ab_M := (yX4_makes, cX4_makes, 3, (some .int))
abbrev mX4_no : ab_M := (yX4_no, cX4_no, 2, (some .int))
abbrev mX4_node : ab_M := (yX4_node, cX4_node, 6, (some .int))
abbrev mX4_note : ab_M := (yX4_note, cX4_note, 2, none)
abbrev mX4_number : ab_M := (yX4_number, cX4_number, 2, (some .int))
abbrev mX4_onRow : ab_M := (yX4_onRow, cX4_onRow, 5, (some .int))
abbrev mX4_opens : ab_M := (yX4_opens, cX4_opens, 1, (some .boolean))
abbrev mX4_partOf : ab_M := (yX4_partOf, cX4_partOf, 4, (some .int))
abbrev mX4_pays : ab_M := (yX4_pays, cX4_pays, 1, (some .boolean))
abbrev mX4_plain : ab_M := (yX4_plain, cX4_plain, 4, (some .int))
abbrev mX4_push : ab_M := (yX4_push, cX4_push, 4, none)
abbrev mX4_remember : ab_M := (yX4_remember, cX4_remember, 5, none)
abbrev mX4_right : ab_M := (yX4_right, cX4_right, 3, (some .boolean))
abbrev mX4_round : ab_M := (yX4_round, cX4_round, 2, none)
abbrev mX4_row : ab_M := (yX4_row, cX4_row, 2, (some .int))
abbrev mX4_run : ab_M := (yX4_run, cX4_run, 2, (some .int))
abbrev mX4_settle : ab_M := (yX4_settle, cX4_settle, 2, none)
abbrev mX4_stands : ab_M := (yX4_stands, cX4_stands, 5, (some .boolean))
abbrev mX4_step : ab_M := (yX4_step, cX4_step, 2, none)
abbrev mX4_thrown : ab_M := (yX4_thrown, cX4_thrown, 1, (some .int))
abbrev mX4_tried : ab_M := (yX4_tried, cX4_tried, 5, none)
abbrev mX4_undoOne : ab_M := (yX4_undoOne, cX4_undoOne, 4, none)
abbrev mX4_unended : ab_M := (yX4_unended, cX4_unended, 4, (some .int))
abbrev mX4_uses : ab_M := (yX4_uses, cX4_uses, 2, (some .int))
abbrev mX4_within : ab_M := (yX4_within, cX4_within, 2, (some .boolean))
theorem mvX1_34 : ab_MV RX1 34 1 0 mX1_hasRoom := ⟨⟨⟨by decide +kernel, by decide +kernel, by decide +kernel⟩, by decide, ab_mem 476 (by decide +kernel) (by decide +kernel), ab_mem 62 (by decide +kernel) (by decide +kernel), ab_mem 479 (by decide +kernel) (by decide +kernel)⟩, ⟨_, rfl, rfl⟩, ab_mem 478 (by decide +kernel) (by decide +kernel), ab_mem 20 (by decide +kernel) (by decide +kernel)⟩
theorem mvX1_52 : ab_MV RX1 52 1 3 mX1_remember := ⟨⟨⟨by decide +kernel, by decide +kernel, by decide +kernel⟩, by decide, ab_mem 505 (by decide +kernel) (by decide +kernel), ab_mem 62 (by decide +kernel) (by decide +kernel), ab_mem 475 (by decide +kernel) (by decide +kernel)⟩, ⟨_, rfl, rfl⟩, ab_mem 473 (by decide +kernel) (by decide +kernel), ab_mem 474 (by decide +kernel) (by decide +kernel)⟩
theorem mvX1_62 : ab_MV RX1 62 1 2 mX1_undoAt := ⟨⟨⟨by decide +kernel, by decide +kernel, by decide +kernel⟩, by decide, ab_mem 426 (by decide +kernel) (by decide +kernel), ab_mem 62 (by decide +kernel) (by decide +kernel), ab_mem 429 (by decide +kernel) (by decide +kernel)⟩, ⟨_, rfl, rfl⟩, ab_mem 428 (by decide +kernel) (by decide +kernel), ab_mem 13 (by decide +kernel) (by decide +kernel)⟩
theorem mvX1_66 : ab_MV RX1 66 0 1 mX0_hasPlace := ⟨⟨⟨by decide +kernel, by decide +kernel, by decide +kernel⟩, by decide, ab_mem 430 (by decide +kernel) (by decide +kernel), ab_mem 61 (by decide +kernel) (by decide +kernel), ab_mem 433 (by decide +kernel) (by decide +kernel)⟩, ⟨_, rfl, rfl⟩, ab_mem 431 (by decide +kernel) (by decide +kernel), ab_mem 432 (by decide +kernel) (by decide +kernel)⟩
theorem mvX2_40 : ab_MV RX2 40 2 0 mX2_latestPart := ⟨⟨⟨by decide +kernel, by decide +kernel, by decide +kernel⟩, by decide, ab_mem 321 (by decide +kernel) (by decide +kernel), ab_mem 60 (by decide +kernel) (by decide +kernel), ab_mem 324 (by decide +kernel) (by decide +kernel)⟩, ⟨_, rfl, rfl⟩, ab_mem 323 (by decide +kernel) (by decide +kernel), ab_mem 2 (by decide +kernel) (by decide +kernel)⟩
theorem mvX2_44 : ab_MV RX2 44 2 0 mX2_openLoops := ⟨⟨⟨by decide +kernel, by decide +kernel, by decide +kernel⟩, by decide, ab_mem 325 (by decide +kernel) (by decide +kernel), ab_mem 60 (by decide +kernel) (by decide +kernel), ab_mem 328 (by decide +kernel) (by decide +kernel)⟩, ⟨_, rfl, rfl⟩, ab_mem 327 (by decide +kernel) (by decide +kernel), ab_mem 3 (by decide +kernel) (by decide +kernel)⟩
theorem mvX2_47 : ab_MV RX2 47 2 1 mX2_openAt := ⟨⟨⟨by decide +kernel, by decide +kernel, by decide +kernel⟩, by decide, ab_mem 349 (by decide +kernel) (by decide +kernel), ab_mem 60 (by decide +kernel) (by decide +kernel), ab_mem 352 (by decide +kernel) (by decide +kernel)⟩, ⟨_, rfl, rfl⟩, ab_mem 351 (by decide +kernel) (by decide +kernel), ab_mem 4 (by decide +kernel) (by decide +kernel)⟩
theorem mvX2_51 : ab_MV RX2 51 2 1 mX2_beginPartAt := ⟨⟨⟨by decide +kernel, by decide +kernel, by decide +kernel⟩, by decide, ab_mem 353 (by decide +kernel) (by decide +kernel), ab_mem 60 (by decide +kernel) (by decide +kernel), ab_mem 356 (by decide +kernel) (by decide +kernel)⟩, ⟨_, rfl, rfl⟩, ab_mem 355 (by decide +kernel) (by decide +kernel), ab_mem 5 (by decide +kernel) (by decide +kernel)⟩
theorem mvX2_54 : ab_MV RX2 54 2 1 mX2_closeAt := ⟨⟨⟨by decide +kernel, by decide +kernel, by decide +kernel⟩, by decide, ab_mem 357 (by decide +kernel) (by decide +kernel), ab_mem 60 (by decide +kernel) (by decide +kernel), ab_mem 360 (by decide +kernel) (by decide +kernel)⟩, ⟨_, rfl, rfl⟩, ab_mem 359 (by decide +kernel) (by decide +kernel), ab_mem 6 (by decide +kernel) (by decide +kernel)⟩
theorem msX3_30 : ab_MS RX3 30 2 mX3_demandRange := ⟨⟨⟨by decide +kernel, by decide +kernel, by decide +kernel⟩, by decide, ab_mem 237 (by decide +kernel) (by decide +kernel), ab_mem 59 (by decide +kernel) (by decide +kernel), ab_mem 239 (by decide +kernel) (by decide +kernel)⟩, ab_mem 238 (by decide +kernel) (by decide +kernel)⟩
theorem msX3_38 : ab_MS RX3 38 2 mX3_isBelow := ⟨⟨⟨by decide +kernel, by decide +kernel, by decide +kernel⟩, by decide, ab_mem 312 (by decide +kernel) (by decide +kernel), ab_mem 59 (by decide +kernel) (by decide +kernel), ab_mem 314 (by decide +kernel) (by decide +kernel)⟩, ab_mem 313 (by decide +kernel) (by decide +kernel)⟩
theorem msX3_45 : ab_MS RX3 45 1 mX3_demand := ⟨⟨⟨by decide +kernel, by decide +kernel, by decide +kernel⟩, by decide, ab_mem 240 (by decide +kernel) (by decide +kernel), ab_mem 59 (by decide +kernel) (by decide +kernel), ab_mem 242 (by decide +kernel) (by decide +kernel)⟩, ab_mem 241 (by decide +kernel) (by decide +kernel)⟩
theorem mvX3_49 : ab_MV RX3 49 2 2 mX2_canTake := ⟨⟨⟨by decide +kernel, by decide +kernel, by decide +kernel⟩, by decide, ab_mem 317 (by decide +kernel) (by decide +kernel), ab_mem 60 (by decide +kernel) (by decide +kernel), ab_mem 320 (by decide +kernel) (by decide +kernel)⟩, ⟨_, rfl, rfl⟩, ab_mem 318 (by decide +kernel) (by decide +kernel), ab_mem 319 (by decide +kernel) (by decide +kernel)⟩
theorem mvX3_59 : ab_MV RX3 59 2 3 mX2_append := ⟨⟨⟨by decide +kernel, by decide +kernel, by decide +kernel⟩, by decide, ab_mem 345 (by decide +kernel) (by decide +kernel), ab_mem 60 (by decide +kernel) (by decide +kernel), ab_mem 348 (by decide +kernel) (by decide +kernel)⟩, ⟨_, rfl, rfl⟩, ab_mem 346 (by decide +kernel) (by decide +kernel), ab_mem 347 (by decide +kernel) (by decide +kernel)⟩
theorem mvX3_67 : ab_MV RX3 67 2 0 mX2_empty := ⟨⟨⟨by decide +kernel, by decide +kernel, by decide +kernel⟩, by decide, ab_mem 368 (by decide +kernel) (by decide +kernel), ab_mem 60 (by decide +kernel) (by decide +kernel), ab_mem 371 (by decide +kernel) (by decide +kernel)⟩, ⟨_, rfl, rfl⟩, ab_mem 369 (by decide +kernel) (by decide +kernel), ab_mem 370 (by decide +kernel) (by decide +kernel)⟩
theorem mvX3_70 : ab_MV RX3 70 2 0 mX2_isWhole := ⟨⟨⟨by decide +kernel, by decide +kernel, by decide +kernel⟩, by decide, ab_mem 379 (by decide +kernel) (by decide +kernel), ab_mem 60 (by decide +kernel) (by decide +kernel), ab_mem 382 (by decide +kernel) (by decide +kernel)⟩, ⟨_, rfl, rfl⟩, ab_mem 380 (by decide +kernel) (by decide +kernel), ab_mem 381 (by decide +kernel) (by decide +kernel)⟩
theorem mvX3_85 : ab_MV RX3 85 3 3 mX3_doPart := ⟨⟨⟨by decide +kernel, by decide +kernel, by decide +kernel⟩, by decide, ab_mem 384 (by decide +kernel) (by decide +kernel), ab_mem 59 (by decide +kernel) (by decide +kernel), ab_mem 387 (by decide +kernel) (by decide +kernel)⟩, ⟨_, rfl, rfl⟩, ab_mem 386 (by decide +kernel) (by decide +kernel), ab_mem 7 (by decide +kernel) (by decide +kernel)⟩
theorem msX3_89 : ab_MS RX3 89 1 mX3_howOf := ⟨⟨⟨by decide +kernel, by decide +kernel, by decide +kernel⟩, by decide, ab_mem 403 (by decide +kernel) (by decide +kernel), ab_mem 59 (by decide +kernel) (by decide +kernel), ab_mem 405 (by decide +kernel) (by decide +kernel)⟩, ab_mem 404 (by decide +kernel) (by decide +kernel)⟩
theorem msX3_93 : ab_MS RX3 93 1 mX3_numberOf := ⟨⟨⟨by decide +kernel, by decide +kernel, by decide +kernel⟩, by decide, ab_mem 407 (by decide +kernel) (by decide +kernel), ab_mem 59 (by decide +kernel) (by decide +kernel), ab_mem 409 (by decide +kernel) (by decide +kernel)⟩, ab_mem 408 (by decide +kernel) (by decide +kernel)⟩
theorem msX3_99 : ab_MS RX3 99 1 mX3_answerOf := ⟨⟨⟨by decide +kernel, by decide +kernel, by decide +kernel⟩, by decide, ab_mem 533 (by decide +kernel) (by decide +kernel), ab_mem 59 (by decide +kernel) (by decide +kernel), ab_mem 535 (by decide +kernel) (by decide +kernel)⟩, ab_mem 534 (by decide +kernel) (by decide +kernel)⟩
theorem mvX3_120 : ab_MV RX3 120 3 0 mX3_allNodes := ⟨⟨⟨by decide +kernel, by decide +kernel, by decide +kernel⟩, by decide, ab_mem 224 (by decide +kernel) (by decide +kernel), ab_mem 59 (by decide +kernel) (by decide +kernel), ab_mem 227 (by decide +kernel) (by decide +kernel)⟩, ⟨_, rfl, rfl⟩, ab_mem 226 (by decide +kernel) (by decide +kernel), ab_mem 0 (by decide +kernel) (by decide +kernel)⟩
theorem msX3_134 : ab_MS RX3 134 2 mX3_wayOf := ⟨⟨⟨by decide +kernel, by decide +kernel, by decide +kernel⟩, by decide, ab_mem 396 (by decide +kernel) (by decide +kernel), ab_mem 59 (by decide +kernel) (by decide +kernel), ab_mem 398 (by decide +kernel) (by decide +kernel)⟩, ab_mem 397 (by decide +kernel) (by decide +kernel)⟩
theorem mvX3_141 : ab_MV RX3 141 3 3 mX3_doNode := ⟨⟨⟨by decide +kernel, by decide +kernel, by decide +kernel⟩, by decide, ab_mem 388 (by decide +kernel) (by decide +kernel), ab_mem 59 (by decide +kernel) (by decide +kernel), ab_mem 391 (by decide +kernel) (by decide +kernel)⟩, ⟨_, rfl, rfl⟩, ab_mem 390 (by decide +kernel) (by decide +kernel), ab_mem 8 (by decide +kernel) (by decide +kernel)⟩
theorem mvX3_153 : ab_MV RX3 153 3 0 mX3_canPay := ⟨⟨⟨by decide +kernel, by decide +kernel, by decide +kernel⟩, by decide, ab_mem 392 (by decide +kernel) (by decide +kernel), ab_mem 59 (by decide +kernel) (by decide +kernel), ab_mem 395 (by decide +kernel) (by decide +kernel)⟩, ⟨_, rfl, rfl⟩, ab_mem 394 (by decide +kernel) (by decide +kernel), ab_mem 9 (by decide +kernel) (by decide +kernel)⟩
theorem mvX3_165 : ab_MV RX3 165 3 3 mX3_doTry := ⟨⟨⟨by decide +kernel, by decide +kernel, by decide +kernel⟩, by decide, ab_mem 399 (by decide +kernel) (by decide +kernel), ab_mem 59 (by decide +kernel) (by decide +kernel), ab_mem 402 (by decide +kernel) (by decide +kernel)⟩, ⟨_, rfl, rfl⟩, ab_mem 401 (by decide +kernel) (by decide +kernel), ab_mem 10 (by decide +kernel) (by decide +kernel)⟩
theorem mvX3_168 : ab_MV RX3 168 3 3 mX3_doLoop := ⟨⟨⟨by decide +kernel, by decide +kernel, by decide +kernel⟩, by decide, ab_mem 410 (by decide +kernel) (by decide +kernel), ab_mem 59 (by decide +kernel) (by decide +kernel), ab_mem 413 (by decide +kernel) (by decide +kernel)⟩, ⟨_, rfl, rfl⟩, ab_mem 412 (by decide +kernel) (by decide +kernel), ab_mem 11 (by decide +kernel) (by decide +kernel)⟩
theorem mvX3_171 : ab_MV RX3 171 3 3 mX3_doScope := ⟨⟨⟨by decide +kernel, by decide +kernel, by decide +kernel⟩, by decide, ab_mem 414 (by decide +kernel) (by decide +kernel), ab_mem 59 (by decide +kernel) (by decide +kernel), ab_mem 417 (by decide +kernel) (by decide +kernel)⟩, ⟨_, rfl, rfl⟩, ab_mem 416 (by decide +kernel) (by decide +kernel), ab_mem 12 (by decide +kernel) (by decide +kernel)⟩
theorem mvX3_174 : ab_MV RX3 174 3 3 mX3_doMute := ⟨⟨⟨by decide +kernel, by decide +kernel, by decide +kernel⟩, by decide, ab_mem 441 (by decide +kernel) (by decide +kernel), ab_mem 59 (by decide +kernel) (by decide +kernel), ab_mem 444 (by decide +kernel) (by decide +kernel)⟩, ⟨_, rfl, rfl⟩, ab_mem 443 (by decide +kernel) (by decide +kernel), ab_mem 14 (by decide +kernel) (by decide +kernel)⟩
theorem mvX3_177 : ab_MV RX3 177 3 3 mX3_doIf := ⟨⟨⟨by decide +kernel, by decide +kernel, by decide +kernel⟩, by decide, ab_mem 445 (by decide +kernel) (by decide +kernel), ab_mem 59 (by decide +kernel) (by decide +kernel), ab_mem 448 (by decide +kernel) (by decide +kernel)⟩, ⟨_, rfl, rfl⟩, ab_mem 447 (by decide +kernel) (by decide +kernel), ab_mem 15 (by decide +kernel) (by decide +kernel)⟩
theorem mvX3_180 : ab_MV RX3 180 3 3 mX3_doCall := ⟨⟨⟨by decide +kernel, by decide +kernel, by decide +kernel⟩, by decide, ab_mem 449 (by decide +kernel) (by decide +kernel), ab_mem 59 (by decide +kernel) (by decide +kernel), ab_mem 452 (by decide +kernel) (by decide +kernel)⟩, ⟨_, rfl, rfl⟩, ab_mem 451 (by decide +kernel) (by decide +kernel), ab_mem 16 (by decide +kernel) (by decide +kernel)⟩
theorem msX3_184 : ab_MS RX3 184 1 mX3_failing := ⟨⟨⟨by decide +kernel, by decide +kernel, by decide +kernel⟩, by decide, ab_mem 453 (by decide +kernel) (by decide +kernel), ab_mem 59 (by decide +kernel) (by decide +kernel), ab_mem 455 (by decide +kernel) (by decide +kernel)⟩, ab_mem 454 (by decide +kernel) (by decide +kernel)⟩
theorem mvX3_188 : ab_MV RX3 188 3 3 mX3_doStep := ⟨⟨⟨by decide +kernel, by decide +kernel, by decide +kernel⟩, by decide, ab_mem 456 (by decide +kernel) (by decide +kernel), ab_mem 59 (by decide +kernel) (by decide +kernel), ab_mem 459 (by decide +kernel) (by decide +kernel)⟩, ⟨_, rfl, rfl⟩, ab_mem 458 (by decide +kernel) (by decide +kernel), ab_mem 17 (by decide +kernel) (by decide +kernel)⟩
theorem mvX3_191 : ab_MV RX3 191 1 0 mX1_enterScope := ⟨⟨⟨by decide +kernel, by decide +kernel, by decide +kernel⟩, by decide, ab_mem 418 (by decide +kernel) (by decide +kernel), ab_mem 62 (by decide +kernel) (by decide +kernel), ab_mem 421 (by decide +kernel) (by decide +kernel)⟩, ⟨_, rfl, rfl⟩, ab_mem 419 (by decide +kernel) (by decide +kernel), ab_mem 420 (by decide +kernel) (by decide +kernel)⟩
theorem mvX3_194 : ab_MV RX3 194 1 1 mX1_undoScope := ⟨⟨⟨by decide +kernel, by decide +kernel, by decide +kernel⟩, by decide, ab_mem 422 (by decide +kernel) (by decide +kernel), ab_mem 62 (by decide +kernel) (by decide +kernel), ab_mem 425 (by decide +kernel) (by decide +kernel)⟩, ⟨_, rfl, rfl⟩, ab_mem 423 (by decide +kernel) (by decide +kernel), ab_mem 424 (by decide +kernel) (by decide +kernel)⟩
theorem mvX3_198 : ab_MV RX3 198 1 1 mX1_leaveScope := ⟨⟨⟨by decide +kernel, by decide +kernel, by decide +kernel⟩, by decide, ab_mem 437 (by decide +kernel) (by decide +kernel), ab_mem 62 (by decide +kernel) (by decide +kernel), ab_mem 440 (by decide +kernel) (by decide +kernel)⟩, ⟨_, rfl, rfl⟩, ab_mem 438 (by decide +kernel) (by decide +kernel), ab_mem 439 (by decide +kernel) (by decide +kernel)⟩
theorem mvX3_202 : ab_MV RX3 202 3 1 mX3_doNote := ⟨⟨⟨by decide +kernel, by decide +kernel, by decide +kernel⟩, by decide, ab_mem 460 (by decide +kernel) (by decide +kernel), ab_mem 59 (by decide +kernel) (by decide +kernel), ab_mem 463 (by decide +kernel) (by decide +kernel)⟩, ⟨_, rfl, rfl⟩, ab_mem 462 (by decide +kernel) (by decide +kernel), ab_mem 18 (by decide +kernel) (by decide +kernel)⟩
theorem mvX3_205 : ab_MV RX3 205 3 2 mX3_doAdd := ⟨⟨⟨by decide +kernel, by decide +kernel, by decide +kernel⟩, by decide, ab_mem 468 (by decide +kernel) (by decide +kernel), ab_mem 59 (by decide +kernel) (by decide +kernel), ab_mem 471 (by decide +kernel) (by decide +kernel)⟩, ⟨_, rfl, rfl⟩, ab_mem 470 (by decide +kernel) (by decide +kernel), ab_mem 19 (by decide +kernel) (by decide +kernel)⟩
theorem mvX3_208 : ab_MV RX3 208 3 2 mX3_doSet := ⟨⟨⟨by decide +kernel, by decide +kernel, by decide +kernel⟩, by decide, ab_mem 480 (by decide +kernel) (by decide +kernel), ab_mem 59 (by decide +kernel) (by decide +kernel), ab_mem 483 (by decide +kernel) (by decide +kernel)⟩, ⟨_, rfl, rfl⟩, ab_mem 482 (by decide +kernel) (by decide +kernel), ab_mem 21 (by decide +kernel) (by decide +kernel)⟩
theorem mvX3_211 : ab_MV RX3 211 3 2 mX3_doDivide := ⟨⟨⟨by decide +kernel, by decide +kernel, by decide +kernel⟩, by decide, ab_mem 484 (by decide +kernel) (by decide +kernel), ab_mem 59 (by decide +kernel) (by decide +kernel), ab_mem 487 (by decide +kernel) (by decide +kernel)⟩, ⟨_, rfl, rfl⟩, ab_mem 486 (by decide +kernel) (by decide +kernel), ab_mem 22 (by decide +kernel) (by decide +kernel)⟩
theorem mvX3_214 : ab_MV RX3 214 3 2 mX3_doRead := ⟨⟨⟨by decide +kernel, by decide +kernel, by decide +kernel⟩, by decide, ab_mem 488 (by decide +kernel) (by decide +kernel), ab_mem 59 (by decide +kernel) (by decide +kernel), ab_mem 491 (by decide +kernel) (by decide +kernel)⟩, ⟨_, rfl, rfl⟩, ab_mem 490 (by decide +kernel) (by decide +kernel), ab_mem 23 (by decide +kernel) (by decide +kernel)⟩
theorem mvX3_217 : ab_MV RX3 217 3 2 mX3_doWrite := ⟨⟨⟨by decide +kernel, by decide +kernel, by decide +kernel⟩, by decide, ab_mem 493 (by decide +kernel) (by decide +kernel), ab_mem 59 (by decide +kernel) (by decide +kernel), ab_mem 496 (by decide +kernel) (by decide +kernel)⟩, ⟨_, rfl, rfl⟩, ab_mem 495 (by decide +kernel) (by decide +kernel), ab_mem 24 (by decide +kernel) (by decide +kernel)⟩
theorem mvX3_220 : ab_MV RX3 220 3 1 mX3_doMake := ⟨⟨⟨by decide +kernel, by decide +kernel, by decide +kernel⟩, by decide, ab_mem 497 (by decide +kernel) (by decide +kernel), ab_mem 59 (by decide +kernel) (by decide +kernel), ab_mem 500 (by decide +kernel) (by decide +kernel)⟩, ⟨_, rfl, rfl⟩, ab_mem 499 (by decide +kernel) (by decide +kernel), ab_mem 25 (by decide +kernel) (by decide +kernel)⟩
theorem mvX3_223 : ab_MV RX3 223 3 2 mX3_doHold := ⟨⟨⟨by decide +kernel, by decide +kernel, by decide +kernel⟩, by decide, ab_mem 510 (by decide +kernel) (by decide +kernel), ab_mem 59 (by decide +kernel) (by decide +kernel), ab_mem 513 (by decide +kernel) (by decide +kernel)⟩, ⟨_, rfl, rfl⟩, ab_mem 512 (by decide +kernel) (by decide +kernel), ab_mem 26 (by decide +kernel) (by decide +kernel)⟩
theorem mvX3_226 : ab_MV RX3 226 3 1 mX3_doUse := ⟨⟨⟨by decide +kernel, by decide +kernel, by decide +kernel⟩, by decide, ab_mem 518 (by decide +kernel) (by decide +kernel), ab_mem 59 (by decide +kernel) (by decide +kernel), ab_mem 521 (by decide +kernel) (by decide +kernel)⟩, ⟨_, rfl, rfl⟩, ab_mem 520 (by decide +kernel) (by decide +kernel), ab_mem 27 (by decide +kernel) (by decide +kernel)⟩
theorem mvX3_229 : ab_MV RX3 229 3 0 mX3_doKeep := ⟨⟨⟨by decide +kernel, by decide +kernel, by decide +kernel⟩, by decide, ab_mem 522 (by decide +kernel) (by decide +kernel), ab_mem 59 (by decide +kernel) (by decide +kernel), ab_mem 525 (by decide +kernel) (by decide +kernel)⟩, ⟨_, rfl, rfl⟩, ab_mem 524 (by decide +kernel) (by decide +kernel), ab_mem 28 (by decide +kernel) (by decide +kernel)⟩
theorem mvX3_233 : ab_MV RX3 233 0 1 mX0_takeNote := ⟨⟨⟨by decide +kernel, by decide +kernel, by decide +kernel⟩, by decide, ab_mem 464 (by decide +kernel) (by decide +kernel), ab_mem 61 (by decide +kernel) (by decide +kernel), ab_mem 467 (by decide +kernel) (by decide +kernel)⟩, ⟨_, rfl, rfl⟩, ab_mem 465 (by decide +kernel) (by decide +kernel), ab_mem 466 (by decide +kernel) (by decide +kernel)⟩
theorem mvX3_236 : ab_MV RX3 236 1 3 mX1_remember := ⟨⟨⟨by decide +kernel, by decide +kernel, by decide +kernel⟩, by decide, ab_mem 472 (by decide +kernel) (by decide +kernel), ab_mem 62 (by decide +kernel) (by decide +kernel), ab_mem 475 (by decide +kernel) (by decide +kernel)⟩, ⟨_, rfl, rfl⟩, ab_mem 473 (by decide +kernel) (by decide +kernel), ab_mem 474 (by decide +kernel) (by decide +kernel)⟩
theorem mvX3_239 : ab_MV RX3 239 0 1 mX0_hasPlace := ⟨⟨⟨by decide +kernel, by decide +kernel, by decide +kernel⟩, by decide, ab_mem 492 (by decide +kernel) (by decide +kernel), ab_mem 61 (by decide +kernel) (by decide +kernel), ab_mem 433 (by decide +kernel) (by decide +kernel)⟩, ⟨_, rfl, rfl⟩, ab_mem 431 (by decide +kernel) (by decide +kernel), ab_mem 432 (by decide +kernel) (by decide +kernel)⟩
theorem mvX3_243 : ab_MV RX3 243 1 1 mX1_rememberRow := ⟨⟨⟨by decide +kernel, by decide +kernel, by decide +kernel⟩, by decide, ab_mem 501 (by decide +kernel) (by decide +kernel), ab_mem 62 (by decide +kernel) (by decide +kernel), ab_mem 504 (by decide +kernel) (by decide +kernel)⟩, ⟨_, rfl, rfl⟩, ab_mem 502 (by decide +kernel) (by decide +kernel), ab_mem 503 (by decide +kernel) (by decide +kernel)⟩
theorem mvX3_246 : ab_MV RX3 246 0 1 mX0_makeRow := ⟨⟨⟨by decide +kernel, by decide +kernel, by decide +kernel⟩, by decide, ab_mem 506 (by decide +kernel) (by decide +kernel), ab_mem 61 (by decide +kernel) (by decide +kernel), ab_mem 509 (by decide +kernel) (by decide +kernel)⟩, ⟨_, rfl, rfl⟩, ab_mem 507 (by decide +kernel) (by decide +kernel), ab_mem 508 (by decide +kernel) (by decide +kernel)⟩
theorem mvX3_249 : ab_MV RX3 249 1 2 mX1_rememberSlot := ⟨⟨⟨by decide +kernel, by decide +kernel, by decide +kernel⟩, by decide, ab_mem 514 (by decide +kernel) (by decide +kernel), ab_mem 62 (by decide +kernel) (by decide +kernel), ab_mem 517 (by decide +kernel) (by decide +kernel)⟩, ⟨_, rfl, rfl⟩, ab_mem 515 (by decide +kernel) (by decide +kernel), ab_mem 516 (by decide +kernel) (by decide +kernel)⟩
theorem mvX3_256 : ab_MV RX3 256 1 0 mX1_keep := ⟨⟨⟨by decide +kernel, by decide +kernel, by decide +kernel⟩, by decide, ab_mem 526 (by decide +kernel) (by decide +kernel), ab_mem 62 (by decide +kernel) (by decide +kernel), ab_mem 529 (by decide +kernel) (by decide +kernel)⟩, ⟨_, rfl, rfl⟩, ab_mem 527 (by decide +kernel) (by decide +kernel), ab_mem 528 (by decide +kernel) (by decide +kernel)⟩
theorem msX4_98 : ab_MS RX4 98 1 mX4_opens := ⟨⟨⟨by decide +kernel, by decide +kernel, by decide +kernel⟩, by decide, ab_mem 715 (by decide +kernel) (by decide +kernel), ab_mem 63 (by decide +kernel) (by decide +kernel), ab_mem 717 (by decide +kernel) (by decide +kernel)⟩, ab_mem 716 (by decide +kernel) (by decide +kernel)⟩
theorem msX4_105 : ab_MS RX4 105 2 mX4_within := ⟨⟨⟨by decide +kernel, by decide +kernel, by decide +kernel⟩, by decide, ab_mem 701 (by decide +kernel) (by decide +kernel), ab_mem 63 (by decide +kernel) (by decide +kernel), ab_mem 703 (by decide +kernel) (by decide +kernel)⟩, ab_mem 702 (by decide +kernel) (by decide +kernel)⟩
theorem msX4_109 : ab_MS RX4 109 3 mX4_right := ⟨⟨⟨by decide +kernel, by decide +kernel, by decide +kernel⟩, by decide, ab_mem 704 (by decide +kernel) (by decide +kernel), ab_mem 63 (by decide +kernel) (by decide +kernel), ab_mem 706 (by decide +kernel) (by decide +kernel)⟩, ab_mem 705 (by decide +kernel) (by decide +kernel)⟩
theorem mvX4_113 : ab_MV RX4 113 4 1 mX4_no := ⟨⟨⟨by decide +kernel, by decide +kernel, by decide +kernel⟩, by decide, ab_mem 707 (by decide +kernel) (by decide +kernel), ab_mem 63 (by decide +kernel) (by decide +kernel), ab_mem 710 (by decide +kernel) (by decide +kernel)⟩, ⟨_, rfl, rfl⟩, ab_mem 709 (by decide +kernel) (by decide +kernel), ab_mem 29 (by decide +kernel) (by decide +kernel)⟩
theorem mvX4_117 : ab_MV RX4 117 4 1 mX4_look := ⟨⟨⟨by decide +kernel, by decide +kernel, by decide +kernel⟩, by decide, ab_mem 711 (by decide +kernel) (by decide +kernel), ab_mem 63 (by decide +kernel) (by decide +kernel), ab_mem 714 (by decide +kernel) (by decide +kernel)⟩, ⟨_, rfl, rfl⟩, ab_mem 713 (by decide +kernel) (by decide +kernel), ab_mem 30 (by decide +kernel) (by decide +kernel)⟩
theorem mvX4_121 : ab_MV RX4 121 4 2 mX4_stands := ⟨⟨⟨by decide +kernel, by decide +kernel, by decide +kernel⟩, by decide, ab_mem 718 (by decide +kernel) (by decide +kernel), ab_mem 63 (by decide +kernel) (by decide +kernel), ab_mem 721 (by decide +kernel) (by decide +kernel)⟩, ⟨_, rfl, rfl⟩, ab_mem 720 (by decide +kernel) (by decide +kernel), ab_mem 31 (by decide +kernel) (by decide +kernel)⟩
theorem mvX4_124 : ab_MV RX4 124 4 1 mX4_after := ⟨⟨⟨by decide +kernel, by decide +kernel, by decide +kernel⟩, by decide, ab_mem 766 (by decide +kernel) (by decide +kernel), ab_mem 63 (by decide +kernel) (by decide +kernel), ab_mem 769 (by decide +kernel) (by decide +kernel)⟩, ⟨_, rfl, rfl⟩, ab_mem 768 (by decide +kernel) (by decide +kernel), ab_mem 41 (by decide +kernel) (by decide +kernel)⟩
theorem mvX4_148 : ab_MV RX4 148 4 1 mX4_note := ⟨⟨⟨by decide +kernel, by decide +kernel, by decide +kernel⟩, by decide, ab_mem 810 (by decide +kernel) (by decide +kernel), ab_mem 63 (by decide +kernel) (by decide +kernel), ab_mem 813 (by decide +kernel) (by decide +kernel)⟩, ⟨_, rfl, rfl⟩, ab_mem 812 (by decide +kernel) (by decide +kernel), ab_mem 52 (by decide +kernel) (by decide +kernel)⟩
theorem mvX4_151 : ab_MV RX4 151 4 3 mX4_remember := ⟨⟨⟨by decide +kernel, by decide +kernel, by decide +kernel⟩, by decide, ab_mem 814 (by decide +kernel) (by decide +kernel), ab_mem 63 (by decide +kernel) (by decide +kernel), ab_mem 817 (by decide +kernel) (by decide +kernel)⟩, ⟨_, rfl, rfl⟩, ab_mem 816 (by decide +kernel) (by decide +kernel), ab_mem 53 (by decide +kernel) (by decide +kernel)⟩
theorem mvX4_155 : ab_MV RX4 155 4 1 mX4_fails := ⟨⟨⟨by decide +kernel, by decide +kernel, by decide +kernel⟩, by decide, ab_mem 802 (by decide +kernel) (by decide +kernel), ab_mem 63 (by decide +kernel) (by decide +kernel), ab_mem 805 (by decide +kernel) (by decide +kernel)⟩, ⟨_, rfl, rfl⟩, ab_mem 804 (by decide +kernel) (by decide +kernel), ab_mem 50 (by decide +kernel) (by decide +kernel)⟩
theorem mvX4_158 : ab_MV RX4 158 4 3 mX4_onRow := ⟨⟨⟨by decide +kernel, by decide +kernel, by decide +kernel⟩, by decide, ab_mem 818 (by decide +kernel) (by decide +kernel), ab_mem 63 (by decide +kernel) (by decide +kernel), ab_mem 821 (by decide +kernel) (by decide +kernel)⟩, ⟨_, rfl, rfl⟩, ab_mem 820 (by decide +kernel) (by decide +kernel), ab_mem 54 (by decide +kernel) (by decide +kernel)⟩
theorem mvX4_162 : ab_MV RX4 162 4 1 mX4_makes := ⟨⟨⟨by decide +kernel, by decide +kernel, by decide +kernel⟩, by decide, ab_mem 822 (by decide +kernel) (by decide +kernel), ab_mem 63 (by decide +kernel) (by decide +kernel), ab_mem 825 (by decide +kernel) (by decide +kernel)⟩, ⟨_, rfl, rfl⟩, ab_mem 824 (by decide +kernel) (by decide +kernel), ab_mem 55 (by decide +kernel) (by decide +kernel)⟩
theorem mvX4_165 : ab_MV RX4 165 4 1 mX4_box := ⟨⟨⟨by decide +kernel, by decide +kernel, by decide +kernel⟩, by decide, ab_mem 826 (by decide +kernel) (by decide +kernel), ab_mem 63 (by decide +kernel) (by decide +kernel), ab_mem 829 (by decide +kernel) (by decide +kernel)⟩, ⟨_, rfl, rfl⟩, ab_mem 828 (by decide +kernel) (by decide +kernel), ab_mem 56 (by decide +kernel) (by decide +kernel)⟩
theorem mvX4_168 : ab_MV RX4 168 4 1 mX4_uses := ⟨⟨⟨by decide +kernel, by decide +kernel, by decide +kernel⟩, by decide, ab_mem 830 (by decide +kernel) (by decide +kernel), ab_mem 63 (by decide +kernel) (by decide +kernel), ab_mem 833 (by decide +kernel) (by decide +kernel)⟩, ⟨_, rfl, rfl⟩, ab_mem 832 (by decide +kernel) (by decide +kernel), ab_mem 57 (by decide +kernel) (by decide +kernel)⟩
theorem mvX4_177 : ab_MV RX4 177 4 1 mX4_endOf := ⟨⟨⟨by decide +kernel, by decide +kernel, by decide +kernel⟩, by decide, ab_mem 794 (by decide +kernel) (by decide +kernel), ab_mem 63 (by decide +kernel) (by decide +kernel), ab_mem 797 (by decide +kernel) (by decide +kernel)⟩, ⟨_, rfl, rfl⟩, ab_mem 796 (by decide +kernel) (by decide +kernel), ab_mem 48 (by decide +kernel) (by decide +kernel)⟩
theorem mvX4_180 : ab_MV RX4 180 4 3 mX4_push := ⟨⟨⟨by decide +kernel, by decide +kernel, by decide +kernel⟩, by decide, ab_mem 738 (by decide +kernel) (by decide +kernel), ab_mem 63 (by decide +kernel) (by decide +kernel), ab_mem 741 (by decide +kernel) (by decide +kernel)⟩, ⟨_, rfl, rfl⟩, ab_mem 740 (by decide +kernel) (by decide +kernel), ab_mem 34 (by decide +kernel) (by decide +kernel)⟩
theorem mvX4_183 : ab_MV RX4 183 4 0 mX4_round := ⟨⟨⟨by decide +kernel, by decide +kernel, by decide +kernel⟩, by decide, ab_mem 774 (by decide +kernel) (by decide +kernel), ab_mem 63 (by decide +kernel) (by decide +kernel), ab_mem 777 (by decide +kernel) (by decide +kernel)⟩, ⟨_, rfl, rfl⟩, ab_mem 776 (by decide +kernel) (by decide +kernel), ab_mem 43 (by decide +kernel) (by decide +kernel)⟩
theorem mvX4_186 : ab_MV RX4 186 4 2 mX4_partOf := ⟨⟨⟨by decide +kernel, by decide +kernel, by decide +kernel⟩, by decide, ab_mem 762 (by decide +kernel) (by decide +kernel), ab_mem 63 (by decide +kernel) (by decide +kernel), ab_mem 765 (by decide +kernel) (by decide +kernel)⟩, ⟨_, rfl, rfl⟩, ab_mem 764 (by decide +kernel) (by decide +kernel), ab_mem 40 (by decide +kernel) (by decide +kernel)⟩
theorem mvX4_190 : ab_MV RX4 190 4 0 mX4_leave := ⟨⟨⟨by decide +kernel, by decide +kernel, by decide +kernel⟩, by decide, ab_mem 758 (by decide +kernel) (by decide +kernel), ab_mem 63 (by decide +kernel) (by decide +kernel), ab_mem 761 (by decide +kernel) (by decide +kernel)⟩, ⟨_, rfl, rfl⟩, ab_mem 760 (by decide +kernel) (by decide +kernel), ab_mem 39 (by decide +kernel) (by decide +kernel)⟩
theorem mvX4_193 : ab_MV RX4 193 4 0 mX4_pays := ⟨⟨⟨by decide +kernel, by decide +kernel, by decide +kernel⟩, by decide, ab_mem 778 (by decide +kernel) (by decide +kernel), ab_mem 63 (by decide +kernel) (by decide +kernel), ab_mem 781 (by decide +kernel) (by decide +kernel)⟩, ⟨_, rfl, rfl⟩, ab_mem 780 (by decide +kernel) (by decide +kernel), ab_mem 44 (by decide +kernel) (by decide +kernel)⟩
theorem mvX4_203 : ab_MV RX4 203 4 1 mX4_unended := ⟨⟨⟨by decide +kernel, by decide +kernel, by decide +kernel⟩, by decide, ab_mem 730 (by decide +kernel) (by decide +kernel), ab_mem 63 (by decide +kernel) (by decide +kernel), ab_mem 733 (by decide +kernel) (by decide +kernel)⟩, ⟨_, rfl, rfl⟩, ab_mem 732 (by decide +kernel) (by decide +kernel), ab_mem 32 (by decide +kernel) (by decide +kernel)⟩
theorem mvX4_206 : ab_MV RX4 206 4 1 mX4_begin := ⟨⟨⟨by decide +kernel, by decide +kernel, by decide +kernel⟩, by decide, ab_mem 790 (by decide +kernel) (by decide +kernel), ab_mem 63 (by decide +kernel) (by decide +kernel), ab_mem 793 (by decide +kernel) (by decide +kernel)⟩, ⟨_, rfl, rfl⟩, ab_mem 792 (by decide +kernel) (by decide +kernel), ab_mem 47 (by decide +kernel) (by decide +kernel)⟩
theorem mvX4_209 : ab_MV RX4 209 4 1 mX4_call := ⟨⟨⟨by decide +kernel, by decide +kernel, by decide +kernel⟩, by decide, ab_mem 798 (by decide +kernel) (by decide +kernel), ab_mem 63 (by decide +kernel) (by decide +kernel), ab_mem 801 (by decide +kernel) (by decide +kernel)⟩, ⟨_, rfl, rfl⟩, ab_mem 800 (by decide +kernel) (by decide +kernel), ab_mem 49 (by decide +kernel) (by decide +kernel)⟩
theorem mvX4_212 : ab_MV RX4 212 4 3 mX4_plain := ⟨⟨⟨by decide +kernel, by decide +kernel, by decide +kernel⟩, by decide, ab_mem 806 (by decide +kernel) (by decide +kernel), ab_mem 63 (by decide +kernel) (by decide +kernel), ab_mem 809 (by decide +kernel) (by decide +kernel)⟩, ⟨_, rfl, rfl⟩, ab_mem 808 (by decide +kernel) (by decide +kernel), ab_mem 51 (by decide +kernel) (by decide +kernel)⟩
theorem mvX4_215 : ab_MV RX4 215 4 1 mX4_back := ⟨⟨⟨by decide +kernel, by decide +kernel, by decide +kernel⟩, by decide, ab_mem 750 (by decide +kernel) (by decide +kernel), ab_mem 63 (by decide +kernel) (by decide +kernel), ab_mem 753 (by decide +kernel) (by decide +kernel)⟩, ⟨_, rfl, rfl⟩, ab_mem 752 (by decide +kernel) (by decide +kernel), ab_mem 37 (by decide +kernel) (by decide +kernel)⟩
theorem mvX4_218 : ab_MV RX4 218 4 1 mX4_tried := ⟨⟨⟨by decide +kernel, by decide +kernel, by decide +kernel⟩, by decide, ab_mem 754 (by decide +kernel) (by decide +kernel), ab_mem 63 (by decide +kernel) (by decide +kernel), ab_mem 757 (by decide +kernel) (by decide +kernel)⟩, ⟨_, rfl, rfl⟩, ab_mem 756 (by decide +kernel) (by decide +kernel), ab_mem 38 (by decide +kernel) (by decide +kernel)⟩
theorem mvX4_221 : ab_MV RX4 221 4 0 mX4_looped := ⟨⟨⟨by decide +kernel, by decide +kernel, by decide +kernel⟩, by decide, ab_mem 770 (by decide +kernel) (by decide +kernel), ab_mem 63 (by decide +kernel) (by decide +kernel), ab_mem 773 (by decide +kernel) (by decide +kernel)⟩, ⟨_, rfl, rfl⟩, ab_mem 772 (by decide +kernel) (by decide +kernel), ab_mem 42 (by decide +kernel) (by decide +kernel)⟩
theorem mvX4_224 : ab_MV RX4 224 4 0 mX4_undoOne := ⟨⟨⟨by decide +kernel, by decide +kernel, by decide +kernel⟩, by decide, ab_mem 782 (by decide +kernel) (by decide +kernel), ab_mem 63 (by decide +kernel) (by decide +kernel), ab_mem 785 (by decide +kernel) (by decide +kernel)⟩, ⟨_, rfl, rfl⟩, ab_mem 784 (by decide +kernel) (by decide +kernel), ab_mem 45 (by decide +kernel) (by decide +kernel)⟩
theorem mvX4_230 : ab_MV RX4 230 4 0 mX4_settle := ⟨⟨⟨by decide +kernel, by decide +kernel, by decide +kernel⟩, by decide, ab_mem 734 (by decide +kernel) (by decide +kernel), ab_mem 63 (by decide +kernel) (by decide +kernel), ab_mem 737 (by decide +kernel) (by decide +kernel)⟩, ⟨_, rfl, rfl⟩, ab_mem 736 (by decide +kernel) (by decide +kernel), ab_mem 33 (by decide +kernel) (by decide +kernel)⟩
theorem mvX4_233 : ab_MV RX4 233 4 0 mX4_atEnd := ⟨⟨⟨by decide +kernel, by decide +kernel, by decide +kernel⟩, by decide, ab_mem 742 (by decide +kernel) (by decide +kernel), ab_mem 63 (by decide +kernel) (by decide +kernel), ab_mem 745 (by decide +kernel) (by decide +kernel)⟩, ⟨_, rfl, rfl⟩, ab_mem 744 (by decide +kernel) (by decide +kernel), ab_mem 35 (by decide +kernel) (by decide +kernel)⟩
theorem mvX4_236 : ab_MV RX4 236 4 0 mX4_ended := ⟨⟨⟨by decide +kernel, by decide +kernel, by decide +kernel⟩, by decide, ab_mem 746 (by decide +kernel) (by decide +kernel), ab_mem 63 (by decide +kernel) (by decide +kernel), ab_mem 749 (by decide +kernel) (by decide +kernel)⟩, ⟨_, rfl, rfl⟩, ab_mem 748 (by decide +kernel) (by decide +kernel), ab_mem 36 (by decide +kernel) (by decide +kernel)⟩
theorem mvX4_239 : ab_MV RX4 239 4 0 mX4_step := ⟨⟨⟨by decide +kernel, by decide +kernel, by decide +kernel⟩, by decide, ab_mem 786 (by decide +kernel) (by decide +kernel), ab_mem 63 (by decide +kernel) (by decide +kernel), ab_mem 789 (by decide +kernel) (by decide +kernel)⟩, ⟨_, rfl, rfl⟩, ab_mem 788 (by decide +kernel) (by decide +kernel), ab_mem 46 (by decide +kernel) (by decide +kernel)⟩
end
section
/-! switches: one goal for each value -/
def ab_tw (l : Launch) (lay : List ab_E) (M : ab_M) (d : Nat) (Q : Option ab_V → ab_H → Prop) (pc : Nat) (L : List (Nat × ab_V)) (S : List ab_V) (h : ab_H) (x : Int32) (dflt : Int) : Int → List Int → Prop
  | _, [] => ab_J l lay M d Q ((pc : Int) + dflt).toNat L S h
  | v, o :: r => (x = Int32.ofInt v → ab_J l lay M d Q ((pc : Int) + o).toNat L S h) ∧ (¬ x = Int32.ofInt v → ab_tw l lay M d Q pc L S h x dflt (v + 1) r)
def ab_lw (l : Launch) (lay : List ab_E) (M : ab_M) (d : Nat) (Q : Option ab_V → ab_H → Prop) (pc : Nat) (L : List (Nat × ab_V)) (S : List ab_V) (h : ab_H) (x : Int32) (dflt : Int) : List (Int × Int) → Prop
  | [] => ab_J l lay M d Q ((pc : Int) + dflt).toNat L S h
  | o :: r => (x = Int32.ofInt o.1 → ab_J l lay M d Q ((pc : Int) + o.2).toNat L S h) ∧ (¬ x = Int32.ofInt o.1 → ab_lw l lay M d Q pc L S h x dflt r)
section ABT
variable {l : Launch} {lay : List ab_E} {M : ab_M} {d : Nat} {Q : Option ab_V → ab_H → Prop} {pc : Nat} {L : List (Nat × ab_V)} {S : List ab_V} {h : ab_H}
theorem ab_i32 {x : Int32} {v : Int} (h1 : -2147483648 ≤ v) (h2 : v < 2147483648) : x = Int32.ofInt v ↔ x.toInt = v := by
  constructor
  · intro e
    rw [e]
    exact Int32.toInt_ofInt_of_le (by omega) (by omega)
  · intro e
    apply Int32.toInt_inj.mp
    rw [e]
    exact (Int32.toInt_ofInt_of_le (by omega) (by omega)).symm
theorem ab_table {dflt lo hi : Int} {offs : Array Int} {len : Nat} {x : Int32} (hd : decode M.2.1 pc = .ok (.tableswitch dflt lo hi offs, len)) (hr : hi + 1 = lo + offs.toList.length) (hlo : -2147483648 ≤ lo) (hhi : hi < 2147483648) (hj : ((dflt :: offs.toList).all fun o => decide (0 ≤ (pc : Int) + o)) = true)
    (k : ab_tw l lay M d Q pc L S h x dflt lo offs.toList) : ab_J l lay M d Q pc L (ab_I x :: S) h := by
  have hj2 : ∀ o ∈ dflt :: offs.toList, 0 ≤ (pc : Int) + o := fun o ho => of_decide_eq_true (List.all_eq_true.mp hj o ho)
  have key : ∀ (r pre : List Int), offs.toList = pre ++ r → (∀ j : Nat, j < pre.length → ¬ x.toInt = lo + j) → ab_tw l lay M d Q pc L S h x dflt (lo + pre.length) r → ab_J l lay M d Q pc L (ab_I x :: S) h := by
    intro r
    induction r with
    | nil =>
      intro pre e hn k
      rw [List.append_nil] at e
      refine ab_tableOut (tgt := ((pc : Int) + dflt).toNat) hd ?_ ?_ k
      · rw [e] at hr
        by_cases h1 : x.toInt < lo
        · exact Or.inl h1
        · refine Or.inr ?_
          by_cases h2 : hi < x.toInt
          · exact h2
          · have := hn (x.toInt - lo).toNat (by omega)
            omega
      · rw [Int.toNat_of_nonneg (hj2 dflt List.mem_cons_self)]
    | cons o r ih =>
      intro pre e hn k
      have hlen : offs.toList.length = pre.length + (r.length + 1) := by rw [e]; simp
      by_cases hx : x = Int32.ofInt (lo + pre.length)
      · have hx2 : x.toInt = lo + pre.length := (ab_i32 (by omega) (by omega)).mp hx
        refine ab_tableIn (tgt := ((pc : Int) + o).toNat) (off := o) hd (by omega) (by omega) ?_ ?_ (k.1 hx)
        · have e2 : (x.toInt - lo).toNat = pre.length := by omega
          rw [e2, ← Array.getElem?_toList, e]
          simp
        · rw [Int.toNat_of_nonneg (hj2 o (List.mem_cons_of_mem _ (by rw [e]; simp)))]
      · refine ih (pre ++ [o]) (by rw [e]; simp) (fun j hj => ?_) ?_
        · rw [List.length_append, List.length_singleton] at hj
          rcases Nat.lt_or_ge j pre.length with h1 | h1
          · exact hn j h1
          · have : j = pre.length := by omega
            subst this
            exact fun q => hx ((ab_i32 (by omega) (by omega)).mpr q)
        · have := k.2 hx
          rw [List.length_append, List.length_singleton]
          rw [show lo + ((pre.length + 1 : Nat) : Int) = lo + pre.length + 1 by omega]
          exact this
  exact key offs.toList [] rfl (fun j hj => absurd hj (Nat.not_lt_zero _)) (by rw [List.length_nil]; rw [show lo + ((0 : Nat) : Int) = lo by omega]; exact k)
theorem ab_look {dflt : Int} {ps : Array (Int × Int)} {len : Nat} {x : Int32} (hd : decode M.2.1 pc = .ok (.lookupswitch dflt ps, len)) (hp : (ps.toList.zip (ps.toList.drop 1)).all (fun (a, next) => a.1 < next.1) = true) (hr : (ps.toList.all fun o => decide (-2147483648 ≤ o.1) && decide (o.1 < 2147483648)) = true) (hj : ((dflt :: ps.toList.map (·.2)).all fun o => decide (0 ≤ (pc : Int) + o)) = true)
    (k : ab_lw l lay M d Q pc L S h x dflt ps.toList) : ab_J l lay M d Q pc L (ab_I x :: S) h := by
  have hj2 : ∀ o ∈ dflt :: ps.toList.map (·.2), 0 ≤ (pc : Int) + o := fun o ho => of_decide_eq_true (List.all_eq_true.mp hj o ho)
  have hr2 : ∀ o ∈ ps.toList, -2147483648 ≤ o.1 ∧ o.1 < 2147483648 := fun o ho => by
    have := List.all_eq_true.mp hr o ho
    simpa using this
  have key : ∀ (r : List (Int × Int)), (∀ o ∈ r, o ∈ ps.toList) → Op.lookupswitch.offset ps.toList dflt x.toInt = Op.lookupswitch.offset r dflt x.toInt → ab_lw l lay M d Q pc L S h x dflt r → ab_J l lay M d Q pc L (ab_I x :: S) h := by
    intro r
    induction r with
    | nil =>
      intro _ e k
      refine ab_lookup (tgt := ((pc : Int) + dflt).toNat) (off := dflt) hd hp (e.trans rfl) ?_ k
      rw [Int.toNat_of_nonneg (hj2 dflt List.mem_cons_self)]
    | cons o r ih =>
      intro hm e k
      have ho := hm o List.mem_cons_self
      by_cases hx : x = Int32.ofInt o.1
      · have hx2 : x.toInt = o.1 := (ab_i32 (hr2 o ho).1 (hr2 o ho).2).mp hx
        refine ab_lookup (tgt := ((pc : Int) + o.2).toNat) (off := o.2) hd hp ?_ ?_ (k.1 hx)
        · rw [e, show o = (o.1, o.2) from rfl, Op.lookupswitch.offset_cons, if_pos hx2.symm]
        · rw [Int.toNat_of_nonneg (hj2 o.2 (List.mem_cons_of_mem _ (List.mem_map.mpr ⟨o, ho, rfl⟩)))]
      · refine ih (fun q hq => hm q (List.mem_cons_of_mem _ hq)) ?_ (k.2 hx)
        rw [e, show o = (o.1, o.2) from rfl, Op.lookupswitch.offset_cons, if_neg]
        exact fun q => hx ((ab_i32 (hr2 o ho).1 (hr2 o ho).2).mpr q.symm)
  exact key ps.toList (fun o ho => ho) rfl k
end ABT
section ABT2
variable {l : Launch} {lay : List ab_E} {M : ab_M} {d : Nat} {Q : Option ab_V → ab_H → Prop} {pc : Nat} {L : List (Nat × ab_V)} {S : List ab_V} {h : ab_H} {x : Int32} {dflt : Int}
theorem ab_tw_c {v o : Int} {r : List Int} (c : Int32) (tgt : Nat) (hc : Int32.ofInt v = c) (ht : ((pc : Int) + o).toNat = tgt) (a : x = c → ab_J l lay M d Q tgt L S h) (b : ¬ x = c → ab_tw l lay M d Q pc L S h x dflt (v + 1) r) : ab_tw l lay M d Q pc L S h x dflt v (o :: r) := by
  subst hc
  subst ht
  exact ⟨a, b⟩
theorem ab_tw_n {v : Int} (tgt : Nat) (ht : ((pc : Int) + dflt).toNat = tgt) (a : ab_J l lay M d Q tgt L S h) : ab_tw l lay M d Q pc L S h x dflt v [] := by
  subst ht
  exact a
theorem ab_lw_c {v o : Int} {r : List (Int × Int)} (c : Int32) (tgt : Nat) (hc : Int32.ofInt v = c) (ht : ((pc : Int) + o).toNat = tgt) (a : x = c → ab_J l lay M d Q tgt L S h) (b : ¬ x = c → ab_lw l lay M d Q pc L S h x dflt r) : ab_lw l lay M d Q pc L S h x dflt ((v, o) :: r) := by
  subst hc
  subst ht
  exact ⟨a, b⟩
theorem ab_lw_n (tgt : Nat) (ht : ((pc : Int) + dflt).toNat = tgt) (a : ab_J l lay M d Q tgt L S h) : ab_lw l lay M d Q pc L S h x dflt [] := by
  subst ht
  exact a
end ABT2
/-- the reference's world: its object, and its 25 arrays -/
abbrev layM : List ab_E := [.inr (.inr (4, [none, some 1, some 2, some 3, some 4, some 5, some 6, none, some 7, some 8, some 9, some 10, some 11, none, some 12, none, none, none, none, none, none, none, none, none, some 13, some 14, some 15, some 16, none, some 17, none, some 18, some 19, some 20, some 21, some 22, some 23, some 24, some 25, none, none, none, none])),
  .inl 480, .inl 480, .inl 480, .inl 8, .inl 8, .inl 16, .inl 4, .inl 80, .inl 80, .inl 4, .inl 4, .inl 100, .inl 70, .inl 70, .inl 70, .inl 1120, .inl 70, .inl 80, .inl 80, .inl 80, .inl 80, .inl 80, .inl 80, .inl 80, .inl 80]
abbrev ab_wf (w : Nat) : List ab_E := [.inr (.inr (2, [some (15 + 8 * w), some (16 + 8 * w), some (17 + 8 * w), some (18 + 8 * w), some (19 + 8 * w), some (20 + 8 * w), some (21 + 8 * w), none, none])), .inl 60, .inl 60, .inl 60, .inl 60, .inl 60, .inl 10, .inl 10]
/-- the class's world: its object, its row of workflows, its data, its list, their arrays, the workflows -/
abbrev layC : List ab_E := [.inr (.inr (3, [some 1, some 2, some 3, none, none, none])), .inr (.inl [14, 22, 30, 38, 46, 54, 62, 70]), .inr (.inr (0, [some 4, some 5, none, some 6, some 7, some 8, none])), .inr (.inr (1, [some 9, some 10, some 11, some 12, some 13, none, none, none, none])),
  .inl 8, .inl 16, .inl 4, .inl 4, .inl 100, .inl 60, .inl 60, .inl 60, .inl 60, .inl 960] ++ (ab_wf 0 ++ (ab_wf 1 ++ (ab_wf 2 ++ (ab_wf 3 ++ (ab_wf 4 ++ (ab_wf 5 ++ (ab_wf 6 ++ ab_wf 7)))))))
theorem ab_8 {P : Nat → Prop} (h0 : P 0) (h1 : P 1) (h2 : P 2) (h3 : P 3) (h4 : P 4) (h5 : P 5) (h6 : P 6) (h7 : P 7) : ∀ w, w < 8 → P w
  | 0, _ => h0
  | 1, _ => h1
  | 2, _ => h2
  | 3, _ => h3
  | 4, _ => h4
  | 5, _ => h5
  | 6, _ => h6
  | 7, _ => h7
  | w + 8, h => absurd h (by omega)
theorem layC_o : ∀ w, w < 8 → layC[14 + 8 * w]? = some (.inr (.inr (2, [some (15 + 8 * w), some (16 + 8 * w), some (17 + 8 * w), some (18 + 8 * w), some (19 + 8 * w), some (20 + 8 * w), some (21 + 8 * w), none, none]))) := ab_8 rfl rfl rfl rfl rfl rfl rfl rfl
theorem layC_1 : ∀ w, w < 8 → layC[15 + 8 * w]? = some (.inl 60) := ab_8 rfl rfl rfl rfl rfl rfl rfl rfl
theorem layC_2 : ∀ w, w < 8 → layC[16 + 8 * w]? = some (.inl 60) := ab_8 rfl rfl rfl rfl rfl rfl rfl rfl
theorem layC_3 : ∀ w, w < 8 → layC[17 + 8 * w]? = some (.inl 60) := ab_8 rfl rfl rfl rfl rfl rfl rfl rfl
theorem layC_4 : ∀ w, w < 8 → layC[18 + 8 * w]? = some (.inl 60) := ab_8 rfl rfl rfl rfl rfl rfl rfl rfl
theorem layC_5 : ∀ w, w < 8 → layC[19 + 8 * w]? = some (.inl 60) := ab_8 rfl rfl rfl rfl rfl rfl rfl rfl
theorem layC_6 : ∀ w, w < 8 → layC[20 + 8 * w]? = some (.inl 10) := ab_8 rfl rfl rfl rfl rfl rfl rfl rfl
theorem layC_7 : ∀ w, w < 8 → layC[21 + 8 * w]? = some (.inl 10) := ab_8 rfl rfl rfl rfl rfl rfl rfl rfl
end
section
/-! the reference's small methods: what each answers and does, as a function of its world -/
def b2i (b : Bool) : Int32 := cond b 1 0
theorem b2i_t {b : Bool} (h : b = true) : b2i b = 1 := by rw [h]; rfl
theorem b2i_f {b : Bool} (h : b = false) : b2i b = 0 := by rw [h]; rfl
def m_opens (s : Int32) : Bool := decide (s = 10) || (decide (¬ s < 13) && decide (s ≤ 15)) || decide (s = 21)
def m_within (v most : Int32) : Bool := decide (¬ v < 0) && decide (¬ most < v)
def m_pays (h : ab_H) : Bool := decide (¬ h 0 16 = 60)
def m_paysH (h : ab_H) : ab_H := if h 0 16 = 60 then h else ab_up h 0 16 (h 0 16 + 1)
def m_note (h : ab_H) (v : Int32) : ab_H := if h 0 15 = 100 then h else ab_up (ab_up h 12 (h 0 15).toNatClampNeg v) 0 15 (h 0 15 + 1)
def m_leave (h : ab_H) : ab_H := ab_up (ab_up h 0 39 (h 0 39 - 1)) 0 40 (h 20 (h 0 39 - 1).toNatClampNeg + 1)
def m_push (h : ab_H) (s hd en : Int32) : ab_H := ab_up (ab_up (ab_up (ab_up (ab_up (ab_up h 18 (h 0 39).toNatClampNeg s) 19 (h 0 39).toNatClampNeg hd) 20 (h 0 39).toNatClampNeg en) 21 (h 0 39).toNatClampNeg 0) 22 (h 0 39).toNatClampNeg 0) 0 39 (h 0 39 + 1)
def m_boxH (h : ab_H) (k : Int32) : ab_H := ab_up (ab_up (ab_up h 8 (h 0 13).toNatClampNeg k) 9 (h 0 13).toNatClampNeg 0) 0 13 (h 0 13 + 1)
set_option maxRecDepth 100000 in
set_option maxHeartbeats 4000000 in
theorem kX4_thrown {l : Launch} {d : Nat} {h : ab_H}  : ab_C l layM (d) mX4_thrown [ab_R 0] h (ab_qi fun r h' => r = h 0 0 ∧ h' = h) := by
  refine ab_enter (by decide) (Nat.le_of_ble_eq_true rfl) ?_
  refine ab_aload_n (pc := 0) dX4_thrown_0 rfl rfl ?_
  refine ab_geti (pc := 1) dX4_thrown_1 fX4_92 rfl rfl ?_
  exact ab_reti (pc := 4) dX4_thrown_4 rfl ⟨_, rfl, ⟨rfl, rfl⟩⟩

set_option maxRecDepth 100000 in
set_option maxHeartbeats 4000000 in
theorem kX4_no {l : Launch} {d : Nat} {h : ab_H} {c : Int32}  : ab_C l layM (d) mX4_no [ab_R 0, ab_I c] h (ab_qi fun r h' => r = 0 ∧ h' = ab_up h 0 0 c) := by
  refine ab_enter (by decide) (Nat.le_of_ble_eq_true rfl) ?_
  refine ab_aload_n (pc := 0) dX4_no_0 rfl rfl ?_
  refine ab_iload_n (pc := 1) dX4_no_1 rfl rfl ?_
  refine ab_puti (pc := 2) dX4_no_2 fwX4_92 rfl rfl ?_
  refine ab_iconst (pc := 5) (v := 0) dX4_no_5 (by decide) ?_
  exact ab_reti (pc := 6) dX4_no_6 rfl ⟨_, rfl, ⟨rfl, rfl⟩⟩

set_option maxRecDepth 100000 in
set_option maxHeartbeats 4000000 in
theorem kX4_opens {l : Launch} {d : Nat} {h : ab_H} {s : Int32}  : ab_C l layM (d) mX4_opens [ab_I s] h (ab_qi fun r h' => r = b2i (m_opens s) ∧ h' = h) := by
  refine ab_enter (by decide) (Nat.le_of_ble_eq_true rfl) ?_
  refine ab_iload_n (pc := 0) dX4_opens_0 rfl rfl ?_
  refine ab_bipush (pc := 1) (v := 10) dX4_opens_1 (by decide) ?_
  refine ab_icmp_eq (pc := 3) 24 dX4_opens_3 (by decide) (fun c3 => ?_) (fun c3 => ?_)
  · refine ab_iconst (pc := 24) (v := 1) dX4_opens_24 (by decide) ?_
    refine ab_goto (pc := 25) 29 dX4_opens_25 (by decide) ?_
    exact ab_retz (pc := 29) dX4_opens_29 rfl rfl ⟨_, rfl, ⟨by simp [m_opens, b2i, *], rfl⟩⟩
  · refine ab_iload_n (pc := 6) dX4_opens_6 rfl rfl ?_
    refine ab_bipush (pc := 7) (v := 13) dX4_opens_7 (by decide) ?_
    refine ab_icmp_lt (pc := 9) 18 dX4_opens_9 (by decide) (fun c9 => ?_) (fun c9 => ?_)
    · refine ab_iload_n (pc := 18) dX4_opens_18 rfl rfl ?_
      refine ab_bipush (pc := 19) (v := 21) dX4_opens_19 (by decide) ?_
      refine ab_icmp_ne (pc := 21) 28 dX4_opens_21 (by decide) (fun c21 => ?_) (fun c21 => ?_)
      · refine ab_iconst (pc := 28) (v := 0) dX4_opens_28 (by decide) ?_
        exact ab_retz (pc := 29) dX4_opens_29 rfl rfl ⟨_, rfl, ⟨by simp [m_opens, b2i, *], rfl⟩⟩
      · refine ab_iconst (pc := 24) (v := 1) dX4_opens_24 (by decide) ?_
        refine ab_goto (pc := 25) 29 dX4_opens_25 (by decide) ?_
        exact ab_retz (pc := 29) dX4_opens_29 rfl rfl ⟨_, rfl, ⟨by simp [m_opens, b2i, *], rfl⟩⟩
    · refine ab_iload_n (pc := 12) dX4_opens_12 rfl rfl ?_
      refine ab_bipush (pc := 13) (v := 15) dX4_opens_13 (by decide) ?_
      refine ab_icmp_le (pc := 15) 24 dX4_opens_15 (by decide) (fun c15 => ?_) (fun c15 => ?_)
      · refine ab_iconst (pc := 24) (v := 1) dX4_opens_24 (by decide) ?_
        refine ab_goto (pc := 25) 29 dX4_opens_25 (by decide) ?_
        exact ab_retz (pc := 29) dX4_opens_29 rfl rfl ⟨_, rfl, ⟨by simp [m_opens, b2i, *], rfl⟩⟩
      · refine ab_iload_n (pc := 18) dX4_opens_18 rfl rfl ?_
        refine ab_bipush (pc := 19) (v := 21) dX4_opens_19 (by decide) ?_
        refine ab_icmp_ne (pc := 21) 28 dX4_opens_21 (by decide) (fun c21 => ?_) (fun c21 => ?_)
        · refine ab_iconst (pc := 28) (v := 0) dX4_opens_28 (by decide) ?_
          exact ab_retz (pc := 29) dX4_opens_29 rfl rfl ⟨_, rfl, ⟨by simp [m_opens, b2i, *], rfl⟩⟩
        · refine ab_iconst (pc := 24) (v := 1) dX4_opens_24 (by decide) ?_
          refine ab_goto (pc := 25) 29 dX4_opens_25 (by decide) ?_
          exact ab_retz (pc := 29) dX4_opens_29 rfl rfl ⟨_, rfl, ⟨by simp [m_opens, b2i, *], rfl⟩⟩

set_option maxRecDepth 100000 in
set_option maxHeartbeats 4000000 in
theorem kX4_within {l : Launch} {d : Nat} {h : ab_H} {v w : Int32}  : ab_C l layM (d) mX4_within [ab_I v, ab_I w] h (ab_qi fun r h' => r = b2i (m_within v w) ∧ h' = h) := by
  refine ab_enter (by decide) (Nat.le_of_ble_eq_true rfl) ?_
  refine ab_iload_n (pc := 0) dX4_within_0 rfl rfl ?_
  refine ab_if_lt (pc := 1) 13 dX4_within_1 (by decide) (fun c1 => ?_) (fun c1 => ?_)
  · refine ab_iconst (pc := 13) (v := 0) dX4_within_13 (by decide) ?_
    exact ab_retz (pc := 14) dX4_within_14 rfl rfl ⟨_, rfl, ⟨by simp [m_within, b2i, *], rfl⟩⟩
  · refine ab_iload_n (pc := 4) dX4_within_4 rfl rfl ?_
    refine ab_iload_n (pc := 5) dX4_within_5 rfl rfl ?_
    refine ab_icmp_gt (pc := 6) 13 dX4_within_6 (by decide) (fun c6 => ?_) (fun c6 => ?_)
    · refine ab_iconst (pc := 13) (v := 0) dX4_within_13 (by decide) ?_
      exact ab_retz (pc := 14) dX4_within_14 rfl rfl ⟨_, rfl, ⟨by simp [m_within, b2i, *], rfl⟩⟩
    · refine ab_iconst (pc := 9) (v := 1) dX4_within_9 (by decide) ?_
      refine ab_goto (pc := 10) 14 dX4_within_10 (by decide) ?_
      exact ab_retz (pc := 14) dX4_within_14 rfl rfl ⟨_, rfl, ⟨by simp [m_within, b2i, *], rfl⟩⟩

set_option maxRecDepth 100000 in
set_option maxHeartbeats 4000000 in
theorem kX4_pays {l : Launch} {d : Nat} {h : ab_H}  : ab_C l layM (d) mX4_pays [ab_R 0] h (ab_qi fun r h' => r = b2i (m_pays h) ∧ h' = m_paysH h) := by
  refine ab_enter (by decide) (Nat.le_of_ble_eq_true rfl) ?_
  refine ab_aload_n (pc := 0) dX4_pays_0 rfl rfl ?_
  refine ab_geti (pc := 1) dX4_pays_1 fX4_139 rfl rfl ?_
  refine ab_bipush (pc := 4) (v := 60) dX4_pays_4 (by decide) ?_
  refine ab_icmp_ne (pc := 6) 11 dX4_pays_6 (by decide) (fun c6 => ?_) (fun c6 => ?_)
  · refine ab_aload_n (pc := 11) dX4_pays_11 rfl rfl ?_
    refine ab_dup (pc := 12) dX4_pays_12 rfl ?_
    refine ab_geti (pc := 13) dX4_pays_13 fX4_139 rfl rfl ?_
    refine ab_iconst (pc := 16) (v := 1) dX4_pays_16 (by decide) ?_
    refine ab_iadd (pc := 17) dX4_pays_17 ?_
    refine ab_puti (pc := 18) dX4_pays_18 fwX4_139 rfl rfl ?_
    refine ab_iconst (pc := 21) (v := 1) dX4_pays_21 (by decide) ?_
    exact ab_retz (pc := 22) dX4_pays_22 rfl rfl ⟨_, rfl, ⟨by simp [m_pays, b2i, *], by simp [m_paysH, *]⟩⟩
  · refine ab_iconst (pc := 9) (v := 0) dX4_pays_9 (by decide) ?_
    exact ab_retz (pc := 10) dX4_pays_10 rfl rfl ⟨_, rfl, ⟨by simp [m_pays, b2i, *], by simp [m_paysH, *]⟩⟩

set_option maxRecDepth 100000 in
set_option maxHeartbeats 4000000 in
theorem kX4_fails {l : Launch} {d : Nat} {h : ab_H} {k : Int32}  : ab_C l layM (d) mX4_fails [ab_R 0, ab_I k] h (ab_qi fun r h' => r = 1 ∧ h' = ab_up h 0 21 k) := by
  refine ab_enter (by decide) (Nat.le_of_ble_eq_true rfl) ?_
  refine ab_aload_n (pc := 0) dX4_fails_0 rfl rfl ?_
  refine ab_iload_n (pc := 1) dX4_fails_1 rfl rfl ?_
  refine ab_puti (pc := 2) dX4_fails_2 fwX4_142 rfl rfl ?_
  refine ab_iconst (pc := 5) (v := 1) dX4_fails_5 (by decide) ?_
  exact ab_reti (pc := 6) dX4_fails_6 rfl ⟨_, rfl, ⟨rfl, rfl⟩⟩

set_option maxRecDepth 100000 in
set_option maxHeartbeats 4000000 in
theorem kX4_note {l : Launch} {d : Nat} {h : ab_H} {v : Int32} (hb : ¬ h 0 15 = 100 → vp_in (h 0 15) 100) : ab_C l layM (d) mX4_note [ab_R 0, ab_I v] h (ab_qv fun h' => h' = m_note h v) := by
  refine ab_enter (by decide) (Nat.le_of_ble_eq_true rfl) ?_
  refine ab_aload_n (pc := 0) dX4_note_0 rfl rfl ?_
  refine ab_geti (pc := 1) dX4_note_1 fX4_145 rfl rfl ?_
  refine ab_bipush (pc := 4) (v := 100) dX4_note_4 (by decide) ?_
  refine ab_icmp_ne (pc := 6) 10 dX4_note_6 (by decide) (fun c6 => ?_) (fun c6 => ?_)
  · refine ab_aload_n (pc := 10) dX4_note_10 rfl rfl ?_
    refine ab_getr (pc := 11) dX4_note_11 fX4_50 rfl rfl ?_
    refine ab_aload_n (pc := 14) dX4_note_14 rfl rfl ?_
    refine ab_geti (pc := 15) dX4_note_15 fX4_145 rfl rfl ?_
    refine ab_iload_n (pc := 18) dX4_note_18 rfl rfl ?_
    refine ab_iast (pc := 19) dX4_note_19 rfl (hb (by assumption)) ?_
    refine ab_aload_n (pc := 20) dX4_note_20 rfl rfl ?_
    refine ab_dup (pc := 21) dX4_note_21 rfl ?_
    refine ab_geti (pc := 22) dX4_note_22 fX4_145 rfl rfl ?_
    refine ab_iconst (pc := 25) (v := 1) dX4_note_25 (by decide) ?_
    refine ab_iadd (pc := 26) dX4_note_26 ?_
    refine ab_puti (pc := 27) dX4_note_27 fwX4_145 rfl rfl ?_
    exact ab_retv (pc := 30) dX4_note_30 rfl ⟨rfl, by first | (simp [m_note, *]; done) | (simp [m_note, *]; rfl)⟩
  · exact ab_retv (pc := 9) dX4_note_9 rfl ⟨rfl, by first | (simp [m_note, *]; done) | (simp [m_note, *]; rfl)⟩

set_option maxRecDepth 100000 in
set_option maxHeartbeats 4000000 in
theorem kX4_leave {l : Launch} {d : Nat} {h : ab_H} (hb : vp_in (h 0 39 - 1) 80) : ab_C l layM (d) mX4_leave [ab_R 0] h (ab_qv fun h' => h' = m_leave h) := by
  refine ab_enter (by decide) (Nat.le_of_ble_eq_true rfl) ?_
  refine ab_aload_n (pc := 0) dX4_leave_0 rfl rfl ?_
  refine ab_dup (pc := 1) dX4_leave_1 rfl ?_
  refine ab_geti (pc := 2) dX4_leave_2 fX4_95 rfl rfl ?_
  refine ab_iconst (pc := 5) (v := 1) dX4_leave_5 (by decide) ?_
  refine ab_isub (pc := 6) dX4_leave_6 ?_
  refine ab_puti (pc := 7) dX4_leave_7 fwX4_95 rfl rfl ?_
  refine ab_aload_n (pc := 10) dX4_leave_10 rfl rfl ?_
  refine ab_aload_n (pc := 11) dX4_leave_11 rfl rfl ?_
  refine ab_getr (pc := 12) dX4_leave_12 fX4_74 rfl rfl ?_
  refine ab_aload_n (pc := 15) dX4_leave_15 rfl rfl ?_
  refine ab_geti (pc := 16) dX4_leave_16 fX4_95 rfl rfl ?_
  refine ab_iald (pc := 19) dX4_leave_19 rfl (by assumption) ?_
  refine ab_iconst (pc := 20) (v := 1) dX4_leave_20 (by decide) ?_
  refine ab_iadd (pc := 21) dX4_leave_21 ?_
  refine ab_puti (pc := 22) dX4_leave_22 fwX4_174 rfl rfl ?_
  exact ab_retv (pc := 25) dX4_leave_25 rfl ⟨rfl, rfl⟩

set_option maxRecDepth 100000 in
set_option maxHeartbeats 4000000 in
theorem kX4_push {l : Launch} {d : Nat} {h : ab_H} {s hd en : Int32} (hb : vp_in (h 0 39) 80) : ab_C l layM (d) mX4_push [ab_R 0, ab_I s, ab_I hd, ab_I en] h (ab_qv fun h' => h' = m_push h s hd en) := by
  refine ab_enter (by decide) (Nat.le_of_ble_eq_true rfl) ?_
  refine ab_aload_n (pc := 0) dX4_push_0 rfl rfl ?_
  refine ab_getr (pc := 1) dX4_push_1 fX4_68 rfl rfl ?_
  refine ab_aload_n (pc := 4) dX4_push_4 rfl rfl ?_
  refine ab_geti (pc := 5) dX4_push_5 fX4_95 rfl rfl ?_
  refine ab_iload_n (pc := 8) dX4_push_8 rfl rfl ?_
  refine ab_iast (pc := 9) dX4_push_9 rfl (by assumption) ?_
  refine ab_aload_n (pc := 10) dX4_push_10 rfl rfl ?_
  refine ab_getr (pc := 11) dX4_push_11 fX4_71 rfl rfl ?_
  refine ab_aload_n (pc := 14) dX4_push_14 rfl rfl ?_
  refine ab_geti (pc := 15) dX4_push_15 fX4_95 rfl rfl ?_
  refine ab_iload_n (pc := 18) dX4_push_18 rfl rfl ?_
  refine ab_iast (pc := 19) dX4_push_19 rfl (by assumption) ?_
  refine ab_aload_n (pc := 20) dX4_push_20 rfl rfl ?_
  refine ab_getr (pc := 21) dX4_push_21 fX4_74 rfl rfl ?_
  refine ab_aload_n (pc := 24) dX4_push_24 rfl rfl ?_
  refine ab_geti (pc := 25) dX4_push_25 fX4_95 rfl rfl ?_
  refine ab_iload_n (pc := 28) dX4_push_28 rfl rfl ?_
  refine ab_iast (pc := 29) dX4_push_29 rfl (by assumption) ?_
  refine ab_aload_n (pc := 30) dX4_push_30 rfl rfl ?_
  refine ab_getr (pc := 31) dX4_push_31 fX4_77 rfl rfl ?_
  refine ab_aload_n (pc := 34) dX4_push_34 rfl rfl ?_
  refine ab_geti (pc := 35) dX4_push_35 fX4_95 rfl rfl ?_
  refine ab_iconst (pc := 38) (v := 0) dX4_push_38 (by decide) ?_
  refine ab_iast (pc := 39) dX4_push_39 rfl (by assumption) ?_
  refine ab_aload_n (pc := 40) dX4_push_40 rfl rfl ?_
  refine ab_getr (pc := 41) dX4_push_41 fX4_80 rfl rfl ?_
  refine ab_aload_n (pc := 44) dX4_push_44 rfl rfl ?_
  refine ab_geti (pc := 45) dX4_push_45 fX4_95 rfl rfl ?_
  refine ab_iconst (pc := 48) (v := 0) dX4_push_48 (by decide) ?_
  refine ab_iast (pc := 49) dX4_push_49 rfl (by assumption) ?_
  refine ab_aload_n (pc := 50) dX4_push_50 rfl rfl ?_
  refine ab_dup (pc := 51) dX4_push_51 rfl ?_
  refine ab_geti (pc := 52) dX4_push_52 fX4_95 rfl rfl ?_
  refine ab_iconst (pc := 55) (v := 1) dX4_push_55 (by decide) ?_
  refine ab_iadd (pc := 56) dX4_push_56 ?_
  refine ab_puti (pc := 57) dX4_push_57 fwX4_95 rfl rfl ?_
  exact ab_retv (pc := 60) dX4_push_60 rfl ⟨rfl, rfl⟩

set_option maxRecDepth 100000 in
set_option maxHeartbeats 4000000 in
theorem kX4_box {l : Launch} {d : Nat} {h : ab_H} {k : Int32} (hb : vp_in (h 0 13) 80) : ab_C l layM (d) mX4_box [ab_R 0, ab_I k] h (ab_qi fun r h' => r = h 0 13 + 1 - 1 ∧ h' = m_boxH h k) := by
  refine ab_enter (by decide) (Nat.le_of_ble_eq_true rfl) ?_
  refine ab_aload_n (pc := 0) dX4_box_0 rfl rfl ?_
  refine ab_getr (pc := 1) dX4_box_1 fX4_35 rfl rfl ?_
  refine ab_aload_n (pc := 4) dX4_box_4 rfl rfl ?_
  refine ab_geti (pc := 5) dX4_box_5 fX4_47 rfl rfl ?_
  refine ab_iload_n (pc := 8) dX4_box_8 rfl rfl ?_
  refine ab_iast (pc := 9) dX4_box_9 rfl (by assumption) ?_
  refine ab_aload_n (pc := 10) dX4_box_10 rfl rfl ?_
  refine ab_getr (pc := 11) dX4_box_11 fX4_38 rfl rfl ?_
  refine ab_aload_n (pc := 14) dX4_box_14 rfl rfl ?_
  refine ab_geti (pc := 15) dX4_box_15 fX4_47 rfl rfl ?_
  refine ab_iconst (pc := 18) (v := 0) dX4_box_18 (by decide) ?_
  refine ab_iast (pc := 19) dX4_box_19 rfl (by assumption) ?_
  refine ab_aload_n (pc := 20) dX4_box_20 rfl rfl ?_
  refine ab_dup (pc := 21) dX4_box_21 rfl ?_
  refine ab_geti (pc := 22) dX4_box_22 fX4_47 rfl rfl ?_
  refine ab_iconst (pc := 25) (v := 1) dX4_box_25 (by decide) ?_
  refine ab_iadd (pc := 26) dX4_box_26 ?_
  refine ab_puti (pc := 27) dX4_box_27 fwX4_47 rfl rfl ?_
  refine ab_aload_n (pc := 30) dX4_box_30 rfl rfl ?_
  refine ab_geti (pc := 31) dX4_box_31 fX4_47 rfl rfl ?_
  refine ab_iconst (pc := 34) (v := 1) dX4_box_34 (by decide) ?_
  refine ab_isub (pc := 35) dX4_box_35 ?_
  exact ab_reti (pc := 36) dX4_box_36 rfl ⟨_, rfl, ⟨rfl, rfl⟩⟩
end
section
/-! the reference's searches -/
theorem b2i_0 {b : Bool} : b2i b = 0 ↔ b = false := by cases b <;> decide
theorem b2i_1 {b : Bool} : ¬ b2i b = 0 ↔ b = true := by cases b <;> decide
def m_part (s : Int32) : Bool := decide (s = 11) || (decide (s = 12) || (decide (s = 22) || decide (s = 16)))
def m_dstep (s deep : Int32) : Int32 := if s = 16 then (if m_opens s = true then deep + 1 else deep) + -1 else (if m_opens s = true then deep + 1 else deep)
def m_aft (f : Nat → Int32) : Nat → Int32 → Int32 → Option Int32
  | 0, _, _ => none
  | n + 1, x, deep => if x < 0 ∨ 480 ≤ x.toNatClampNeg then none else if ¬ 0 < deep ∧ m_part (f x.toNatClampNeg) = true then some x else m_aft f n (x + 1) (m_dstep (f x.toNatClampNeg) deep)
theorem m_aft_in {f : Nat → Int32} {n : Nat} {x deep r : Int32} (hr : m_aft f (n + 1) x deep = some r) : vp_in x 480 ∧ (if ¬ 0 < deep ∧ m_part (f x.toNatClampNeg) = true then some x else m_aft f n (x + 1) (m_dstep (f x.toNatClampNeg) deep)) = some r := by
  rw [m_aft] at hr
  by_cases hi : x < 0 ∨ 480 ≤ x.toNatClampNeg
  · rw [if_pos hi] at hr
    cases hr
  · rw [if_neg hi] at hr
    exact ⟨hi, hr⟩
theorem m_aft_go {f : Nat → Int32} {n : Nat} {x s deep r dd : Int32} (hr : (if ¬ 0 < deep ∧ m_part s = true then some x else m_aft f n (x + 1) (m_dstep s deep)) = some r) (hn : ¬ (¬ 0 < deep ∧ m_part s = true)) (e : m_dstep s deep = dd) : m_aft f n (x + 1) dd = some r := by
  rw [if_neg hn, e] at hr
  exact hr
set_option maxRecDepth 100000 in
set_option maxHeartbeats 4000000 in
theorem lpX4_after {l : Launch} {d : Nat} {h : ab_H} : ∀ (n : Nat) (x deep r : Int32), m_aft (h 1) n x deep = some r → ab_J l layM mX4_after (d + 1) (ab_qi fun z h' => z = r ∧ h' = h) 4 [(0, ab_R 0), (2, ab_I deep), (3, ab_I x)] [] h := by
  intro n
  induction n with
  | zero =>
    intro x deep r hr
    cases hr
  | succ n ih =>
    intro x deep r hr
    obtain ⟨hin, hr⟩ := m_aft_in hr
    refine ab_iload_n (pc := 4) dX4_after_4 rfl rfl ?_
    refine ab_if_gt (pc := 5) 52 dX4_after_5 (by decide) (fun c5 => ?_) (fun c5 => ?_)
    · refine ab_aload_n (pc := 52) dX4_after_52 rfl rfl ?_
      refine ab_getr (pc := 53) dX4_after_53 fX4_7 rfl rfl ?_
      refine ab_iload_n (pc := 56) dX4_after_56 rfl rfl ?_
      refine ab_iald (pc := 57) dX4_after_57 rfl (by assumption) ?_
      refine ab_S1 (pc := 58) dX4_after_58 msX4_98 rfl (kX4_opens) (ab_ki fun r58 h58 e58 => ?_)
      obtain ⟨rfl, rfl⟩ := And.intro e58.1.symm e58.2.symm
      refine ab_if_eq (pc := 61) 67 dX4_after_61 (by decide) (fun c61 => ?_) (fun c61 => ?_)
      · replace c61 := b2i_0.mp c61
        refine ab_aload_n (pc := 67) dX4_after_67 rfl rfl ?_
        refine ab_getr (pc := 68) dX4_after_68 fX4_7 rfl rfl ?_
        refine ab_iload_n (pc := 71) dX4_after_71 rfl rfl ?_
        refine ab_iald (pc := 72) dX4_after_72 rfl (by assumption) ?_
        refine ab_bipush (pc := 73) (v := 16) dX4_after_73 (by decide) ?_
        refine ab_icmp_ne (pc := 75) 81 dX4_after_75 (by decide) (fun c75 => ?_) (fun c75 => ?_)
        · refine ab_iinc (pc := 81) (v := 1) dX4_after_81 rfl (by decide) rfl ?_
          refine ab_goto (pc := 84) 4 dX4_after_84 (by decide) ?_
          refine ab_weak [(0, ab_R 0), (2, ab_I _), (3, ab_I _)] ⟨rfl, rfl, rfl, trivial⟩ ?_
          exact ih _ _ _ (m_aft_go hr (by first | exact fun q => q.1 c5 | (simp [m_part, c16, c27, c38, c49]; done)) (by first | rw [m_dstep, if_pos c75, if_pos c61] | rw [m_dstep, if_pos c75, if_neg (ne_true_of_eq_false c61)] | rw [m_dstep, if_neg c75, if_pos c61] | rw [m_dstep, if_neg c75, if_neg (ne_true_of_eq_false c61)]))
        · refine ab_iinc (pc := 78) (v := (-1)) dX4_after_78 rfl (by decide) rfl ?_
          refine ab_iinc (pc := 81) (v := 1) dX4_after_81 rfl (by decide) rfl ?_
          refine ab_goto (pc := 84) 4 dX4_after_84 (by decide) ?_
          refine ab_weak [(0, ab_R 0), (2, ab_I _), (3, ab_I _)] ⟨rfl, rfl, rfl, trivial⟩ ?_
          exact ih _ _ _ (m_aft_go hr (by first | exact fun q => q.1 c5 | (simp [m_part, c16, c27, c38, c49]; done)) (by first | rw [m_dstep, if_pos c75, if_pos c61] | rw [m_dstep, if_pos c75, if_neg (ne_true_of_eq_false c61)] | rw [m_dstep, if_neg c75, if_pos c61] | rw [m_dstep, if_neg c75, if_neg (ne_true_of_eq_false c61)]))
      · replace c61 := b2i_1.mp c61
        refine ab_iinc (pc := 64) (v := 1) dX4_after_64 rfl (by decide) rfl ?_
        refine ab_aload_n (pc := 67) dX4_after_67 rfl rfl ?_
        refine ab_getr (pc := 68) dX4_after_68 fX4_7 rfl rfl ?_
        refine ab_iload_n (pc := 71) dX4_after_71 rfl rfl ?_
        refine ab_iald (pc := 72) dX4_after_72 rfl (by assumption) ?_
        refine ab_bipush (pc := 73) (v := 16) dX4_after_73 (by decide) ?_
        refine ab_icmp_ne (pc := 75) 81 dX4_after_75 (by decide) (fun c75 => ?_) (fun c75 => ?_)
        · refine ab_iinc (pc := 81) (v := 1) dX4_after_81 rfl (by decide) rfl ?_
          refine ab_goto (pc := 84) 4 dX4_after_84 (by decide) ?_
          refine ab_weak [(0, ab_R 0), (2, ab_I _), (3, ab_I _)] ⟨rfl, rfl, rfl, trivial⟩ ?_
          exact ih _ _ _ (m_aft_go hr (by first | exact fun q => q.1 c5 | (simp [m_part, c16, c27, c38, c49]; done)) (by first | rw [m_dstep, if_pos c75, if_pos c61] | rw [m_dstep, if_pos c75, if_neg (ne_true_of_eq_false c61)] | rw [m_dstep, if_neg c75, if_pos c61] | rw [m_dstep, if_neg c75, if_neg (ne_true_of_eq_false c61)]))
        · refine ab_iinc (pc := 78) (v := (-1)) dX4_after_78 rfl (by decide) rfl ?_
          refine ab_iinc (pc := 81) (v := 1) dX4_after_81 rfl (by decide) rfl ?_
          refine ab_goto (pc := 84) 4 dX4_after_84 (by decide) ?_
          refine ab_weak [(0, ab_R 0), (2, ab_I _), (3, ab_I _)] ⟨rfl, rfl, rfl, trivial⟩ ?_
          exact ih _ _ _ (m_aft_go hr (by first | exact fun q => q.1 c5 | (simp [m_part, c16, c27, c38, c49]; done)) (by first | rw [m_dstep, if_pos c75, if_pos c61] | rw [m_dstep, if_pos c75, if_neg (ne_true_of_eq_false c61)] | rw [m_dstep, if_neg c75, if_pos c61] | rw [m_dstep, if_neg c75, if_neg (ne_true_of_eq_false c61)]))
    · refine ab_aload_n (pc := 8) dX4_after_8 rfl rfl ?_
      refine ab_getr (pc := 9) dX4_after_9 fX4_7 rfl rfl ?_
      refine ab_iload_n (pc := 12) dX4_after_12 rfl rfl ?_
      refine ab_iald (pc := 13) dX4_after_13 rfl (by assumption) ?_
      refine ab_bipush (pc := 14) (v := 11) dX4_after_14 (by decide) ?_
      refine ab_icmp_eq (pc := 16) 87 dX4_after_16 (by decide) (fun c16 => ?_) (fun c16 => ?_)
      · refine ab_iload_n (pc := 87) dX4_after_87 rfl rfl ?_
        exact ab_reti (pc := 88) dX4_after_88 rfl ⟨_, rfl, ⟨by simpa [m_part, *] using hr, rfl⟩⟩
      · refine ab_aload_n (pc := 19) dX4_after_19 rfl rfl ?_
        refine ab_getr (pc := 20) dX4_after_20 fX4_7 rfl rfl ?_
        refine ab_iload_n (pc := 23) dX4_after_23 rfl rfl ?_
        refine ab_iald (pc := 24) dX4_after_24 rfl (by assumption) ?_
        refine ab_bipush (pc := 25) (v := 12) dX4_after_25 (by decide) ?_
        refine ab_icmp_eq (pc := 27) 87 dX4_after_27 (by decide) (fun c27 => ?_) (fun c27 => ?_)
        · refine ab_iload_n (pc := 87) dX4_after_87 rfl rfl ?_
          exact ab_reti (pc := 88) dX4_after_88 rfl ⟨_, rfl, ⟨by simpa [m_part, *] using hr, rfl⟩⟩
        · refine ab_aload_n (pc := 30) dX4_after_30 rfl rfl ?_
          refine ab_getr (pc := 31) dX4_after_31 fX4_7 rfl rfl ?_
          refine ab_iload_n (pc := 34) dX4_after_34 rfl rfl ?_
          refine ab_iald (pc := 35) dX4_after_35 rfl (by assumption) ?_
          refine ab_bipush (pc := 36) (v := 22) dX4_after_36 (by decide) ?_
          refine ab_icmp_eq (pc := 38) 87 dX4_after_38 (by decide) (fun c38 => ?_) (fun c38 => ?_)
          · refine ab_iload_n (pc := 87) dX4_after_87 rfl rfl ?_
            exact ab_reti (pc := 88) dX4_after_88 rfl ⟨_, rfl, ⟨by simpa [m_part, *] using hr, rfl⟩⟩
          · refine ab_aload_n (pc := 41) dX4_after_41 rfl rfl ?_
            refine ab_getr (pc := 42) dX4_after_42 fX4_7 rfl rfl ?_
            refine ab_iload_n (pc := 45) dX4_after_45 rfl rfl ?_
            refine ab_iald (pc := 46) dX4_after_46 rfl (by assumption) ?_
            refine ab_bipush (pc := 47) (v := 16) dX4_after_47 (by decide) ?_
            refine ab_icmp_eq (pc := 49) 87 dX4_after_49 (by decide) (fun c49 => ?_) (fun c49 => ?_)
            · refine ab_iload_n (pc := 87) dX4_after_87 rfl rfl ?_
              exact ab_reti (pc := 88) dX4_after_88 rfl ⟨_, rfl, ⟨by simpa [m_part, *] using hr, rfl⟩⟩
            · refine ab_aload_n (pc := 52) dX4_after_52 rfl rfl ?_
              refine ab_getr (pc := 53) dX4_after_53 fX4_7 rfl rfl ?_
              refine ab_iload_n (pc := 56) dX4_after_56 rfl rfl ?_
              refine ab_iald (pc := 57) dX4_after_57 rfl (by assumption) ?_
              refine ab_S1 (pc := 58) dX4_after_58 msX4_98 rfl (kX4_opens) (ab_ki fun r58 h58 e58 => ?_)
              obtain ⟨rfl, rfl⟩ := And.intro e58.1.symm e58.2.symm
              refine ab_if_eq (pc := 61) 67 dX4_after_61 (by decide) (fun c61 => ?_) (fun c61 => ?_)
              · replace c61 := b2i_0.mp c61
                refine ab_aload_n (pc := 67) dX4_after_67 rfl rfl ?_
                refine ab_getr (pc := 68) dX4_after_68 fX4_7 rfl rfl ?_
                refine ab_iload_n (pc := 71) dX4_after_71 rfl rfl ?_
                refine ab_iald (pc := 72) dX4_after_72 rfl (by assumption) ?_
                refine ab_bipush (pc := 73) (v := 16) dX4_after_73 (by decide) ?_
                refine ab_icmp_ne (pc := 75) 81 dX4_after_75 (by decide) (fun c75 => ?_) (fun c75 => ?_)
                · refine ab_iinc (pc := 81) (v := 1) dX4_after_81 rfl (by decide) rfl ?_
                  refine ab_goto (pc := 84) 4 dX4_after_84 (by decide) ?_
                  refine ab_weak [(0, ab_R 0), (2, ab_I _), (3, ab_I _)] ⟨rfl, rfl, rfl, trivial⟩ ?_
                  exact ih _ _ _ (m_aft_go hr (by first | exact fun q => q.1 c5 | (simp [m_part, c16, c27, c38, c49]; done)) (by first | rw [m_dstep, if_pos c75, if_pos c61] | rw [m_dstep, if_pos c75, if_neg (ne_true_of_eq_false c61)] | rw [m_dstep, if_neg c75, if_pos c61] | rw [m_dstep, if_neg c75, if_neg (ne_true_of_eq_false c61)]))
                · refine ab_iinc (pc := 78) (v := (-1)) dX4_after_78 rfl (by decide) rfl ?_
                  refine ab_iinc (pc := 81) (v := 1) dX4_after_81 rfl (by decide) rfl ?_
                  refine ab_goto (pc := 84) 4 dX4_after_84 (by decide) ?_
                  refine ab_weak [(0, ab_R 0), (2, ab_I _), (3, ab_I _)] ⟨rfl, rfl, rfl, trivial⟩ ?_
                  exact ih _ _ _ (m_aft_go hr (by first | exact fun q => q.1 c5 | (simp [m_part, c16, c27, c38, c49]; done)) (by first | rw [m_dstep, if_pos c75, if_pos c61] | rw [m_dstep, if_pos c75, if_neg (ne_true_of_eq_false c61)] | rw [m_dstep, if_neg c75, if_pos c61] | rw [m_dstep, if_neg c75, if_neg (ne_true_of_eq_false c61)]))
              · replace c61 := b2i_1.mp c61
                refine ab_iinc (pc := 64) (v := 1) dX4_after_64 rfl (by decide) rfl ?_
                refine ab_aload_n (pc := 67) dX4_after_67 rfl rfl ?_
                refine ab_getr (pc := 68) dX4_after_68 fX4_7 rfl rfl ?_
                refine ab_iload_n (pc := 71) dX4_after_71 rfl rfl ?_
                refine ab_iald (pc := 72) dX4_after_72 rfl (by assumption) ?_
                refine ab_bipush (pc := 73) (v := 16) dX4_after_73 (by decide) ?_
                refine ab_icmp_ne (pc := 75) 81 dX4_after_75 (by decide) (fun c75 => ?_) (fun c75 => ?_)
                · refine ab_iinc (pc := 81) (v := 1) dX4_after_81 rfl (by decide) rfl ?_
                  refine ab_goto (pc := 84) 4 dX4_after_84 (by decide) ?_
                  refine ab_weak [(0, ab_R 0), (2, ab_I _), (3, ab_I _)] ⟨rfl, rfl, rfl, trivial⟩ ?_
                  exact ih _ _ _ (m_aft_go hr (by first | exact fun q => q.1 c5 | (simp [m_part, c16, c27, c38, c49]; done)) (by first | rw [m_dstep, if_pos c75, if_pos c61] | rw [m_dstep, if_pos c75, if_neg (ne_true_of_eq_false c61)] | rw [m_dstep, if_neg c75, if_pos c61] | rw [m_dstep, if_neg c75, if_neg (ne_true_of_eq_false c61)]))
                · refine ab_iinc (pc := 78) (v := (-1)) dX4_after_78 rfl (by decide) rfl ?_
                  refine ab_iinc (pc := 81) (v := 1) dX4_after_81 rfl (by decide) rfl ?_
                  refine ab_goto (pc := 84) 4 dX4_after_84 (by decide) ?_
                  refine ab_weak [(0, ab_R 0), (2, ab_I _), (3, ab_I _)] ⟨rfl, rfl, rfl, trivial⟩ ?_
                  exact ih _ _ _ (m_aft_go hr (by first | exact fun q => q.1 c5 | (simp [m_part, c16, c27, c38, c49]; done)) (by first | rw [m_dstep, if_pos c75, if_pos c61] | rw [m_dstep, if_pos c75, if_neg (ne_true_of_eq_false c61)] | rw [m_dstep, if_neg c75, if_pos c61] | rw [m_dstep, if_neg c75, if_neg (ne_true_of_eq_false c61)]))

set_option maxRecDepth 100000 in
set_option maxHeartbeats 4000000 in
theorem kX4_after {l : Launch} {d : Nat} {h : ab_H} {n : Nat} {x r : Int32} (hr : m_aft (h 1) n x 0 = some r) : ab_C l layM (d + 1) mX4_after [ab_R 0, ab_I x] h (ab_qi fun z h' => z = r ∧ h' = h) := by
  refine ab_enter (by decide) (Nat.le_of_ble_eq_true rfl) ?_
  refine ab_iconst (pc := 0) (v := 0) dX4_after_0 (by decide) ?_
  refine ab_istore_n (pc := 1) dX4_after_1 rfl rfl ?_
  refine ab_iload_n (pc := 2) dX4_after_2 rfl rfl ?_
  refine ab_istore_n (pc := 3) dX4_after_3 rfl rfl ?_
  refine ab_weak [(0, ab_R 0), (2, ab_I _), (3, ab_I _)] ⟨rfl, rfl, rfl, trivial⟩ ?_
  exact lpX4_after _ _ _ _ hr

/-- on from the end of a part to the END -/
def m_eo (f : Nat → Int32) : Nat → Int32 → Option Int32
  | 0, _ => none
  | n + 1, x => if x < 0 ∨ 480 ≤ x.toNatClampNeg then none else if f x.toNatClampNeg = 16 then some x else (m_aft f 480 (x + 1) 0).bind (m_eo f n)
theorem m_eo_in {f : Nat → Int32} {n : Nat} {x r : Int32} (hr : m_eo f (n + 1) x = some r) : vp_in x 480 ∧ (f x.toNatClampNeg = 16 → r = x) ∧ (¬ f x.toNatClampNeg = 16 → ∃ y, m_aft f 480 (x + 1) 0 = some y ∧ m_eo f n y = some r) := by
  rw [m_eo] at hr
  by_cases hi : x < 0 ∨ 480 ≤ x.toNatClampNeg
  · rw [if_pos hi] at hr
    cases hr
  · rw [if_neg hi] at hr
    refine ⟨hi, fun e => ?_, fun e => ?_⟩
    · rw [if_pos e] at hr
      exact (Option.some.inj hr).symm
    · rw [if_neg e] at hr
      exact Option.bind_eq_some_iff.mp hr
def m_endOf (f : Nat → Int32) (head : Int32) : Option Int32 := (m_aft f 480 (head + 1) 0).bind (m_eo f 60)
def m_po (f : Nat → Int32) (what : Int32) : Nat → Int32 → Option Int32
  | 0, _ => none
  | n + 1, x => if x < 0 ∨ 480 ≤ x.toNatClampNeg then none else if f x.toNatClampNeg = 16 ∨ f x.toNatClampNeg = what then some x else (m_aft f 480 (x + 1) 0).bind (m_po f what n)
theorem m_po_in {f : Nat → Int32} {what : Int32} {n : Nat} {x r : Int32} (hr : m_po f what (n + 1) x = some r) : vp_in x 480 ∧ ((f x.toNatClampNeg = 16 ∨ f x.toNatClampNeg = what) → r = x) ∧ (¬ (f x.toNatClampNeg = 16 ∨ f x.toNatClampNeg = what) → ∃ y, m_aft f 480 (x + 1) 0 = some y ∧ m_po f what n y = some r) := by
  rw [m_po] at hr
  by_cases hi : x < 0 ∨ 480 ≤ x.toNatClampNeg
  · rw [if_pos hi] at hr
    cases hr
  · rw [if_neg hi] at hr
    refine ⟨hi, fun e => ?_, fun e => ?_⟩
    · rw [if_pos e] at hr
      exact (Option.some.inj hr).symm
    · rw [if_neg e] at hr
      exact Option.bind_eq_some_iff.mp hr
/-- where the search of partOf ends; its answer is that, or -1 -/
def m_partE (f : Nat → Int32) (head what : Int32) : Option Int32 := (m_aft f 480 (head + 1) 0).bind (m_po f what 60)
def m_partR (f : Nat → Int32) (what x : Int32) : Int32 := if f x.toNatClampNeg = what then x else -1
set_option maxRecDepth 100000 in
set_option maxHeartbeats 4000000 in
theorem lpX4_endOf {l : Launch} {d : Nat} {h : ab_H} : ∀ (n : Nat) (x r : Int32), m_eo (h 1) n x = some r → ab_J l layM mX4_endOf (d + 2) (ab_qi fun z h' => z = r ∧ h' = h) 8 [(0, ab_R 0), (2, ab_I x)] [] h := by
  intro n
  induction n with
  | zero =>
    intro x r hr
    cases hr
  | succ n ih =>
    intro x r hr
    obtain ⟨hin, hr1, hr2⟩ := m_eo_in hr
    refine ab_aload_n (pc := 8) dX4_endOf_8 rfl rfl ?_
    refine ab_getr (pc := 9) dX4_endOf_9 fX4_7 rfl rfl ?_
    refine ab_iload_n (pc := 12) dX4_endOf_12 rfl rfl ?_
    refine ab_iald (pc := 13) dX4_endOf_13 rfl (by assumption) ?_
    refine ab_bipush (pc := 14) (v := 16) dX4_endOf_14 (by decide) ?_
    refine ab_icmp_eq (pc := 16) 30 dX4_endOf_16 (by decide) (fun c16 => ?_) (fun c16 => ?_)
    · refine ab_iload_n (pc := 30) dX4_endOf_30 rfl rfl ?_
      exact ab_reti (pc := 31) dX4_endOf_31 rfl ⟨_, rfl, ⟨(hr1 (by assumption)).symm, rfl⟩⟩
    · obtain ⟨y, hy, hr3⟩ := hr2 (by assumption)
      refine ab_aload_n (pc := 19) dX4_endOf_19 rfl rfl ?_
      refine ab_iload_n (pc := 20) dX4_endOf_20 rfl rfl ?_
      refine ab_iconst (pc := 21) (v := 1) dX4_endOf_21 (by decide) ?_
      refine ab_iadd (pc := 22) dX4_endOf_22 ?_
      refine ab_V1 (pc := 23) dX4_endOf_23 mvX4_124 rfl rfl (kX4_after hy) (ab_ki fun r23 h23 e23 => ?_)
      obtain ⟨rfl, rfl⟩ := And.intro e23.1.symm e23.2.symm
      refine ab_istore_n (pc := 26) dX4_endOf_26 rfl rfl ?_
      refine ab_goto (pc := 27) 8 dX4_endOf_27 (by decide) ?_
      refine ab_weak [(0, ab_R 0), (2, ab_I _)] ⟨rfl, rfl, trivial⟩ ?_
      exact ih _ _ hr3

set_option maxRecDepth 100000 in
set_option maxHeartbeats 4000000 in
theorem kX4_endOf {l : Launch} {d : Nat} {h : ab_H} {x r : Int32} (hr : m_endOf (h 1) x = some r) : ab_C l layM (d + 2) mX4_endOf [ab_R 0, ab_I x] h (ab_qi fun z h' => z = r ∧ h' = h) := by
  refine ab_enter (by decide) (Nat.le_of_ble_eq_true rfl) ?_
  obtain ⟨y, hy, hr⟩ := Option.bind_eq_some_iff.mp hr
  refine ab_aload_n (pc := 0) dX4_endOf_0 rfl rfl ?_
  refine ab_iload_n (pc := 1) dX4_endOf_1 rfl rfl ?_
  refine ab_iconst (pc := 2) (v := 1) dX4_endOf_2 (by decide) ?_
  refine ab_iadd (pc := 3) dX4_endOf_3 ?_
  refine ab_V1 (pc := 4) dX4_endOf_4 mvX4_124 rfl rfl (kX4_after hy) (ab_ki fun r4 h4 e4 => ?_)
  obtain ⟨rfl, rfl⟩ := And.intro e4.1.symm e4.2.symm
  refine ab_istore_n (pc := 7) dX4_endOf_7 rfl rfl ?_
  refine ab_weak [(0, ab_R 0), (2, ab_I _)] ⟨rfl, rfl, trivial⟩ ?_
  exact lpX4_endOf _ _ _ hr

set_option maxRecDepth 100000 in
set_option maxHeartbeats 4000000 in
theorem lpX4_partOf {l : Launch} {d : Nat} {h : ab_H} {what : Int32} : ∀ (n : Nat) (x r : Int32), m_po (h 1) what n x = some r → ab_J l layM mX4_partOf (d + 2) (ab_qi fun z h' => z = m_partR (h 1) what r ∧ h' = h) 8 [(0, ab_R 0), (2, ab_I what), (3, ab_I x)] [] h := by
  intro n
  induction n with
  | zero =>
    intro x r hr
    cases hr
  | succ n ih =>
    intro x r hr
    obtain ⟨hin, hr1, hr2⟩ := m_po_in hr
    refine ab_aload_n (pc := 8) dX4_partOf_8 rfl rfl ?_
    refine ab_getr (pc := 9) dX4_partOf_9 fX4_7 rfl rfl ?_
    refine ab_iload_n (pc := 12) dX4_partOf_12 rfl rfl ?_
    refine ab_iald (pc := 13) dX4_partOf_13 rfl (by assumption) ?_
    refine ab_bipush (pc := 14) (v := 16) dX4_partOf_14 (by decide) ?_
    refine ab_icmp_eq (pc := 16) 40 dX4_partOf_16 (by decide) (fun c16 => ?_) (fun c16 => ?_)
    · obtain rfl := hr1 (by simp [*])
      refine ab_aload_n (pc := 40) dX4_partOf_40 rfl rfl ?_
      refine ab_getr (pc := 41) dX4_partOf_41 fX4_7 rfl rfl ?_
      refine ab_iload_n (pc := 44) dX4_partOf_44 rfl rfl ?_
      refine ab_iald (pc := 45) dX4_partOf_45 rfl (by assumption) ?_
      refine ab_iload_n (pc := 46) dX4_partOf_46 rfl rfl ?_
      refine ab_icmp_ne (pc := 47) 54 dX4_partOf_47 (by decide) (fun c47 => ?_) (fun c47 => ?_)
      · refine ab_iconst (pc := 54) (v := (-1)) dX4_partOf_54 (by decide) ?_
        exact ab_reti (pc := 55) dX4_partOf_55 rfl ⟨_, rfl, ⟨by first | rw [m_partR, if_pos c47] | rw [m_partR, if_neg c47], rfl⟩⟩
      · refine ab_iload_n (pc := 50) dX4_partOf_50 rfl rfl ?_
        refine ab_goto (pc := 51) 55 dX4_partOf_51 (by decide) ?_
        exact ab_reti (pc := 55) dX4_partOf_55 rfl ⟨_, rfl, ⟨by first | rw [m_partR, if_pos c47] | rw [m_partR, if_neg c47], rfl⟩⟩
    · refine ab_aload_n (pc := 19) dX4_partOf_19 rfl rfl ?_
      refine ab_getr (pc := 20) dX4_partOf_20 fX4_7 rfl rfl ?_
      refine ab_iload_n (pc := 23) dX4_partOf_23 rfl rfl ?_
      refine ab_iald (pc := 24) dX4_partOf_24 rfl (by assumption) ?_
      refine ab_iload_n (pc := 25) dX4_partOf_25 rfl rfl ?_
      refine ab_icmp_eq (pc := 26) 40 dX4_partOf_26 (by decide) (fun c26 => ?_) (fun c26 => ?_)
      · obtain rfl := hr1 (by simp [*])
        refine ab_aload_n (pc := 40) dX4_partOf_40 rfl rfl ?_
        refine ab_getr (pc := 41) dX4_partOf_41 fX4_7 rfl rfl ?_
        refine ab_iload_n (pc := 44) dX4_partOf_44 rfl rfl ?_
        refine ab_iald (pc := 45) dX4_partOf_45 rfl (by assumption) ?_
        refine ab_iload_n (pc := 46) dX4_partOf_46 rfl rfl ?_
        refine ab_icmp_ne (pc := 47) 54 dX4_partOf_47 (by decide) (fun c47 => ?_) (fun c47 => ?_)
        · refine ab_iconst (pc := 54) (v := (-1)) dX4_partOf_54 (by decide) ?_
          exact ab_reti (pc := 55) dX4_partOf_55 rfl ⟨_, rfl, ⟨by first | rw [m_partR, if_pos c47] | rw [m_partR, if_neg c47], rfl⟩⟩
        · refine ab_iload_n (pc := 50) dX4_partOf_50 rfl rfl ?_
          refine ab_goto (pc := 51) 55 dX4_partOf_51 (by decide) ?_
          exact ab_reti (pc := 55) dX4_partOf_55 rfl ⟨_, rfl, ⟨by first | rw [m_partR, if_pos c47] | rw [m_partR, if_neg c47], rfl⟩⟩
      · obtain ⟨y, hy, hr3⟩ := hr2 (by simp [*])
        refine ab_aload_n (pc := 29) dX4_partOf_29 rfl rfl ?_
        refine ab_iload_n (pc := 30) dX4_partOf_30 rfl rfl ?_
        refine ab_iconst (pc := 31) (v := 1) dX4_partOf_31 (by decide) ?_
        refine ab_iadd (pc := 32) dX4_partOf_32 ?_
        refine ab_V1 (pc := 33) dX4_partOf_33 mvX4_124 rfl rfl (kX4_after hy) (ab_ki fun r33 h33 e33 => ?_)
        obtain ⟨rfl, rfl⟩ := And.intro e33.1.symm e33.2.symm
        refine ab_istore_n (pc := 36) dX4_partOf_36 rfl rfl ?_
        refine ab_goto (pc := 37) 8 dX4_partOf_37 (by decide) ?_
        refine ab_weak [(0, ab_R 0), (2, ab_I _), (3, ab_I _)] ⟨rfl, rfl, rfl, trivial⟩ ?_
        exact ih _ _ hr3

set_option maxRecDepth 100000 in
set_option maxHeartbeats 4000000 in
theorem kX4_partOf {l : Launch} {d : Nat} {h : ab_H} {x what r : Int32} (hr : m_partE (h 1) x what = some r) : ab_C l layM (d + 2) mX4_partOf [ab_R 0, ab_I x, ab_I what] h (ab_qi fun z h' => z = m_partR (h 1) what r ∧ h' = h) := by
  refine ab_enter (by decide) (Nat.le_of_ble_eq_true rfl) ?_
  obtain ⟨y, hy, hr⟩ := Option.bind_eq_some_iff.mp hr
  refine ab_aload_n (pc := 0) dX4_partOf_0 rfl rfl ?_
  refine ab_iload_n (pc := 1) dX4_partOf_1 rfl rfl ?_
  refine ab_iconst (pc := 2) (v := 1) dX4_partOf_2 (by decide) ?_
  refine ab_iadd (pc := 3) dX4_partOf_3 ?_
  refine ab_V1 (pc := 4) dX4_partOf_4 mvX4_124 rfl rfl (kX4_after hy) (ab_ki fun r4 h4 e4 => ?_)
  obtain ⟨rfl, rfl⟩ := And.intro e4.1.symm e4.2.symm
  refine ab_istore_n (pc := 7) dX4_partOf_7 rfl rfl ?_
  refine ab_weak [(0, ab_R 0), (2, ab_I _), (3, ab_I _)] ⟨rfl, rfl, rfl, trivial⟩ ?_
  exact lpX4_partOf _ _ _ hr
end
section
/-! the reference's plain steps, and what it undoes -/
theorem ab_heq {l : Launch} {lay : List ab_E} {M : ab_M} {d : Nat} {Q : Option ab_V → ab_H → Prop} {pc : Nat} {L : List (Nat × ab_V)} {S : List ab_V} {h h' : ab_H} (e : h = h') (k : ab_J l lay M d Q pc L S h') : ab_J l lay M d Q pc L S h := by
  rw [e]
  exact k
theorem ab_rd (h : ab_H) (i k : Nat) (v : Int32) (j n : Nat) : ab_up h i k v j n = if j = i then (if n = k then v else h i n) else h j n := by
  by_cases e : j = i
  · simp [ab_up, e, upd]
  · simp [ab_up, e]
theorem ab_rdA (h : ab_H) (i : Nat) (g : Nat → Int32) (j n : Nat) : ab_upA h i g j n = if j = i then g n else h j n := by
  by_cases e : j = i
  · simp [ab_upA, e]
  · simp [ab_upA, e]
theorem ab_up_upA (h : ab_H) (i k : Nat) (g : Nat → Int32) (v : Int32) : ab_up (ab_upA h i g) i k v = ab_upA h i (upd g k v) := by
  funext j
  by_cases e : j = i
  · simp [ab_up, ab_upA, e]
  · simp [ab_up, ab_upA, e]
theorem ab_upA_0 (h : ab_H) (i : Nat) : ab_upA h i (h i) = h := by
  funext j
  by_cases e : j = i
  · rw [e]; simp [ab_upA]
  · simp [ab_upA, e]
theorem va_cpy_0 {α : Type} (f g : Nat → α) (sp dp : Nat) : va_cpy f g sp dp 0 = g := by
  funext j
  exact pk_cpy_out (by omega)
theorem va_cpy_s (f g : Nat → Int32) (sp dp k : Nat) : upd (va_cpy f g sp dp k) (dp + k) (f (sp + k)) = va_cpy f g sp dp (k + 1) := by
  funext j
  by_cases e : j = dp + k
  · subst e
    rw [pk_us, pk_cpy_in (by omega) (by omega)]
    congr 1
    omega
  · rw [pk_un e]
    by_cases e2 : dp ≤ j ∧ j < dp + k
    · rw [pk_cpy_in e2.1 e2.2, pk_cpy_in e2.1 (by omega)]
    · rw [pk_cpy_out (by omega), pk_cpy_out (by omega)]
theorem m_16 {x : Int32} {u k : Nat} (hu : x = nI u) : 16 * x + nI k = nI (16 * u + k) := by
  rw [hu, show (16 : Int32) = nI 16 from rfl, pk_mul, nI_add]
theorem m_in16 {x : Int32} {u k : Nat} (hu : x = nI u) (hu2 : u < 70) (hk : k < 16) : vp_in (16 * x + nI k) 1120 := by
  rw [m_16 hu]
  exact vp_in_nI (by omega) (by omega)
theorem m_ge16 {k : Nat} (hk : k ≤ 16) (c : 16 ≤ nI k) : k = 16 := by
  have : nI 16 ≤ nI k := c
  rw [nI_leI (by omega) (by omega)] at this
  omega
theorem m_lt16 {k : Nat} (hk : k ≤ 16) (c : ¬ 16 ≤ nI k) : k < 16 := by
  rcases Nat.lt_or_ge k 16 with h | h
  · exact h
  · exact absurd (show nI 16 ≤ nI k from nI_le h (by omega)) c
/-- the sum of the openings less the ENDs, from k on to below e -/
def m_une (f : Nat → Int32) (e : Int32) : Nat → Int32 → Int32 → Option Int32
  | 0, _, _ => none
  | g + 1, k, n => if e ≤ k then some n else if k < 0 ∨ 480 ≤ k.toNatClampNeg then none else m_une f e g (k + 1) (m_dstep (f k.toNatClampNeg) n)
theorem m_une_in {f : Nat → Int32} {e : Int32} {g : Nat} {k n r : Int32} (hr : m_une f e (g + 1) k n = some r) : (e ≤ k → r = n) ∧ (¬ e ≤ k → vp_in k 480 ∧ ∀ dd, m_dstep (f k.toNatClampNeg) n = dd → m_une f e g (k + 1) dd = some r) := by
  rw [m_une] at hr
  refine ⟨fun c => ?_, fun c => ?_⟩
  · rw [if_pos c] at hr
    exact (Option.some.inj hr).symm
  · rw [if_neg c] at hr
    by_cases hi : k < 0 ∨ 480 ≤ k.toNatClampNeg
    · rw [if_pos hi] at hr
      cases hr
    · rw [if_neg hi] at hr
      exact ⟨hi, fun dd e => by rw [← e]; exact hr⟩
def m_unended (h : ab_H) (w : Int32) : Option Int32 := m_une (h 1) (60 * w + h 4 w.toNatClampNeg) 481 (60 * w) 0
def m_rem (h : ab_H) (s a was : Int32) : ab_H := if h 0 30 = 0 then h else
  ab_up (if s = 6 then ab_upA (ab_up (ab_up (ab_up h 13 (h 0 28).toNatClampNeg s) 14 (h 0 28).toNatClampNeg a) 15 (h 0 28).toNatClampNeg was) 16 (va_cpy (h 6) (h 16) 0 (16 * (h 0 28).toNatClampNeg) 16)
    else ab_up (ab_up (ab_up h 13 (h 0 28).toNatClampNeg s) 14 (h 0 28).toNatClampNeg a) 15 (h 0 28).toNatClampNeg was) 0 28 (h 0 28 + 1)
theorem m_rr_s {h : ab_H} {u k : Nat} (hu : h 0 28 = nI u) (hu2 : u < 70) (hk : k < 16) : ab_up (ab_upA h 16 (va_cpy (h 6) (h 16) 0 (16 * u) k)) 16 (16 * h 0 28 + nI k).toNatClampNeg (h 6 (nI k).toNatClampNeg) = ab_upA h 16 (va_cpy (h 6) (h 16) 0 (16 * u) (k + 1)) := by
  rw [ab_up_upA, m_16 hu, nI_clamp (by omega), nI_clamp (by omega), ← va_cpy_s, Nat.zero_add]
set_option maxRecDepth 100000 in
set_option maxHeartbeats 4000000 in
theorem lpX4_unended {l : Launch} {d : Nat} {h : ab_H} {w : Int32} (hw : vp_in w 8) : ∀ (n : Nat) (k m r : Int32), m_une (h 1) (60 * w + h 4 w.toNatClampNeg) n k m = some r → ab_J l layM mX4_unended (d + 1) (ab_qi fun z h' => z = r ∧ h' = h) 7 [(0, ab_R 0), (1, ab_I w), (2, ab_I m), (3, ab_I k)] [] h := by
  intro n
  induction n with
  | zero =>
    intro k m r hr
    cases hr
  | succ n ih =>
    intro k m r hr
    obtain ⟨hr1, hr2⟩ := m_une_in hr
    refine ab_iload_n (pc := 7) dX4_unended_7 rfl rfl ?_
    refine ab_bipush (pc := 8) (v := 60) dX4_unended_8 (by decide) ?_
    refine ab_iload_n (pc := 10) dX4_unended_10 rfl rfl ?_
    refine ab_imul (pc := 11) dX4_unended_11 ?_
    refine ab_aload_n (pc := 12) dX4_unended_12 rfl rfl ?_
    refine ab_getr (pc := 13) dX4_unended_13 fX4_19 rfl rfl ?_
    refine ab_iload_n (pc := 16) dX4_unended_16 rfl rfl ?_
    refine ab_iald (pc := 17) dX4_unended_17 rfl (by assumption) ?_
    refine ab_iadd (pc := 18) dX4_unended_18 ?_
    refine ab_icmp_ge (pc := 19) 57 dX4_unended_19 (by decide) (fun c19 => ?_) (fun c19 => ?_)
    · refine ab_iload_n (pc := 57) dX4_unended_57 rfl rfl ?_
      exact ab_reti (pc := 58) dX4_unended_58 rfl ⟨_, rfl, ⟨(hr1 (by assumption)).symm, rfl⟩⟩
    · obtain ⟨hin, hr3⟩ := hr2 (by assumption)
      refine ab_aload_n (pc := 22) dX4_unended_22 rfl rfl ?_
      refine ab_getr (pc := 23) dX4_unended_23 fX4_7 rfl rfl ?_
      refine ab_iload_n (pc := 26) dX4_unended_26 rfl rfl ?_
      refine ab_iald (pc := 27) dX4_unended_27 rfl (by assumption) ?_
      refine ab_S1 (pc := 28) dX4_unended_28 msX4_98 rfl (kX4_opens) (ab_ki fun r28 h28 e28 => ?_)
      obtain ⟨rfl, rfl⟩ := And.intro e28.1.symm e28.2.symm
      refine ab_if_eq (pc := 31) 37 dX4_unended_31 (by decide) (fun c31 => ?_) (fun c31 => ?_)
      · replace c31 := b2i_0.mp c31
        refine ab_aload_n (pc := 37) dX4_unended_37 rfl rfl ?_
        refine ab_getr (pc := 38) dX4_unended_38 fX4_7 rfl rfl ?_
        refine ab_iload_n (pc := 41) dX4_unended_41 rfl rfl ?_
        refine ab_iald (pc := 42) dX4_unended_42 rfl (by assumption) ?_
        refine ab_bipush (pc := 43) (v := 16) dX4_unended_43 (by decide) ?_
        refine ab_icmp_ne (pc := 45) 51 dX4_unended_45 (by decide) (fun c45 => ?_) (fun c45 => ?_)
        · refine ab_iinc (pc := 51) (v := 1) dX4_unended_51 rfl (by decide) rfl ?_
          refine ab_goto (pc := 54) 7 dX4_unended_54 (by decide) ?_
          refine ab_weak [(0, ab_R 0), (1, ab_I _), (2, ab_I _), (3, ab_I _)] ⟨rfl, rfl, rfl, rfl, trivial⟩ ?_
          exact ih _ _ _ (hr3 _ (by first | rw [m_dstep, if_pos c45, if_pos c31] | rw [m_dstep, if_pos c45, if_neg (ne_true_of_eq_false c31)] | rw [m_dstep, if_neg c45, if_pos c31] | rw [m_dstep, if_neg c45, if_neg (ne_true_of_eq_false c31)]))
        · refine ab_iinc (pc := 48) (v := (-1)) dX4_unended_48 rfl (by decide) rfl ?_
          refine ab_iinc (pc := 51) (v := 1) dX4_unended_51 rfl (by decide) rfl ?_
          refine ab_goto (pc := 54) 7 dX4_unended_54 (by decide) ?_
          refine ab_weak [(0, ab_R 0), (1, ab_I _), (2, ab_I _), (3, ab_I _)] ⟨rfl, rfl, rfl, rfl, trivial⟩ ?_
          exact ih _ _ _ (hr3 _ (by first | rw [m_dstep, if_pos c45, if_pos c31] | rw [m_dstep, if_pos c45, if_neg (ne_true_of_eq_false c31)] | rw [m_dstep, if_neg c45, if_pos c31] | rw [m_dstep, if_neg c45, if_neg (ne_true_of_eq_false c31)]))
      · replace c31 := b2i_1.mp c31
        refine ab_iinc (pc := 34) (v := 1) dX4_unended_34 rfl (by decide) rfl ?_
        refine ab_aload_n (pc := 37) dX4_unended_37 rfl rfl ?_
        refine ab_getr (pc := 38) dX4_unended_38 fX4_7 rfl rfl ?_
        refine ab_iload_n (pc := 41) dX4_unended_41 rfl rfl ?_
        refine ab_iald (pc := 42) dX4_unended_42 rfl (by assumption) ?_
        refine ab_bipush (pc := 43) (v := 16) dX4_unended_43 (by decide) ?_
        refine ab_icmp_ne (pc := 45) 51 dX4_unended_45 (by decide) (fun c45 => ?_) (fun c45 => ?_)
        · refine ab_iinc (pc := 51) (v := 1) dX4_unended_51 rfl (by decide) rfl ?_
          refine ab_goto (pc := 54) 7 dX4_unended_54 (by decide) ?_
          refine ab_weak [(0, ab_R 0), (1, ab_I _), (2, ab_I _), (3, ab_I _)] ⟨rfl, rfl, rfl, rfl, trivial⟩ ?_
          exact ih _ _ _ (hr3 _ (by first | rw [m_dstep, if_pos c45, if_pos c31] | rw [m_dstep, if_pos c45, if_neg (ne_true_of_eq_false c31)] | rw [m_dstep, if_neg c45, if_pos c31] | rw [m_dstep, if_neg c45, if_neg (ne_true_of_eq_false c31)]))
        · refine ab_iinc (pc := 48) (v := (-1)) dX4_unended_48 rfl (by decide) rfl ?_
          refine ab_iinc (pc := 51) (v := 1) dX4_unended_51 rfl (by decide) rfl ?_
          refine ab_goto (pc := 54) 7 dX4_unended_54 (by decide) ?_
          refine ab_weak [(0, ab_R 0), (1, ab_I _), (2, ab_I _), (3, ab_I _)] ⟨rfl, rfl, rfl, rfl, trivial⟩ ?_
          exact ih _ _ _ (hr3 _ (by first | rw [m_dstep, if_pos c45, if_pos c31] | rw [m_dstep, if_pos c45, if_neg (ne_true_of_eq_false c31)] | rw [m_dstep, if_neg c45, if_pos c31] | rw [m_dstep, if_neg c45, if_neg (ne_true_of_eq_false c31)]))

set_option maxRecDepth 100000 in
set_option maxHeartbeats 4000000 in
theorem kX4_unended {l : Launch} {d : Nat} {h : ab_H} {w r : Int32} (hw : vp_in w 8) (hr : m_unended h w = some r) : ab_C l layM (d + 1) mX4_unended [ab_R 0, ab_I w] h (ab_qi fun z h' => z = r ∧ h' = h) := by
  refine ab_enter (by decide) (Nat.le_of_ble_eq_true rfl) ?_
  refine ab_iconst (pc := 0) (v := 0) dX4_unended_0 (by decide) ?_
  refine ab_istore_n (pc := 1) dX4_unended_1 rfl rfl ?_
  refine ab_bipush (pc := 2) (v := 60) dX4_unended_2 (by decide) ?_
  refine ab_iload_n (pc := 4) dX4_unended_4 rfl rfl ?_
  refine ab_imul (pc := 5) dX4_unended_5 ?_
  refine ab_istore_n (pc := 6) dX4_unended_6 rfl rfl ?_
  refine ab_weak [(0, ab_R 0), (1, ab_I _), (2, ab_I _), (3, ab_I _)] ⟨rfl, rfl, rfl, rfl, trivial⟩ ?_
  exact lpX4_unended hw _ _ _ _ hr

set_option maxRecDepth 100000 in
set_option maxHeartbeats 4000000 in
theorem lpX4_remember {l : Launch} {d : Nat} {h : ab_H} {u : Nat} (hu : h 0 28 = nI u) (hu2 : u < 70) {P : ab_H → Prop} (hP : P (ab_up (ab_upA h 16 (va_cpy (h 6) (h 16) 0 (16 * u) 16)) 0 28 (h 0 28 + 1))) : ∀ (n : Nat) (k : Nat), k ≤ 16 → 16 < k + n → ab_J l layM mX4_remember (d) (ab_qv P) 47 [(0, ab_R 0), (4, ab_I (nI k))] [] (ab_upA h 16 (va_cpy (h 6) (h 16) 0 (16 * u) k)) := by
  intro n
  induction n with
  | zero =>
    intro k hk hn
    omega
  | succ n ih =>
    intro k hk hn
    refine ab_iload (pc := 47) dX4_remember_47 rfl ?_
    refine ab_bipush (pc := 49) (v := 16) dX4_remember_49 (by decide) ?_
    refine ab_icmp_ge (pc := 51) 82 dX4_remember_51 (by decide) (fun c51 => ?_) (fun c51 => ?_)
    · obtain rfl := m_ge16 hk (by assumption)
      refine ab_aload_n (pc := 82) dX4_remember_82 rfl rfl ?_
      refine ab_dup (pc := 83) dX4_remember_83 rfl ?_
      refine ab_geti (pc := 84) dX4_remember_84 fX4_130 rfl rfl ?_
      refine ab_iconst (pc := 87) (v := 1) dX4_remember_87 (by decide) ?_
      refine ab_iadd (pc := 88) dX4_remember_88 ?_
      refine ab_puti (pc := 89) dX4_remember_89 fwX4_130 rfl rfl ?_
      exact ab_retv (pc := 92) dX4_remember_92 rfl ⟨rfl, hP⟩
    · have hk2 := m_lt16 hk (by assumption)
      refine ab_aload_n (pc := 54) dX4_remember_54 rfl rfl ?_
      refine ab_getr (pc := 55) dX4_remember_55 fX4_62 rfl rfl ?_
      refine ab_bipush (pc := 58) (v := 16) dX4_remember_58 (by decide) ?_
      refine ab_aload_n (pc := 60) dX4_remember_60 rfl rfl ?_
      refine ab_geti (pc := 61) dX4_remember_61 fX4_130 rfl rfl ?_
      refine ab_imul (pc := 64) dX4_remember_64 ?_
      refine ab_iload (pc := 65) dX4_remember_65 rfl ?_
      refine ab_iadd (pc := 67) dX4_remember_67 ?_
      refine ab_aload_n (pc := 68) dX4_remember_68 rfl rfl ?_
      refine ab_getr (pc := 69) dX4_remember_69 fX4_25 rfl rfl ?_
      refine ab_iload (pc := 72) dX4_remember_72 rfl ?_
      refine ab_iald (pc := 74) dX4_remember_74 rfl (vp_in_nI hk2 (by omega)) ?_
      refine ab_iast (pc := 75) dX4_remember_75 rfl (m_in16 hu hu2 hk2) ?_
      refine ab_iinc (pc := 76) (v := 1) dX4_remember_76 rfl (by decide) rfl ?_
      refine ab_goto (pc := 79) 47 dX4_remember_79 (by decide) ?_
      refine ab_weak [(0, ab_R 0), (4, ab_I (nI k + 1))] ⟨rfl, rfl, trivial⟩ ?_
      rw [nI_1]
      exact ab_heq (m_rr_s hu hu2 hk2) (ih (k + 1) (by omega) (by omega))

set_option maxRecDepth 100000 in
set_option maxHeartbeats 4000000 in
theorem kX4_remember {l : Launch} {d : Nat} {h : ab_H} {u : Nat} {s a was : Int32} (hu : h 0 28 = nI u) (hu2 : u < 70) : ab_C l layM (d) mX4_remember [ab_R 0, ab_I s, ab_I a, ab_I was] h (ab_qv fun h' => h' = m_rem h s a was) := by
  refine ab_enter (by decide) (Nat.le_of_ble_eq_true rfl) ?_
  have hin : vp_in (h 0 28) 70 := by rw [hu]; exact vp_in_nI hu2 (by omega)
  refine ab_aload_n (pc := 0) dX4_remember_0 rfl rfl ?_
  refine ab_geti (pc := 1) dX4_remember_1 fX4_127 rfl rfl ?_
  refine ab_if_ne (pc := 4) 8 dX4_remember_4 (by decide) (fun c4 => ?_) (fun c4 => ?_)
  · refine ab_aload_n (pc := 8) dX4_remember_8 rfl rfl ?_
    refine ab_getr (pc := 9) dX4_remember_9 fX4_53 rfl rfl ?_
    refine ab_aload_n (pc := 12) dX4_remember_12 rfl rfl ?_
    refine ab_geti (pc := 13) dX4_remember_13 fX4_130 rfl rfl ?_
    refine ab_iload_n (pc := 16) dX4_remember_16 rfl rfl ?_
    refine ab_iast (pc := 17) dX4_remember_17 rfl (by assumption) ?_
    refine ab_aload_n (pc := 18) dX4_remember_18 rfl rfl ?_
    refine ab_getr (pc := 19) dX4_remember_19 fX4_56 rfl rfl ?_
    refine ab_aload_n (pc := 22) dX4_remember_22 rfl rfl ?_
    refine ab_geti (pc := 23) dX4_remember_23 fX4_130 rfl rfl ?_
    refine ab_iload_n (pc := 26) dX4_remember_26 rfl rfl ?_
    refine ab_iast (pc := 27) dX4_remember_27 rfl (by assumption) ?_
    refine ab_aload_n (pc := 28) dX4_remember_28 rfl rfl ?_
    refine ab_getr (pc := 29) dX4_remember_29 fX4_59 rfl rfl ?_
    refine ab_aload_n (pc := 32) dX4_remember_32 rfl rfl ?_
    refine ab_geti (pc := 33) dX4_remember_33 fX4_130 rfl rfl ?_
    refine ab_iload_n (pc := 36) dX4_remember_36 rfl rfl ?_
    refine ab_iast (pc := 37) dX4_remember_37 rfl (by assumption) ?_
    refine ab_iload_n (pc := 38) dX4_remember_38 rfl rfl ?_
    refine ab_bipush (pc := 39) (v := 6) dX4_remember_39 (by decide) ?_
    refine ab_icmp_ne (pc := 41) 82 dX4_remember_41 (by decide) (fun c41 => ?_) (fun c41 => ?_)
    · refine ab_aload_n (pc := 82) dX4_remember_82 rfl rfl ?_
      refine ab_dup (pc := 83) dX4_remember_83 rfl ?_
      refine ab_geti (pc := 84) dX4_remember_84 fX4_130 rfl rfl ?_
      refine ab_iconst (pc := 87) (v := 1) dX4_remember_87 (by decide) ?_
      refine ab_iadd (pc := 88) dX4_remember_88 ?_
      refine ab_puti (pc := 89) dX4_remember_89 fwX4_130 rfl rfl ?_
      exact ab_retv (pc := 92) dX4_remember_92 rfl ⟨rfl, (by simp [m_rem, ab_rd, c4, c41])⟩
    · refine ab_iconst (pc := 44) (v := 0) dX4_remember_44 (by decide) ?_
      refine ab_istore (pc := 45) dX4_remember_45 rfl ?_
      refine ab_weak [(0, ab_R 0), (4, ab_I (nI 0))] ⟨rfl, rfl, trivial⟩ ?_
      refine ab_heq ?_ (lpX4_remember (h := ab_up (ab_up (ab_up h 13 (h 0 28).toNatClampNeg s) 14 (h 0 28).toNatClampNeg a) 15 (h 0 28).toNatClampNeg was) hu hu2 ?_ 17 0 (by omega) (by omega))
      · rw [va_cpy_0, ab_upA_0]
        rfl
      · show _ = m_rem h s a was
        rw [m_rem, if_neg c4, if_pos c41, show (h 0 28).toNatClampNeg = u by rw [hu]; exact nI_clamp (by omega)]
        rfl
  · exact ab_retv (pc := 7) dX4_remember_7 rfl ⟨rfl, (by rw [m_rem, if_pos c4])⟩
end
section
/-! undoing, and the plain steps -/
theorem ab_topi {l : Launch} {lay : List ab_E} {M : ab_M} {d : Nat} {Q : Option ab_V → ab_H → Prop} {pc : Nat} {L : List (Nat × ab_V)} {S : List ab_V} {h : ab_H} {x y : Int32} (e : x = y) (k : ab_J l lay M d Q pc L (ab_I y :: S) h) : ab_J l lay M d Q pc L (ab_I x :: S) h := by
  rw [e]
  exact k
def m_z (g : Nat → Int32) (k : Nat) : Nat → Int32 := fun j => if j < k then 0 else g j
theorem m_z_0 (g : Nat → Int32) : m_z g 0 = g := rfl
theorem m_z_s (g : Nat → Int32) (k : Nat) : upd (m_z g k) k 0 = m_z g (k + 1) := by
  funext j
  simp only [upd, m_z]
  by_cases e : j = k
  · rw [if_pos e, if_pos (by omega)]
  · rw [if_neg e]
    by_cases e2 : j < k
    · rw [if_pos e2, if_pos (by omega)]
    · rw [if_neg e2, if_neg (by omega)]
theorem m_ur_s {h : ab_H} {u k : Nat} (hu : h 0 28 = nI u) (hu2 : u < 70) (hk : k < 16) : ab_up (ab_upA h 6 (va_cpy (h 16) (h 6) (16 * u) 0 k)) 6 (nI k).toNatClampNeg (h 16 (16 * h 0 28 + nI k).toNatClampNeg) = ab_upA h 6 (va_cpy (h 16) (h 6) (16 * u) 0 (k + 1)) := by
  rw [ab_up_upA, m_16 hu, nI_clamp (by omega), nI_clamp (by omega), ← va_cpy_s, Nat.zero_add]
theorem m_mz_s {h : ab_H} {k : Nat} (hk : k < 16) : ab_up (ab_upA h 6 (m_z (h 6) k)) 6 (nI k).toNatClampNeg 0 = ab_upA h 6 (m_z (h 6) (k + 1)) := by
  rw [ab_up_upA, nI_clamp (by omega), m_z_s]
def m_undoB (h : ab_H) (u : Nat) (a s w : Int32) : ab_H :=
  if s = 1 then ab_up (ab_up (ab_up h 0 28 (nI u)) 0 18 (h 0 18 + 1)) 5 a.toNatClampNeg (h 5 a.toNatClampNeg - w)
  else if s = 2 then ab_up (ab_up (ab_up h 0 28 (nI u)) 0 18 (h 0 18 + 1)) 5 a.toNatClampNeg w
  else if s = 5 then ab_up (ab_up (ab_up h 0 28 (nI u)) 0 18 (h 0 18 + 1)) 6 a.toNatClampNeg w
  else if s = 7 then ab_up (ab_up (ab_up h 0 28 (nI u)) 0 18 (h 0 18 + 1)) 7 a.toNatClampNeg w
  else ab_upA (ab_up (ab_up (ab_up h 0 28 (nI u)) 0 18 (h 0 18 + 1)) 0 7 w) 6 (va_cpy (h 16) (h 6) (16 * u) 0 16)
def m_undo (h : ab_H) (u : Nat) : ab_H :=
  if h 13 u = 5 ∧ (h 14 u < 0 ∨ ¬ h 14 u < h 0 7) then ab_up (ab_up h 0 28 (nI u)) 0 17 (h 0 17 + 1) else m_undoB h u (h 14 u) (h 13 u) (h 15 u)
def m_makesR (n : Int32) : Int32 := if 0 ≤ n then (if n ≤ 16 then 0 else 1) else 1
def m_makes (h : ab_H) (n : Int32) : ab_H := if 0 ≤ n then (if n ≤ 16 then ab_upA (ab_up (m_rem h 6 0 (h 0 7)) 0 7 n) 6 (m_z (m_rem h 6 0 (h 0 7) 6) 16) else ab_up h 0 21 4) else ab_up h 0 21 3
def m_rowI (h : ab_H) (s a b : Int32) : Int32 := h 5 (if s = 4 then b else a).toNatClampNeg
def m_rowOut (h : ab_H) (s a b : Int32) : Bool := decide (m_rowI h s a b < 0) || decide (¬ m_rowI h s a b < h 0 7)
def m_onRow (h : ab_H) (s a b : Int32) : ab_H := if m_rowOut h s a b = true then ab_up h 0 21 2 else
  if s = 4 then ab_up h 5 a.toNatClampNeg (h 6 (m_rowI h s a b).toNatClampNeg)
  else ab_up (m_rem h 5 (m_rowI h s a b) (h 6 (m_rowI h s a b).toNatClampNeg)) 6 (m_rowI h s a b).toNatClampNeg (m_rem h 5 (m_rowI h s a b) (h 6 (m_rowI h s a b).toNatClampNeg) 5 b.toNatClampNeg)
def m_usesR (h : ab_H) (x : Int32) : Int32 := if x = 0 then 1 else if h 8 x.toNatClampNeg = 2 then 1 else 0
def m_uses (h : ab_H) (x : Int32) : ab_H := if x = 0 then ab_up h 0 21 5 else if h 8 x.toNatClampNeg = 2 then ab_up h 0 21 6 else m_note (ab_up h 9 x.toNatClampNeg (h 9 x.toNatClampNeg + 1)) (h 9 x.toNatClampNeg + 1)
set_option maxRecDepth 100000 in
set_option maxHeartbeats 4000000 in
theorem lpX4_undoOne {l : Launch} {d : Nat} {h : ab_H} {u : Nat} (hu : h 0 28 = nI u) (hu2 : u < 70) {P : ab_H → Prop} (hP : P (ab_upA h 6 (va_cpy (h 16) (h 6) (16 * u) 0 16))) : ∀ (n : Nat) (k : Nat), k ≤ 16 → 16 < k + n → ab_J l layM mX4_undoOne (d) (ab_qv P) 179 [(0, ab_R 0), (3, ab_I (nI k))] [] (ab_upA h 6 (va_cpy (h 16) (h 6) (16 * u) 0 k)) := by
  intro n
  induction n with
  | zero =>
    intro k hk hn
    omega
  | succ n ih =>
    intro k hk hn
    refine ab_iload_n (pc := 179) dX4_undoOne_179 rfl rfl ?_
    refine ab_bipush (pc := 180) (v := 16) dX4_undoOne_180 (by decide) ?_
    refine ab_icmp_ge (pc := 182) 211 dX4_undoOne_182 (by decide) (fun c182 => ?_) (fun c182 => ?_)
    · obtain rfl := m_ge16 hk (by assumption)
      exact ab_retv (pc := 211) dX4_undoOne_211 rfl ⟨rfl, hP⟩
    · have hk2 := m_lt16 hk (by assumption)
      refine ab_aload_n (pc := 185) dX4_undoOne_185 rfl rfl ?_
      refine ab_getr (pc := 186) dX4_undoOne_186 fX4_25 rfl rfl ?_
      refine ab_iload_n (pc := 189) dX4_undoOne_189 rfl rfl ?_
      refine ab_aload_n (pc := 190) dX4_undoOne_190 rfl rfl ?_
      refine ab_getr (pc := 191) dX4_undoOne_191 fX4_62 rfl rfl ?_
      refine ab_bipush (pc := 194) (v := 16) dX4_undoOne_194 (by decide) ?_
      refine ab_aload_n (pc := 196) dX4_undoOne_196 rfl rfl ?_
      refine ab_geti (pc := 197) dX4_undoOne_197 fX4_130 rfl rfl ?_
      refine ab_imul (pc := 200) dX4_undoOne_200 ?_
      refine ab_iload_n (pc := 201) dX4_undoOne_201 rfl rfl ?_
      refine ab_iadd (pc := 202) dX4_undoOne_202 ?_
      refine ab_iald (pc := 203) dX4_undoOne_203 rfl (m_in16 hu hu2 hk2) ?_
      refine ab_iast (pc := 204) dX4_undoOne_204 rfl (vp_in_nI hk2 (by omega)) ?_
      refine ab_iinc (pc := 205) (v := 1) dX4_undoOne_205 rfl (by decide) rfl ?_
      refine ab_goto (pc := 208) 179 dX4_undoOne_208 (by decide) ?_
      refine ab_weak [(0, ab_R 0), (3, ab_I (nI k + 1))] ⟨rfl, rfl, trivial⟩ ?_
      rw [nI_1]
      exact ab_heq (m_ur_s hu hu2 hk2) (ih (k + 1) (by omega) (by omega))

set_option maxRecDepth 100000 in
set_option maxHeartbeats 4000000 in
theorem kX4_undoOne {l : Launch} {d : Nat} {h : ab_H} {u : Nat} (hu : h 0 28 = nI (u + 1)) (hu2 : u < 70) (h8 : h 13 u = 1 ∨ h 13 u = 2 → vp_in (h 14 u) 8) (h16 : h 13 u = 5 → ¬ h 14 u < 0 → h 14 u < h 0 7 → vp_in (h 14 u) 16) (h4 : h 13 u = 7 → vp_in (h 14 u) 4) : ab_C l layM (d) mX4_undoOne [ab_R 0] h (ab_qv fun h' => h' = m_undo h u) := by
  refine ab_enter (by decide) (Nat.le_of_ble_eq_true rfl) ?_
  have hx : h 0 28 - 1 = nI u := by rw [hu]; exact nI_pred u
  have hc : (nI u).toNatClampNeg = u := nI_clamp (by omega)
  have hin : vp_in (nI u) 70 := vp_in_nI hu2 (by omega)
  refine ab_aload_n (pc := 0) dX4_undoOne_0 rfl rfl ?_
  refine ab_dup (pc := 1) dX4_undoOne_1 rfl ?_
  refine ab_geti (pc := 2) dX4_undoOne_2 fX4_130 rfl rfl ?_
  refine ab_iconst (pc := 5) (v := 1) dX4_undoOne_5 (by decide) ?_
  refine ab_isub (pc := 6) dX4_undoOne_6 ?_
  rw [hx]
  refine ab_puti (pc := 7) dX4_undoOne_7 fwX4_130 rfl rfl ?_
  refine ab_aload_n (pc := 10) dX4_undoOne_10 rfl rfl ?_
  refine ab_getr (pc := 11) dX4_undoOne_11 fX4_56 rfl rfl ?_
  refine ab_aload_n (pc := 14) dX4_undoOne_14 rfl rfl ?_
  refine ab_geti (pc := 15) dX4_undoOne_15 fX4_130 rfl rfl ?_
  refine ab_topi (by (try simp only [ab_rd, ab_rdA, Nat.reduceEqDiff, reduceIte, hc]); exact rfl) ?_
  refine ab_iald (pc := 18) dX4_undoOne_18 rfl hin ?_
  refine ab_topi (by (try simp only [ab_rd, ab_rdA, Nat.reduceEqDiff, reduceIte, hc]); exact rfl) ?_
  refine ab_istore_n (pc := 19) dX4_undoOne_19 rfl rfl ?_
  refine ab_aload_n (pc := 20) dX4_undoOne_20 rfl rfl ?_
  refine ab_getr (pc := 21) dX4_undoOne_21 fX4_53 rfl rfl ?_
  refine ab_aload_n (pc := 24) dX4_undoOne_24 rfl rfl ?_
  refine ab_geti (pc := 25) dX4_undoOne_25 fX4_130 rfl rfl ?_
  refine ab_topi (by (try simp only [ab_rd, ab_rdA, Nat.reduceEqDiff, reduceIte, hc]); exact rfl) ?_
  refine ab_iald (pc := 28) dX4_undoOne_28 rfl hin ?_
  refine ab_topi (by (try simp only [ab_rd, ab_rdA, Nat.reduceEqDiff, reduceIte, hc]); exact rfl) ?_
  refine ab_istore_n (pc := 29) dX4_undoOne_29 rfl rfl ?_
  refine ab_iload_n (pc := 30) dX4_undoOne_30 rfl rfl ?_
  refine ab_iconst (pc := 31) (v := 5) dX4_undoOne_31 (by decide) ?_
  refine ab_icmp_ne (pc := 32) 58 dX4_undoOne_32 (by decide) (fun c32 => ?_) (fun c32 => ?_)
  · refine ab_aload_n (pc := 58) dX4_undoOne_58 rfl rfl ?_
    refine ab_dup (pc := 59) dX4_undoOne_59 rfl ?_
    refine ab_geti (pc := 60) dX4_undoOne_60 fX4_136 rfl rfl ?_
    refine ab_topi (by (try simp only [ab_rd, ab_rdA, Nat.reduceEqDiff, reduceIte, hc]); exact rfl) ?_
    refine ab_iconst (pc := 63) (v := 1) dX4_undoOne_63 (by decide) ?_
    refine ab_iadd (pc := 64) dX4_undoOne_64 ?_
    refine ab_puti (pc := 65) dX4_undoOne_65 fwX4_136 rfl rfl ?_
    refine ab_iload_n (pc := 68) dX4_undoOne_68 rfl rfl ?_
    refine ab_iconst (pc := 69) (v := 1) dX4_undoOne_69 (by decide) ?_
    refine ab_icmp_ne (pc := 70) 94 dX4_undoOne_70 (by decide) (fun c70 => ?_) (fun c70 => ?_)
    · refine ab_iload_n (pc := 94) dX4_undoOne_94 rfl rfl ?_
      refine ab_iconst (pc := 95) (v := 2) dX4_undoOne_95 (by decide) ?_
      refine ab_icmp_ne (pc := 96) 117 dX4_undoOne_96 (by decide) (fun c96 => ?_) (fun c96 => ?_)
      · refine ab_iload_n (pc := 117) dX4_undoOne_117 rfl rfl ?_
        refine ab_iconst (pc := 118) (v := 5) dX4_undoOne_118 (by decide) ?_
        refine ab_icmp_ne (pc := 119) 140 dX4_undoOne_119 (by decide) (fun c119 => ?_) (fun c119 => ?_)
        · refine ab_iload_n (pc := 140) dX4_undoOne_140 rfl rfl ?_
          refine ab_bipush (pc := 141) (v := 7) dX4_undoOne_141 (by decide) ?_
          refine ab_icmp_ne (pc := 143) 164 dX4_undoOne_143 (by decide) (fun c143 => ?_) (fun c143 => ?_)
          · refine ab_aload_n (pc := 164) dX4_undoOne_164 rfl rfl ?_
            refine ab_aload_n (pc := 165) dX4_undoOne_165 rfl rfl ?_
            refine ab_getr (pc := 166) dX4_undoOne_166 fX4_59 rfl rfl ?_
            refine ab_aload_n (pc := 169) dX4_undoOne_169 rfl rfl ?_
            refine ab_geti (pc := 170) dX4_undoOne_170 fX4_130 rfl rfl ?_
            refine ab_topi (by (try simp only [ab_rd, ab_rdA, Nat.reduceEqDiff, reduceIte, hc]); exact rfl) ?_
            refine ab_iald (pc := 173) dX4_undoOne_173 rfl hin ?_
            refine ab_topi (by (try simp only [ab_rd, ab_rdA, Nat.reduceEqDiff, reduceIte, hc]); exact rfl) ?_
            refine ab_puti (pc := 174) dX4_undoOne_174 fwX4_28 rfl rfl ?_
            refine ab_iconst (pc := 177) (v := 0) dX4_undoOne_177 (by decide) ?_
            refine ab_istore_n (pc := 178) dX4_undoOne_178 rfl rfl ?_
            refine ab_weak [(0, ab_R 0), (3, ab_I (nI 0))] ⟨rfl, rfl, trivial⟩ ?_
            refine ab_heq ?_ (lpX4_undoOne (h := (ab_up (ab_up (ab_up h 0 28 (nI u)) 0 18 (h 0 18 + 1)) 0 7 (h 15 u))) rfl hu2 ?_ 17 0 (by omega) (by omega))
            · rw [va_cpy_0, ab_upA_0]
            · show _ = m_undo h u
              rw [m_undo, if_neg (by first | exact fun q => c32 q.1 | exact fun q => q.2.elim c36 (fun z => z c44)), m_undoB, if_neg c70, if_neg c96, if_neg c119, if_neg c143]
              rfl
          · refine ab_aload_n (pc := 146) dX4_undoOne_146 rfl rfl ?_
            refine ab_getr (pc := 147) dX4_undoOne_147 fX4_32 rfl rfl ?_
            refine ab_iload_n (pc := 150) dX4_undoOne_150 rfl rfl ?_
            refine ab_aload_n (pc := 151) dX4_undoOne_151 rfl rfl ?_
            refine ab_getr (pc := 152) dX4_undoOne_152 fX4_59 rfl rfl ?_
            refine ab_aload_n (pc := 155) dX4_undoOne_155 rfl rfl ?_
            refine ab_geti (pc := 156) dX4_undoOne_156 fX4_130 rfl rfl ?_
            refine ab_topi (by (try simp only [ab_rd, ab_rdA, Nat.reduceEqDiff, reduceIte, hc]); exact rfl) ?_
            refine ab_iald (pc := 159) dX4_undoOne_159 rfl hin ?_
            refine ab_topi (by (try simp only [ab_rd, ab_rdA, Nat.reduceEqDiff, reduceIte, hc]); exact rfl) ?_
            refine ab_iast (pc := 160) dX4_undoOne_160 rfl (h4 (by assumption)) ?_
            refine ab_goto (pc := 161) 211 dX4_undoOne_161 (by decide) ?_
            exact ab_retv (pc := 211) dX4_undoOne_211 rfl ⟨rfl, (by rw [m_undo, if_neg (by first | exact fun q => c32 q.1 | exact fun q => q.2.elim c36 (fun z => z c44)), m_undoB, if_neg c70, if_neg c96, if_neg c119, if_pos c143])⟩
        · refine ab_aload_n (pc := 122) dX4_undoOne_122 rfl rfl ?_
          refine ab_getr (pc := 123) dX4_undoOne_123 fX4_25 rfl rfl ?_
          refine ab_iload_n (pc := 126) dX4_undoOne_126 rfl rfl ?_
          refine ab_aload_n (pc := 127) dX4_undoOne_127 rfl rfl ?_
          refine ab_getr (pc := 128) dX4_undoOne_128 fX4_59 rfl rfl ?_
          refine ab_aload_n (pc := 131) dX4_undoOne_131 rfl rfl ?_
          refine ab_geti (pc := 132) dX4_undoOne_132 fX4_130 rfl rfl ?_
          refine ab_topi (by (try simp only [ab_rd, ab_rdA, Nat.reduceEqDiff, reduceIte, hc]); exact rfl) ?_
          refine ab_iald (pc := 135) dX4_undoOne_135 rfl hin ?_
          refine ab_topi (by (try simp only [ab_rd, ab_rdA, Nat.reduceEqDiff, reduceIte, hc]); exact rfl) ?_
          refine ab_iast (pc := 136) dX4_undoOne_136 rfl (by first | exact h16 c119 c36 c44 | exact absurd c119 c32) ?_
          refine ab_goto (pc := 137) 211 dX4_undoOne_137 (by decide) ?_
          exact ab_retv (pc := 211) dX4_undoOne_211 rfl ⟨rfl, (by rw [m_undo, if_neg (by first | exact fun q => c32 q.1 | exact fun q => q.2.elim c36 (fun z => z c44)), m_undoB, if_neg c70, if_neg c96, if_pos c119])⟩
      · refine ab_aload_n (pc := 99) dX4_undoOne_99 rfl rfl ?_
        refine ab_getr (pc := 100) dX4_undoOne_100 fX4_22 rfl rfl ?_
        refine ab_iload_n (pc := 103) dX4_undoOne_103 rfl rfl ?_
        refine ab_aload_n (pc := 104) dX4_undoOne_104 rfl rfl ?_
        refine ab_getr (pc := 105) dX4_undoOne_105 fX4_59 rfl rfl ?_
        refine ab_aload_n (pc := 108) dX4_undoOne_108 rfl rfl ?_
        refine ab_geti (pc := 109) dX4_undoOne_109 fX4_130 rfl rfl ?_
        refine ab_topi (by (try simp only [ab_rd, ab_rdA, Nat.reduceEqDiff, reduceIte, hc]); exact rfl) ?_
        refine ab_iald (pc := 112) dX4_undoOne_112 rfl hin ?_
        refine ab_topi (by (try simp only [ab_rd, ab_rdA, Nat.reduceEqDiff, reduceIte, hc]); exact rfl) ?_
        refine ab_iast (pc := 113) dX4_undoOne_113 rfl (h8 (Or.inr (by assumption))) ?_
        refine ab_goto (pc := 114) 211 dX4_undoOne_114 (by decide) ?_
        exact ab_retv (pc := 211) dX4_undoOne_211 rfl ⟨rfl, (by rw [m_undo, if_neg (by first | exact fun q => c32 q.1 | exact fun q => q.2.elim c36 (fun z => z c44)), m_undoB, if_neg c70, if_pos c96])⟩
    · refine ab_aload_n (pc := 73) dX4_undoOne_73 rfl rfl ?_
      refine ab_getr (pc := 74) dX4_undoOne_74 fX4_22 rfl rfl ?_
      refine ab_iload_n (pc := 77) dX4_undoOne_77 rfl rfl ?_
      refine ab_dup2 (pc := 78) dX4_undoOne_78 rfl rfl ?_
      refine ab_iald (pc := 79) dX4_undoOne_79 rfl (h8 (Or.inl (by assumption))) ?_
      refine ab_topi (by (try simp only [ab_rd, ab_rdA, Nat.reduceEqDiff, reduceIte, hc]); exact rfl) ?_
      refine ab_aload_n (pc := 80) dX4_undoOne_80 rfl rfl ?_
      refine ab_getr (pc := 81) dX4_undoOne_81 fX4_59 rfl rfl ?_
      refine ab_aload_n (pc := 84) dX4_undoOne_84 rfl rfl ?_
      refine ab_geti (pc := 85) dX4_undoOne_85 fX4_130 rfl rfl ?_
      refine ab_topi (by (try simp only [ab_rd, ab_rdA, Nat.reduceEqDiff, reduceIte, hc]); exact rfl) ?_
      refine ab_iald (pc := 88) dX4_undoOne_88 rfl hin ?_
      refine ab_topi (by (try simp only [ab_rd, ab_rdA, Nat.reduceEqDiff, reduceIte, hc]); exact rfl) ?_
      refine ab_isub (pc := 89) dX4_undoOne_89 ?_
      refine ab_iast (pc := 90) dX4_undoOne_90 rfl (h8 (Or.inl (by assumption))) ?_
      refine ab_goto (pc := 91) 211 dX4_undoOne_91 (by decide) ?_
      exact ab_retv (pc := 211) dX4_undoOne_211 rfl ⟨rfl, (by rw [m_undo, if_neg (by first | exact fun q => c32 q.1 | exact fun q => q.2.elim c36 (fun z => z c44)), m_undoB, if_pos c70])⟩
  · refine ab_iload_n (pc := 35) dX4_undoOne_35 rfl rfl ?_
    refine ab_if_lt (pc := 36) 47 dX4_undoOne_36 (by decide) (fun c36 => ?_) (fun c36 => ?_)
    · refine ab_aload_n (pc := 47) dX4_undoOne_47 rfl rfl ?_
      refine ab_dup (pc := 48) dX4_undoOne_48 rfl ?_
      refine ab_geti (pc := 49) dX4_undoOne_49 fX4_133 rfl rfl ?_
      refine ab_topi (by (try simp only [ab_rd, ab_rdA, Nat.reduceEqDiff, reduceIte, hc]); exact rfl) ?_
      refine ab_iconst (pc := 52) (v := 1) dX4_undoOne_52 (by decide) ?_
      refine ab_iadd (pc := 53) dX4_undoOne_53 ?_
      refine ab_puti (pc := 54) dX4_undoOne_54 fwX4_133 rfl rfl ?_
      exact ab_retv (pc := 57) dX4_undoOne_57 rfl ⟨rfl, (by rw [m_undo, if_pos ⟨c32, by first | exact Or.inl c36 | exact Or.inr c44⟩])⟩
    · refine ab_iload_n (pc := 39) dX4_undoOne_39 rfl rfl ?_
      refine ab_aload_n (pc := 40) dX4_undoOne_40 rfl rfl ?_
      refine ab_geti (pc := 41) dX4_undoOne_41 fX4_28 rfl rfl ?_
      refine ab_topi (by (try simp only [ab_rd, ab_rdA, Nat.reduceEqDiff, reduceIte, hc]); exact rfl) ?_
      refine ab_icmp_lt (pc := 44) 58 dX4_undoOne_44 (by decide) (fun c44 => ?_) (fun c44 => ?_)
      · refine ab_aload_n (pc := 58) dX4_undoOne_58 rfl rfl ?_
        refine ab_dup (pc := 59) dX4_undoOne_59 rfl ?_
        refine ab_geti (pc := 60) dX4_undoOne_60 fX4_136 rfl rfl ?_
        refine ab_topi (by (try simp only [ab_rd, ab_rdA, Nat.reduceEqDiff, reduceIte, hc]); exact rfl) ?_
        refine ab_iconst (pc := 63) (v := 1) dX4_undoOne_63 (by decide) ?_
        refine ab_iadd (pc := 64) dX4_undoOne_64 ?_
        refine ab_puti (pc := 65) dX4_undoOne_65 fwX4_136 rfl rfl ?_
        refine ab_iload_n (pc := 68) dX4_undoOne_68 rfl rfl ?_
        refine ab_iconst (pc := 69) (v := 1) dX4_undoOne_69 (by decide) ?_
        refine ab_icmp_ne (pc := 70) 94 dX4_undoOne_70 (by decide) (fun c70 => ?_) (fun c70 => ?_)
        · refine ab_iload_n (pc := 94) dX4_undoOne_94 rfl rfl ?_
          refine ab_iconst (pc := 95) (v := 2) dX4_undoOne_95 (by decide) ?_
          refine ab_icmp_ne (pc := 96) 117 dX4_undoOne_96 (by decide) (fun c96 => ?_) (fun c96 => ?_)
          · refine ab_iload_n (pc := 117) dX4_undoOne_117 rfl rfl ?_
            refine ab_iconst (pc := 118) (v := 5) dX4_undoOne_118 (by decide) ?_
            refine ab_icmp_ne (pc := 119) 140 dX4_undoOne_119 (by decide) (fun c119 => ?_) (fun c119 => ?_)
            · refine ab_iload_n (pc := 140) dX4_undoOne_140 rfl rfl ?_
              refine ab_bipush (pc := 141) (v := 7) dX4_undoOne_141 (by decide) ?_
              refine ab_icmp_ne (pc := 143) 164 dX4_undoOne_143 (by decide) (fun c143 => ?_) (fun c143 => ?_)
              · refine ab_aload_n (pc := 164) dX4_undoOne_164 rfl rfl ?_
                refine ab_aload_n (pc := 165) dX4_undoOne_165 rfl rfl ?_
                refine ab_getr (pc := 166) dX4_undoOne_166 fX4_59 rfl rfl ?_
                refine ab_aload_n (pc := 169) dX4_undoOne_169 rfl rfl ?_
                refine ab_geti (pc := 170) dX4_undoOne_170 fX4_130 rfl rfl ?_
                refine ab_topi (by (try simp only [ab_rd, ab_rdA, Nat.reduceEqDiff, reduceIte, hc]); exact rfl) ?_
                refine ab_iald (pc := 173) dX4_undoOne_173 rfl hin ?_
                refine ab_topi (by (try simp only [ab_rd, ab_rdA, Nat.reduceEqDiff, reduceIte, hc]); exact rfl) ?_
                refine ab_puti (pc := 174) dX4_undoOne_174 fwX4_28 rfl rfl ?_
                refine ab_iconst (pc := 177) (v := 0) dX4_undoOne_177 (by decide) ?_
                refine ab_istore_n (pc := 178) dX4_undoOne_178 rfl rfl ?_
                refine ab_weak [(0, ab_R 0), (3, ab_I (nI 0))] ⟨rfl, rfl, trivial⟩ ?_
                refine ab_heq ?_ (lpX4_undoOne (h := (ab_up (ab_up (ab_up h 0 28 (nI u)) 0 18 (h 0 18 + 1)) 0 7 (h 15 u))) rfl hu2 ?_ 17 0 (by omega) (by omega))
                · rw [va_cpy_0, ab_upA_0]
                · show _ = m_undo h u
                  rw [m_undo, if_neg (by first | exact fun q => c32 q.1 | exact fun q => q.2.elim c36 (fun z => z c44)), m_undoB, if_neg c70, if_neg c96, if_neg c119, if_neg c143]
                  rfl
              · refine ab_aload_n (pc := 146) dX4_undoOne_146 rfl rfl ?_
                refine ab_getr (pc := 147) dX4_undoOne_147 fX4_32 rfl rfl ?_
                refine ab_iload_n (pc := 150) dX4_undoOne_150 rfl rfl ?_
                refine ab_aload_n (pc := 151) dX4_undoOne_151 rfl rfl ?_
                refine ab_getr (pc := 152) dX4_undoOne_152 fX4_59 rfl rfl ?_
                refine ab_aload_n (pc := 155) dX4_undoOne_155 rfl rfl ?_
                refine ab_geti (pc := 156) dX4_undoOne_156 fX4_130 rfl rfl ?_
                refine ab_topi (by (try simp only [ab_rd, ab_rdA, Nat.reduceEqDiff, reduceIte, hc]); exact rfl) ?_
                refine ab_iald (pc := 159) dX4_undoOne_159 rfl hin ?_
                refine ab_topi (by (try simp only [ab_rd, ab_rdA, Nat.reduceEqDiff, reduceIte, hc]); exact rfl) ?_
                refine ab_iast (pc := 160) dX4_undoOne_160 rfl (h4 (by assumption)) ?_
                refine ab_goto (pc := 161) 211 dX4_undoOne_161 (by decide) ?_
                exact ab_retv (pc := 211) dX4_undoOne_211 rfl ⟨rfl, (by rw [m_undo, if_neg (by first | exact fun q => c32 q.1 | exact fun q => q.2.elim c36 (fun z => z c44)), m_undoB, if_neg c70, if_neg c96, if_neg c119, if_pos c143])⟩
            · refine ab_aload_n (pc := 122) dX4_undoOne_122 rfl rfl ?_
              refine ab_getr (pc := 123) dX4_undoOne_123 fX4_25 rfl rfl ?_
              refine ab_iload_n (pc := 126) dX4_undoOne_126 rfl rfl ?_
              refine ab_aload_n (pc := 127) dX4_undoOne_127 rfl rfl ?_
              refine ab_getr (pc := 128) dX4_undoOne_128 fX4_59 rfl rfl ?_
              refine ab_aload_n (pc := 131) dX4_undoOne_131 rfl rfl ?_
              refine ab_geti (pc := 132) dX4_undoOne_132 fX4_130 rfl rfl ?_
              refine ab_topi (by (try simp only [ab_rd, ab_rdA, Nat.reduceEqDiff, reduceIte, hc]); exact rfl) ?_
              refine ab_iald (pc := 135) dX4_undoOne_135 rfl hin ?_
              refine ab_topi (by (try simp only [ab_rd, ab_rdA, Nat.reduceEqDiff, reduceIte, hc]); exact rfl) ?_
              refine ab_iast (pc := 136) dX4_undoOne_136 rfl (by first | exact h16 c119 c36 c44 | exact absurd c119 c32) ?_
              refine ab_goto (pc := 137) 211 dX4_undoOne_137 (by decide) ?_
              exact ab_retv (pc := 211) dX4_undoOne_211 rfl ⟨rfl, (by rw [m_undo, if_neg (by first | exact fun q => c32 q.1 | exact fun q => q.2.elim c36 (fun z => z c44)), m_undoB, if_neg c70, if_neg c96, if_pos c119])⟩
          · refine ab_aload_n (pc := 99) dX4_undoOne_99 rfl rfl ?_
            refine ab_getr (pc := 100) dX4_undoOne_100 fX4_22 rfl rfl ?_
            refine ab_iload_n (pc := 103) dX4_undoOne_103 rfl rfl ?_
            refine ab_aload_n (pc := 104) dX4_undoOne_104 rfl rfl ?_
            refine ab_getr (pc := 105) dX4_undoOne_105 fX4_59 rfl rfl ?_
            refine ab_aload_n (pc := 108) dX4_undoOne_108 rfl rfl ?_
            refine ab_geti (pc := 109) dX4_undoOne_109 fX4_130 rfl rfl ?_
            refine ab_topi (by (try simp only [ab_rd, ab_rdA, Nat.reduceEqDiff, reduceIte, hc]); exact rfl) ?_
            refine ab_iald (pc := 112) dX4_undoOne_112 rfl hin ?_
            refine ab_topi (by (try simp only [ab_rd, ab_rdA, Nat.reduceEqDiff, reduceIte, hc]); exact rfl) ?_
            refine ab_iast (pc := 113) dX4_undoOne_113 rfl (h8 (Or.inr (by assumption))) ?_
            refine ab_goto (pc := 114) 211 dX4_undoOne_114 (by decide) ?_
            exact ab_retv (pc := 211) dX4_undoOne_211 rfl ⟨rfl, (by rw [m_undo, if_neg (by first | exact fun q => c32 q.1 | exact fun q => q.2.elim c36 (fun z => z c44)), m_undoB, if_neg c70, if_pos c96])⟩
        · refine ab_aload_n (pc := 73) dX4_undoOne_73 rfl rfl ?_
          refine ab_getr (pc := 74) dX4_undoOne_74 fX4_22 rfl rfl ?_
          refine ab_iload_n (pc := 77) dX4_undoOne_77 rfl rfl ?_
          refine ab_dup2 (pc := 78) dX4_undoOne_78 rfl rfl ?_
          refine ab_iald (pc := 79) dX4_undoOne_79 rfl (h8 (Or.inl (by assumption))) ?_
          refine ab_topi (by (try simp only [ab_rd, ab_rdA, Nat.reduceEqDiff, reduceIte, hc]); exact rfl) ?_
          refine ab_aload_n (pc := 80) dX4_undoOne_80 rfl rfl ?_
          refine ab_getr (pc := 81) dX4_undoOne_81 fX4_59 rfl rfl ?_
          refine ab_aload_n (pc := 84) dX4_undoOne_84 rfl rfl ?_
          refine ab_geti (pc := 85) dX4_undoOne_85 fX4_130 rfl rfl ?_
          refine ab_topi (by (try simp only [ab_rd, ab_rdA, Nat.reduceEqDiff, reduceIte, hc]); exact rfl) ?_
          refine ab_iald (pc := 88) dX4_undoOne_88 rfl hin ?_
          refine ab_topi (by (try simp only [ab_rd, ab_rdA, Nat.reduceEqDiff, reduceIte, hc]); exact rfl) ?_
          refine ab_isub (pc := 89) dX4_undoOne_89 ?_
          refine ab_iast (pc := 90) dX4_undoOne_90 rfl (h8 (Or.inl (by assumption))) ?_
          refine ab_goto (pc := 91) 211 dX4_undoOne_91 (by decide) ?_
          exact ab_retv (pc := 211) dX4_undoOne_211 rfl ⟨rfl, (by rw [m_undo, if_neg (by first | exact fun q => c32 q.1 | exact fun q => q.2.elim c36 (fun z => z c44)), m_undoB, if_pos c70])⟩
      · refine ab_aload_n (pc := 47) dX4_undoOne_47 rfl rfl ?_
        refine ab_dup (pc := 48) dX4_undoOne_48 rfl ?_
        refine ab_geti (pc := 49) dX4_undoOne_49 fX4_133 rfl rfl ?_
        refine ab_topi (by (try simp only [ab_rd, ab_rdA, Nat.reduceEqDiff, reduceIte, hc]); exact rfl) ?_
        refine ab_iconst (pc := 52) (v := 1) dX4_undoOne_52 (by decide) ?_
        refine ab_iadd (pc := 53) dX4_undoOne_53 ?_
        refine ab_puti (pc := 54) dX4_undoOne_54 fwX4_133 rfl rfl ?_
        exact ab_retv (pc := 57) dX4_undoOne_57 rfl ⟨rfl, (by rw [m_undo, if_pos ⟨c32, by first | exact Or.inl c36 | exact Or.inr c44⟩])⟩

set_option maxRecDepth 100000 in
set_option maxHeartbeats 4000000 in
theorem lpX4_makes {l : Launch} {d : Nat} {h : ab_H} {P : Int32 → ab_H → Prop} (hP : P 0 (ab_upA h 6 (m_z (h 6) 16))) : ∀ (n : Nat) (k : Nat), k ≤ 16 → 16 < k + n → ab_J l layM mX4_makes (d + 1) (ab_qi P) 40 [(0, ab_R 0), (2, ab_I (nI k))] [] (ab_upA h 6 (m_z (h 6) k)) := by
  intro n
  induction n with
  | zero =>
    intro k hk hn
    omega
  | succ n ih =>
    intro k hk hn
    refine ab_iload_n (pc := 40) dX4_makes_40 rfl rfl ?_
    refine ab_bipush (pc := 41) (v := 16) dX4_makes_41 (by decide) ?_
    refine ab_icmp_ge (pc := 43) 59 dX4_makes_43 (by decide) (fun c43 => ?_) (fun c43 => ?_)
    · obtain rfl := m_ge16 hk (by assumption)
      refine ab_iconst (pc := 59) (v := 0) dX4_makes_59 (by decide) ?_
      exact ab_reti (pc := 60) dX4_makes_60 rfl ⟨_, rfl, hP⟩
    · have hk2 := m_lt16 hk (by assumption)
      refine ab_aload_n (pc := 46) dX4_makes_46 rfl rfl ?_
      refine ab_getr (pc := 47) dX4_makes_47 fX4_25 rfl rfl ?_
      refine ab_iload_n (pc := 50) dX4_makes_50 rfl rfl ?_
      refine ab_iconst (pc := 51) (v := 0) dX4_makes_51 (by decide) ?_
      refine ab_iast (pc := 52) dX4_makes_52 rfl (vp_in_nI hk2 (by omega)) ?_
      refine ab_iinc (pc := 53) (v := 1) dX4_makes_53 rfl (by decide) rfl ?_
      refine ab_goto (pc := 56) 40 dX4_makes_56 (by decide) ?_
      refine ab_weak [(0, ab_R 0), (2, ab_I (nI k + 1))] ⟨rfl, rfl, trivial⟩ ?_
      rw [nI_1]
      exact ab_heq (m_mz_s hk2) (ih (k + 1) (by omega) (by omega))

set_option maxRecDepth 100000 in
set_option maxHeartbeats 4000000 in
theorem kX4_makes {l : Launch} {d : Nat} {h : ab_H} {u : Nat} {n : Int32} (hu : h 0 28 = nI u) (hu2 : u < 70) : ab_C l layM (d + 1) mX4_makes [ab_R 0, ab_I n] h (ab_qi fun r h' => r = m_makesR n ∧ h' = m_makes h n) := by
  refine ab_enter (by decide) (Nat.le_of_ble_eq_true rfl) ?_
  refine ab_iload_n (pc := 0) dX4_makes_0 rfl rfl ?_
  refine ab_if_ge (pc := 1) 10 dX4_makes_1 (by decide) (fun c1 => ?_) (fun c1 => ?_)
  · refine ab_iload_n (pc := 10) dX4_makes_10 rfl rfl ?_
    refine ab_bipush (pc := 11) (v := 16) dX4_makes_11 (by decide) ?_
    refine ab_icmp_le (pc := 13) 22 dX4_makes_13 (by decide) (fun c13 => ?_) (fun c13 => ?_)
    · refine ab_aload_n (pc := 22) dX4_makes_22 rfl rfl ?_
      refine ab_bipush (pc := 23) (v := 6) dX4_makes_23 (by decide) ?_
      refine ab_iconst (pc := 25) (v := 0) dX4_makes_25 (by decide) ?_
      refine ab_aload_n (pc := 26) dX4_makes_26 rfl rfl ?_
      refine ab_geti (pc := 27) dX4_makes_27 fX4_28 rfl rfl ?_
      refine ab_V3 (pc := 30) dX4_makes_30 mvX4_151 rfl rfl (kX4_remember (by assumption) (by assumption)) (ab_kv fun h30 e30 => ?_)
      obtain rfl := e30.symm
      refine ab_aload_n (pc := 33) dX4_makes_33 rfl rfl ?_
      refine ab_iload_n (pc := 34) dX4_makes_34 rfl rfl ?_
      refine ab_puti (pc := 35) dX4_makes_35 fwX4_28 rfl rfl ?_
      refine ab_iconst (pc := 38) (v := 0) dX4_makes_38 (by decide) ?_
      refine ab_istore_n (pc := 39) dX4_makes_39 rfl rfl ?_
      refine ab_weak [(0, ab_R 0), (2, ab_I (nI 0))] ⟨rfl, rfl, trivial⟩ ?_
      refine ab_heq ?_ (lpX4_makes (h := ab_up (m_rem h 6 0 (h 0 7)) 0 7 n) ?_ 17 0 (by omega) (by omega))
      · rw [m_z_0, ab_upA_0]
      · exact ⟨by rw [m_makesR, if_pos c1, if_pos c13], by rw [m_makes, if_pos c1, if_pos c13]; rfl⟩
    · refine ab_aload_n (pc := 16) dX4_makes_16 rfl rfl ?_
      refine ab_iconst (pc := 17) (v := 4) dX4_makes_17 (by decide) ?_
      refine ab_V1 (pc := 18) dX4_makes_18 mvX4_155 rfl rfl (kX4_fails) (ab_ki fun r18 h18 e18 => ?_)
      obtain ⟨rfl, rfl⟩ := And.intro e18.1.symm e18.2.symm
      exact ab_reti (pc := 21) dX4_makes_21 rfl ⟨_, rfl, ⟨by rw [m_makesR, if_pos c1, if_neg c13], by rw [m_makes, if_pos c1, if_neg c13]⟩⟩
  · refine ab_aload_n (pc := 4) dX4_makes_4 rfl rfl ?_
    refine ab_iconst (pc := 5) (v := 3) dX4_makes_5 (by decide) ?_
    refine ab_V1 (pc := 6) dX4_makes_6 mvX4_155 rfl rfl (kX4_fails) (ab_ki fun r6 h6 e6 => ?_)
    obtain ⟨rfl, rfl⟩ := And.intro e6.1.symm e6.2.symm
    exact ab_reti (pc := 9) dX4_makes_9 rfl ⟨_, rfl, ⟨by rw [m_makesR, if_neg c1], by rw [m_makes, if_neg c1]⟩⟩

theorem m_onRow_f {h : ab_H} {s a b : Int32} (c1 : ¬ m_rowI h s a b < 0) (c2 : m_rowI h s a b < h 0 7) : m_rowOut h s a b = false := by
  simp only [m_rowOut, c1, c2]
  rfl
theorem m_onRow_t {h : ab_H} {s a b : Int32} (e : m_rowI h s a b < 0 ∨ ¬ m_rowI h s a b < h 0 7) : 1 = b2i (m_rowOut h s a b) ∧ ab_up h 0 21 2 = m_onRow h s a b := by
  have e2 : m_rowOut h s a b = true := by
    rcases e with e | e
    · simp only [m_rowOut, e, decide_true, Bool.true_or]
    · simp only [m_rowOut, e, not_false_eq_true, decide_true, Bool.or_true]
  exact ⟨by rw [e2]; rfl, by rw [m_onRow, if_pos e2]⟩
set_option maxRecDepth 100000 in
set_option maxHeartbeats 4000000 in
theorem kX4_onRow {l : Launch} {d : Nat} {h : ab_H} {u : Nat} {s a b : Int32} (hu : h 0 28 = nI u) (hu2 : u < 70) (ha : vp_in a 8) (hb : vp_in b 8) (hp : ∀ i : Int32, ¬ i < 0 → i < h 0 7 → vp_in i 16) : ab_C l layM (d + 1) mX4_onRow [ab_R 0, ab_I s, ab_I a, ab_I b] h (ab_qi fun r h' => r = b2i (m_rowOut h s a b) ∧ h' = m_onRow h s a b) := by
  refine ab_enter (by decide) (Nat.le_of_ble_eq_true rfl) ?_
  refine ab_aload_n (pc := 0) dX4_onRow_0 rfl rfl ?_
  refine ab_getr (pc := 1) dX4_onRow_1 fX4_22 rfl rfl ?_
  refine ab_iload_n (pc := 4) dX4_onRow_4 rfl rfl ?_
  refine ab_iconst (pc := 5) (v := 4) dX4_onRow_5 (by decide) ?_
  refine ab_icmp_ne (pc := 6) 13 dX4_onRow_6 (by decide) (fun c6 => ?_) (fun c6 => ?_)
  · refine ab_iload_n (pc := 13) dX4_onRow_13 rfl rfl ?_
    refine ab_iald (pc := 14) dX4_onRow_14 rfl (by assumption) ?_
    refine ab_topi (y := m_rowI h s a b) (by first | rw [m_rowI, if_pos c6] | rw [m_rowI, if_neg c6]) ?_
    refine ab_istore (pc := 15) dX4_onRow_15 rfl ?_
    refine ab_iload (pc := 17) dX4_onRow_17 rfl ?_
    refine ab_if_lt (pc := 19) 31 dX4_onRow_19 (by decide) (fun c19 => ?_) (fun c19 => ?_)
    · refine ab_aload_n (pc := 31) dX4_onRow_31 rfl rfl ?_
      refine ab_iconst (pc := 32) (v := 2) dX4_onRow_32 (by decide) ?_
      refine ab_V1 (pc := 33) dX4_onRow_33 mvX4_155 rfl rfl (kX4_fails) (ab_ki fun r33 h33 e33 => ?_)
      obtain ⟨rfl, rfl⟩ := And.intro e33.1.symm e33.2.symm
      exact ab_reti (pc := 36) dX4_onRow_36 rfl ⟨_, rfl, (m_onRow_t (by first | exact Or.inl c19 | exact Or.inr c28))⟩
    · refine ab_iload (pc := 22) dX4_onRow_22 rfl ?_
      refine ab_aload_n (pc := 24) dX4_onRow_24 rfl rfl ?_
      refine ab_geti (pc := 25) dX4_onRow_25 fX4_28 rfl rfl ?_
      refine ab_icmp_lt (pc := 28) 37 dX4_onRow_28 (by decide) (fun c28 => ?_) (fun c28 => ?_)
      · refine ab_iload_n (pc := 37) dX4_onRow_37 rfl rfl ?_
        refine ab_iconst (pc := 38) (v := 4) dX4_onRow_38 (by decide) ?_
        refine ab_icmp_ne (pc := 39) 57 dX4_onRow_39 (by decide) (fun c39 => ?_) (fun c39 => ?_)
        · refine ab_aload_n (pc := 57) dX4_onRow_57 rfl rfl ?_
          refine ab_iconst (pc := 58) (v := 5) dX4_onRow_58 (by decide) ?_
          refine ab_iload (pc := 59) dX4_onRow_59 rfl ?_
          refine ab_aload_n (pc := 61) dX4_onRow_61 rfl rfl ?_
          refine ab_getr (pc := 62) dX4_onRow_62 fX4_25 rfl rfl ?_
          refine ab_iload (pc := 65) dX4_onRow_65 rfl ?_
          refine ab_iald (pc := 67) dX4_onRow_67 rfl (hp _ c19 c28) ?_
          refine ab_V3 (pc := 68) dX4_onRow_68 mvX4_151 rfl rfl (kX4_remember (by assumption) (by assumption)) (ab_kv fun h68 e68 => ?_)
          obtain rfl := e68.symm
          refine ab_aload_n (pc := 71) dX4_onRow_71 rfl rfl ?_
          refine ab_getr (pc := 72) dX4_onRow_72 fX4_25 rfl rfl ?_
          refine ab_iload (pc := 75) dX4_onRow_75 rfl ?_
          refine ab_aload_n (pc := 77) dX4_onRow_77 rfl rfl ?_
          refine ab_getr (pc := 78) dX4_onRow_78 fX4_22 rfl rfl ?_
          refine ab_iload_n (pc := 81) dX4_onRow_81 rfl rfl ?_
          refine ab_iald (pc := 82) dX4_onRow_82 rfl hb ?_
          refine ab_topi (by (try simp only [ab_rd, ab_rdA, Nat.reduceEqDiff, reduceIte]); exact rfl) ?_
          refine ab_iast (pc := 83) dX4_onRow_83 rfl (hp _ c19 c28) ?_
          refine ab_iconst (pc := 84) (v := 0) dX4_onRow_84 (by decide) ?_
          exact ab_reti (pc := 85) dX4_onRow_85 rfl ⟨_, rfl, ⟨by rw [m_onRow_f c19 c28]; rfl, by rw [m_onRow, m_onRow_f c19 c28, if_neg (by decide), if_neg c39]⟩⟩
        · refine ab_aload_n (pc := 42) dX4_onRow_42 rfl rfl ?_
          refine ab_getr (pc := 43) dX4_onRow_43 fX4_22 rfl rfl ?_
          refine ab_iload_n (pc := 46) dX4_onRow_46 rfl rfl ?_
          refine ab_aload_n (pc := 47) dX4_onRow_47 rfl rfl ?_
          refine ab_getr (pc := 48) dX4_onRow_48 fX4_25 rfl rfl ?_
          refine ab_iload (pc := 51) dX4_onRow_51 rfl ?_
          refine ab_iald (pc := 53) dX4_onRow_53 rfl (hp _ c19 c28) ?_
          refine ab_iast (pc := 54) dX4_onRow_54 rfl ha ?_
          refine ab_iconst (pc := 55) (v := 0) dX4_onRow_55 (by decide) ?_
          exact ab_reti (pc := 56) dX4_onRow_56 rfl ⟨_, rfl, ⟨by rw [m_onRow_f c19 c28]; rfl, by rw [m_onRow, m_onRow_f c19 c28, if_neg (by decide), if_pos c39]⟩⟩
      · refine ab_aload_n (pc := 31) dX4_onRow_31 rfl rfl ?_
        refine ab_iconst (pc := 32) (v := 2) dX4_onRow_32 (by decide) ?_
        refine ab_V1 (pc := 33) dX4_onRow_33 mvX4_155 rfl rfl (kX4_fails) (ab_ki fun r33 h33 e33 => ?_)
        obtain ⟨rfl, rfl⟩ := And.intro e33.1.symm e33.2.symm
        exact ab_reti (pc := 36) dX4_onRow_36 rfl ⟨_, rfl, (m_onRow_t (by first | exact Or.inl c19 | exact Or.inr c28))⟩
  · refine ab_iload_n (pc := 9) dX4_onRow_9 rfl rfl ?_
    refine ab_goto (pc := 10) 14 dX4_onRow_10 (by decide) ?_
    refine ab_iald (pc := 14) dX4_onRow_14 rfl (by assumption) ?_
    refine ab_topi (y := m_rowI h s a b) (by first | rw [m_rowI, if_pos c6] | rw [m_rowI, if_neg c6]) ?_
    refine ab_istore (pc := 15) dX4_onRow_15 rfl ?_
    refine ab_iload (pc := 17) dX4_onRow_17 rfl ?_
    refine ab_if_lt (pc := 19) 31 dX4_onRow_19 (by decide) (fun c19 => ?_) (fun c19 => ?_)
    · refine ab_aload_n (pc := 31) dX4_onRow_31 rfl rfl ?_
      refine ab_iconst (pc := 32) (v := 2) dX4_onRow_32 (by decide) ?_
      refine ab_V1 (pc := 33) dX4_onRow_33 mvX4_155 rfl rfl (kX4_fails) (ab_ki fun r33 h33 e33 => ?_)
      obtain ⟨rfl, rfl⟩ := And.intro e33.1.symm e33.2.symm
      exact ab_reti (pc := 36) dX4_onRow_36 rfl ⟨_, rfl, (m_onRow_t (by first | exact Or.inl c19 | exact Or.inr c28))⟩
    · refine ab_iload (pc := 22) dX4_onRow_22 rfl ?_
      refine ab_aload_n (pc := 24) dX4_onRow_24 rfl rfl ?_
      refine ab_geti (pc := 25) dX4_onRow_25 fX4_28 rfl rfl ?_
      refine ab_icmp_lt (pc := 28) 37 dX4_onRow_28 (by decide) (fun c28 => ?_) (fun c28 => ?_)
      · refine ab_iload_n (pc := 37) dX4_onRow_37 rfl rfl ?_
        refine ab_iconst (pc := 38) (v := 4) dX4_onRow_38 (by decide) ?_
        refine ab_icmp_ne (pc := 39) 57 dX4_onRow_39 (by decide) (fun c39 => ?_) (fun c39 => ?_)
        · refine ab_aload_n (pc := 57) dX4_onRow_57 rfl rfl ?_
          refine ab_iconst (pc := 58) (v := 5) dX4_onRow_58 (by decide) ?_
          refine ab_iload (pc := 59) dX4_onRow_59 rfl ?_
          refine ab_aload_n (pc := 61) dX4_onRow_61 rfl rfl ?_
          refine ab_getr (pc := 62) dX4_onRow_62 fX4_25 rfl rfl ?_
          refine ab_iload (pc := 65) dX4_onRow_65 rfl ?_
          refine ab_iald (pc := 67) dX4_onRow_67 rfl (hp _ c19 c28) ?_
          refine ab_V3 (pc := 68) dX4_onRow_68 mvX4_151 rfl rfl (kX4_remember (by assumption) (by assumption)) (ab_kv fun h68 e68 => ?_)
          obtain rfl := e68.symm
          refine ab_aload_n (pc := 71) dX4_onRow_71 rfl rfl ?_
          refine ab_getr (pc := 72) dX4_onRow_72 fX4_25 rfl rfl ?_
          refine ab_iload (pc := 75) dX4_onRow_75 rfl ?_
          refine ab_aload_n (pc := 77) dX4_onRow_77 rfl rfl ?_
          refine ab_getr (pc := 78) dX4_onRow_78 fX4_22 rfl rfl ?_
          refine ab_iload_n (pc := 81) dX4_onRow_81 rfl rfl ?_
          refine ab_iald (pc := 82) dX4_onRow_82 rfl hb ?_
          refine ab_topi (by (try simp only [ab_rd, ab_rdA, Nat.reduceEqDiff, reduceIte]); exact rfl) ?_
          refine ab_iast (pc := 83) dX4_onRow_83 rfl (hp _ c19 c28) ?_
          refine ab_iconst (pc := 84) (v := 0) dX4_onRow_84 (by decide) ?_
          exact ab_reti (pc := 85) dX4_onRow_85 rfl ⟨_, rfl, ⟨by rw [m_onRow_f c19 c28]; rfl, by rw [m_onRow, m_onRow_f c19 c28, if_neg (by decide), if_neg c39]⟩⟩
        · refine ab_aload_n (pc := 42) dX4_onRow_42 rfl rfl ?_
          refine ab_getr (pc := 43) dX4_onRow_43 fX4_22 rfl rfl ?_
          refine ab_iload_n (pc := 46) dX4_onRow_46 rfl rfl ?_
          refine ab_aload_n (pc := 47) dX4_onRow_47 rfl rfl ?_
          refine ab_getr (pc := 48) dX4_onRow_48 fX4_25 rfl rfl ?_
          refine ab_iload (pc := 51) dX4_onRow_51 rfl ?_
          refine ab_iald (pc := 53) dX4_onRow_53 rfl (hp _ c19 c28) ?_
          refine ab_iast (pc := 54) dX4_onRow_54 rfl ha ?_
          refine ab_iconst (pc := 55) (v := 0) dX4_onRow_55 (by decide) ?_
          exact ab_reti (pc := 56) dX4_onRow_56 rfl ⟨_, rfl, ⟨by rw [m_onRow_f c19 c28]; rfl, by rw [m_onRow, m_onRow_f c19 c28, if_neg (by decide), if_pos c39]⟩⟩
      · refine ab_aload_n (pc := 31) dX4_onRow_31 rfl rfl ?_
        refine ab_iconst (pc := 32) (v := 2) dX4_onRow_32 (by decide) ?_
        refine ab_V1 (pc := 33) dX4_onRow_33 mvX4_155 rfl rfl (kX4_fails) (ab_ki fun r33 h33 e33 => ?_)
        obtain ⟨rfl, rfl⟩ := And.intro e33.1.symm e33.2.symm
        exact ab_reti (pc := 36) dX4_onRow_36 rfl ⟨_, rfl, (m_onRow_t (by first | exact Or.inl c19 | exact Or.inr c28))⟩

set_option maxRecDepth 100000 in
set_option maxHeartbeats 4000000 in
theorem kX4_uses {l : Launch} {d : Nat} {h : ab_H} {x : Int32} (hx : ¬ x = 0 → vp_in x 80) (hlg : ¬ h 0 15 = 100 → vp_in (h 0 15) 100) : ab_C l layM (d + 1) mX4_uses [ab_R 0, ab_I x] h (ab_qi fun r h' => r = m_usesR h x ∧ h' = m_uses h x) := by
  refine ab_enter (by decide) (Nat.le_of_ble_eq_true rfl) ?_
  refine ab_iload_n (pc := 0) dX4_uses_0 rfl rfl ?_
  refine ab_if_ne (pc := 1) 10 dX4_uses_1 (by decide) (fun c1 => ?_) (fun c1 => ?_)
  · refine ab_aload_n (pc := 10) dX4_uses_10 rfl rfl ?_
    refine ab_getr (pc := 11) dX4_uses_11 fX4_35 rfl rfl ?_
    refine ab_iload_n (pc := 14) dX4_uses_14 rfl rfl ?_
    refine ab_iald (pc := 15) dX4_uses_15 rfl (hx c1) ?_
    refine ab_iconst (pc := 16) (v := 2) dX4_uses_16 (by decide) ?_
    refine ab_icmp_ne (pc := 17) 27 dX4_uses_17 (by decide) (fun c17 => ?_) (fun c17 => ?_)
    · refine ab_aload_n (pc := 27) dX4_uses_27 rfl rfl ?_
      refine ab_getr (pc := 28) dX4_uses_28 fX4_38 rfl rfl ?_
      refine ab_iload_n (pc := 31) dX4_uses_31 rfl rfl ?_
      refine ab_dup2 (pc := 32) dX4_uses_32 rfl rfl ?_
      refine ab_iald (pc := 33) dX4_uses_33 rfl (hx c1) ?_
      refine ab_iconst (pc := 34) (v := 1) dX4_uses_34 (by decide) ?_
      refine ab_iadd (pc := 35) dX4_uses_35 ?_
      refine ab_iast (pc := 36) dX4_uses_36 rfl (hx c1) ?_
      refine ab_aload_n (pc := 37) dX4_uses_37 rfl rfl ?_
      refine ab_aload_n (pc := 38) dX4_uses_38 rfl rfl ?_
      refine ab_getr (pc := 39) dX4_uses_39 fX4_38 rfl rfl ?_
      refine ab_iload_n (pc := 42) dX4_uses_42 rfl rfl ?_
      refine ab_iald (pc := 43) dX4_uses_43 rfl (hx c1) ?_
      refine ab_topi (by (try simp only [ab_rd, ab_rdA, Nat.reduceEqDiff, reduceIte]); exact rfl) ?_
      refine ab_V1 (pc := 44) dX4_uses_44 mvX4_148 rfl rfl (kX4_note hlg) (ab_kv fun h44 e44 => ?_)
      obtain rfl := e44.symm
      refine ab_iconst (pc := 47) (v := 0) dX4_uses_47 (by decide) ?_
      exact ab_reti (pc := 48) dX4_uses_48 rfl ⟨_, rfl, ⟨by rw [m_usesR, if_neg c1, if_neg c17], by rw [m_uses, if_neg c1, if_neg c17]⟩⟩
    · refine ab_aload_n (pc := 20) dX4_uses_20 rfl rfl ?_
      refine ab_bipush (pc := 21) (v := 6) dX4_uses_21 (by decide) ?_
      refine ab_V1 (pc := 23) dX4_uses_23 mvX4_155 rfl rfl (kX4_fails) (ab_ki fun r23 h23 e23 => ?_)
      obtain ⟨rfl, rfl⟩ := And.intro e23.1.symm e23.2.symm
      exact ab_reti (pc := 26) dX4_uses_26 rfl ⟨_, rfl, ⟨by rw [m_usesR, if_neg c1, if_pos c17], by rw [m_uses, if_neg c1, if_pos c17]⟩⟩
  · refine ab_aload_n (pc := 4) dX4_uses_4 rfl rfl ?_
    refine ab_iconst (pc := 5) (v := 5) dX4_uses_5 (by decide) ?_
    refine ab_V1 (pc := 6) dX4_uses_6 mvX4_155 rfl rfl (kX4_fails) (ab_ki fun r6 h6 e6 => ?_)
    obtain ⟨rfl, rfl⟩ := And.intro e6.1.symm e6.2.symm
    exact ab_reti (pc := 9) dX4_uses_9 rfl ⟨_, rfl, ⟨by rw [m_usesR, if_pos c1], by rw [m_uses, if_pos c1]⟩⟩

/-- what a plain step answers: the way -/
def m_plainR (h : ab_H) (s a b : Int32) : Int32 :=
  if s = 3 then (if h 5 b.toNatClampNeg = 0 then 1 else 0) else if s = 4 then b2i (m_rowOut h s a b) else if s = 5 then b2i (m_rowOut h s a b)
  else if s = 6 then m_makesR (h 5 a.toNatClampNeg) else if s = 8 then m_usesR h (h 7 a.toNatClampNeg) else if s = 9 then 1
  else if s = 17 then 100 + b else if s = 18 then 200 + b else if s = 19 then 2 else 0
def m_plain (h : ab_H) (s a b : Int32) : ab_H :=
  if s = 0 then m_note h (h 5 a.toNatClampNeg)
  else if s = 1 then m_rem (ab_up h 5 a.toNatClampNeg (h 5 a.toNatClampNeg + b)) 1 a b
  else if s = 2 then ab_up (m_rem h 2 a (h 5 a.toNatClampNeg)) 5 a.toNatClampNeg b
  else if s = 3 then (if h 5 b.toNatClampNeg = 0 then ab_up h 0 21 1 else ab_up (m_rem h 2 a (h 5 a.toNatClampNeg)) 5 a.toNatClampNeg (m_rem h 2 a (h 5 a.toNatClampNeg) 5 a.toNatClampNeg / m_rem h 2 a (h 5 a.toNatClampNeg) 5 b.toNatClampNeg))
  else if s = 4 then m_onRow h s a b else if s = 5 then m_onRow h s a b
  else if s = 6 then m_makes h (h 5 a.toNatClampNeg)
  else if s = 7 then (if b = 0 then ab_up (m_rem h 7 a (h 7 a.toNatClampNeg)) 7 a.toNatClampNeg 0 else ab_up (m_boxH (m_rem h 7 a (h 7 a.toNatClampNeg)) b) 7 a.toNatClampNeg (m_rem h 7 a (h 7 a.toNatClampNeg) 0 13 + 1 - 1))
  else if s = 8 then m_uses h (h 7 a.toNatClampNeg)
  else if s = 9 then ab_up h 0 21 b
  else if s = 19 then ab_up h 0 22 (h 5 a.toNatClampNeg)
  else if s = 23 then (if h 0 30 ≤ 0 then h else ab_up h 0 28 (h 17 (h 0 30 - 1).toNatClampNeg))
  else h
theorem m_rem_5 (h : ab_H) (s a w : Int32) : m_rem h s a w 5 = h 5 := by
  unfold m_rem
  split
  · rfl
  · split <;> rfl
theorem m_rem_013 (h : ab_H) (s a w : Int32) : m_rem h s a w 0 13 = h 0 13 := by
  unfold m_rem
  split
  · rfl
  · split <;> rfl
set_option maxRecDepth 100000 in
set_option maxHeartbeats 4000000 in
theorem kX4_plain {l : Launch} {d : Nat} {h : ab_H} {u : Nat} {s a b : Int32} (hu : h 0 28 = nI u) (hu2 : u < 70) (hA : s = 0 ∨ s = 1 ∨ s = 2 ∨ s = 3 ∨ s = 4 ∨ s = 5 ∨ s = 6 ∨ s = 19 → vp_in a 8) (hB : s = 3 ∨ s = 4 ∨ s = 5 → vp_in b 8) (hS : s = 7 ∨ s = 8 → vp_in a 4) (hlg : ¬ h 0 15 = 100 → vp_in (h 0 15) 100) (hp : ∀ i : Int32, ¬ i < 0 → i < h 0 7 → vp_in i 16) (hbx : vp_in (h 0 13) 80) (hsl : s = 8 → vp_in (h 7 a.toNatClampNeg) 80) (hmk : ¬ h 0 30 ≤ 0 → vp_in (h 0 30 - 1) 70) : ab_C l layM (d + 2) mX4_plain [ab_R 0, ab_I s, ab_I a, ab_I b] h (ab_qi fun r h' => r = m_plainR h s a b ∧ h' = m_plain h s a b) := by
  refine ab_enter (by decide) (Nat.le_of_ble_eq_true rfl) ?_
  refine ab_iload_n (pc := 0) dX4_plain_0 rfl rfl ?_
  refine ab_table (pc := 1) dX4_plain_1 (by decide) (by decide) (by decide) (by decide) ?_
  refine ab_tw_c 0 112 (by decide) (by decide) (fun s1 => ?_) (fun n1_0 => ?_)
  · refine ab_aload_n (pc := 112) dX4_plain_112 rfl rfl ?_
    refine ab_aload_n (pc := 113) dX4_plain_113 rfl rfl ?_
    refine ab_getr (pc := 114) dX4_plain_114 fX4_22 rfl rfl ?_
    refine ab_iload_n (pc := 117) dX4_plain_117 rfl rfl ?_
    refine ab_iald (pc := 118) dX4_plain_118 rfl (hA (by simp only [s1]; decide)) ?_
    refine ab_V1 (pc := 119) dX4_plain_119 mvX4_148 rfl rfl (kX4_note hlg) (ab_kv fun h119 e119 => ?_)
    obtain rfl := e119.symm
    refine ab_iconst (pc := 122) (v := 0) dX4_plain_122 (by decide) ?_
    exact ab_reti (pc := 123) dX4_plain_123 rfl ⟨_, rfl, ⟨by rw [m_plainR, if_neg (show ¬ s = 3 by rw [s1]; decide), if_neg (show ¬ s = 4 by rw [s1]; decide), if_neg (show ¬ s = 5 by rw [s1]; decide), if_neg (show ¬ s = 6 by rw [s1]; decide), if_neg (show ¬ s = 8 by rw [s1]; decide), if_neg (show ¬ s = 9 by rw [s1]; decide), if_neg (show ¬ s = 17 by rw [s1]; decide), if_neg (show ¬ s = 18 by rw [s1]; decide), if_neg (show ¬ s = 19 by rw [s1]; decide)], by rw [m_plain, if_pos s1]⟩⟩
  refine ab_tw_c 1 124 (by decide) (by decide) (fun s1 => ?_) (fun n1_1 => ?_)
  · refine ab_aload_n (pc := 124) dX4_plain_124 rfl rfl ?_
    refine ab_getr (pc := 125) dX4_plain_125 fX4_22 rfl rfl ?_
    refine ab_iload_n (pc := 128) dX4_plain_128 rfl rfl ?_
    refine ab_dup2 (pc := 129) dX4_plain_129 rfl rfl ?_
    refine ab_iald (pc := 130) dX4_plain_130 rfl (hA (by simp only [s1]; decide)) ?_
    refine ab_iload_n (pc := 131) dX4_plain_131 rfl rfl ?_
    refine ab_iadd (pc := 132) dX4_plain_132 ?_
    refine ab_iast (pc := 133) dX4_plain_133 rfl (hA (by simp only [s1]; decide)) ?_
    refine ab_aload_n (pc := 134) dX4_plain_134 rfl rfl ?_
    refine ab_iconst (pc := 135) (v := 1) dX4_plain_135 (by decide) ?_
    refine ab_iload_n (pc := 136) dX4_plain_136 rfl rfl ?_
    refine ab_iload_n (pc := 137) dX4_plain_137 rfl rfl ?_
    refine ab_V3 (pc := 138) dX4_plain_138 mvX4_151 rfl rfl (kX4_remember (u := u) hu hu2) (ab_kv fun h138 e138 => ?_)
    obtain rfl := e138.symm
    refine ab_iconst (pc := 141) (v := 0) dX4_plain_141 (by decide) ?_
    exact ab_reti (pc := 142) dX4_plain_142 rfl ⟨_, rfl, ⟨by rw [m_plainR, if_neg (show ¬ s = 3 by rw [s1]; decide), if_neg (show ¬ s = 4 by rw [s1]; decide), if_neg (show ¬ s = 5 by rw [s1]; decide), if_neg (show ¬ s = 6 by rw [s1]; decide), if_neg (show ¬ s = 8 by rw [s1]; decide), if_neg (show ¬ s = 9 by rw [s1]; decide), if_neg (show ¬ s = 17 by rw [s1]; decide), if_neg (show ¬ s = 18 by rw [s1]; decide), if_neg (show ¬ s = 19 by rw [s1]; decide)], by rw [m_plain, if_neg n1_0, if_pos s1]⟩⟩
  refine ab_tw_c 2 143 (by decide) (by decide) (fun s1 => ?_) (fun n1_2 => ?_)
  · refine ab_aload_n (pc := 143) dX4_plain_143 rfl rfl ?_
    refine ab_iconst (pc := 144) (v := 2) dX4_plain_144 (by decide) ?_
    refine ab_iload_n (pc := 145) dX4_plain_145 rfl rfl ?_
    refine ab_aload_n (pc := 146) dX4_plain_146 rfl rfl ?_
    refine ab_getr (pc := 147) dX4_plain_147 fX4_22 rfl rfl ?_
    refine ab_iload_n (pc := 150) dX4_plain_150 rfl rfl ?_
    refine ab_iald (pc := 151) dX4_plain_151 rfl (hA (by simp only [s1]; decide)) ?_
    refine ab_V3 (pc := 152) dX4_plain_152 mvX4_151 rfl rfl (kX4_remember hu hu2) (ab_kv fun h152 e152 => ?_)
    obtain rfl := e152.symm
    refine ab_aload_n (pc := 155) dX4_plain_155 rfl rfl ?_
    refine ab_getr (pc := 156) dX4_plain_156 fX4_22 rfl rfl ?_
    refine ab_iload_n (pc := 159) dX4_plain_159 rfl rfl ?_
    refine ab_iload_n (pc := 160) dX4_plain_160 rfl rfl ?_
    refine ab_iast (pc := 161) dX4_plain_161 rfl (hA (by simp only [s1]; decide)) ?_
    refine ab_iconst (pc := 162) (v := 0) dX4_plain_162 (by decide) ?_
    exact ab_reti (pc := 163) dX4_plain_163 rfl ⟨_, rfl, ⟨by rw [m_plainR, if_neg (show ¬ s = 3 by rw [s1]; decide), if_neg (show ¬ s = 4 by rw [s1]; decide), if_neg (show ¬ s = 5 by rw [s1]; decide), if_neg (show ¬ s = 6 by rw [s1]; decide), if_neg (show ¬ s = 8 by rw [s1]; decide), if_neg (show ¬ s = 9 by rw [s1]; decide), if_neg (show ¬ s = 17 by rw [s1]; decide), if_neg (show ¬ s = 18 by rw [s1]; decide), if_neg (show ¬ s = 19 by rw [s1]; decide)], by rw [m_plain, if_neg n1_0, if_neg n1_1, if_pos s1]⟩⟩
  refine ab_tw_c 3 164 (by decide) (by decide) (fun s1 => ?_) (fun n1_3 => ?_)
  · refine ab_aload_n (pc := 164) dX4_plain_164 rfl rfl ?_
    refine ab_getr (pc := 165) dX4_plain_165 fX4_22 rfl rfl ?_
    refine ab_iload_n (pc := 168) dX4_plain_168 rfl rfl ?_
    refine ab_iald (pc := 169) dX4_plain_169 rfl (hB (by simp only [s1]; decide)) ?_
    refine ab_if_ne (pc := 170) 179 dX4_plain_170 (by decide) (fun c170 => ?_) (fun c170 => ?_)
    · refine ab_aload_n (pc := 179) dX4_plain_179 rfl rfl ?_
      refine ab_iconst (pc := 180) (v := 2) dX4_plain_180 (by decide) ?_
      refine ab_iload_n (pc := 181) dX4_plain_181 rfl rfl ?_
      refine ab_aload_n (pc := 182) dX4_plain_182 rfl rfl ?_
      refine ab_getr (pc := 183) dX4_plain_183 fX4_22 rfl rfl ?_
      refine ab_iload_n (pc := 186) dX4_plain_186 rfl rfl ?_
      refine ab_iald (pc := 187) dX4_plain_187 rfl (hA (by simp only [s1]; decide)) ?_
      refine ab_V3 (pc := 188) dX4_plain_188 mvX4_151 rfl rfl (kX4_remember hu hu2) (ab_kv fun h188 e188 => ?_)
      obtain rfl := e188.symm
      refine ab_aload_n (pc := 191) dX4_plain_191 rfl rfl ?_
      refine ab_getr (pc := 192) dX4_plain_192 fX4_22 rfl rfl ?_
      refine ab_iload_n (pc := 195) dX4_plain_195 rfl rfl ?_
      refine ab_aload_n (pc := 196) dX4_plain_196 rfl rfl ?_
      refine ab_getr (pc := 197) dX4_plain_197 fX4_22 rfl rfl ?_
      refine ab_iload_n (pc := 200) dX4_plain_200 rfl rfl ?_
      refine ab_iald (pc := 201) dX4_plain_201 rfl (hA (by simp only [s1]; decide)) ?_
      refine ab_topi (by (try simp only [ab_rd, ab_rdA, Nat.reduceEqDiff, reduceIte]); exact rfl) ?_
      refine ab_aload_n (pc := 202) dX4_plain_202 rfl rfl ?_
      refine ab_getr (pc := 203) dX4_plain_203 fX4_22 rfl rfl ?_
      refine ab_iload_n (pc := 206) dX4_plain_206 rfl rfl ?_
      refine ab_iald (pc := 207) dX4_plain_207 rfl (hB (by simp only [s1]; decide)) ?_
      refine ab_topi (by (try simp only [ab_rd, ab_rdA, Nat.reduceEqDiff, reduceIte]); exact rfl) ?_
      refine ab_idiv (pc := 208) dX4_plain_208 (by rw [m_rem_5]; exact c170) ?_
      refine ab_iast (pc := 209) dX4_plain_209 rfl (hA (by simp only [s1]; decide)) ?_
      refine ab_iconst (pc := 210) (v := 0) dX4_plain_210 (by decide) ?_
      exact ab_reti (pc := 211) dX4_plain_211 rfl ⟨_, rfl, ⟨by rw [m_plainR, if_pos s1, if_neg c170], by rw [m_plain, if_neg n1_0, if_neg n1_1, if_neg n1_2, if_pos s1, if_neg c170]⟩⟩
    · refine ab_aload_n (pc := 173) dX4_plain_173 rfl rfl ?_
      refine ab_iconst (pc := 174) (v := 1) dX4_plain_174 (by decide) ?_
      refine ab_V1 (pc := 175) dX4_plain_175 mvX4_155 rfl rfl (kX4_fails) (ab_ki fun r175 h175 e175 => ?_)
      obtain ⟨rfl, rfl⟩ := And.intro e175.1.symm e175.2.symm
      exact ab_reti (pc := 178) dX4_plain_178 rfl ⟨_, rfl, ⟨by rw [m_plainR, if_pos s1, if_pos c170], by rw [m_plain, if_neg n1_0, if_neg n1_1, if_neg n1_2, if_pos s1, if_pos c170]⟩⟩
  refine ab_tw_c 4 212 (by decide) (by decide) (fun s1 => ?_) (fun n1_4 => ?_)
  · refine ab_aload_n (pc := 212) dX4_plain_212 rfl rfl ?_
    refine ab_iload_n (pc := 213) dX4_plain_213 rfl rfl ?_
    refine ab_iload_n (pc := 214) dX4_plain_214 rfl rfl ?_
    refine ab_iload_n (pc := 215) dX4_plain_215 rfl rfl ?_
    refine ab_V3 (pc := 216) dX4_plain_216 mvX4_158 rfl rfl (kX4_onRow hu hu2 (hA (by simp only [s1]; decide)) (hB (by simp only [s1]; decide)) hp) (ab_ki fun r216 h216 e216 => ?_)
    obtain ⟨rfl, rfl⟩ := And.intro e216.1.symm e216.2.symm
    exact ab_reti (pc := 219) dX4_plain_219 rfl ⟨_, rfl, ⟨by simp [m_plainR, s1], by simp [m_plain, s1]⟩⟩
  refine ab_tw_c 5 212 (by decide) (by decide) (fun s1 => ?_) (fun n1_5 => ?_)
  · refine ab_aload_n (pc := 212) dX4_plain_212 rfl rfl ?_
    refine ab_iload_n (pc := 213) dX4_plain_213 rfl rfl ?_
    refine ab_iload_n (pc := 214) dX4_plain_214 rfl rfl ?_
    refine ab_iload_n (pc := 215) dX4_plain_215 rfl rfl ?_
    refine ab_V3 (pc := 216) dX4_plain_216 mvX4_158 rfl rfl (kX4_onRow hu hu2 (hA (by simp only [s1]; decide)) (hB (by simp only [s1]; decide)) hp) (ab_ki fun r216 h216 e216 => ?_)
    obtain ⟨rfl, rfl⟩ := And.intro e216.1.symm e216.2.symm
    exact ab_reti (pc := 219) dX4_plain_219 rfl ⟨_, rfl, ⟨by simp [m_plainR, s1], by simp [m_plain, s1]⟩⟩
  refine ab_tw_c 6 220 (by decide) (by decide) (fun s1 => ?_) (fun n1_6 => ?_)
  · refine ab_aload_n (pc := 220) dX4_plain_220 rfl rfl ?_
    refine ab_aload_n (pc := 221) dX4_plain_221 rfl rfl ?_
    refine ab_getr (pc := 222) dX4_plain_222 fX4_22 rfl rfl ?_
    refine ab_iload_n (pc := 225) dX4_plain_225 rfl rfl ?_
    refine ab_iald (pc := 226) dX4_plain_226 rfl (hA (by simp only [s1]; decide)) ?_
    refine ab_V1 (pc := 227) dX4_plain_227 mvX4_162 rfl rfl (kX4_makes hu hu2) (ab_ki fun r227 h227 e227 => ?_)
    obtain ⟨rfl, rfl⟩ := And.intro e227.1.symm e227.2.symm
    exact ab_reti (pc := 230) dX4_plain_230 rfl ⟨_, rfl, ⟨by rw [m_plainR, if_neg n1_3, if_neg n1_4, if_neg n1_5, if_pos s1], by rw [m_plain, if_neg n1_0, if_neg n1_1, if_neg n1_2, if_neg n1_3, if_neg n1_4, if_neg n1_5, if_pos s1]⟩⟩
  refine ab_tw_c 7 231 (by decide) (by decide) (fun s1 => ?_) (fun n1_7 => ?_)
  · refine ab_aload_n (pc := 231) dX4_plain_231 rfl rfl ?_
    refine ab_bipush (pc := 232) (v := 7) dX4_plain_232 (by decide) ?_
    refine ab_iload_n (pc := 234) dX4_plain_234 rfl rfl ?_
    refine ab_aload_n (pc := 235) dX4_plain_235 rfl rfl ?_
    refine ab_getr (pc := 236) dX4_plain_236 fX4_32 rfl rfl ?_
    refine ab_iload_n (pc := 239) dX4_plain_239 rfl rfl ?_
    refine ab_iald (pc := 240) dX4_plain_240 rfl (hS (by simp only [s1]; decide)) ?_
    refine ab_V3 (pc := 241) dX4_plain_241 mvX4_151 rfl rfl (kX4_remember hu hu2) (ab_kv fun h241 e241 => ?_)
    obtain rfl := e241.symm
    refine ab_aload_n (pc := 244) dX4_plain_244 rfl rfl ?_
    refine ab_getr (pc := 245) dX4_plain_245 fX4_32 rfl rfl ?_
    refine ab_iload_n (pc := 248) dX4_plain_248 rfl rfl ?_
    refine ab_iload_n (pc := 249) dX4_plain_249 rfl rfl ?_
    refine ab_if_ne (pc := 250) 257 dX4_plain_250 (by decide) (fun c250 => ?_) (fun c250 => ?_)
    · refine ab_aload_n (pc := 257) dX4_plain_257 rfl rfl ?_
      refine ab_iload_n (pc := 258) dX4_plain_258 rfl rfl ?_
      refine ab_V1 (pc := 259) dX4_plain_259 mvX4_165 rfl rfl (kX4_box (by rw [m_rem_013]; exact hbx)) (ab_ki fun r259 h259 e259 => ?_)
      obtain ⟨rfl, rfl⟩ := And.intro e259.1.symm e259.2.symm
      refine ab_iast (pc := 262) dX4_plain_262 rfl (hS (by simp only [s1]; decide)) ?_
      refine ab_iconst (pc := 263) (v := 0) dX4_plain_263 (by decide) ?_
      exact ab_reti (pc := 264) dX4_plain_264 rfl ⟨_, rfl, (by first | exact ⟨by rw [m_plainR, if_neg n1_3, if_neg n1_4, if_neg n1_5, if_neg n1_6, if_neg (show ¬ s = 8 by rw [s1]; decide), if_neg (show ¬ s = 9 by rw [s1]; decide), if_neg (show ¬ s = 17 by rw [s1]; decide), if_neg (show ¬ s = 18 by rw [s1]; decide), if_neg (show ¬ s = 19 by rw [s1]; decide)], by rw [m_plain, if_neg n1_0, if_neg n1_1, if_neg n1_2, if_neg n1_3, if_neg n1_4, if_neg n1_5, if_neg n1_6, if_pos s1, if_pos c250]⟩ | exact ⟨by rw [m_plainR, if_neg n1_3, if_neg n1_4, if_neg n1_5, if_neg n1_6, if_neg (show ¬ s = 8 by rw [s1]; decide), if_neg (show ¬ s = 9 by rw [s1]; decide), if_neg (show ¬ s = 17 by rw [s1]; decide), if_neg (show ¬ s = 18 by rw [s1]; decide), if_neg (show ¬ s = 19 by rw [s1]; decide)], by rw [m_plain, if_neg n1_0, if_neg n1_1, if_neg n1_2, if_neg n1_3, if_neg n1_4, if_neg n1_5, if_neg n1_6, if_pos s1, if_neg c250]⟩)⟩
    · refine ab_iconst (pc := 253) (v := 0) dX4_plain_253 (by decide) ?_
      refine ab_goto (pc := 254) 262 dX4_plain_254 (by decide) ?_
      refine ab_iast (pc := 262) dX4_plain_262 rfl (hS (by simp only [s1]; decide)) ?_
      refine ab_iconst (pc := 263) (v := 0) dX4_plain_263 (by decide) ?_
      exact ab_reti (pc := 264) dX4_plain_264 rfl ⟨_, rfl, (by first | exact ⟨by rw [m_plainR, if_neg n1_3, if_neg n1_4, if_neg n1_5, if_neg n1_6, if_neg (show ¬ s = 8 by rw [s1]; decide), if_neg (show ¬ s = 9 by rw [s1]; decide), if_neg (show ¬ s = 17 by rw [s1]; decide), if_neg (show ¬ s = 18 by rw [s1]; decide), if_neg (show ¬ s = 19 by rw [s1]; decide)], by rw [m_plain, if_neg n1_0, if_neg n1_1, if_neg n1_2, if_neg n1_3, if_neg n1_4, if_neg n1_5, if_neg n1_6, if_pos s1, if_pos c250]⟩ | exact ⟨by rw [m_plainR, if_neg n1_3, if_neg n1_4, if_neg n1_5, if_neg n1_6, if_neg (show ¬ s = 8 by rw [s1]; decide), if_neg (show ¬ s = 9 by rw [s1]; decide), if_neg (show ¬ s = 17 by rw [s1]; decide), if_neg (show ¬ s = 18 by rw [s1]; decide), if_neg (show ¬ s = 19 by rw [s1]; decide)], by rw [m_plain, if_neg n1_0, if_neg n1_1, if_neg n1_2, if_neg n1_3, if_neg n1_4, if_neg n1_5, if_neg n1_6, if_pos s1, if_neg c250]⟩)⟩
  refine ab_tw_c 8 265 (by decide) (by decide) (fun s1 => ?_) (fun n1_8 => ?_)
  · refine ab_aload_n (pc := 265) dX4_plain_265 rfl rfl ?_
    refine ab_aload_n (pc := 266) dX4_plain_266 rfl rfl ?_
    refine ab_getr (pc := 267) dX4_plain_267 fX4_32 rfl rfl ?_
    refine ab_iload_n (pc := 270) dX4_plain_270 rfl rfl ?_
    refine ab_iald (pc := 271) dX4_plain_271 rfl (hS (by simp only [s1]; decide)) ?_
    refine ab_V1 (pc := 272) dX4_plain_272 mvX4_168 rfl rfl (kX4_uses (fun _ => hsl s1) hlg) (ab_ki fun r272 h272 e272 => ?_)
    obtain ⟨rfl, rfl⟩ := And.intro e272.1.symm e272.2.symm
    exact ab_reti (pc := 275) dX4_plain_275 rfl ⟨_, rfl, ⟨by rw [m_plainR, if_neg n1_3, if_neg n1_4, if_neg n1_5, if_neg n1_6, if_pos s1], by rw [m_plain, if_neg n1_0, if_neg n1_1, if_neg n1_2, if_neg n1_3, if_neg n1_4, if_neg n1_5, if_neg n1_6, if_neg n1_7, if_pos s1]⟩⟩
  refine ab_tw_c 9 276 (by decide) (by decide) (fun s1 => ?_) (fun n1_9 => ?_)
  · refine ab_aload_n (pc := 276) dX4_plain_276 rfl rfl ?_
    refine ab_iload_n (pc := 277) dX4_plain_277 rfl rfl ?_
    refine ab_V1 (pc := 278) dX4_plain_278 mvX4_155 rfl rfl (kX4_fails) (ab_ki fun r278 h278 e278 => ?_)
    obtain ⟨rfl, rfl⟩ := And.intro e278.1.symm e278.2.symm
    exact ab_reti (pc := 281) dX4_plain_281 rfl ⟨_, rfl, ⟨by rw [m_plainR, if_neg n1_3, if_neg n1_4, if_neg n1_5, if_neg n1_6, if_neg n1_8, if_pos s1], by rw [m_plain, if_neg n1_0, if_neg n1_1, if_neg n1_2, if_neg n1_3, if_neg n1_4, if_neg n1_5, if_neg n1_6, if_neg n1_7, if_neg n1_8, if_pos s1]⟩⟩
  refine ab_tw_c 10 329 (by decide) (by decide) (fun s1 => ?_) (fun n1_10 => ?_)
  · refine ab_iconst (pc := 329) (v := 0) dX4_plain_329 (by decide) ?_
    exact ab_reti (pc := 330) dX4_plain_330 rfl ⟨_, rfl, (by first | exact ⟨by rw [m_plainR, if_neg n1_3, if_neg n1_4, if_neg n1_5, if_neg n1_6, if_neg n1_8, if_neg n1_9, if_neg (show ¬ s = 17 by rw [s1]; decide), if_neg (show ¬ s = 18 by rw [s1]; decide), if_neg (show ¬ s = 19 by rw [s1]; decide)], by rw [m_plain, if_neg n1_0, if_neg n1_1, if_neg n1_2, if_neg n1_3, if_neg n1_4, if_neg n1_5, if_neg n1_6, if_neg n1_7, if_neg n1_8, if_neg n1_9, if_neg (show ¬ s = 19 by rw [s1]; decide), if_neg (show ¬ s = 23 by rw [s1]; decide)]⟩ | exact ⟨by rw [m_plainR, if_neg n1_3, if_neg n1_4, if_neg n1_5, if_neg n1_6, if_neg n1_8, if_neg n1_9, if_neg (show ¬ s = 17 by rw [s1]; decide), if_neg (show ¬ s = 18 by rw [s1]; decide), if_neg (show ¬ s = 19 by rw [s1]; decide)], by rw [m_plain, if_neg n1_0, if_neg n1_1, if_neg n1_2, if_neg n1_3, if_neg n1_4, if_neg n1_5, if_neg n1_6, if_neg n1_7, if_neg n1_8, if_neg n1_9, if_neg (show ¬ s = 19 by rw [s1]; decide), if_neg (show ¬ s = 23 by rw [s1]; decide)]⟩ | exact ⟨by rw [m_plainR, if_neg n1_3, if_neg n1_4, if_neg n1_5, if_neg n1_6, if_neg n1_8, if_neg n1_9, if_neg (show ¬ s = 17 by rw [s1]; decide), if_neg (show ¬ s = 18 by rw [s1]; decide), if_neg (show ¬ s = 19 by rw [s1]; decide)], by rw [m_plain, if_neg n1_0, if_neg n1_1, if_neg n1_2, if_neg n1_3, if_neg n1_4, if_neg n1_5, if_neg n1_6, if_neg n1_7, if_neg n1_8, if_neg n1_9, if_neg (show ¬ s = 19 by rw [s1]; decide), if_neg (show ¬ s = 23 by rw [s1]; decide)]⟩ | exact ⟨by rw [m_plainR, if_neg n1_3, if_neg n1_4, if_neg n1_5, if_neg n1_6, if_neg n1_8, if_neg n1_9, if_neg (show ¬ s = 17 by rw [s1]; decide), if_neg (show ¬ s = 18 by rw [s1]; decide), if_neg (show ¬ s = 19 by rw [s1]; decide)], by rw [m_plain, if_neg n1_0, if_neg n1_1, if_neg n1_2, if_neg n1_3, if_neg n1_4, if_neg n1_5, if_neg n1_6, if_neg n1_7, if_neg n1_8, if_neg n1_9, if_neg (show ¬ s = 19 by rw [s1]; decide), if_neg (show ¬ s = 23 by rw [s1]; decide)]⟩ | exact ⟨by rw [m_plainR, if_neg n1_3, if_neg n1_4, if_neg n1_5, if_neg n1_6, if_neg n1_8, if_neg n1_9, if_neg (show ¬ s = 17 by rw [s1]; decide), if_neg (show ¬ s = 18 by rw [s1]; decide), if_neg (show ¬ s = 19 by rw [s1]; decide)], by rw [m_plain, if_neg n1_0, if_neg n1_1, if_neg n1_2, if_neg n1_3, if_neg n1_4, if_neg n1_5, if_neg n1_6, if_neg n1_7, if_neg n1_8, if_neg n1_9, if_neg (show ¬ s = 19 by rw [s1]; decide), if_neg (show ¬ s = 23 by rw [s1]; decide)]⟩ | exact ⟨by rw [m_plainR, if_neg n1_3, if_neg n1_4, if_neg n1_5, if_neg n1_6, if_neg n1_8, if_neg n1_9, if_neg (show ¬ s = 17 by rw [s1]; decide), if_neg (show ¬ s = 18 by rw [s1]; decide), if_neg (show ¬ s = 19 by rw [s1]; decide)], by rw [m_plain, if_neg n1_0, if_neg n1_1, if_neg n1_2, if_neg n1_3, if_neg n1_4, if_neg n1_5, if_neg n1_6, if_neg n1_7, if_neg n1_8, if_neg n1_9, if_neg (show ¬ s = 19 by rw [s1]; decide), if_neg (show ¬ s = 23 by rw [s1]; decide)]⟩ | exact ⟨by rw [m_plainR, if_neg n1_3, if_neg n1_4, if_neg n1_5, if_neg n1_6, if_neg n1_8, if_neg n1_9, if_neg (show ¬ s = 17 by rw [s1]; decide), if_neg (show ¬ s = 18 by rw [s1]; decide), if_neg (show ¬ s = 19 by rw [s1]; decide)], by rw [m_plain, if_neg n1_0, if_neg n1_1, if_neg n1_2, if_neg n1_3, if_neg n1_4, if_neg n1_5, if_neg n1_6, if_neg n1_7, if_neg n1_8, if_neg n1_9, if_neg (show ¬ s = 19 by rw [s1]; decide), if_neg (show ¬ s = 23 by rw [s1]; decide)]⟩ | exact ⟨by rw [m_plainR, if_neg n1_3, if_neg n1_4, if_neg n1_5, if_neg n1_6, if_neg n1_8, if_neg n1_9, if_neg n1_17, if_neg n1_18, if_neg n1_19], by rw [m_plain, if_neg n1_0, if_neg n1_1, if_neg n1_2, if_neg n1_3, if_neg n1_4, if_neg n1_5, if_neg n1_6, if_neg n1_7, if_neg n1_8, if_neg n1_9, if_neg n1_19, if_neg (show ¬ s = 23 by rw [s1]; decide)]⟩ | exact ⟨by rw [m_plainR, if_neg n1_3, if_neg n1_4, if_neg n1_5, if_neg n1_6, if_neg n1_8, if_neg n1_9, if_neg n1_17, if_neg n1_18, if_neg n1_19], by rw [m_plain, if_neg n1_0, if_neg n1_1, if_neg n1_2, if_neg n1_3, if_neg n1_4, if_neg n1_5, if_neg n1_6, if_neg n1_7, if_neg n1_8, if_neg n1_9, if_neg n1_19, if_neg (show ¬ s = 23 by rw [s1]; decide)]⟩ | exact ⟨by rw [m_plainR, if_neg n1_3, if_neg n1_4, if_neg n1_5, if_neg n1_6, if_neg n1_8, if_neg n1_9, if_neg n1_17, if_neg n1_18, if_neg n1_19], by rw [m_plain, if_neg n1_0, if_neg n1_1, if_neg n1_2, if_neg n1_3, if_neg n1_4, if_neg n1_5, if_neg n1_6, if_neg n1_7, if_neg n1_8, if_neg n1_9, if_neg n1_19, if_neg (show ¬ s = 23 by rw [s1]; decide)]⟩ | exact ⟨by rw [m_plainR, if_neg n1_3, if_neg n1_4, if_neg n1_5, if_neg n1_6, if_neg n1_8, if_neg n1_9, if_neg n1_17, if_neg n1_18, if_neg n1_19], by rw [m_plain, if_neg n1_0, if_neg n1_1, if_neg n1_2, if_neg n1_3, if_neg n1_4, if_neg n1_5, if_neg n1_6, if_neg n1_7, if_neg n1_8, if_neg n1_9, if_neg n1_19, if_neg n1_23]⟩)⟩
  refine ab_tw_c 11 329 (by decide) (by decide) (fun s1 => ?_) (fun n1_11 => ?_)
  · refine ab_iconst (pc := 329) (v := 0) dX4_plain_329 (by decide) ?_
    exact ab_reti (pc := 330) dX4_plain_330 rfl ⟨_, rfl, (by first | exact ⟨by rw [m_plainR, if_neg n1_3, if_neg n1_4, if_neg n1_5, if_neg n1_6, if_neg n1_8, if_neg n1_9, if_neg (show ¬ s = 17 by rw [s1]; decide), if_neg (show ¬ s = 18 by rw [s1]; decide), if_neg (show ¬ s = 19 by rw [s1]; decide)], by rw [m_plain, if_neg n1_0, if_neg n1_1, if_neg n1_2, if_neg n1_3, if_neg n1_4, if_neg n1_5, if_neg n1_6, if_neg n1_7, if_neg n1_8, if_neg n1_9, if_neg (show ¬ s = 19 by rw [s1]; decide), if_neg (show ¬ s = 23 by rw [s1]; decide)]⟩ | exact ⟨by rw [m_plainR, if_neg n1_3, if_neg n1_4, if_neg n1_5, if_neg n1_6, if_neg n1_8, if_neg n1_9, if_neg (show ¬ s = 17 by rw [s1]; decide), if_neg (show ¬ s = 18 by rw [s1]; decide), if_neg (show ¬ s = 19 by rw [s1]; decide)], by rw [m_plain, if_neg n1_0, if_neg n1_1, if_neg n1_2, if_neg n1_3, if_neg n1_4, if_neg n1_5, if_neg n1_6, if_neg n1_7, if_neg n1_8, if_neg n1_9, if_neg (show ¬ s = 19 by rw [s1]; decide), if_neg (show ¬ s = 23 by rw [s1]; decide)]⟩ | exact ⟨by rw [m_plainR, if_neg n1_3, if_neg n1_4, if_neg n1_5, if_neg n1_6, if_neg n1_8, if_neg n1_9, if_neg (show ¬ s = 17 by rw [s1]; decide), if_neg (show ¬ s = 18 by rw [s1]; decide), if_neg (show ¬ s = 19 by rw [s1]; decide)], by rw [m_plain, if_neg n1_0, if_neg n1_1, if_neg n1_2, if_neg n1_3, if_neg n1_4, if_neg n1_5, if_neg n1_6, if_neg n1_7, if_neg n1_8, if_neg n1_9, if_neg (show ¬ s = 19 by rw [s1]; decide), if_neg (show ¬ s = 23 by rw [s1]; decide)]⟩ | exact ⟨by rw [m_plainR, if_neg n1_3, if_neg n1_4, if_neg n1_5, if_neg n1_6, if_neg n1_8, if_neg n1_9, if_neg (show ¬ s = 17 by rw [s1]; decide), if_neg (show ¬ s = 18 by rw [s1]; decide), if_neg (show ¬ s = 19 by rw [s1]; decide)], by rw [m_plain, if_neg n1_0, if_neg n1_1, if_neg n1_2, if_neg n1_3, if_neg n1_4, if_neg n1_5, if_neg n1_6, if_neg n1_7, if_neg n1_8, if_neg n1_9, if_neg (show ¬ s = 19 by rw [s1]; decide), if_neg (show ¬ s = 23 by rw [s1]; decide)]⟩ | exact ⟨by rw [m_plainR, if_neg n1_3, if_neg n1_4, if_neg n1_5, if_neg n1_6, if_neg n1_8, if_neg n1_9, if_neg (show ¬ s = 17 by rw [s1]; decide), if_neg (show ¬ s = 18 by rw [s1]; decide), if_neg (show ¬ s = 19 by rw [s1]; decide)], by rw [m_plain, if_neg n1_0, if_neg n1_1, if_neg n1_2, if_neg n1_3, if_neg n1_4, if_neg n1_5, if_neg n1_6, if_neg n1_7, if_neg n1_8, if_neg n1_9, if_neg (show ¬ s = 19 by rw [s1]; decide), if_neg (show ¬ s = 23 by rw [s1]; decide)]⟩ | exact ⟨by rw [m_plainR, if_neg n1_3, if_neg n1_4, if_neg n1_5, if_neg n1_6, if_neg n1_8, if_neg n1_9, if_neg (show ¬ s = 17 by rw [s1]; decide), if_neg (show ¬ s = 18 by rw [s1]; decide), if_neg (show ¬ s = 19 by rw [s1]; decide)], by rw [m_plain, if_neg n1_0, if_neg n1_1, if_neg n1_2, if_neg n1_3, if_neg n1_4, if_neg n1_5, if_neg n1_6, if_neg n1_7, if_neg n1_8, if_neg n1_9, if_neg (show ¬ s = 19 by rw [s1]; decide), if_neg (show ¬ s = 23 by rw [s1]; decide)]⟩ | exact ⟨by rw [m_plainR, if_neg n1_3, if_neg n1_4, if_neg n1_5, if_neg n1_6, if_neg n1_8, if_neg n1_9, if_neg (show ¬ s = 17 by rw [s1]; decide), if_neg (show ¬ s = 18 by rw [s1]; decide), if_neg (show ¬ s = 19 by rw [s1]; decide)], by rw [m_plain, if_neg n1_0, if_neg n1_1, if_neg n1_2, if_neg n1_3, if_neg n1_4, if_neg n1_5, if_neg n1_6, if_neg n1_7, if_neg n1_8, if_neg n1_9, if_neg (show ¬ s = 19 by rw [s1]; decide), if_neg (show ¬ s = 23 by rw [s1]; decide)]⟩ | exact ⟨by rw [m_plainR, if_neg n1_3, if_neg n1_4, if_neg n1_5, if_neg n1_6, if_neg n1_8, if_neg n1_9, if_neg n1_17, if_neg n1_18, if_neg n1_19], by rw [m_plain, if_neg n1_0, if_neg n1_1, if_neg n1_2, if_neg n1_3, if_neg n1_4, if_neg n1_5, if_neg n1_6, if_neg n1_7, if_neg n1_8, if_neg n1_9, if_neg n1_19, if_neg (show ¬ s = 23 by rw [s1]; decide)]⟩ | exact ⟨by rw [m_plainR, if_neg n1_3, if_neg n1_4, if_neg n1_5, if_neg n1_6, if_neg n1_8, if_neg n1_9, if_neg n1_17, if_neg n1_18, if_neg n1_19], by rw [m_plain, if_neg n1_0, if_neg n1_1, if_neg n1_2, if_neg n1_3, if_neg n1_4, if_neg n1_5, if_neg n1_6, if_neg n1_7, if_neg n1_8, if_neg n1_9, if_neg n1_19, if_neg (show ¬ s = 23 by rw [s1]; decide)]⟩ | exact ⟨by rw [m_plainR, if_neg n1_3, if_neg n1_4, if_neg n1_5, if_neg n1_6, if_neg n1_8, if_neg n1_9, if_neg n1_17, if_neg n1_18, if_neg n1_19], by rw [m_plain, if_neg n1_0, if_neg n1_1, if_neg n1_2, if_neg n1_3, if_neg n1_4, if_neg n1_5, if_neg n1_6, if_neg n1_7, if_neg n1_8, if_neg n1_9, if_neg n1_19, if_neg (show ¬ s = 23 by rw [s1]; decide)]⟩ | exact ⟨by rw [m_plainR, if_neg n1_3, if_neg n1_4, if_neg n1_5, if_neg n1_6, if_neg n1_8, if_neg n1_9, if_neg n1_17, if_neg n1_18, if_neg n1_19], by rw [m_plain, if_neg n1_0, if_neg n1_1, if_neg n1_2, if_neg n1_3, if_neg n1_4, if_neg n1_5, if_neg n1_6, if_neg n1_7, if_neg n1_8, if_neg n1_9, if_neg n1_19, if_neg n1_23]⟩)⟩
  refine ab_tw_c 12 329 (by decide) (by decide) (fun s1 => ?_) (fun n1_12 => ?_)
  · refine ab_iconst (pc := 329) (v := 0) dX4_plain_329 (by decide) ?_
    exact ab_reti (pc := 330) dX4_plain_330 rfl ⟨_, rfl, (by first | exact ⟨by rw [m_plainR, if_neg n1_3, if_neg n1_4, if_neg n1_5, if_neg n1_6, if_neg n1_8, if_neg n1_9, if_neg (show ¬ s = 17 by rw [s1]; decide), if_neg (show ¬ s = 18 by rw [s1]; decide), if_neg (show ¬ s = 19 by rw [s1]; decide)], by rw [m_plain, if_neg n1_0, if_neg n1_1, if_neg n1_2, if_neg n1_3, if_neg n1_4, if_neg n1_5, if_neg n1_6, if_neg n1_7, if_neg n1_8, if_neg n1_9, if_neg (show ¬ s = 19 by rw [s1]; decide), if_neg (show ¬ s = 23 by rw [s1]; decide)]⟩ | exact ⟨by rw [m_plainR, if_neg n1_3, if_neg n1_4, if_neg n1_5, if_neg n1_6, if_neg n1_8, if_neg n1_9, if_neg (show ¬ s = 17 by rw [s1]; decide), if_neg (show ¬ s = 18 by rw [s1]; decide), if_neg (show ¬ s = 19 by rw [s1]; decide)], by rw [m_plain, if_neg n1_0, if_neg n1_1, if_neg n1_2, if_neg n1_3, if_neg n1_4, if_neg n1_5, if_neg n1_6, if_neg n1_7, if_neg n1_8, if_neg n1_9, if_neg (show ¬ s = 19 by rw [s1]; decide), if_neg (show ¬ s = 23 by rw [s1]; decide)]⟩ | exact ⟨by rw [m_plainR, if_neg n1_3, if_neg n1_4, if_neg n1_5, if_neg n1_6, if_neg n1_8, if_neg n1_9, if_neg (show ¬ s = 17 by rw [s1]; decide), if_neg (show ¬ s = 18 by rw [s1]; decide), if_neg (show ¬ s = 19 by rw [s1]; decide)], by rw [m_plain, if_neg n1_0, if_neg n1_1, if_neg n1_2, if_neg n1_3, if_neg n1_4, if_neg n1_5, if_neg n1_6, if_neg n1_7, if_neg n1_8, if_neg n1_9, if_neg (show ¬ s = 19 by rw [s1]; decide), if_neg (show ¬ s = 23 by rw [s1]; decide)]⟩ | exact ⟨by rw [m_plainR, if_neg n1_3, if_neg n1_4, if_neg n1_5, if_neg n1_6, if_neg n1_8, if_neg n1_9, if_neg (show ¬ s = 17 by rw [s1]; decide), if_neg (show ¬ s = 18 by rw [s1]; decide), if_neg (show ¬ s = 19 by rw [s1]; decide)], by rw [m_plain, if_neg n1_0, if_neg n1_1, if_neg n1_2, if_neg n1_3, if_neg n1_4, if_neg n1_5, if_neg n1_6, if_neg n1_7, if_neg n1_8, if_neg n1_9, if_neg (show ¬ s = 19 by rw [s1]; decide), if_neg (show ¬ s = 23 by rw [s1]; decide)]⟩ | exact ⟨by rw [m_plainR, if_neg n1_3, if_neg n1_4, if_neg n1_5, if_neg n1_6, if_neg n1_8, if_neg n1_9, if_neg (show ¬ s = 17 by rw [s1]; decide), if_neg (show ¬ s = 18 by rw [s1]; decide), if_neg (show ¬ s = 19 by rw [s1]; decide)], by rw [m_plain, if_neg n1_0, if_neg n1_1, if_neg n1_2, if_neg n1_3, if_neg n1_4, if_neg n1_5, if_neg n1_6, if_neg n1_7, if_neg n1_8, if_neg n1_9, if_neg (show ¬ s = 19 by rw [s1]; decide), if_neg (show ¬ s = 23 by rw [s1]; decide)]⟩ | exact ⟨by rw [m_plainR, if_neg n1_3, if_neg n1_4, if_neg n1_5, if_neg n1_6, if_neg n1_8, if_neg n1_9, if_neg (show ¬ s = 17 by rw [s1]; decide), if_neg (show ¬ s = 18 by rw [s1]; decide), if_neg (show ¬ s = 19 by rw [s1]; decide)], by rw [m_plain, if_neg n1_0, if_neg n1_1, if_neg n1_2, if_neg n1_3, if_neg n1_4, if_neg n1_5, if_neg n1_6, if_neg n1_7, if_neg n1_8, if_neg n1_9, if_neg (show ¬ s = 19 by rw [s1]; decide), if_neg (show ¬ s = 23 by rw [s1]; decide)]⟩ | exact ⟨by rw [m_plainR, if_neg n1_3, if_neg n1_4, if_neg n1_5, if_neg n1_6, if_neg n1_8, if_neg n1_9, if_neg (show ¬ s = 17 by rw [s1]; decide), if_neg (show ¬ s = 18 by rw [s1]; decide), if_neg (show ¬ s = 19 by rw [s1]; decide)], by rw [m_plain, if_neg n1_0, if_neg n1_1, if_neg n1_2, if_neg n1_3, if_neg n1_4, if_neg n1_5, if_neg n1_6, if_neg n1_7, if_neg n1_8, if_neg n1_9, if_neg (show ¬ s = 19 by rw [s1]; decide), if_neg (show ¬ s = 23 by rw [s1]; decide)]⟩ | exact ⟨by rw [m_plainR, if_neg n1_3, if_neg n1_4, if_neg n1_5, if_neg n1_6, if_neg n1_8, if_neg n1_9, if_neg n1_17, if_neg n1_18, if_neg n1_19], by rw [m_plain, if_neg n1_0, if_neg n1_1, if_neg n1_2, if_neg n1_3, if_neg n1_4, if_neg n1_5, if_neg n1_6, if_neg n1_7, if_neg n1_8, if_neg n1_9, if_neg n1_19, if_neg (show ¬ s = 23 by rw [s1]; decide)]⟩ | exact ⟨by rw [m_plainR, if_neg n1_3, if_neg n1_4, if_neg n1_5, if_neg n1_6, if_neg n1_8, if_neg n1_9, if_neg n1_17, if_neg n1_18, if_neg n1_19], by rw [m_plain, if_neg n1_0, if_neg n1_1, if_neg n1_2, if_neg n1_3, if_neg n1_4, if_neg n1_5, if_neg n1_6, if_neg n1_7, if_neg n1_8, if_neg n1_9, if_neg n1_19, if_neg (show ¬ s = 23 by rw [s1]; decide)]⟩ | exact ⟨by rw [m_plainR, if_neg n1_3, if_neg n1_4, if_neg n1_5, if_neg n1_6, if_neg n1_8, if_neg n1_9, if_neg n1_17, if_neg n1_18, if_neg n1_19], by rw [m_plain, if_neg n1_0, if_neg n1_1, if_neg n1_2, if_neg n1_3, if_neg n1_4, if_neg n1_5, if_neg n1_6, if_neg n1_7, if_neg n1_8, if_neg n1_9, if_neg n1_19, if_neg (show ¬ s = 23 by rw [s1]; decide)]⟩ | exact ⟨by rw [m_plainR, if_neg n1_3, if_neg n1_4, if_neg n1_5, if_neg n1_6, if_neg n1_8, if_neg n1_9, if_neg n1_17, if_neg n1_18, if_neg n1_19], by rw [m_plain, if_neg n1_0, if_neg n1_1, if_neg n1_2, if_neg n1_3, if_neg n1_4, if_neg n1_5, if_neg n1_6, if_neg n1_7, if_neg n1_8, if_neg n1_9, if_neg n1_19, if_neg n1_23]⟩)⟩
  refine ab_tw_c 13 329 (by decide) (by decide) (fun s1 => ?_) (fun n1_13 => ?_)
  · refine ab_iconst (pc := 329) (v := 0) dX4_plain_329 (by decide) ?_
    exact ab_reti (pc := 330) dX4_plain_330 rfl ⟨_, rfl, (by first | exact ⟨by rw [m_plainR, if_neg n1_3, if_neg n1_4, if_neg n1_5, if_neg n1_6, if_neg n1_8, if_neg n1_9, if_neg (show ¬ s = 17 by rw [s1]; decide), if_neg (show ¬ s = 18 by rw [s1]; decide), if_neg (show ¬ s = 19 by rw [s1]; decide)], by rw [m_plain, if_neg n1_0, if_neg n1_1, if_neg n1_2, if_neg n1_3, if_neg n1_4, if_neg n1_5, if_neg n1_6, if_neg n1_7, if_neg n1_8, if_neg n1_9, if_neg (show ¬ s = 19 by rw [s1]; decide), if_neg (show ¬ s = 23 by rw [s1]; decide)]⟩ | exact ⟨by rw [m_plainR, if_neg n1_3, if_neg n1_4, if_neg n1_5, if_neg n1_6, if_neg n1_8, if_neg n1_9, if_neg (show ¬ s = 17 by rw [s1]; decide), if_neg (show ¬ s = 18 by rw [s1]; decide), if_neg (show ¬ s = 19 by rw [s1]; decide)], by rw [m_plain, if_neg n1_0, if_neg n1_1, if_neg n1_2, if_neg n1_3, if_neg n1_4, if_neg n1_5, if_neg n1_6, if_neg n1_7, if_neg n1_8, if_neg n1_9, if_neg (show ¬ s = 19 by rw [s1]; decide), if_neg (show ¬ s = 23 by rw [s1]; decide)]⟩ | exact ⟨by rw [m_plainR, if_neg n1_3, if_neg n1_4, if_neg n1_5, if_neg n1_6, if_neg n1_8, if_neg n1_9, if_neg (show ¬ s = 17 by rw [s1]; decide), if_neg (show ¬ s = 18 by rw [s1]; decide), if_neg (show ¬ s = 19 by rw [s1]; decide)], by rw [m_plain, if_neg n1_0, if_neg n1_1, if_neg n1_2, if_neg n1_3, if_neg n1_4, if_neg n1_5, if_neg n1_6, if_neg n1_7, if_neg n1_8, if_neg n1_9, if_neg (show ¬ s = 19 by rw [s1]; decide), if_neg (show ¬ s = 23 by rw [s1]; decide)]⟩ | exact ⟨by rw [m_plainR, if_neg n1_3, if_neg n1_4, if_neg n1_5, if_neg n1_6, if_neg n1_8, if_neg n1_9, if_neg (show ¬ s = 17 by rw [s1]; decide), if_neg (show ¬ s = 18 by rw [s1]; decide), if_neg (show ¬ s = 19 by rw [s1]; decide)], by rw [m_plain, if_neg n1_0, if_neg n1_1, if_neg n1_2, if_neg n1_3, if_neg n1_4, if_neg n1_5, if_neg n1_6, if_neg n1_7, if_neg n1_8, if_neg n1_9, if_neg (show ¬ s = 19 by rw [s1]; decide), if_neg (show ¬ s = 23 by rw [s1]; decide)]⟩ | exact ⟨by rw [m_plainR, if_neg n1_3, if_neg n1_4, if_neg n1_5, if_neg n1_6, if_neg n1_8, if_neg n1_9, if_neg (show ¬ s = 17 by rw [s1]; decide), if_neg (show ¬ s = 18 by rw [s1]; decide), if_neg (show ¬ s = 19 by rw [s1]; decide)], by rw [m_plain, if_neg n1_0, if_neg n1_1, if_neg n1_2, if_neg n1_3, if_neg n1_4, if_neg n1_5, if_neg n1_6, if_neg n1_7, if_neg n1_8, if_neg n1_9, if_neg (show ¬ s = 19 by rw [s1]; decide), if_neg (show ¬ s = 23 by rw [s1]; decide)]⟩ | exact ⟨by rw [m_plainR, if_neg n1_3, if_neg n1_4, if_neg n1_5, if_neg n1_6, if_neg n1_8, if_neg n1_9, if_neg (show ¬ s = 17 by rw [s1]; decide), if_neg (show ¬ s = 18 by rw [s1]; decide), if_neg (show ¬ s = 19 by rw [s1]; decide)], by rw [m_plain, if_neg n1_0, if_neg n1_1, if_neg n1_2, if_neg n1_3, if_neg n1_4, if_neg n1_5, if_neg n1_6, if_neg n1_7, if_neg n1_8, if_neg n1_9, if_neg (show ¬ s = 19 by rw [s1]; decide), if_neg (show ¬ s = 23 by rw [s1]; decide)]⟩ | exact ⟨by rw [m_plainR, if_neg n1_3, if_neg n1_4, if_neg n1_5, if_neg n1_6, if_neg n1_8, if_neg n1_9, if_neg (show ¬ s = 17 by rw [s1]; decide), if_neg (show ¬ s = 18 by rw [s1]; decide), if_neg (show ¬ s = 19 by rw [s1]; decide)], by rw [m_plain, if_neg n1_0, if_neg n1_1, if_neg n1_2, if_neg n1_3, if_neg n1_4, if_neg n1_5, if_neg n1_6, if_neg n1_7, if_neg n1_8, if_neg n1_9, if_neg (show ¬ s = 19 by rw [s1]; decide), if_neg (show ¬ s = 23 by rw [s1]; decide)]⟩ | exact ⟨by rw [m_plainR, if_neg n1_3, if_neg n1_4, if_neg n1_5, if_neg n1_6, if_neg n1_8, if_neg n1_9, if_neg n1_17, if_neg n1_18, if_neg n1_19], by rw [m_plain, if_neg n1_0, if_neg n1_1, if_neg n1_2, if_neg n1_3, if_neg n1_4, if_neg n1_5, if_neg n1_6, if_neg n1_7, if_neg n1_8, if_neg n1_9, if_neg n1_19, if_neg (show ¬ s = 23 by rw [s1]; decide)]⟩ | exact ⟨by rw [m_plainR, if_neg n1_3, if_neg n1_4, if_neg n1_5, if_neg n1_6, if_neg n1_8, if_neg n1_9, if_neg n1_17, if_neg n1_18, if_neg n1_19], by rw [m_plain, if_neg n1_0, if_neg n1_1, if_neg n1_2, if_neg n1_3, if_neg n1_4, if_neg n1_5, if_neg n1_6, if_neg n1_7, if_neg n1_8, if_neg n1_9, if_neg n1_19, if_neg (show ¬ s = 23 by rw [s1]; decide)]⟩ | exact ⟨by rw [m_plainR, if_neg n1_3, if_neg n1_4, if_neg n1_5, if_neg n1_6, if_neg n1_8, if_neg n1_9, if_neg n1_17, if_neg n1_18, if_neg n1_19], by rw [m_plain, if_neg n1_0, if_neg n1_1, if_neg n1_2, if_neg n1_3, if_neg n1_4, if_neg n1_5, if_neg n1_6, if_neg n1_7, if_neg n1_8, if_neg n1_9, if_neg n1_19, if_neg (show ¬ s = 23 by rw [s1]; decide)]⟩ | exact ⟨by rw [m_plainR, if_neg n1_3, if_neg n1_4, if_neg n1_5, if_neg n1_6, if_neg n1_8, if_neg n1_9, if_neg n1_17, if_neg n1_18, if_neg n1_19], by rw [m_plain, if_neg n1_0, if_neg n1_1, if_neg n1_2, if_neg n1_3, if_neg n1_4, if_neg n1_5, if_neg n1_6, if_neg n1_7, if_neg n1_8, if_neg n1_9, if_neg n1_19, if_neg n1_23]⟩)⟩
  refine ab_tw_c 14 329 (by decide) (by decide) (fun s1 => ?_) (fun n1_14 => ?_)
  · refine ab_iconst (pc := 329) (v := 0) dX4_plain_329 (by decide) ?_
    exact ab_reti (pc := 330) dX4_plain_330 rfl ⟨_, rfl, (by first | exact ⟨by rw [m_plainR, if_neg n1_3, if_neg n1_4, if_neg n1_5, if_neg n1_6, if_neg n1_8, if_neg n1_9, if_neg (show ¬ s = 17 by rw [s1]; decide), if_neg (show ¬ s = 18 by rw [s1]; decide), if_neg (show ¬ s = 19 by rw [s1]; decide)], by rw [m_plain, if_neg n1_0, if_neg n1_1, if_neg n1_2, if_neg n1_3, if_neg n1_4, if_neg n1_5, if_neg n1_6, if_neg n1_7, if_neg n1_8, if_neg n1_9, if_neg (show ¬ s = 19 by rw [s1]; decide), if_neg (show ¬ s = 23 by rw [s1]; decide)]⟩ | exact ⟨by rw [m_plainR, if_neg n1_3, if_neg n1_4, if_neg n1_5, if_neg n1_6, if_neg n1_8, if_neg n1_9, if_neg (show ¬ s = 17 by rw [s1]; decide), if_neg (show ¬ s = 18 by rw [s1]; decide), if_neg (show ¬ s = 19 by rw [s1]; decide)], by rw [m_plain, if_neg n1_0, if_neg n1_1, if_neg n1_2, if_neg n1_3, if_neg n1_4, if_neg n1_5, if_neg n1_6, if_neg n1_7, if_neg n1_8, if_neg n1_9, if_neg (show ¬ s = 19 by rw [s1]; decide), if_neg (show ¬ s = 23 by rw [s1]; decide)]⟩ | exact ⟨by rw [m_plainR, if_neg n1_3, if_neg n1_4, if_neg n1_5, if_neg n1_6, if_neg n1_8, if_neg n1_9, if_neg (show ¬ s = 17 by rw [s1]; decide), if_neg (show ¬ s = 18 by rw [s1]; decide), if_neg (show ¬ s = 19 by rw [s1]; decide)], by rw [m_plain, if_neg n1_0, if_neg n1_1, if_neg n1_2, if_neg n1_3, if_neg n1_4, if_neg n1_5, if_neg n1_6, if_neg n1_7, if_neg n1_8, if_neg n1_9, if_neg (show ¬ s = 19 by rw [s1]; decide), if_neg (show ¬ s = 23 by rw [s1]; decide)]⟩ | exact ⟨by rw [m_plainR, if_neg n1_3, if_neg n1_4, if_neg n1_5, if_neg n1_6, if_neg n1_8, if_neg n1_9, if_neg (show ¬ s = 17 by rw [s1]; decide), if_neg (show ¬ s = 18 by rw [s1]; decide), if_neg (show ¬ s = 19 by rw [s1]; decide)], by rw [m_plain, if_neg n1_0, if_neg n1_1, if_neg n1_2, if_neg n1_3, if_neg n1_4, if_neg n1_5, if_neg n1_6, if_neg n1_7, if_neg n1_8, if_neg n1_9, if_neg (show ¬ s = 19 by rw [s1]; decide), if_neg (show ¬ s = 23 by rw [s1]; decide)]⟩ | exact ⟨by rw [m_plainR, if_neg n1_3, if_neg n1_4, if_neg n1_5, if_neg n1_6, if_neg n1_8, if_neg n1_9, if_neg (show ¬ s = 17 by rw [s1]; decide), if_neg (show ¬ s = 18 by rw [s1]; decide), if_neg (show ¬ s = 19 by rw [s1]; decide)], by rw [m_plain, if_neg n1_0, if_neg n1_1, if_neg n1_2, if_neg n1_3, if_neg n1_4, if_neg n1_5, if_neg n1_6, if_neg n1_7, if_neg n1_8, if_neg n1_9, if_neg (show ¬ s = 19 by rw [s1]; decide), if_neg (show ¬ s = 23 by rw [s1]; decide)]⟩ | exact ⟨by rw [m_plainR, if_neg n1_3, if_neg n1_4, if_neg n1_5, if_neg n1_6, if_neg n1_8, if_neg n1_9, if_neg (show ¬ s = 17 by rw [s1]; decide), if_neg (show ¬ s = 18 by rw [s1]; decide), if_neg (show ¬ s = 19 by rw [s1]; decide)], by rw [m_plain, if_neg n1_0, if_neg n1_1, if_neg n1_2, if_neg n1_3, if_neg n1_4, if_neg n1_5, if_neg n1_6, if_neg n1_7, if_neg n1_8, if_neg n1_9, if_neg (show ¬ s = 19 by rw [s1]; decide), if_neg (show ¬ s = 23 by rw [s1]; decide)]⟩ | exact ⟨by rw [m_plainR, if_neg n1_3, if_neg n1_4, if_neg n1_5, if_neg n1_6, if_neg n1_8, if_neg n1_9, if_neg (show ¬ s = 17 by rw [s1]; decide), if_neg (show ¬ s = 18 by rw [s1]; decide), if_neg (show ¬ s = 19 by rw [s1]; decide)], by rw [m_plain, if_neg n1_0, if_neg n1_1, if_neg n1_2, if_neg n1_3, if_neg n1_4, if_neg n1_5, if_neg n1_6, if_neg n1_7, if_neg n1_8, if_neg n1_9, if_neg (show ¬ s = 19 by rw [s1]; decide), if_neg (show ¬ s = 23 by rw [s1]; decide)]⟩ | exact ⟨by rw [m_plainR, if_neg n1_3, if_neg n1_4, if_neg n1_5, if_neg n1_6, if_neg n1_8, if_neg n1_9, if_neg n1_17, if_neg n1_18, if_neg n1_19], by rw [m_plain, if_neg n1_0, if_neg n1_1, if_neg n1_2, if_neg n1_3, if_neg n1_4, if_neg n1_5, if_neg n1_6, if_neg n1_7, if_neg n1_8, if_neg n1_9, if_neg n1_19, if_neg (show ¬ s = 23 by rw [s1]; decide)]⟩ | exact ⟨by rw [m_plainR, if_neg n1_3, if_neg n1_4, if_neg n1_5, if_neg n1_6, if_neg n1_8, if_neg n1_9, if_neg n1_17, if_neg n1_18, if_neg n1_19], by rw [m_plain, if_neg n1_0, if_neg n1_1, if_neg n1_2, if_neg n1_3, if_neg n1_4, if_neg n1_5, if_neg n1_6, if_neg n1_7, if_neg n1_8, if_neg n1_9, if_neg n1_19, if_neg (show ¬ s = 23 by rw [s1]; decide)]⟩ | exact ⟨by rw [m_plainR, if_neg n1_3, if_neg n1_4, if_neg n1_5, if_neg n1_6, if_neg n1_8, if_neg n1_9, if_neg n1_17, if_neg n1_18, if_neg n1_19], by rw [m_plain, if_neg n1_0, if_neg n1_1, if_neg n1_2, if_neg n1_3, if_neg n1_4, if_neg n1_5, if_neg n1_6, if_neg n1_7, if_neg n1_8, if_neg n1_9, if_neg n1_19, if_neg (show ¬ s = 23 by rw [s1]; decide)]⟩ | exact ⟨by rw [m_plainR, if_neg n1_3, if_neg n1_4, if_neg n1_5, if_neg n1_6, if_neg n1_8, if_neg n1_9, if_neg n1_17, if_neg n1_18, if_neg n1_19], by rw [m_plain, if_neg n1_0, if_neg n1_1, if_neg n1_2, if_neg n1_3, if_neg n1_4, if_neg n1_5, if_neg n1_6, if_neg n1_7, if_neg n1_8, if_neg n1_9, if_neg n1_19, if_neg n1_23]⟩)⟩
  refine ab_tw_c 15 329 (by decide) (by decide) (fun s1 => ?_) (fun n1_15 => ?_)
  · refine ab_iconst (pc := 329) (v := 0) dX4_plain_329 (by decide) ?_
    exact ab_reti (pc := 330) dX4_plain_330 rfl ⟨_, rfl, (by first | exact ⟨by rw [m_plainR, if_neg n1_3, if_neg n1_4, if_neg n1_5, if_neg n1_6, if_neg n1_8, if_neg n1_9, if_neg (show ¬ s = 17 by rw [s1]; decide), if_neg (show ¬ s = 18 by rw [s1]; decide), if_neg (show ¬ s = 19 by rw [s1]; decide)], by rw [m_plain, if_neg n1_0, if_neg n1_1, if_neg n1_2, if_neg n1_3, if_neg n1_4, if_neg n1_5, if_neg n1_6, if_neg n1_7, if_neg n1_8, if_neg n1_9, if_neg (show ¬ s = 19 by rw [s1]; decide), if_neg (show ¬ s = 23 by rw [s1]; decide)]⟩ | exact ⟨by rw [m_plainR, if_neg n1_3, if_neg n1_4, if_neg n1_5, if_neg n1_6, if_neg n1_8, if_neg n1_9, if_neg (show ¬ s = 17 by rw [s1]; decide), if_neg (show ¬ s = 18 by rw [s1]; decide), if_neg (show ¬ s = 19 by rw [s1]; decide)], by rw [m_plain, if_neg n1_0, if_neg n1_1, if_neg n1_2, if_neg n1_3, if_neg n1_4, if_neg n1_5, if_neg n1_6, if_neg n1_7, if_neg n1_8, if_neg n1_9, if_neg (show ¬ s = 19 by rw [s1]; decide), if_neg (show ¬ s = 23 by rw [s1]; decide)]⟩ | exact ⟨by rw [m_plainR, if_neg n1_3, if_neg n1_4, if_neg n1_5, if_neg n1_6, if_neg n1_8, if_neg n1_9, if_neg (show ¬ s = 17 by rw [s1]; decide), if_neg (show ¬ s = 18 by rw [s1]; decide), if_neg (show ¬ s = 19 by rw [s1]; decide)], by rw [m_plain, if_neg n1_0, if_neg n1_1, if_neg n1_2, if_neg n1_3, if_neg n1_4, if_neg n1_5, if_neg n1_6, if_neg n1_7, if_neg n1_8, if_neg n1_9, if_neg (show ¬ s = 19 by rw [s1]; decide), if_neg (show ¬ s = 23 by rw [s1]; decide)]⟩ | exact ⟨by rw [m_plainR, if_neg n1_3, if_neg n1_4, if_neg n1_5, if_neg n1_6, if_neg n1_8, if_neg n1_9, if_neg (show ¬ s = 17 by rw [s1]; decide), if_neg (show ¬ s = 18 by rw [s1]; decide), if_neg (show ¬ s = 19 by rw [s1]; decide)], by rw [m_plain, if_neg n1_0, if_neg n1_1, if_neg n1_2, if_neg n1_3, if_neg n1_4, if_neg n1_5, if_neg n1_6, if_neg n1_7, if_neg n1_8, if_neg n1_9, if_neg (show ¬ s = 19 by rw [s1]; decide), if_neg (show ¬ s = 23 by rw [s1]; decide)]⟩ | exact ⟨by rw [m_plainR, if_neg n1_3, if_neg n1_4, if_neg n1_5, if_neg n1_6, if_neg n1_8, if_neg n1_9, if_neg (show ¬ s = 17 by rw [s1]; decide), if_neg (show ¬ s = 18 by rw [s1]; decide), if_neg (show ¬ s = 19 by rw [s1]; decide)], by rw [m_plain, if_neg n1_0, if_neg n1_1, if_neg n1_2, if_neg n1_3, if_neg n1_4, if_neg n1_5, if_neg n1_6, if_neg n1_7, if_neg n1_8, if_neg n1_9, if_neg (show ¬ s = 19 by rw [s1]; decide), if_neg (show ¬ s = 23 by rw [s1]; decide)]⟩ | exact ⟨by rw [m_plainR, if_neg n1_3, if_neg n1_4, if_neg n1_5, if_neg n1_6, if_neg n1_8, if_neg n1_9, if_neg (show ¬ s = 17 by rw [s1]; decide), if_neg (show ¬ s = 18 by rw [s1]; decide), if_neg (show ¬ s = 19 by rw [s1]; decide)], by rw [m_plain, if_neg n1_0, if_neg n1_1, if_neg n1_2, if_neg n1_3, if_neg n1_4, if_neg n1_5, if_neg n1_6, if_neg n1_7, if_neg n1_8, if_neg n1_9, if_neg (show ¬ s = 19 by rw [s1]; decide), if_neg (show ¬ s = 23 by rw [s1]; decide)]⟩ | exact ⟨by rw [m_plainR, if_neg n1_3, if_neg n1_4, if_neg n1_5, if_neg n1_6, if_neg n1_8, if_neg n1_9, if_neg (show ¬ s = 17 by rw [s1]; decide), if_neg (show ¬ s = 18 by rw [s1]; decide), if_neg (show ¬ s = 19 by rw [s1]; decide)], by rw [m_plain, if_neg n1_0, if_neg n1_1, if_neg n1_2, if_neg n1_3, if_neg n1_4, if_neg n1_5, if_neg n1_6, if_neg n1_7, if_neg n1_8, if_neg n1_9, if_neg (show ¬ s = 19 by rw [s1]; decide), if_neg (show ¬ s = 23 by rw [s1]; decide)]⟩ | exact ⟨by rw [m_plainR, if_neg n1_3, if_neg n1_4, if_neg n1_5, if_neg n1_6, if_neg n1_8, if_neg n1_9, if_neg n1_17, if_neg n1_18, if_neg n1_19], by rw [m_plain, if_neg n1_0, if_neg n1_1, if_neg n1_2, if_neg n1_3, if_neg n1_4, if_neg n1_5, if_neg n1_6, if_neg n1_7, if_neg n1_8, if_neg n1_9, if_neg n1_19, if_neg (show ¬ s = 23 by rw [s1]; decide)]⟩ | exact ⟨by rw [m_plainR, if_neg n1_3, if_neg n1_4, if_neg n1_5, if_neg n1_6, if_neg n1_8, if_neg n1_9, if_neg n1_17, if_neg n1_18, if_neg n1_19], by rw [m_plain, if_neg n1_0, if_neg n1_1, if_neg n1_2, if_neg n1_3, if_neg n1_4, if_neg n1_5, if_neg n1_6, if_neg n1_7, if_neg n1_8, if_neg n1_9, if_neg n1_19, if_neg (show ¬ s = 23 by rw [s1]; decide)]⟩ | exact ⟨by rw [m_plainR, if_neg n1_3, if_neg n1_4, if_neg n1_5, if_neg n1_6, if_neg n1_8, if_neg n1_9, if_neg n1_17, if_neg n1_18, if_neg n1_19], by rw [m_plain, if_neg n1_0, if_neg n1_1, if_neg n1_2, if_neg n1_3, if_neg n1_4, if_neg n1_5, if_neg n1_6, if_neg n1_7, if_neg n1_8, if_neg n1_9, if_neg n1_19, if_neg (show ¬ s = 23 by rw [s1]; decide)]⟩ | exact ⟨by rw [m_plainR, if_neg n1_3, if_neg n1_4, if_neg n1_5, if_neg n1_6, if_neg n1_8, if_neg n1_9, if_neg n1_17, if_neg n1_18, if_neg n1_19], by rw [m_plain, if_neg n1_0, if_neg n1_1, if_neg n1_2, if_neg n1_3, if_neg n1_4, if_neg n1_5, if_neg n1_6, if_neg n1_7, if_neg n1_8, if_neg n1_9, if_neg n1_19, if_neg n1_23]⟩)⟩
  refine ab_tw_c 16 329 (by decide) (by decide) (fun s1 => ?_) (fun n1_16 => ?_)
  · refine ab_iconst (pc := 329) (v := 0) dX4_plain_329 (by decide) ?_
    exact ab_reti (pc := 330) dX4_plain_330 rfl ⟨_, rfl, (by first | exact ⟨by rw [m_plainR, if_neg n1_3, if_neg n1_4, if_neg n1_5, if_neg n1_6, if_neg n1_8, if_neg n1_9, if_neg (show ¬ s = 17 by rw [s1]; decide), if_neg (show ¬ s = 18 by rw [s1]; decide), if_neg (show ¬ s = 19 by rw [s1]; decide)], by rw [m_plain, if_neg n1_0, if_neg n1_1, if_neg n1_2, if_neg n1_3, if_neg n1_4, if_neg n1_5, if_neg n1_6, if_neg n1_7, if_neg n1_8, if_neg n1_9, if_neg (show ¬ s = 19 by rw [s1]; decide), if_neg (show ¬ s = 23 by rw [s1]; decide)]⟩ | exact ⟨by rw [m_plainR, if_neg n1_3, if_neg n1_4, if_neg n1_5, if_neg n1_6, if_neg n1_8, if_neg n1_9, if_neg (show ¬ s = 17 by rw [s1]; decide), if_neg (show ¬ s = 18 by rw [s1]; decide), if_neg (show ¬ s = 19 by rw [s1]; decide)], by rw [m_plain, if_neg n1_0, if_neg n1_1, if_neg n1_2, if_neg n1_3, if_neg n1_4, if_neg n1_5, if_neg n1_6, if_neg n1_7, if_neg n1_8, if_neg n1_9, if_neg (show ¬ s = 19 by rw [s1]; decide), if_neg (show ¬ s = 23 by rw [s1]; decide)]⟩ | exact ⟨by rw [m_plainR, if_neg n1_3, if_neg n1_4, if_neg n1_5, if_neg n1_6, if_neg n1_8, if_neg n1_9, if_neg (show ¬ s = 17 by rw [s1]; decide), if_neg (show ¬ s = 18 by rw [s1]; decide), if_neg (show ¬ s = 19 by rw [s1]; decide)], by rw [m_plain, if_neg n1_0, if_neg n1_1, if_neg n1_2, if_neg n1_3, if_neg n1_4, if_neg n1_5, if_neg n1_6, if_neg n1_7, if_neg n1_8, if_neg n1_9, if_neg (show ¬ s = 19 by rw [s1]; decide), if_neg (show ¬ s = 23 by rw [s1]; decide)]⟩ | exact ⟨by rw [m_plainR, if_neg n1_3, if_neg n1_4, if_neg n1_5, if_neg n1_6, if_neg n1_8, if_neg n1_9, if_neg (show ¬ s = 17 by rw [s1]; decide), if_neg (show ¬ s = 18 by rw [s1]; decide), if_neg (show ¬ s = 19 by rw [s1]; decide)], by rw [m_plain, if_neg n1_0, if_neg n1_1, if_neg n1_2, if_neg n1_3, if_neg n1_4, if_neg n1_5, if_neg n1_6, if_neg n1_7, if_neg n1_8, if_neg n1_9, if_neg (show ¬ s = 19 by rw [s1]; decide), if_neg (show ¬ s = 23 by rw [s1]; decide)]⟩ | exact ⟨by rw [m_plainR, if_neg n1_3, if_neg n1_4, if_neg n1_5, if_neg n1_6, if_neg n1_8, if_neg n1_9, if_neg (show ¬ s = 17 by rw [s1]; decide), if_neg (show ¬ s = 18 by rw [s1]; decide), if_neg (show ¬ s = 19 by rw [s1]; decide)], by rw [m_plain, if_neg n1_0, if_neg n1_1, if_neg n1_2, if_neg n1_3, if_neg n1_4, if_neg n1_5, if_neg n1_6, if_neg n1_7, if_neg n1_8, if_neg n1_9, if_neg (show ¬ s = 19 by rw [s1]; decide), if_neg (show ¬ s = 23 by rw [s1]; decide)]⟩ | exact ⟨by rw [m_plainR, if_neg n1_3, if_neg n1_4, if_neg n1_5, if_neg n1_6, if_neg n1_8, if_neg n1_9, if_neg (show ¬ s = 17 by rw [s1]; decide), if_neg (show ¬ s = 18 by rw [s1]; decide), if_neg (show ¬ s = 19 by rw [s1]; decide)], by rw [m_plain, if_neg n1_0, if_neg n1_1, if_neg n1_2, if_neg n1_3, if_neg n1_4, if_neg n1_5, if_neg n1_6, if_neg n1_7, if_neg n1_8, if_neg n1_9, if_neg (show ¬ s = 19 by rw [s1]; decide), if_neg (show ¬ s = 23 by rw [s1]; decide)]⟩ | exact ⟨by rw [m_plainR, if_neg n1_3, if_neg n1_4, if_neg n1_5, if_neg n1_6, if_neg n1_8, if_neg n1_9, if_neg (show ¬ s = 17 by rw [s1]; decide), if_neg (show ¬ s = 18 by rw [s1]; decide), if_neg (show ¬ s = 19 by rw [s1]; decide)], by rw [m_plain, if_neg n1_0, if_neg n1_1, if_neg n1_2, if_neg n1_3, if_neg n1_4, if_neg n1_5, if_neg n1_6, if_neg n1_7, if_neg n1_8, if_neg n1_9, if_neg (show ¬ s = 19 by rw [s1]; decide), if_neg (show ¬ s = 23 by rw [s1]; decide)]⟩ | exact ⟨by rw [m_plainR, if_neg n1_3, if_neg n1_4, if_neg n1_5, if_neg n1_6, if_neg n1_8, if_neg n1_9, if_neg n1_17, if_neg n1_18, if_neg n1_19], by rw [m_plain, if_neg n1_0, if_neg n1_1, if_neg n1_2, if_neg n1_3, if_neg n1_4, if_neg n1_5, if_neg n1_6, if_neg n1_7, if_neg n1_8, if_neg n1_9, if_neg n1_19, if_neg (show ¬ s = 23 by rw [s1]; decide)]⟩ | exact ⟨by rw [m_plainR, if_neg n1_3, if_neg n1_4, if_neg n1_5, if_neg n1_6, if_neg n1_8, if_neg n1_9, if_neg n1_17, if_neg n1_18, if_neg n1_19], by rw [m_plain, if_neg n1_0, if_neg n1_1, if_neg n1_2, if_neg n1_3, if_neg n1_4, if_neg n1_5, if_neg n1_6, if_neg n1_7, if_neg n1_8, if_neg n1_9, if_neg n1_19, if_neg (show ¬ s = 23 by rw [s1]; decide)]⟩ | exact ⟨by rw [m_plainR, if_neg n1_3, if_neg n1_4, if_neg n1_5, if_neg n1_6, if_neg n1_8, if_neg n1_9, if_neg n1_17, if_neg n1_18, if_neg n1_19], by rw [m_plain, if_neg n1_0, if_neg n1_1, if_neg n1_2, if_neg n1_3, if_neg n1_4, if_neg n1_5, if_neg n1_6, if_neg n1_7, if_neg n1_8, if_neg n1_9, if_neg n1_19, if_neg (show ¬ s = 23 by rw [s1]; decide)]⟩ | exact ⟨by rw [m_plainR, if_neg n1_3, if_neg n1_4, if_neg n1_5, if_neg n1_6, if_neg n1_8, if_neg n1_9, if_neg n1_17, if_neg n1_18, if_neg n1_19], by rw [m_plain, if_neg n1_0, if_neg n1_1, if_neg n1_2, if_neg n1_3, if_neg n1_4, if_neg n1_5, if_neg n1_6, if_neg n1_7, if_neg n1_8, if_neg n1_9, if_neg n1_19, if_neg n1_23]⟩)⟩
  refine ab_tw_c 17 282 (by decide) (by decide) (fun s1 => ?_) (fun n1_17 => ?_)
  · refine ab_bipush (pc := 282) (v := 100) dX4_plain_282 (by decide) ?_
    refine ab_iload_n (pc := 284) dX4_plain_284 rfl rfl ?_
    refine ab_iadd (pc := 285) dX4_plain_285 ?_
    exact ab_reti (pc := 286) dX4_plain_286 rfl ⟨_, rfl, ⟨by rw [m_plainR, if_neg n1_3, if_neg n1_4, if_neg n1_5, if_neg n1_6, if_neg n1_8, if_neg n1_9, if_pos s1], by rw [m_plain, if_neg n1_0, if_neg n1_1, if_neg n1_2, if_neg n1_3, if_neg n1_4, if_neg n1_5, if_neg n1_6, if_neg n1_7, if_neg n1_8, if_neg n1_9, if_neg (show ¬ s = 19 by rw [s1]; decide), if_neg (show ¬ s = 23 by rw [s1]; decide)]⟩⟩
  refine ab_tw_c 18 287 (by decide) (by decide) (fun s1 => ?_) (fun n1_18 => ?_)
  · refine ab_sipush (pc := 287) (v := 200) dX4_plain_287 (by decide) ?_
    refine ab_iload_n (pc := 290) dX4_plain_290 rfl rfl ?_
    refine ab_iadd (pc := 291) dX4_plain_291 ?_
    exact ab_reti (pc := 292) dX4_plain_292 rfl ⟨_, rfl, ⟨by rw [m_plainR, if_neg n1_3, if_neg n1_4, if_neg n1_5, if_neg n1_6, if_neg n1_8, if_neg n1_9, if_neg n1_17, if_pos s1], by rw [m_plain, if_neg n1_0, if_neg n1_1, if_neg n1_2, if_neg n1_3, if_neg n1_4, if_neg n1_5, if_neg n1_6, if_neg n1_7, if_neg n1_8, if_neg n1_9, if_neg (show ¬ s = 19 by rw [s1]; decide), if_neg (show ¬ s = 23 by rw [s1]; decide)]⟩⟩
  refine ab_tw_c 19 293 (by decide) (by decide) (fun s1 => ?_) (fun n1_19 => ?_)
  · refine ab_aload_n (pc := 293) dX4_plain_293 rfl rfl ?_
    refine ab_aload_n (pc := 294) dX4_plain_294 rfl rfl ?_
    refine ab_getr (pc := 295) dX4_plain_295 fX4_22 rfl rfl ?_
    refine ab_iload_n (pc := 298) dX4_plain_298 rfl rfl ?_
    refine ab_iald (pc := 299) dX4_plain_299 rfl (hA (by simp only [s1]; decide)) ?_
    refine ab_puti (pc := 300) dX4_plain_300 fwX4_171 rfl rfl ?_
    refine ab_iconst (pc := 303) (v := 2) dX4_plain_303 (by decide) ?_
    exact ab_reti (pc := 304) dX4_plain_304 rfl ⟨_, rfl, ⟨by rw [m_plainR, if_neg n1_3, if_neg n1_4, if_neg n1_5, if_neg n1_6, if_neg n1_8, if_neg n1_9, if_neg n1_17, if_neg n1_18, if_pos s1], by rw [m_plain, if_neg n1_0, if_neg n1_1, if_neg n1_2, if_neg n1_3, if_neg n1_4, if_neg n1_5, if_neg n1_6, if_neg n1_7, if_neg n1_8, if_neg n1_9, if_pos s1]⟩⟩
  refine ab_tw_c 20 329 (by decide) (by decide) (fun s1 => ?_) (fun n1_20 => ?_)
  · refine ab_iconst (pc := 329) (v := 0) dX4_plain_329 (by decide) ?_
    exact ab_reti (pc := 330) dX4_plain_330 rfl ⟨_, rfl, (by first | exact ⟨by rw [m_plainR, if_neg n1_3, if_neg n1_4, if_neg n1_5, if_neg n1_6, if_neg n1_8, if_neg n1_9, if_neg (show ¬ s = 17 by rw [s1]; decide), if_neg (show ¬ s = 18 by rw [s1]; decide), if_neg (show ¬ s = 19 by rw [s1]; decide)], by rw [m_plain, if_neg n1_0, if_neg n1_1, if_neg n1_2, if_neg n1_3, if_neg n1_4, if_neg n1_5, if_neg n1_6, if_neg n1_7, if_neg n1_8, if_neg n1_9, if_neg (show ¬ s = 19 by rw [s1]; decide), if_neg (show ¬ s = 23 by rw [s1]; decide)]⟩ | exact ⟨by rw [m_plainR, if_neg n1_3, if_neg n1_4, if_neg n1_5, if_neg n1_6, if_neg n1_8, if_neg n1_9, if_neg (show ¬ s = 17 by rw [s1]; decide), if_neg (show ¬ s = 18 by rw [s1]; decide), if_neg (show ¬ s = 19 by rw [s1]; decide)], by rw [m_plain, if_neg n1_0, if_neg n1_1, if_neg n1_2, if_neg n1_3, if_neg n1_4, if_neg n1_5, if_neg n1_6, if_neg n1_7, if_neg n1_8, if_neg n1_9, if_neg (show ¬ s = 19 by rw [s1]; decide), if_neg (show ¬ s = 23 by rw [s1]; decide)]⟩ | exact ⟨by rw [m_plainR, if_neg n1_3, if_neg n1_4, if_neg n1_5, if_neg n1_6, if_neg n1_8, if_neg n1_9, if_neg (show ¬ s = 17 by rw [s1]; decide), if_neg (show ¬ s = 18 by rw [s1]; decide), if_neg (show ¬ s = 19 by rw [s1]; decide)], by rw [m_plain, if_neg n1_0, if_neg n1_1, if_neg n1_2, if_neg n1_3, if_neg n1_4, if_neg n1_5, if_neg n1_6, if_neg n1_7, if_neg n1_8, if_neg n1_9, if_neg (show ¬ s = 19 by rw [s1]; decide), if_neg (show ¬ s = 23 by rw [s1]; decide)]⟩ | exact ⟨by rw [m_plainR, if_neg n1_3, if_neg n1_4, if_neg n1_5, if_neg n1_6, if_neg n1_8, if_neg n1_9, if_neg (show ¬ s = 17 by rw [s1]; decide), if_neg (show ¬ s = 18 by rw [s1]; decide), if_neg (show ¬ s = 19 by rw [s1]; decide)], by rw [m_plain, if_neg n1_0, if_neg n1_1, if_neg n1_2, if_neg n1_3, if_neg n1_4, if_neg n1_5, if_neg n1_6, if_neg n1_7, if_neg n1_8, if_neg n1_9, if_neg (show ¬ s = 19 by rw [s1]; decide), if_neg (show ¬ s = 23 by rw [s1]; decide)]⟩ | exact ⟨by rw [m_plainR, if_neg n1_3, if_neg n1_4, if_neg n1_5, if_neg n1_6, if_neg n1_8, if_neg n1_9, if_neg (show ¬ s = 17 by rw [s1]; decide), if_neg (show ¬ s = 18 by rw [s1]; decide), if_neg (show ¬ s = 19 by rw [s1]; decide)], by rw [m_plain, if_neg n1_0, if_neg n1_1, if_neg n1_2, if_neg n1_3, if_neg n1_4, if_neg n1_5, if_neg n1_6, if_neg n1_7, if_neg n1_8, if_neg n1_9, if_neg (show ¬ s = 19 by rw [s1]; decide), if_neg (show ¬ s = 23 by rw [s1]; decide)]⟩ | exact ⟨by rw [m_plainR, if_neg n1_3, if_neg n1_4, if_neg n1_5, if_neg n1_6, if_neg n1_8, if_neg n1_9, if_neg (show ¬ s = 17 by rw [s1]; decide), if_neg (show ¬ s = 18 by rw [s1]; decide), if_neg (show ¬ s = 19 by rw [s1]; decide)], by rw [m_plain, if_neg n1_0, if_neg n1_1, if_neg n1_2, if_neg n1_3, if_neg n1_4, if_neg n1_5, if_neg n1_6, if_neg n1_7, if_neg n1_8, if_neg n1_9, if_neg (show ¬ s = 19 by rw [s1]; decide), if_neg (show ¬ s = 23 by rw [s1]; decide)]⟩ | exact ⟨by rw [m_plainR, if_neg n1_3, if_neg n1_4, if_neg n1_5, if_neg n1_6, if_neg n1_8, if_neg n1_9, if_neg (show ¬ s = 17 by rw [s1]; decide), if_neg (show ¬ s = 18 by rw [s1]; decide), if_neg (show ¬ s = 19 by rw [s1]; decide)], by rw [m_plain, if_neg n1_0, if_neg n1_1, if_neg n1_2, if_neg n1_3, if_neg n1_4, if_neg n1_5, if_neg n1_6, if_neg n1_7, if_neg n1_8, if_neg n1_9, if_neg (show ¬ s = 19 by rw [s1]; decide), if_neg (show ¬ s = 23 by rw [s1]; decide)]⟩ | exact ⟨by rw [m_plainR, if_neg n1_3, if_neg n1_4, if_neg n1_5, if_neg n1_6, if_neg n1_8, if_neg n1_9, if_neg n1_17, if_neg n1_18, if_neg n1_19], by rw [m_plain, if_neg n1_0, if_neg n1_1, if_neg n1_2, if_neg n1_3, if_neg n1_4, if_neg n1_5, if_neg n1_6, if_neg n1_7, if_neg n1_8, if_neg n1_9, if_neg n1_19, if_neg (show ¬ s = 23 by rw [s1]; decide)]⟩ | exact ⟨by rw [m_plainR, if_neg n1_3, if_neg n1_4, if_neg n1_5, if_neg n1_6, if_neg n1_8, if_neg n1_9, if_neg n1_17, if_neg n1_18, if_neg n1_19], by rw [m_plain, if_neg n1_0, if_neg n1_1, if_neg n1_2, if_neg n1_3, if_neg n1_4, if_neg n1_5, if_neg n1_6, if_neg n1_7, if_neg n1_8, if_neg n1_9, if_neg n1_19, if_neg (show ¬ s = 23 by rw [s1]; decide)]⟩ | exact ⟨by rw [m_plainR, if_neg n1_3, if_neg n1_4, if_neg n1_5, if_neg n1_6, if_neg n1_8, if_neg n1_9, if_neg n1_17, if_neg n1_18, if_neg n1_19], by rw [m_plain, if_neg n1_0, if_neg n1_1, if_neg n1_2, if_neg n1_3, if_neg n1_4, if_neg n1_5, if_neg n1_6, if_neg n1_7, if_neg n1_8, if_neg n1_9, if_neg n1_19, if_neg (show ¬ s = 23 by rw [s1]; decide)]⟩ | exact ⟨by rw [m_plainR, if_neg n1_3, if_neg n1_4, if_neg n1_5, if_neg n1_6, if_neg n1_8, if_neg n1_9, if_neg n1_17, if_neg n1_18, if_neg n1_19], by rw [m_plain, if_neg n1_0, if_neg n1_1, if_neg n1_2, if_neg n1_3, if_neg n1_4, if_neg n1_5, if_neg n1_6, if_neg n1_7, if_neg n1_8, if_neg n1_9, if_neg n1_19, if_neg n1_23]⟩)⟩
  refine ab_tw_c 21 329 (by decide) (by decide) (fun s1 => ?_) (fun n1_21 => ?_)
  · refine ab_iconst (pc := 329) (v := 0) dX4_plain_329 (by decide) ?_
    exact ab_reti (pc := 330) dX4_plain_330 rfl ⟨_, rfl, (by first | exact ⟨by rw [m_plainR, if_neg n1_3, if_neg n1_4, if_neg n1_5, if_neg n1_6, if_neg n1_8, if_neg n1_9, if_neg (show ¬ s = 17 by rw [s1]; decide), if_neg (show ¬ s = 18 by rw [s1]; decide), if_neg (show ¬ s = 19 by rw [s1]; decide)], by rw [m_plain, if_neg n1_0, if_neg n1_1, if_neg n1_2, if_neg n1_3, if_neg n1_4, if_neg n1_5, if_neg n1_6, if_neg n1_7, if_neg n1_8, if_neg n1_9, if_neg (show ¬ s = 19 by rw [s1]; decide), if_neg (show ¬ s = 23 by rw [s1]; decide)]⟩ | exact ⟨by rw [m_plainR, if_neg n1_3, if_neg n1_4, if_neg n1_5, if_neg n1_6, if_neg n1_8, if_neg n1_9, if_neg (show ¬ s = 17 by rw [s1]; decide), if_neg (show ¬ s = 18 by rw [s1]; decide), if_neg (show ¬ s = 19 by rw [s1]; decide)], by rw [m_plain, if_neg n1_0, if_neg n1_1, if_neg n1_2, if_neg n1_3, if_neg n1_4, if_neg n1_5, if_neg n1_6, if_neg n1_7, if_neg n1_8, if_neg n1_9, if_neg (show ¬ s = 19 by rw [s1]; decide), if_neg (show ¬ s = 23 by rw [s1]; decide)]⟩ | exact ⟨by rw [m_plainR, if_neg n1_3, if_neg n1_4, if_neg n1_5, if_neg n1_6, if_neg n1_8, if_neg n1_9, if_neg (show ¬ s = 17 by rw [s1]; decide), if_neg (show ¬ s = 18 by rw [s1]; decide), if_neg (show ¬ s = 19 by rw [s1]; decide)], by rw [m_plain, if_neg n1_0, if_neg n1_1, if_neg n1_2, if_neg n1_3, if_neg n1_4, if_neg n1_5, if_neg n1_6, if_neg n1_7, if_neg n1_8, if_neg n1_9, if_neg (show ¬ s = 19 by rw [s1]; decide), if_neg (show ¬ s = 23 by rw [s1]; decide)]⟩ | exact ⟨by rw [m_plainR, if_neg n1_3, if_neg n1_4, if_neg n1_5, if_neg n1_6, if_neg n1_8, if_neg n1_9, if_neg (show ¬ s = 17 by rw [s1]; decide), if_neg (show ¬ s = 18 by rw [s1]; decide), if_neg (show ¬ s = 19 by rw [s1]; decide)], by rw [m_plain, if_neg n1_0, if_neg n1_1, if_neg n1_2, if_neg n1_3, if_neg n1_4, if_neg n1_5, if_neg n1_6, if_neg n1_7, if_neg n1_8, if_neg n1_9, if_neg (show ¬ s = 19 by rw [s1]; decide), if_neg (show ¬ s = 23 by rw [s1]; decide)]⟩ | exact ⟨by rw [m_plainR, if_neg n1_3, if_neg n1_4, if_neg n1_5, if_neg n1_6, if_neg n1_8, if_neg n1_9, if_neg (show ¬ s = 17 by rw [s1]; decide), if_neg (show ¬ s = 18 by rw [s1]; decide), if_neg (show ¬ s = 19 by rw [s1]; decide)], by rw [m_plain, if_neg n1_0, if_neg n1_1, if_neg n1_2, if_neg n1_3, if_neg n1_4, if_neg n1_5, if_neg n1_6, if_neg n1_7, if_neg n1_8, if_neg n1_9, if_neg (show ¬ s = 19 by rw [s1]; decide), if_neg (show ¬ s = 23 by rw [s1]; decide)]⟩ | exact ⟨by rw [m_plainR, if_neg n1_3, if_neg n1_4, if_neg n1_5, if_neg n1_6, if_neg n1_8, if_neg n1_9, if_neg (show ¬ s = 17 by rw [s1]; decide), if_neg (show ¬ s = 18 by rw [s1]; decide), if_neg (show ¬ s = 19 by rw [s1]; decide)], by rw [m_plain, if_neg n1_0, if_neg n1_1, if_neg n1_2, if_neg n1_3, if_neg n1_4, if_neg n1_5, if_neg n1_6, if_neg n1_7, if_neg n1_8, if_neg n1_9, if_neg (show ¬ s = 19 by rw [s1]; decide), if_neg (show ¬ s = 23 by rw [s1]; decide)]⟩ | exact ⟨by rw [m_plainR, if_neg n1_3, if_neg n1_4, if_neg n1_5, if_neg n1_6, if_neg n1_8, if_neg n1_9, if_neg (show ¬ s = 17 by rw [s1]; decide), if_neg (show ¬ s = 18 by rw [s1]; decide), if_neg (show ¬ s = 19 by rw [s1]; decide)], by rw [m_plain, if_neg n1_0, if_neg n1_1, if_neg n1_2, if_neg n1_3, if_neg n1_4, if_neg n1_5, if_neg n1_6, if_neg n1_7, if_neg n1_8, if_neg n1_9, if_neg (show ¬ s = 19 by rw [s1]; decide), if_neg (show ¬ s = 23 by rw [s1]; decide)]⟩ | exact ⟨by rw [m_plainR, if_neg n1_3, if_neg n1_4, if_neg n1_5, if_neg n1_6, if_neg n1_8, if_neg n1_9, if_neg n1_17, if_neg n1_18, if_neg n1_19], by rw [m_plain, if_neg n1_0, if_neg n1_1, if_neg n1_2, if_neg n1_3, if_neg n1_4, if_neg n1_5, if_neg n1_6, if_neg n1_7, if_neg n1_8, if_neg n1_9, if_neg n1_19, if_neg (show ¬ s = 23 by rw [s1]; decide)]⟩ | exact ⟨by rw [m_plainR, if_neg n1_3, if_neg n1_4, if_neg n1_5, if_neg n1_6, if_neg n1_8, if_neg n1_9, if_neg n1_17, if_neg n1_18, if_neg n1_19], by rw [m_plain, if_neg n1_0, if_neg n1_1, if_neg n1_2, if_neg n1_3, if_neg n1_4, if_neg n1_5, if_neg n1_6, if_neg n1_7, if_neg n1_8, if_neg n1_9, if_neg n1_19, if_neg (show ¬ s = 23 by rw [s1]; decide)]⟩ | exact ⟨by rw [m_plainR, if_neg n1_3, if_neg n1_4, if_neg n1_5, if_neg n1_6, if_neg n1_8, if_neg n1_9, if_neg n1_17, if_neg n1_18, if_neg n1_19], by rw [m_plain, if_neg n1_0, if_neg n1_1, if_neg n1_2, if_neg n1_3, if_neg n1_4, if_neg n1_5, if_neg n1_6, if_neg n1_7, if_neg n1_8, if_neg n1_9, if_neg n1_19, if_neg (show ¬ s = 23 by rw [s1]; decide)]⟩ | exact ⟨by rw [m_plainR, if_neg n1_3, if_neg n1_4, if_neg n1_5, if_neg n1_6, if_neg n1_8, if_neg n1_9, if_neg n1_17, if_neg n1_18, if_neg n1_19], by rw [m_plain, if_neg n1_0, if_neg n1_1, if_neg n1_2, if_neg n1_3, if_neg n1_4, if_neg n1_5, if_neg n1_6, if_neg n1_7, if_neg n1_8, if_neg n1_9, if_neg n1_19, if_neg n1_23]⟩)⟩
  refine ab_tw_c 22 329 (by decide) (by decide) (fun s1 => ?_) (fun n1_22 => ?_)
  · refine ab_iconst (pc := 329) (v := 0) dX4_plain_329 (by decide) ?_
    exact ab_reti (pc := 330) dX4_plain_330 rfl ⟨_, rfl, (by first | exact ⟨by rw [m_plainR, if_neg n1_3, if_neg n1_4, if_neg n1_5, if_neg n1_6, if_neg n1_8, if_neg n1_9, if_neg (show ¬ s = 17 by rw [s1]; decide), if_neg (show ¬ s = 18 by rw [s1]; decide), if_neg (show ¬ s = 19 by rw [s1]; decide)], by rw [m_plain, if_neg n1_0, if_neg n1_1, if_neg n1_2, if_neg n1_3, if_neg n1_4, if_neg n1_5, if_neg n1_6, if_neg n1_7, if_neg n1_8, if_neg n1_9, if_neg (show ¬ s = 19 by rw [s1]; decide), if_neg (show ¬ s = 23 by rw [s1]; decide)]⟩ | exact ⟨by rw [m_plainR, if_neg n1_3, if_neg n1_4, if_neg n1_5, if_neg n1_6, if_neg n1_8, if_neg n1_9, if_neg (show ¬ s = 17 by rw [s1]; decide), if_neg (show ¬ s = 18 by rw [s1]; decide), if_neg (show ¬ s = 19 by rw [s1]; decide)], by rw [m_plain, if_neg n1_0, if_neg n1_1, if_neg n1_2, if_neg n1_3, if_neg n1_4, if_neg n1_5, if_neg n1_6, if_neg n1_7, if_neg n1_8, if_neg n1_9, if_neg (show ¬ s = 19 by rw [s1]; decide), if_neg (show ¬ s = 23 by rw [s1]; decide)]⟩ | exact ⟨by rw [m_plainR, if_neg n1_3, if_neg n1_4, if_neg n1_5, if_neg n1_6, if_neg n1_8, if_neg n1_9, if_neg (show ¬ s = 17 by rw [s1]; decide), if_neg (show ¬ s = 18 by rw [s1]; decide), if_neg (show ¬ s = 19 by rw [s1]; decide)], by rw [m_plain, if_neg n1_0, if_neg n1_1, if_neg n1_2, if_neg n1_3, if_neg n1_4, if_neg n1_5, if_neg n1_6, if_neg n1_7, if_neg n1_8, if_neg n1_9, if_neg (show ¬ s = 19 by rw [s1]; decide), if_neg (show ¬ s = 23 by rw [s1]; decide)]⟩ | exact ⟨by rw [m_plainR, if_neg n1_3, if_neg n1_4, if_neg n1_5, if_neg n1_6, if_neg n1_8, if_neg n1_9, if_neg (show ¬ s = 17 by rw [s1]; decide), if_neg (show ¬ s = 18 by rw [s1]; decide), if_neg (show ¬ s = 19 by rw [s1]; decide)], by rw [m_plain, if_neg n1_0, if_neg n1_1, if_neg n1_2, if_neg n1_3, if_neg n1_4, if_neg n1_5, if_neg n1_6, if_neg n1_7, if_neg n1_8, if_neg n1_9, if_neg (show ¬ s = 19 by rw [s1]; decide), if_neg (show ¬ s = 23 by rw [s1]; decide)]⟩ | exact ⟨by rw [m_plainR, if_neg n1_3, if_neg n1_4, if_neg n1_5, if_neg n1_6, if_neg n1_8, if_neg n1_9, if_neg (show ¬ s = 17 by rw [s1]; decide), if_neg (show ¬ s = 18 by rw [s1]; decide), if_neg (show ¬ s = 19 by rw [s1]; decide)], by rw [m_plain, if_neg n1_0, if_neg n1_1, if_neg n1_2, if_neg n1_3, if_neg n1_4, if_neg n1_5, if_neg n1_6, if_neg n1_7, if_neg n1_8, if_neg n1_9, if_neg (show ¬ s = 19 by rw [s1]; decide), if_neg (show ¬ s = 23 by rw [s1]; decide)]⟩ | exact ⟨by rw [m_plainR, if_neg n1_3, if_neg n1_4, if_neg n1_5, if_neg n1_6, if_neg n1_8, if_neg n1_9, if_neg (show ¬ s = 17 by rw [s1]; decide), if_neg (show ¬ s = 18 by rw [s1]; decide), if_neg (show ¬ s = 19 by rw [s1]; decide)], by rw [m_plain, if_neg n1_0, if_neg n1_1, if_neg n1_2, if_neg n1_3, if_neg n1_4, if_neg n1_5, if_neg n1_6, if_neg n1_7, if_neg n1_8, if_neg n1_9, if_neg (show ¬ s = 19 by rw [s1]; decide), if_neg (show ¬ s = 23 by rw [s1]; decide)]⟩ | exact ⟨by rw [m_plainR, if_neg n1_3, if_neg n1_4, if_neg n1_5, if_neg n1_6, if_neg n1_8, if_neg n1_9, if_neg (show ¬ s = 17 by rw [s1]; decide), if_neg (show ¬ s = 18 by rw [s1]; decide), if_neg (show ¬ s = 19 by rw [s1]; decide)], by rw [m_plain, if_neg n1_0, if_neg n1_1, if_neg n1_2, if_neg n1_3, if_neg n1_4, if_neg n1_5, if_neg n1_6, if_neg n1_7, if_neg n1_8, if_neg n1_9, if_neg (show ¬ s = 19 by rw [s1]; decide), if_neg (show ¬ s = 23 by rw [s1]; decide)]⟩ | exact ⟨by rw [m_plainR, if_neg n1_3, if_neg n1_4, if_neg n1_5, if_neg n1_6, if_neg n1_8, if_neg n1_9, if_neg n1_17, if_neg n1_18, if_neg n1_19], by rw [m_plain, if_neg n1_0, if_neg n1_1, if_neg n1_2, if_neg n1_3, if_neg n1_4, if_neg n1_5, if_neg n1_6, if_neg n1_7, if_neg n1_8, if_neg n1_9, if_neg n1_19, if_neg (show ¬ s = 23 by rw [s1]; decide)]⟩ | exact ⟨by rw [m_plainR, if_neg n1_3, if_neg n1_4, if_neg n1_5, if_neg n1_6, if_neg n1_8, if_neg n1_9, if_neg n1_17, if_neg n1_18, if_neg n1_19], by rw [m_plain, if_neg n1_0, if_neg n1_1, if_neg n1_2, if_neg n1_3, if_neg n1_4, if_neg n1_5, if_neg n1_6, if_neg n1_7, if_neg n1_8, if_neg n1_9, if_neg n1_19, if_neg (show ¬ s = 23 by rw [s1]; decide)]⟩ | exact ⟨by rw [m_plainR, if_neg n1_3, if_neg n1_4, if_neg n1_5, if_neg n1_6, if_neg n1_8, if_neg n1_9, if_neg n1_17, if_neg n1_18, if_neg n1_19], by rw [m_plain, if_neg n1_0, if_neg n1_1, if_neg n1_2, if_neg n1_3, if_neg n1_4, if_neg n1_5, if_neg n1_6, if_neg n1_7, if_neg n1_8, if_neg n1_9, if_neg n1_19, if_neg (show ¬ s = 23 by rw [s1]; decide)]⟩ | exact ⟨by rw [m_plainR, if_neg n1_3, if_neg n1_4, if_neg n1_5, if_neg n1_6, if_neg n1_8, if_neg n1_9, if_neg n1_17, if_neg n1_18, if_neg n1_19], by rw [m_plain, if_neg n1_0, if_neg n1_1, if_neg n1_2, if_neg n1_3, if_neg n1_4, if_neg n1_5, if_neg n1_6, if_neg n1_7, if_neg n1_8, if_neg n1_9, if_neg n1_19, if_neg n1_23]⟩)⟩
  refine ab_tw_c 23 305 (by decide) (by decide) (fun s1 => ?_) (fun n1_23 => ?_)
  · refine ab_aload_n (pc := 305) dX4_plain_305 rfl rfl ?_
    refine ab_geti (pc := 306) dX4_plain_306 fX4_127 rfl rfl ?_
    refine ab_if_le (pc := 309) 327 dX4_plain_309 (by decide) (fun c309 => ?_) (fun c309 => ?_)
    · refine ab_iconst (pc := 327) (v := 0) dX4_plain_327 (by decide) ?_
      exact ab_reti (pc := 328) dX4_plain_328 rfl ⟨_, rfl, (by first | exact ⟨by rw [m_plainR, if_neg n1_3, if_neg n1_4, if_neg n1_5, if_neg n1_6, if_neg n1_8, if_neg n1_9, if_neg n1_17, if_neg n1_18, if_neg n1_19], by rw [m_plain, if_neg n1_0, if_neg n1_1, if_neg n1_2, if_neg n1_3, if_neg n1_4, if_neg n1_5, if_neg n1_6, if_neg n1_7, if_neg n1_8, if_neg n1_9, if_neg n1_19, if_pos s1, if_pos c309]⟩ | exact ⟨by rw [m_plainR, if_neg n1_3, if_neg n1_4, if_neg n1_5, if_neg n1_6, if_neg n1_8, if_neg n1_9, if_neg n1_17, if_neg n1_18, if_neg n1_19], by rw [m_plain, if_neg n1_0, if_neg n1_1, if_neg n1_2, if_neg n1_3, if_neg n1_4, if_neg n1_5, if_neg n1_6, if_neg n1_7, if_neg n1_8, if_neg n1_9, if_neg n1_19, if_pos s1, if_neg c309]⟩)⟩
    · refine ab_aload_n (pc := 312) dX4_plain_312 rfl rfl ?_
      refine ab_aload_n (pc := 313) dX4_plain_313 rfl rfl ?_
      refine ab_getr (pc := 314) dX4_plain_314 fX4_65 rfl rfl ?_
      refine ab_aload_n (pc := 317) dX4_plain_317 rfl rfl ?_
      refine ab_geti (pc := 318) dX4_plain_318 fX4_127 rfl rfl ?_
      refine ab_iconst (pc := 321) (v := 1) dX4_plain_321 (by decide) ?_
      refine ab_isub (pc := 322) dX4_plain_322 ?_
      refine ab_iald (pc := 323) dX4_plain_323 rfl (hmk c309) ?_
      refine ab_puti (pc := 324) dX4_plain_324 fwX4_130 rfl rfl ?_
      refine ab_iconst (pc := 327) (v := 0) dX4_plain_327 (by decide) ?_
      exact ab_reti (pc := 328) dX4_plain_328 rfl ⟨_, rfl, (by first | exact ⟨by rw [m_plainR, if_neg n1_3, if_neg n1_4, if_neg n1_5, if_neg n1_6, if_neg n1_8, if_neg n1_9, if_neg n1_17, if_neg n1_18, if_neg n1_19], by rw [m_plain, if_neg n1_0, if_neg n1_1, if_neg n1_2, if_neg n1_3, if_neg n1_4, if_neg n1_5, if_neg n1_6, if_neg n1_7, if_neg n1_8, if_neg n1_9, if_neg n1_19, if_pos s1, if_pos c309]⟩ | exact ⟨by rw [m_plainR, if_neg n1_3, if_neg n1_4, if_neg n1_5, if_neg n1_6, if_neg n1_8, if_neg n1_9, if_neg n1_17, if_neg n1_18, if_neg n1_19], by rw [m_plain, if_neg n1_0, if_neg n1_1, if_neg n1_2, if_neg n1_3, if_neg n1_4, if_neg n1_5, if_neg n1_6, if_neg n1_7, if_neg n1_8, if_neg n1_9, if_neg n1_19, if_pos s1, if_neg c309]⟩)⟩
  refine ab_tw_n 329 (by decide) ?_
  refine ab_iconst (pc := 329) (v := 0) dX4_plain_329 (by decide) ?_
  exact ab_reti (pc := 330) dX4_plain_330 rfl ⟨_, rfl, (by first | exact ⟨by rw [m_plainR, if_neg n1_3, if_neg n1_4, if_neg n1_5, if_neg n1_6, if_neg n1_8, if_neg n1_9, if_neg (show ¬ s = 17 by rw [s1]; decide), if_neg (show ¬ s = 18 by rw [s1]; decide), if_neg (show ¬ s = 19 by rw [s1]; decide)], by rw [m_plain, if_neg n1_0, if_neg n1_1, if_neg n1_2, if_neg n1_3, if_neg n1_4, if_neg n1_5, if_neg n1_6, if_neg n1_7, if_neg n1_8, if_neg n1_9, if_neg (show ¬ s = 19 by rw [s1]; decide), if_neg (show ¬ s = 23 by rw [s1]; decide)]⟩ | exact ⟨by rw [m_plainR, if_neg n1_3, if_neg n1_4, if_neg n1_5, if_neg n1_6, if_neg n1_8, if_neg n1_9, if_neg (show ¬ s = 17 by rw [s1]; decide), if_neg (show ¬ s = 18 by rw [s1]; decide), if_neg (show ¬ s = 19 by rw [s1]; decide)], by rw [m_plain, if_neg n1_0, if_neg n1_1, if_neg n1_2, if_neg n1_3, if_neg n1_4, if_neg n1_5, if_neg n1_6, if_neg n1_7, if_neg n1_8, if_neg n1_9, if_neg (show ¬ s = 19 by rw [s1]; decide), if_neg (show ¬ s = 23 by rw [s1]; decide)]⟩ | exact ⟨by rw [m_plainR, if_neg n1_3, if_neg n1_4, if_neg n1_5, if_neg n1_6, if_neg n1_8, if_neg n1_9, if_neg (show ¬ s = 17 by rw [s1]; decide), if_neg (show ¬ s = 18 by rw [s1]; decide), if_neg (show ¬ s = 19 by rw [s1]; decide)], by rw [m_plain, if_neg n1_0, if_neg n1_1, if_neg n1_2, if_neg n1_3, if_neg n1_4, if_neg n1_5, if_neg n1_6, if_neg n1_7, if_neg n1_8, if_neg n1_9, if_neg (show ¬ s = 19 by rw [s1]; decide), if_neg (show ¬ s = 23 by rw [s1]; decide)]⟩ | exact ⟨by rw [m_plainR, if_neg n1_3, if_neg n1_4, if_neg n1_5, if_neg n1_6, if_neg n1_8, if_neg n1_9, if_neg (show ¬ s = 17 by rw [s1]; decide), if_neg (show ¬ s = 18 by rw [s1]; decide), if_neg (show ¬ s = 19 by rw [s1]; decide)], by rw [m_plain, if_neg n1_0, if_neg n1_1, if_neg n1_2, if_neg n1_3, if_neg n1_4, if_neg n1_5, if_neg n1_6, if_neg n1_7, if_neg n1_8, if_neg n1_9, if_neg (show ¬ s = 19 by rw [s1]; decide), if_neg (show ¬ s = 23 by rw [s1]; decide)]⟩ | exact ⟨by rw [m_plainR, if_neg n1_3, if_neg n1_4, if_neg n1_5, if_neg n1_6, if_neg n1_8, if_neg n1_9, if_neg (show ¬ s = 17 by rw [s1]; decide), if_neg (show ¬ s = 18 by rw [s1]; decide), if_neg (show ¬ s = 19 by rw [s1]; decide)], by rw [m_plain, if_neg n1_0, if_neg n1_1, if_neg n1_2, if_neg n1_3, if_neg n1_4, if_neg n1_5, if_neg n1_6, if_neg n1_7, if_neg n1_8, if_neg n1_9, if_neg (show ¬ s = 19 by rw [s1]; decide), if_neg (show ¬ s = 23 by rw [s1]; decide)]⟩ | exact ⟨by rw [m_plainR, if_neg n1_3, if_neg n1_4, if_neg n1_5, if_neg n1_6, if_neg n1_8, if_neg n1_9, if_neg (show ¬ s = 17 by rw [s1]; decide), if_neg (show ¬ s = 18 by rw [s1]; decide), if_neg (show ¬ s = 19 by rw [s1]; decide)], by rw [m_plain, if_neg n1_0, if_neg n1_1, if_neg n1_2, if_neg n1_3, if_neg n1_4, if_neg n1_5, if_neg n1_6, if_neg n1_7, if_neg n1_8, if_neg n1_9, if_neg (show ¬ s = 19 by rw [s1]; decide), if_neg (show ¬ s = 23 by rw [s1]; decide)]⟩ | exact ⟨by rw [m_plainR, if_neg n1_3, if_neg n1_4, if_neg n1_5, if_neg n1_6, if_neg n1_8, if_neg n1_9, if_neg (show ¬ s = 17 by rw [s1]; decide), if_neg (show ¬ s = 18 by rw [s1]; decide), if_neg (show ¬ s = 19 by rw [s1]; decide)], by rw [m_plain, if_neg n1_0, if_neg n1_1, if_neg n1_2, if_neg n1_3, if_neg n1_4, if_neg n1_5, if_neg n1_6, if_neg n1_7, if_neg n1_8, if_neg n1_9, if_neg (show ¬ s = 19 by rw [s1]; decide), if_neg (show ¬ s = 23 by rw [s1]; decide)]⟩ | exact ⟨by rw [m_plainR, if_neg n1_3, if_neg n1_4, if_neg n1_5, if_neg n1_6, if_neg n1_8, if_neg n1_9, if_neg n1_17, if_neg n1_18, if_neg n1_19], by rw [m_plain, if_neg n1_0, if_neg n1_1, if_neg n1_2, if_neg n1_3, if_neg n1_4, if_neg n1_5, if_neg n1_6, if_neg n1_7, if_neg n1_8, if_neg n1_9, if_neg n1_19, if_neg (show ¬ s = 23 by rw [s1]; decide)]⟩ | exact ⟨by rw [m_plainR, if_neg n1_3, if_neg n1_4, if_neg n1_5, if_neg n1_6, if_neg n1_8, if_neg n1_9, if_neg n1_17, if_neg n1_18, if_neg n1_19], by rw [m_plain, if_neg n1_0, if_neg n1_1, if_neg n1_2, if_neg n1_3, if_neg n1_4, if_neg n1_5, if_neg n1_6, if_neg n1_7, if_neg n1_8, if_neg n1_9, if_neg n1_19, if_neg (show ¬ s = 23 by rw [s1]; decide)]⟩ | exact ⟨by rw [m_plainR, if_neg n1_3, if_neg n1_4, if_neg n1_5, if_neg n1_6, if_neg n1_8, if_neg n1_9, if_neg n1_17, if_neg n1_18, if_neg n1_19], by rw [m_plain, if_neg n1_0, if_neg n1_1, if_neg n1_2, if_neg n1_3, if_neg n1_4, if_neg n1_5, if_neg n1_6, if_neg n1_7, if_neg n1_8, if_neg n1_9, if_neg n1_19, if_neg (show ¬ s = 23 by rw [s1]; decide)]⟩ | exact ⟨by rw [m_plainR, if_neg n1_3, if_neg n1_4, if_neg n1_5, if_neg n1_6, if_neg n1_8, if_neg n1_9, if_neg n1_17, if_neg n1_18, if_neg n1_19], by rw [m_plain, if_neg n1_0, if_neg n1_1, if_neg n1_2, if_neg n1_3, if_neg n1_4, if_neg n1_5, if_neg n1_6, if_neg n1_7, if_neg n1_8, if_neg n1_9, if_neg n1_19, if_neg n1_23]⟩)⟩
end
section
/-! the reference's ways through blocks -/
def m_round (h : ab_H) : ab_H := if h 22 (h 0 39 - 1).toNatClampNeg = 0 then m_leave h else if h 0 16 = 60 then m_leave (ab_up h 0 41 3)
  else ab_up (ab_up (ab_up h 0 16 (h 0 16 + 1)) 22 (h 0 39 - 1).toNatClampNeg (h 22 (h 0 39 - 1).toNatClampNeg - 1)) 0 40 (h 19 (h 0 39 - 1).toNatClampNeg + 1)
def m_looped (h : ab_H) : ab_H := if h 0 41 = 0 ∨ h 0 41 = 200 then m_round (ab_up h 0 41 0) else if h 0 41 = 100 then m_leave (ab_up h 0 41 0) else if h 0 41 ≤ 100 then m_leave h else m_leave (ab_up h 0 41 (h 0 41 - 1))
def m_back (h : ab_H) (o : Int32) : ab_H :=
  if h 0 39 - 1 = 0 then ab_up (ab_up h 0 39 (h 0 39 - 1)) 0 23 (h 0 23 - 1)
  else if h 0 41 = 1 ∨ h 0 41 = 3 then ab_up (ab_up (ab_up h 0 39 (h 0 39 - 1)) 0 23 (h 0 23 - 1)) 0 40 (h 19 o.toNatClampNeg + 1)
  else ab_up (ab_up (ab_up (ab_up (ab_up h 0 39 (h 0 39 - 1)) 0 23 (h 0 23 - 1)) 0 40 (h 19 o.toNatClampNeg + 1)) 5 (h 2 (h 19 o.toNatClampNeg).toNatClampNeg).toNatClampNeg (if h 0 41 = 2 then h 0 22 else 0)) 0 41 0
def m_catch (h : ab_H) (o c : Int32) : Bool := decide (h 21 o.toNatClampNeg = 0) && (decide (h 0 41 = 1) && (decide (¬ c < 0) && decide (¬ (h 3 (h 19 o.toNatClampNeg).toNatClampNeg >>> (h 0 21 &&& 31)) &&& 1 = 0)))
def m_tried (h : ab_H) (o c f : Int32) : ab_H :=
  if h 21 o.toNatClampNeg = 2 then (if h 0 41 = 0 then m_leave (ab_up (ab_up (ab_up h 0 41 (h 23 o.toNatClampNeg)) 0 21 (h 24 o.toNatClampNeg)) 0 22 (h 25 o.toNatClampNeg)) else m_leave h)
  else if m_catch h o c = true then ab_up (ab_up (ab_up (ab_up h 5 7 (h 0 21)) 21 o.toNatClampNeg 1) 0 41 0) 0 40 (c + 1)
  else if f < 0 ∨ h 0 41 = 3 then m_leave h
  else ab_up (ab_up (ab_up (ab_up (ab_up (ab_up h 23 o.toNatClampNeg (h 0 41)) 24 o.toNatClampNeg (h 0 21)) 25 o.toNatClampNeg (h 0 22)) 21 o.toNatClampNeg 2) 0 41 0) 0 40 (f + 1)
def m_begin (h : ab_H) (s en p : Int32) : ab_H :=
  if s = 13 then m_round (ab_up (ab_up (m_push h s (h 0 40) en) 0 40 (h 0 40 + 1)) 22 (h 0 39).toNatClampNeg (h 3 (h 0 40).toNatClampNeg))
  else if s = 14 then ab_up (ab_up (ab_up (m_push h s (h 0 40) en) 0 40 (h 0 40 + 1)) 17 (h 0 30).toNatClampNeg (h 0 28)) 0 30 (h 0 30 + 1)
  else if s = 21 ∧ h 5 (h 2 (h 0 40).toNatClampNeg).toNatClampNeg = 0 then ab_up (ab_up (m_push h s (h 0 40) en) 0 40 (h 0 40 + 1)) 0 40 (if 0 ≤ p then p + 1 else en)
  else ab_up (m_push h s (h 0 40) en) 0 40 (h 0 40 + 1)
def m_call (h : ab_H) (hd z : Int32) : ab_H := if h 0 23 = 6 ∨ ¬ z = 0 then ab_up (ab_up h 0 21 7) 0 41 1
  else ab_up (m_push (ab_up (ab_up h 0 23 (h 0 23 + 1)) 0 22 0) 0 hd (60 * h 3 hd.toNatClampNeg + h 4 (h 3 hd.toNatClampNeg).toNatClampNeg)) 0 40 (60 * h 3 hd.toNatClampNeg)
def m_step (h : ab_H) (en p z : Int32) : ab_H := if h 0 16 = 60 then ab_up h 0 41 3
  else if m_opens (h 1 (h 0 40).toNatClampNeg) = true then m_begin (ab_up h 0 16 (h 0 16 + 1)) (h 1 (h 0 40).toNatClampNeg) en p
  else if h 1 (h 0 40).toNatClampNeg = 20 then m_call (ab_up h 0 16 (h 0 16 + 1)) (h 0 40) z
  else ab_up (ab_up (m_plain (ab_up h 0 16 (h 0 16 + 1)) (h 1 (h 0 40).toNatClampNeg) (h 2 (h 0 40).toNatClampNeg) (h 3 (h 0 40).toNatClampNeg)) 0 41 (m_plainR (ab_up h 0 16 (h 0 16 + 1)) (h 1 (h 0 40).toNatClampNeg) (h 2 (h 0 40).toNatClampNeg) (h 3 (h 0 40).toNatClampNeg))) 0 40
    (m_plain (ab_up h 0 16 (h 0 16 + 1)) (h 1 (h 0 40).toNatClampNeg) (h 2 (h 0 40).toNatClampNeg) (h 3 (h 0 40).toNatClampNeg) 0 40 + 1)
def m_atEnd (h : ab_H) : Bool := if h 18 (h 0 39 - 1).toNatClampNeg = 0 then decide (h 0 40 = h 20 (h 0 39 - 1).toNatClampNeg) else m_part (h 1 (h 0 40).toNatClampNeg)
set_option maxRecDepth 100000 in
set_option maxHeartbeats 4000000 in
theorem kX4_pays2 {l : Launch} {d : Nat} {h : ab_H}  : ab_C l layM (d) mX4_pays [ab_R 0] h (ab_qi fun r h' => (¬ h 0 16 = 60 ∧ r = 1 ∧ h' = ab_up h 0 16 (h 0 16 + 1)) ∨ (h 0 16 = 60 ∧ r = 0 ∧ h' = h)) := by
  refine ab_enter (by decide) (Nat.le_of_ble_eq_true rfl) ?_
  refine ab_aload_n (pc := 0) dX4_pays_0 rfl rfl ?_
  refine ab_geti (pc := 1) dX4_pays_1 fX4_139 rfl rfl ?_
  refine ab_bipush (pc := 4) (v := 60) dX4_pays_4 (by decide) ?_
  refine ab_icmp_ne (pc := 6) 11 dX4_pays_6 (by decide) (fun c6 => ?_) (fun c6 => ?_)
  · refine ab_aload_n (pc := 11) dX4_pays_11 rfl rfl ?_
    refine ab_dup (pc := 12) dX4_pays_12 rfl ?_
    refine ab_geti (pc := 13) dX4_pays_13 fX4_139 rfl rfl ?_
    refine ab_iconst (pc := 16) (v := 1) dX4_pays_16 (by decide) ?_
    refine ab_iadd (pc := 17) dX4_pays_17 ?_
    refine ab_puti (pc := 18) dX4_pays_18 fwX4_139 rfl rfl ?_
    refine ab_iconst (pc := 21) (v := 1) dX4_pays_21 (by decide) ?_
    exact ab_retz (pc := 22) dX4_pays_22 rfl rfl ⟨_, rfl, (by first | exact Or.inl ⟨by assumption, rfl, rfl⟩ | exact Or.inr ⟨by assumption, rfl, rfl⟩)⟩
  · refine ab_iconst (pc := 9) (v := 0) dX4_pays_9 (by decide) ?_
    exact ab_retz (pc := 10) dX4_pays_10 rfl rfl ⟨_, rfl, (by first | exact Or.inl ⟨by assumption, rfl, rfl⟩ | exact Or.inr ⟨by assumption, rfl, rfl⟩)⟩

set_option maxRecDepth 100000 in
set_option maxHeartbeats 4000000 in
theorem kX4_round {l : Launch} {d : Nat} {h : ab_H} (ho : vp_in (h 0 39 - 1) 80) : ab_C l layM (d + 1) mX4_round [ab_R 0] h (ab_qv fun h' => h' = m_round h) := by
  refine ab_enter (by decide) (Nat.le_of_ble_eq_true rfl) ?_
  refine ab_aload_n (pc := 0) dX4_round_0 rfl rfl ?_
  refine ab_geti (pc := 1) dX4_round_1 fX4_95 rfl rfl ?_
  refine ab_iconst (pc := 4) (v := 1) dX4_round_4 (by decide) ?_
  refine ab_isub (pc := 5) dX4_round_5 ?_
  refine ab_istore_n (pc := 6) dX4_round_6 rfl rfl ?_
  refine ab_aload_n (pc := 7) dX4_round_7 rfl rfl ?_
  refine ab_getr (pc := 8) dX4_round_8 fX4_80 rfl rfl ?_
  refine ab_iload_n (pc := 11) dX4_round_11 rfl rfl ?_
  refine ab_iald (pc := 12) dX4_round_12 rfl (by assumption) ?_
  refine ab_if_ne (pc := 13) 21 dX4_round_13 (by decide) (fun c13 => ?_) (fun c13 => ?_)
  · refine ab_aload_n (pc := 21) dX4_round_21 rfl rfl ?_
    refine ab_V0 (pc := 22) dX4_round_22 mvX4_193 rfl rfl kX4_pays2 (ab_ki fun r22 h22 e22 => ?_)
    rcases e22 with ⟨q16, rfl, rfl⟩ | ⟨q16, rfl, rfl⟩
    · refine ab_if_ne (pc := 25) 38 dX4_round_25 (by decide) (fun c25 => ?_) (fun c25 => absurd c25 (by decide))
      refine ab_aload_n (pc := 38) dX4_round_38 rfl rfl ?_
      refine ab_getr (pc := 39) dX4_round_39 fX4_80 rfl rfl ?_
      refine ab_iload_n (pc := 42) dX4_round_42 rfl rfl ?_
      refine ab_dup2 (pc := 43) dX4_round_43 rfl rfl ?_
      refine ab_iald (pc := 44) dX4_round_44 rfl (by assumption) ?_
      refine ab_topi (by (try simp only [ab_rd, ab_rdA, Nat.reduceEqDiff, reduceIte]); exact rfl) ?_
      refine ab_iconst (pc := 45) (v := 1) dX4_round_45 (by decide) ?_
      refine ab_isub (pc := 46) dX4_round_46 ?_
      refine ab_iast (pc := 47) dX4_round_47 rfl (by assumption) ?_
      refine ab_aload_n (pc := 48) dX4_round_48 rfl rfl ?_
      refine ab_aload_n (pc := 49) dX4_round_49 rfl rfl ?_
      refine ab_getr (pc := 50) dX4_round_50 fX4_71 rfl rfl ?_
      refine ab_iload_n (pc := 53) dX4_round_53 rfl rfl ?_
      refine ab_iald (pc := 54) dX4_round_54 rfl (by assumption) ?_
      refine ab_topi (by (try simp only [ab_rd, ab_rdA, Nat.reduceEqDiff, reduceIte]); exact rfl) ?_
      refine ab_iconst (pc := 55) (v := 1) dX4_round_55 (by decide) ?_
      refine ab_iadd (pc := 56) dX4_round_56 ?_
      refine ab_puti (pc := 57) dX4_round_57 fwX4_174 rfl rfl ?_
      exact ab_retv (pc := 60) dX4_round_60 rfl ⟨rfl, (by rw [m_round, if_neg c13, if_neg q16])⟩
    · refine ab_if_ne (pc := 25) 38 dX4_round_25 (by decide) (fun c25 => absurd c25 (by decide)) (fun c25 => ?_)
      refine ab_aload_n (pc := 28) dX4_round_28 rfl rfl ?_
      refine ab_iconst (pc := 29) (v := 3) dX4_round_29 (by decide) ?_
      refine ab_puti (pc := 30) dX4_round_30 fwX4_197 rfl rfl ?_
      refine ab_aload_n (pc := 33) dX4_round_33 rfl rfl ?_
      refine ab_V0 (pc := 34) dX4_round_34 mvX4_190 rfl rfl (kX4_leave ho) (ab_kv fun h34 e34 => ?_)
      obtain rfl := e34.symm
      exact ab_retv (pc := 37) dX4_round_37 rfl ⟨rfl, (by rw [m_round, if_neg c13, if_pos q16])⟩
  · refine ab_aload_n (pc := 16) dX4_round_16 rfl rfl ?_
    refine ab_V0 (pc := 17) dX4_round_17 mvX4_190 rfl rfl (kX4_leave ho) (ab_kv fun h17 e17 => ?_)
    obtain rfl := e17.symm
    exact ab_retv (pc := 20) dX4_round_20 rfl ⟨rfl, (by rw [m_round, if_pos c13])⟩

set_option maxRecDepth 100000 in
set_option maxHeartbeats 4000000 in
theorem kX4_looped {l : Launch} {d : Nat} {h : ab_H} (ho : vp_in (h 0 39 - 1) 80) : ab_C l layM (d + 2) mX4_looped [ab_R 0] h (ab_qv fun h' => h' = m_looped h) := by
  refine ab_enter (by decide) (Nat.le_of_ble_eq_true rfl) ?_
  refine ab_aload_n (pc := 0) dX4_looped_0 rfl rfl ?_
  refine ab_geti (pc := 1) dX4_looped_1 fX4_197 rfl rfl ?_
  refine ab_if_eq (pc := 4) 17 dX4_looped_4 (by decide) (fun c4 => ?_) (fun c4 => ?_)
  · refine ab_aload_n (pc := 17) dX4_looped_17 rfl rfl ?_
    refine ab_iconst (pc := 18) (v := 0) dX4_looped_18 (by decide) ?_
    refine ab_puti (pc := 19) dX4_looped_19 fwX4_197 rfl rfl ?_
    refine ab_aload_n (pc := 22) dX4_looped_22 rfl rfl ?_
    refine ab_V0 (pc := 23) dX4_looped_23 mvX4_183 rfl rfl (kX4_round ho) (ab_kv fun h23 e23 => ?_)
    obtain rfl := e23.symm
    exact ab_retv (pc := 26) dX4_looped_26 rfl ⟨rfl, (by rw [m_looped, if_pos (by first | exact Or.inl c4 | exact Or.inr c14)])⟩
  · refine ab_aload_n (pc := 7) dX4_looped_7 rfl rfl ?_
    refine ab_geti (pc := 8) dX4_looped_8 fX4_197 rfl rfl ?_
    refine ab_sipush (pc := 11) (v := 200) dX4_looped_11 (by decide) ?_
    refine ab_icmp_ne (pc := 14) 27 dX4_looped_14 (by decide) (fun c14 => ?_) (fun c14 => ?_)
    · refine ab_aload_n (pc := 27) dX4_looped_27 rfl rfl ?_
      refine ab_geti (pc := 28) dX4_looped_28 fX4_197 rfl rfl ?_
      refine ab_bipush (pc := 31) (v := 100) dX4_looped_31 (by decide) ?_
      refine ab_icmp_ne (pc := 33) 44 dX4_looped_33 (by decide) (fun c33 => ?_) (fun c33 => ?_)
      · refine ab_aload_n (pc := 44) dX4_looped_44 rfl rfl ?_
        refine ab_geti (pc := 45) dX4_looped_45 fX4_197 rfl rfl ?_
        refine ab_bipush (pc := 48) (v := 100) dX4_looped_48 (by decide) ?_
        refine ab_icmp_le (pc := 50) 63 dX4_looped_50 (by decide) (fun c50 => ?_) (fun c50 => ?_)
        · refine ab_aload_n (pc := 63) dX4_looped_63 rfl rfl ?_
          refine ab_V0 (pc := 64) dX4_looped_64 mvX4_190 rfl rfl (kX4_leave ho) (ab_kv fun h64 e64 => ?_)
          obtain rfl := e64.symm
          exact ab_retv (pc := 67) dX4_looped_67 rfl ⟨rfl, (by first | rw [m_looped, if_neg (fun q => q.elim c4 c14), if_pos c33] | rw [m_looped, if_neg (fun q => q.elim c4 c14), if_neg c33, if_pos c50] | rw [m_looped, if_neg (fun q => q.elim c4 c14), if_neg c33, if_neg c50])⟩
        · refine ab_aload_n (pc := 53) dX4_looped_53 rfl rfl ?_
          refine ab_dup (pc := 54) dX4_looped_54 rfl ?_
          refine ab_geti (pc := 55) dX4_looped_55 fX4_197 rfl rfl ?_
          refine ab_iconst (pc := 58) (v := 1) dX4_looped_58 (by decide) ?_
          refine ab_isub (pc := 59) dX4_looped_59 ?_
          refine ab_puti (pc := 60) dX4_looped_60 fwX4_197 rfl rfl ?_
          refine ab_aload_n (pc := 63) dX4_looped_63 rfl rfl ?_
          refine ab_V0 (pc := 64) dX4_looped_64 mvX4_190 rfl rfl (kX4_leave ho) (ab_kv fun h64 e64 => ?_)
          obtain rfl := e64.symm
          exact ab_retv (pc := 67) dX4_looped_67 rfl ⟨rfl, (by first | rw [m_looped, if_neg (fun q => q.elim c4 c14), if_pos c33] | rw [m_looped, if_neg (fun q => q.elim c4 c14), if_neg c33, if_pos c50] | rw [m_looped, if_neg (fun q => q.elim c4 c14), if_neg c33, if_neg c50])⟩
      · refine ab_aload_n (pc := 36) dX4_looped_36 rfl rfl ?_
        refine ab_iconst (pc := 37) (v := 0) dX4_looped_37 (by decide) ?_
        refine ab_puti (pc := 38) dX4_looped_38 fwX4_197 rfl rfl ?_
        refine ab_goto (pc := 41) 63 dX4_looped_41 (by decide) ?_
        refine ab_aload_n (pc := 63) dX4_looped_63 rfl rfl ?_
        refine ab_V0 (pc := 64) dX4_looped_64 mvX4_190 rfl rfl (kX4_leave ho) (ab_kv fun h64 e64 => ?_)
        obtain rfl := e64.symm
        exact ab_retv (pc := 67) dX4_looped_67 rfl ⟨rfl, (by first | rw [m_looped, if_neg (fun q => q.elim c4 c14), if_pos c33] | rw [m_looped, if_neg (fun q => q.elim c4 c14), if_neg c33, if_pos c50] | rw [m_looped, if_neg (fun q => q.elim c4 c14), if_neg c33, if_neg c50])⟩
    · refine ab_aload_n (pc := 17) dX4_looped_17 rfl rfl ?_
      refine ab_iconst (pc := 18) (v := 0) dX4_looped_18 (by decide) ?_
      refine ab_puti (pc := 19) dX4_looped_19 fwX4_197 rfl rfl ?_
      refine ab_aload_n (pc := 22) dX4_looped_22 rfl rfl ?_
      refine ab_V0 (pc := 23) dX4_looped_23 mvX4_183 rfl rfl (kX4_round ho) (ab_kv fun h23 e23 => ?_)
      obtain rfl := e23.symm
      exact ab_retv (pc := 26) dX4_looped_26 rfl ⟨rfl, (by rw [m_looped, if_pos (by first | exact Or.inl c4 | exact Or.inr c14)])⟩

set_option maxRecDepth 100000 in
set_option maxHeartbeats 4000000 in
theorem kX4_back {l : Launch} {d : Nat} {h : ab_H} {o : Int32} (ho : vp_in o 80) (hh : ¬ h 0 39 - 1 = 0 → vp_in (h 19 o.toNatClampNeg) 480) (hn : ¬ h 0 39 - 1 = 0 → vp_in (h 2 (h 19 o.toNatClampNeg).toNatClampNeg) 8) : ab_C l layM (d) mX4_back [ab_R 0, ab_I o] h (ab_qv fun h' => h' = m_back h o) := by
  refine ab_enter (by decide) (Nat.le_of_ble_eq_true rfl) ?_
  refine ab_aload_n (pc := 0) dX4_back_0 rfl rfl ?_
  refine ab_dup (pc := 1) dX4_back_1 rfl ?_
  refine ab_geti (pc := 2) dX4_back_2 fX4_95 rfl rfl ?_
  refine ab_iconst (pc := 5) (v := 1) dX4_back_5 (by decide) ?_
  refine ab_isub (pc := 6) dX4_back_6 ?_
  refine ab_puti (pc := 7) dX4_back_7 fwX4_95 rfl rfl ?_
  refine ab_aload_n (pc := 10) dX4_back_10 rfl rfl ?_
  refine ab_dup (pc := 11) dX4_back_11 rfl ?_
  refine ab_geti (pc := 12) dX4_back_12 fX4_200 rfl rfl ?_
  refine ab_topi (by (try simp only [ab_rd, ab_rdA, Nat.reduceEqDiff, reduceIte]); exact rfl) ?_
  refine ab_iconst (pc := 15) (v := 1) dX4_back_15 (by decide) ?_
  refine ab_isub (pc := 16) dX4_back_16 ?_
  refine ab_puti (pc := 17) dX4_back_17 fwX4_200 rfl rfl ?_
  refine ab_aload_n (pc := 20) dX4_back_20 rfl rfl ?_
  refine ab_geti (pc := 21) dX4_back_21 fX4_95 rfl rfl ?_
  refine ab_topi (by (try simp only [ab_rd, ab_rdA, Nat.reduceEqDiff, reduceIte]); exact rfl) ?_
  refine ab_if_ne (pc := 24) 28 dX4_back_24 (by decide) (fun c24 => ?_) (fun c24 => ?_)
  · refine ab_aload_n (pc := 28) dX4_back_28 rfl rfl ?_
    refine ab_aload_n (pc := 29) dX4_back_29 rfl rfl ?_
    refine ab_getr (pc := 30) dX4_back_30 fX4_71 rfl rfl ?_
    refine ab_iload_n (pc := 33) dX4_back_33 rfl rfl ?_
    refine ab_iald (pc := 34) dX4_back_34 rfl ho ?_
    refine ab_topi (by (try simp only [ab_rd, ab_rdA, Nat.reduceEqDiff, reduceIte]); exact rfl) ?_
    refine ab_iconst (pc := 35) (v := 1) dX4_back_35 (by decide) ?_
    refine ab_iadd (pc := 36) dX4_back_36 ?_
    refine ab_puti (pc := 37) dX4_back_37 fwX4_174 rfl rfl ?_
    refine ab_aload_n (pc := 40) dX4_back_40 rfl rfl ?_
    refine ab_geti (pc := 41) dX4_back_41 fX4_197 rfl rfl ?_
    refine ab_topi (by (try simp only [ab_rd, ab_rdA, Nat.reduceEqDiff, reduceIte]); exact rfl) ?_
    refine ab_iconst (pc := 44) (v := 1) dX4_back_44 (by decide) ?_
    refine ab_icmp_eq (pc := 45) 56 dX4_back_45 (by decide) (fun c45 => ?_) (fun c45 => ?_)
    · exact ab_retv (pc := 56) dX4_back_56 rfl ⟨rfl, (by rw [m_back, if_neg c24, if_pos (by first | exact Or.inl c45 | exact Or.inr c53)])⟩
    · refine ab_aload_n (pc := 48) dX4_back_48 rfl rfl ?_
      refine ab_geti (pc := 49) dX4_back_49 fX4_197 rfl rfl ?_
      refine ab_topi (by (try simp only [ab_rd, ab_rdA, Nat.reduceEqDiff, reduceIte]); exact rfl) ?_
      refine ab_iconst (pc := 52) (v := 3) dX4_back_52 (by decide) ?_
      refine ab_icmp_ne (pc := 53) 57 dX4_back_53 (by decide) (fun c53 => ?_) (fun c53 => ?_)
      · refine ab_aload_n (pc := 57) dX4_back_57 rfl rfl ?_
        refine ab_getr (pc := 58) dX4_back_58 fX4_22 rfl rfl ?_
        refine ab_aload_n (pc := 61) dX4_back_61 rfl rfl ?_
        refine ab_getr (pc := 62) dX4_back_62 fX4_13 rfl rfl ?_
        refine ab_aload_n (pc := 65) dX4_back_65 rfl rfl ?_
        refine ab_getr (pc := 66) dX4_back_66 fX4_71 rfl rfl ?_
        refine ab_iload_n (pc := 69) dX4_back_69 rfl rfl ?_
        refine ab_iald (pc := 70) dX4_back_70 rfl ho ?_
        refine ab_topi (by (try simp only [ab_rd, ab_rdA, Nat.reduceEqDiff, reduceIte]); exact rfl) ?_
        refine ab_iald (pc := 71) dX4_back_71 rfl (hh c24) ?_
        refine ab_topi (by (try simp only [ab_rd, ab_rdA, Nat.reduceEqDiff, reduceIte]); exact rfl) ?_
        refine ab_aload_n (pc := 72) dX4_back_72 rfl rfl ?_
        refine ab_geti (pc := 73) dX4_back_73 fX4_197 rfl rfl ?_
        refine ab_topi (by (try simp only [ab_rd, ab_rdA, Nat.reduceEqDiff, reduceIte]); exact rfl) ?_
        refine ab_iconst (pc := 76) (v := 2) dX4_back_76 (by decide) ?_
        refine ab_icmp_ne (pc := 77) 87 dX4_back_77 (by decide) (fun c77 => ?_) (fun c77 => ?_)
        · refine ab_iconst (pc := 87) (v := 0) dX4_back_87 (by decide) ?_
          refine ab_iast (pc := 88) dX4_back_88 rfl (hn c24) ?_
          refine ab_aload_n (pc := 89) dX4_back_89 rfl rfl ?_
          refine ab_iconst (pc := 90) (v := 0) dX4_back_90 (by decide) ?_
          refine ab_puti (pc := 91) dX4_back_91 fwX4_197 rfl rfl ?_
          exact ab_retv (pc := 94) dX4_back_94 rfl ⟨rfl, (by first | rw [m_back, if_neg c24, if_neg (fun q => q.elim c45 c53), if_pos c77] | rw [m_back, if_neg c24, if_neg (fun q => q.elim c45 c53), if_neg c77])⟩
        · refine ab_aload_n (pc := 80) dX4_back_80 rfl rfl ?_
          refine ab_geti (pc := 81) dX4_back_81 fX4_171 rfl rfl ?_
          refine ab_topi (by (try simp only [ab_rd, ab_rdA, Nat.reduceEqDiff, reduceIte]); exact rfl) ?_
          refine ab_goto (pc := 84) 88 dX4_back_84 (by decide) ?_
          refine ab_iast (pc := 88) dX4_back_88 rfl (hn c24) ?_
          refine ab_aload_n (pc := 89) dX4_back_89 rfl rfl ?_
          refine ab_iconst (pc := 90) (v := 0) dX4_back_90 (by decide) ?_
          refine ab_puti (pc := 91) dX4_back_91 fwX4_197 rfl rfl ?_
          exact ab_retv (pc := 94) dX4_back_94 rfl ⟨rfl, (by first | rw [m_back, if_neg c24, if_neg (fun q => q.elim c45 c53), if_pos c77] | rw [m_back, if_neg c24, if_neg (fun q => q.elim c45 c53), if_neg c77])⟩
      · exact ab_retv (pc := 56) dX4_back_56 rfl ⟨rfl, (by rw [m_back, if_neg c24, if_pos (by first | exact Or.inl c45 | exact Or.inr c53)])⟩
  · exact ab_retv (pc := 27) dX4_back_27 rfl ⟨rfl, (by rw [m_back, if_pos c24])⟩

set_option maxRecDepth 100000 in
set_option maxHeartbeats 4000000 in
theorem kX4_atEnd {l : Launch} {d : Nat} {h : ab_H} (ho : vp_in (h 0 39 - 1) 80) (ha : ¬ h 18 (h 0 39 - 1).toNatClampNeg = 0 → vp_in (h 0 40) 480) : ab_C l layM (d) mX4_atEnd [ab_R 0] h (ab_qi fun r h' => r = b2i (m_atEnd h) ∧ h' = h) := by
  refine ab_enter (by decide) (Nat.le_of_ble_eq_true rfl) ?_
  refine ab_aload_n (pc := 0) dX4_atEnd_0 rfl rfl ?_
  refine ab_getr (pc := 1) dX4_atEnd_1 fX4_68 rfl rfl ?_
  refine ab_aload_n (pc := 4) dX4_atEnd_4 rfl rfl ?_
  refine ab_geti (pc := 5) dX4_atEnd_5 fX4_95 rfl rfl ?_
  refine ab_iconst (pc := 8) (v := 1) dX4_atEnd_8 (by decide) ?_
  refine ab_isub (pc := 9) dX4_atEnd_9 ?_
  refine ab_iald (pc := 10) dX4_atEnd_10 rfl ho ?_
  refine ab_if_ne (pc := 11) 38 dX4_atEnd_11 (by decide) (fun c11 => ?_) (fun c11 => ?_)
  · refine ab_aload_n (pc := 38) dX4_atEnd_38 rfl rfl ?_
    refine ab_getr (pc := 39) dX4_atEnd_39 fX4_7 rfl rfl ?_
    refine ab_aload_n (pc := 42) dX4_atEnd_42 rfl rfl ?_
    refine ab_geti (pc := 43) dX4_atEnd_43 fX4_174 rfl rfl ?_
    refine ab_iald (pc := 46) dX4_atEnd_46 rfl (ha c11) ?_
    refine ab_istore_n (pc := 47) dX4_atEnd_47 rfl rfl ?_
    refine ab_iload_n (pc := 48) dX4_atEnd_48 rfl rfl ?_
    refine ab_bipush (pc := 49) (v := 11) dX4_atEnd_49 (by decide) ?_
    refine ab_icmp_eq (pc := 51) 72 dX4_atEnd_51 (by decide) (fun c51 => ?_) (fun c51 => ?_)
    · refine ab_iconst (pc := 72) (v := 1) dX4_atEnd_72 (by decide) ?_
      refine ab_goto (pc := 73) 77 dX4_atEnd_73 (by decide) ?_
      exact ab_retz (pc := 77) dX4_atEnd_77 rfl rfl ⟨_, rfl, ⟨by rw [m_atEnd, if_neg c11]; first | (rw [m_part, decide_eq_true c51]; rfl) | (rw [m_part, decide_eq_false c51, decide_eq_true c57]; rfl) | (rw [m_part, decide_eq_false c51, decide_eq_false c57, decide_eq_true c63]; rfl) | (rw [m_part, decide_eq_false c51, decide_eq_false c57, decide_eq_false c63, decide_eq_true c69]; rfl) | (rw [m_part, decide_eq_false c51, decide_eq_false c57, decide_eq_false c63, decide_eq_false c69]; rfl), rfl⟩⟩
    · refine ab_iload_n (pc := 54) dX4_atEnd_54 rfl rfl ?_
      refine ab_bipush (pc := 55) (v := 12) dX4_atEnd_55 (by decide) ?_
      refine ab_icmp_eq (pc := 57) 72 dX4_atEnd_57 (by decide) (fun c57 => ?_) (fun c57 => ?_)
      · refine ab_iconst (pc := 72) (v := 1) dX4_atEnd_72 (by decide) ?_
        refine ab_goto (pc := 73) 77 dX4_atEnd_73 (by decide) ?_
        exact ab_retz (pc := 77) dX4_atEnd_77 rfl rfl ⟨_, rfl, ⟨by rw [m_atEnd, if_neg c11]; first | (rw [m_part, decide_eq_true c51]; rfl) | (rw [m_part, decide_eq_false c51, decide_eq_true c57]; rfl) | (rw [m_part, decide_eq_false c51, decide_eq_false c57, decide_eq_true c63]; rfl) | (rw [m_part, decide_eq_false c51, decide_eq_false c57, decide_eq_false c63, decide_eq_true c69]; rfl) | (rw [m_part, decide_eq_false c51, decide_eq_false c57, decide_eq_false c63, decide_eq_false c69]; rfl), rfl⟩⟩
      · refine ab_iload_n (pc := 60) dX4_atEnd_60 rfl rfl ?_
        refine ab_bipush (pc := 61) (v := 22) dX4_atEnd_61 (by decide) ?_
        refine ab_icmp_eq (pc := 63) 72 dX4_atEnd_63 (by decide) (fun c63 => ?_) (fun c63 => ?_)
        · refine ab_iconst (pc := 72) (v := 1) dX4_atEnd_72 (by decide) ?_
          refine ab_goto (pc := 73) 77 dX4_atEnd_73 (by decide) ?_
          exact ab_retz (pc := 77) dX4_atEnd_77 rfl rfl ⟨_, rfl, ⟨by rw [m_atEnd, if_neg c11]; first | (rw [m_part, decide_eq_true c51]; rfl) | (rw [m_part, decide_eq_false c51, decide_eq_true c57]; rfl) | (rw [m_part, decide_eq_false c51, decide_eq_false c57, decide_eq_true c63]; rfl) | (rw [m_part, decide_eq_false c51, decide_eq_false c57, decide_eq_false c63, decide_eq_true c69]; rfl) | (rw [m_part, decide_eq_false c51, decide_eq_false c57, decide_eq_false c63, decide_eq_false c69]; rfl), rfl⟩⟩
        · refine ab_iload_n (pc := 66) dX4_atEnd_66 rfl rfl ?_
          refine ab_bipush (pc := 67) (v := 16) dX4_atEnd_67 (by decide) ?_
          refine ab_icmp_ne (pc := 69) 76 dX4_atEnd_69 (by decide) (fun c69 => ?_) (fun c69 => ?_)
          · refine ab_iconst (pc := 76) (v := 0) dX4_atEnd_76 (by decide) ?_
            exact ab_retz (pc := 77) dX4_atEnd_77 rfl rfl ⟨_, rfl, ⟨by rw [m_atEnd, if_neg c11]; first | (rw [m_part, decide_eq_true c51]; rfl) | (rw [m_part, decide_eq_false c51, decide_eq_true c57]; rfl) | (rw [m_part, decide_eq_false c51, decide_eq_false c57, decide_eq_true c63]; rfl) | (rw [m_part, decide_eq_false c51, decide_eq_false c57, decide_eq_false c63, decide_eq_true c69]; rfl) | (rw [m_part, decide_eq_false c51, decide_eq_false c57, decide_eq_false c63, decide_eq_false c69]; rfl), rfl⟩⟩
          · refine ab_iconst (pc := 72) (v := 1) dX4_atEnd_72 (by decide) ?_
            refine ab_goto (pc := 73) 77 dX4_atEnd_73 (by decide) ?_
            exact ab_retz (pc := 77) dX4_atEnd_77 rfl rfl ⟨_, rfl, ⟨by rw [m_atEnd, if_neg c11]; first | (rw [m_part, decide_eq_true c51]; rfl) | (rw [m_part, decide_eq_false c51, decide_eq_true c57]; rfl) | (rw [m_part, decide_eq_false c51, decide_eq_false c57, decide_eq_true c63]; rfl) | (rw [m_part, decide_eq_false c51, decide_eq_false c57, decide_eq_false c63, decide_eq_true c69]; rfl) | (rw [m_part, decide_eq_false c51, decide_eq_false c57, decide_eq_false c63, decide_eq_false c69]; rfl), rfl⟩⟩
  · refine ab_aload_n (pc := 14) dX4_atEnd_14 rfl rfl ?_
    refine ab_geti (pc := 15) dX4_atEnd_15 fX4_174 rfl rfl ?_
    refine ab_aload_n (pc := 18) dX4_atEnd_18 rfl rfl ?_
    refine ab_getr (pc := 19) dX4_atEnd_19 fX4_74 rfl rfl ?_
    refine ab_aload_n (pc := 22) dX4_atEnd_22 rfl rfl ?_
    refine ab_geti (pc := 23) dX4_atEnd_23 fX4_95 rfl rfl ?_
    refine ab_iconst (pc := 26) (v := 1) dX4_atEnd_26 (by decide) ?_
    refine ab_isub (pc := 27) dX4_atEnd_27 ?_
    refine ab_iald (pc := 28) dX4_atEnd_28 rfl ho ?_
    refine ab_icmp_ne (pc := 29) 36 dX4_atEnd_29 (by decide) (fun c29 => ?_) (fun c29 => ?_)
    · refine ab_iconst (pc := 36) (v := 0) dX4_atEnd_36 (by decide) ?_
      exact ab_retz (pc := 37) dX4_atEnd_37 rfl rfl ⟨_, rfl, ⟨by first | (rw [m_atEnd, if_pos c11, c29, decide_eq_true rfl]; rfl) | (rw [m_atEnd, if_pos c11, decide_eq_false c29]; rfl), rfl⟩⟩
    · refine ab_iconst (pc := 32) (v := 1) dX4_atEnd_32 (by decide) ?_
      refine ab_goto (pc := 33) 37 dX4_atEnd_33 (by decide) ?_
      exact ab_retz (pc := 37) dX4_atEnd_37 rfl rfl ⟨_, rfl, ⟨by first | (rw [m_atEnd, if_pos c11, c29, decide_eq_true rfl]; rfl) | (rw [m_atEnd, if_pos c11, decide_eq_false c29]; rfl), rfl⟩⟩
end
section
/-! the reference's blocks: what begins, what ends -/
theorem m_catch_f {h : ab_H} {o c : Int32} (q : ¬ h 21 o.toNatClampNeg = 0 ∨ ¬ h 0 41 = 1 ∨ c < 0 ∨ (h 3 (h 19 o.toNatClampNeg).toNatClampNeg >>> (h 0 21 &&& 31)) &&& 1 = 0) : ¬ m_catch h o c = true := by
  intro e
  simp only [m_catch, Bool.and_eq_true, decide_eq_true_eq] at e
  rcases q with q | q | q | q
  · exact q e.1
  · exact q e.2.1
  · exact e.2.2.1 q
  · exact e.2.2.2 q
theorem m_catch_t {h : ab_H} {o c : Int32} (q1 : h 21 o.toNatClampNeg = 0) (q2 : h 0 41 = 1) (q3 : ¬ c < 0) (q4 : ¬ (h 3 (h 19 o.toNatClampNeg).toNatClampNeg >>> (h 0 21 &&& 31)) &&& 1 = 0) : m_catch h o c = true := by
  simp only [m_catch, Bool.and_eq_true, decide_eq_true_eq]
  exact ⟨q1, q2, q3, q4⟩
set_option maxRecDepth 100000 in
set_option maxHeartbeats 4000000 in
theorem kX4_tried {l : Launch} {d : Nat} {h : ab_H} {o c f : Int32} (ho : vp_in o 80) (ho1 : vp_in (h 0 39 - 1) 80) (hhd : vp_in (h 19 o.toNatClampNeg) 480) (hc : ¬ h 21 o.toNatClampNeg = 2 → m_partE (h 1) (h 19 o.toNatClampNeg) 11 = some c) (hf : ¬ h 21 o.toNatClampNeg = 2 → m_partE (h 1) (h 19 o.toNatClampNeg) 12 = some f) : ab_C l layM (d + 3) mX4_tried [ab_R 0, ab_I o] h (ab_qv fun h' => h' = m_tried h o (m_partR (h 1) 11 c) (m_partR (h 1) 12 f)) := by
  refine ab_enter (by decide) (Nat.le_of_ble_eq_true rfl) ?_
  refine ab_aload_n (pc := 0) dX4_tried_0 rfl rfl ?_
  refine ab_getr (pc := 1) dX4_tried_1 fX4_71 rfl rfl ?_
  refine ab_iload_n (pc := 4) dX4_tried_4 rfl rfl ?_
  refine ab_iald (pc := 5) dX4_tried_5 rfl ho ?_
  refine ab_istore_n (pc := 6) dX4_tried_6 rfl rfl ?_
  refine ab_aload_n (pc := 7) dX4_tried_7 rfl rfl ?_
  refine ab_getr (pc := 8) dX4_tried_8 fX4_77 rfl rfl ?_
  refine ab_iload_n (pc := 11) dX4_tried_11 rfl rfl ?_
  refine ab_iald (pc := 12) dX4_tried_12 rfl ho ?_
  refine ab_iconst (pc := 13) (v := 2) dX4_tried_13 (by decide) ?_
  refine ab_icmp_ne (pc := 14) 59 dX4_tried_14 (by decide) (fun c14 => ?_) (fun c14 => ?_)
  · refine ab_aload_n (pc := 59) dX4_tried_59 rfl rfl ?_
    refine ab_iload_n (pc := 60) dX4_tried_60 rfl rfl ?_
    refine ab_bipush (pc := 61) (v := 11) dX4_tried_61 (by decide) ?_
    refine ab_V2 (pc := 63) dX4_tried_63 mvX4_186 rfl rfl (kX4_partOf (hc c14)) (ab_ki fun r63 h63 e63 => ?_)
    obtain ⟨rfl, rfl⟩ := And.intro e63.1.symm e63.2.symm
    refine ab_istore_n (pc := 66) dX4_tried_66 rfl rfl ?_
    refine ab_aload_n (pc := 67) dX4_tried_67 rfl rfl ?_
    refine ab_getr (pc := 68) dX4_tried_68 fX4_77 rfl rfl ?_
    refine ab_iload_n (pc := 71) dX4_tried_71 rfl rfl ?_
    refine ab_iald (pc := 72) dX4_tried_72 rfl ho ?_
    refine ab_topi (by (try simp only [ab_rd, ab_rdA, Nat.reduceEqDiff, reduceIte]); exact rfl) ?_
    refine ab_if_ne (pc := 73) 135 dX4_tried_73 (by decide) (fun c73 => ?_) (fun c73 => ?_)
    · refine ab_aload_n (pc := 135) dX4_tried_135 rfl rfl ?_
      refine ab_iload_n (pc := 136) dX4_tried_136 rfl rfl ?_
      refine ab_bipush (pc := 137) (v := 12) dX4_tried_137 (by decide) ?_
      refine ab_V2 (pc := 139) dX4_tried_139 mvX4_186 rfl rfl (kX4_partOf (hf c14)) (ab_ki fun r139 h139 e139 => ?_)
      obtain ⟨rfl, rfl⟩ := And.intro e139.1.symm e139.2.symm
      refine ab_istore (pc := 142) dX4_tried_142 rfl ?_
      refine ab_iload (pc := 144) dX4_tried_144 rfl ?_
      refine ab_if_lt (pc := 146) 157 dX4_tried_146 (by decide) (fun c146 => ?_) (fun c146 => ?_)
      · refine ab_aload_n (pc := 157) dX4_tried_157 rfl rfl ?_
        refine ab_V0 (pc := 158) dX4_tried_158 mvX4_190 rfl rfl (kX4_leave ho1) (ab_kv fun h158 e158 => ?_)
        obtain rfl := e158.symm
        exact ab_retv (pc := 161) dX4_tried_161 rfl ⟨rfl, (by rw [m_tried, if_neg c14, if_neg (m_catch_f (by first | exact Or.inl c73 | exact Or.inr (Or.inl c81) | exact Or.inr (Or.inr (Or.inl c85)) | exact Or.inr (Or.inr (Or.inr c101)))), if_pos (by first | exact Or.inl c146 | exact Or.inr c154)])⟩
      · refine ab_aload_n (pc := 149) dX4_tried_149 rfl rfl ?_
        refine ab_geti (pc := 150) dX4_tried_150 fX4_197 rfl rfl ?_
        refine ab_topi (by (try simp only [ab_rd, ab_rdA, Nat.reduceEqDiff, reduceIte]); exact rfl) ?_
        refine ab_iconst (pc := 153) (v := 3) dX4_tried_153 (by decide) ?_
        refine ab_icmp_ne (pc := 154) 162 dX4_tried_154 (by decide) (fun c154 => ?_) (fun c154 => ?_)
        · refine ab_aload_n (pc := 162) dX4_tried_162 rfl rfl ?_
          refine ab_getr (pc := 163) dX4_tried_163 fX4_83 rfl rfl ?_
          refine ab_iload_n (pc := 166) dX4_tried_166 rfl rfl ?_
          refine ab_aload_n (pc := 167) dX4_tried_167 rfl rfl ?_
          refine ab_geti (pc := 168) dX4_tried_168 fX4_197 rfl rfl ?_
          refine ab_topi (by (try simp only [ab_rd, ab_rdA, Nat.reduceEqDiff, reduceIte]); exact rfl) ?_
          refine ab_iast (pc := 171) dX4_tried_171 rfl ho ?_
          refine ab_aload_n (pc := 172) dX4_tried_172 rfl rfl ?_
          refine ab_getr (pc := 173) dX4_tried_173 fX4_86 rfl rfl ?_
          refine ab_iload_n (pc := 176) dX4_tried_176 rfl rfl ?_
          refine ab_aload_n (pc := 177) dX4_tried_177 rfl rfl ?_
          refine ab_geti (pc := 178) dX4_tried_178 fX4_142 rfl rfl ?_
          refine ab_topi (by (try simp only [ab_rd, ab_rdA, Nat.reduceEqDiff, reduceIte]); exact rfl) ?_
          refine ab_iast (pc := 181) dX4_tried_181 rfl ho ?_
          refine ab_aload_n (pc := 182) dX4_tried_182 rfl rfl ?_
          refine ab_getr (pc := 183) dX4_tried_183 fX4_89 rfl rfl ?_
          refine ab_iload_n (pc := 186) dX4_tried_186 rfl rfl ?_
          refine ab_aload_n (pc := 187) dX4_tried_187 rfl rfl ?_
          refine ab_geti (pc := 188) dX4_tried_188 fX4_171 rfl rfl ?_
          refine ab_topi (by (try simp only [ab_rd, ab_rdA, Nat.reduceEqDiff, reduceIte]); exact rfl) ?_
          refine ab_iast (pc := 191) dX4_tried_191 rfl ho ?_
          refine ab_aload_n (pc := 192) dX4_tried_192 rfl rfl ?_
          refine ab_getr (pc := 193) dX4_tried_193 fX4_77 rfl rfl ?_
          refine ab_iload_n (pc := 196) dX4_tried_196 rfl rfl ?_
          refine ab_iconst (pc := 197) (v := 2) dX4_tried_197 (by decide) ?_
          refine ab_iast (pc := 198) dX4_tried_198 rfl ho ?_
          refine ab_aload_n (pc := 199) dX4_tried_199 rfl rfl ?_
          refine ab_iconst (pc := 200) (v := 0) dX4_tried_200 (by decide) ?_
          refine ab_puti (pc := 201) dX4_tried_201 fwX4_197 rfl rfl ?_
          refine ab_aload_n (pc := 204) dX4_tried_204 rfl rfl ?_
          refine ab_iload (pc := 205) dX4_tried_205 rfl ?_
          refine ab_iconst (pc := 207) (v := 1) dX4_tried_207 (by decide) ?_
          refine ab_iadd (pc := 208) dX4_tried_208 ?_
          refine ab_puti (pc := 209) dX4_tried_209 fwX4_174 rfl rfl ?_
          exact ab_retv (pc := 212) dX4_tried_212 rfl ⟨rfl, (by rw [m_tried, if_neg c14, if_neg (m_catch_f (by first | exact Or.inl c73 | exact Or.inr (Or.inl c81) | exact Or.inr (Or.inr (Or.inl c85)) | exact Or.inr (Or.inr (Or.inr c101)))), if_neg (fun q => q.elim c146 c154)])⟩
        · refine ab_aload_n (pc := 157) dX4_tried_157 rfl rfl ?_
          refine ab_V0 (pc := 158) dX4_tried_158 mvX4_190 rfl rfl (kX4_leave ho1) (ab_kv fun h158 e158 => ?_)
          obtain rfl := e158.symm
          exact ab_retv (pc := 161) dX4_tried_161 rfl ⟨rfl, (by rw [m_tried, if_neg c14, if_neg (m_catch_f (by first | exact Or.inl c73 | exact Or.inr (Or.inl c81) | exact Or.inr (Or.inr (Or.inl c85)) | exact Or.inr (Or.inr (Or.inr c101)))), if_pos (by first | exact Or.inl c146 | exact Or.inr c154)])⟩
    · refine ab_aload_n (pc := 76) dX4_tried_76 rfl rfl ?_
      refine ab_geti (pc := 77) dX4_tried_77 fX4_197 rfl rfl ?_
      refine ab_topi (by (try simp only [ab_rd, ab_rdA, Nat.reduceEqDiff, reduceIte]); exact rfl) ?_
      refine ab_iconst (pc := 80) (v := 1) dX4_tried_80 (by decide) ?_
      refine ab_icmp_ne (pc := 81) 135 dX4_tried_81 (by decide) (fun c81 => ?_) (fun c81 => ?_)
      · refine ab_aload_n (pc := 135) dX4_tried_135 rfl rfl ?_
        refine ab_iload_n (pc := 136) dX4_tried_136 rfl rfl ?_
        refine ab_bipush (pc := 137) (v := 12) dX4_tried_137 (by decide) ?_
        refine ab_V2 (pc := 139) dX4_tried_139 mvX4_186 rfl rfl (kX4_partOf (hf c14)) (ab_ki fun r139 h139 e139 => ?_)
        obtain ⟨rfl, rfl⟩ := And.intro e139.1.symm e139.2.symm
        refine ab_istore (pc := 142) dX4_tried_142 rfl ?_
        refine ab_iload (pc := 144) dX4_tried_144 rfl ?_
        refine ab_if_lt (pc := 146) 157 dX4_tried_146 (by decide) (fun c146 => ?_) (fun c146 => ?_)
        · refine ab_aload_n (pc := 157) dX4_tried_157 rfl rfl ?_
          refine ab_V0 (pc := 158) dX4_tried_158 mvX4_190 rfl rfl (kX4_leave ho1) (ab_kv fun h158 e158 => ?_)
          obtain rfl := e158.symm
          exact ab_retv (pc := 161) dX4_tried_161 rfl ⟨rfl, (by rw [m_tried, if_neg c14, if_neg (m_catch_f (by first | exact Or.inl c73 | exact Or.inr (Or.inl c81) | exact Or.inr (Or.inr (Or.inl c85)) | exact Or.inr (Or.inr (Or.inr c101)))), if_pos (by first | exact Or.inl c146 | exact Or.inr c154)])⟩
        · refine ab_aload_n (pc := 149) dX4_tried_149 rfl rfl ?_
          refine ab_geti (pc := 150) dX4_tried_150 fX4_197 rfl rfl ?_
          refine ab_topi (by (try simp only [ab_rd, ab_rdA, Nat.reduceEqDiff, reduceIte]); exact rfl) ?_
          refine ab_iconst (pc := 153) (v := 3) dX4_tried_153 (by decide) ?_
          refine ab_icmp_ne (pc := 154) 162 dX4_tried_154 (by decide) (fun c154 => ?_) (fun c154 => ?_)
          · refine ab_aload_n (pc := 162) dX4_tried_162 rfl rfl ?_
            refine ab_getr (pc := 163) dX4_tried_163 fX4_83 rfl rfl ?_
            refine ab_iload_n (pc := 166) dX4_tried_166 rfl rfl ?_
            refine ab_aload_n (pc := 167) dX4_tried_167 rfl rfl ?_
            refine ab_geti (pc := 168) dX4_tried_168 fX4_197 rfl rfl ?_
            refine ab_topi (by (try simp only [ab_rd, ab_rdA, Nat.reduceEqDiff, reduceIte]); exact rfl) ?_
            refine ab_iast (pc := 171) dX4_tried_171 rfl ho ?_
            refine ab_aload_n (pc := 172) dX4_tried_172 rfl rfl ?_
            refine ab_getr (pc := 173) dX4_tried_173 fX4_86 rfl rfl ?_
            refine ab_iload_n (pc := 176) dX4_tried_176 rfl rfl ?_
            refine ab_aload_n (pc := 177) dX4_tried_177 rfl rfl ?_
            refine ab_geti (pc := 178) dX4_tried_178 fX4_142 rfl rfl ?_
            refine ab_topi (by (try simp only [ab_rd, ab_rdA, Nat.reduceEqDiff, reduceIte]); exact rfl) ?_
            refine ab_iast (pc := 181) dX4_tried_181 rfl ho ?_
            refine ab_aload_n (pc := 182) dX4_tried_182 rfl rfl ?_
            refine ab_getr (pc := 183) dX4_tried_183 fX4_89 rfl rfl ?_
            refine ab_iload_n (pc := 186) dX4_tried_186 rfl rfl ?_
            refine ab_aload_n (pc := 187) dX4_tried_187 rfl rfl ?_
            refine ab_geti (pc := 188) dX4_tried_188 fX4_171 rfl rfl ?_
            refine ab_topi (by (try simp only [ab_rd, ab_rdA, Nat.reduceEqDiff, reduceIte]); exact rfl) ?_
            refine ab_iast (pc := 191) dX4_tried_191 rfl ho ?_
            refine ab_aload_n (pc := 192) dX4_tried_192 rfl rfl ?_
            refine ab_getr (pc := 193) dX4_tried_193 fX4_77 rfl rfl ?_
            refine ab_iload_n (pc := 196) dX4_tried_196 rfl rfl ?_
            refine ab_iconst (pc := 197) (v := 2) dX4_tried_197 (by decide) ?_
            refine ab_iast (pc := 198) dX4_tried_198 rfl ho ?_
            refine ab_aload_n (pc := 199) dX4_tried_199 rfl rfl ?_
            refine ab_iconst (pc := 200) (v := 0) dX4_tried_200 (by decide) ?_
            refine ab_puti (pc := 201) dX4_tried_201 fwX4_197 rfl rfl ?_
            refine ab_aload_n (pc := 204) dX4_tried_204 rfl rfl ?_
            refine ab_iload (pc := 205) dX4_tried_205 rfl ?_
            refine ab_iconst (pc := 207) (v := 1) dX4_tried_207 (by decide) ?_
            refine ab_iadd (pc := 208) dX4_tried_208 ?_
            refine ab_puti (pc := 209) dX4_tried_209 fwX4_174 rfl rfl ?_
            exact ab_retv (pc := 212) dX4_tried_212 rfl ⟨rfl, (by rw [m_tried, if_neg c14, if_neg (m_catch_f (by first | exact Or.inl c73 | exact Or.inr (Or.inl c81) | exact Or.inr (Or.inr (Or.inl c85)) | exact Or.inr (Or.inr (Or.inr c101)))), if_neg (fun q => q.elim c146 c154)])⟩
          · refine ab_aload_n (pc := 157) dX4_tried_157 rfl rfl ?_
            refine ab_V0 (pc := 158) dX4_tried_158 mvX4_190 rfl rfl (kX4_leave ho1) (ab_kv fun h158 e158 => ?_)
            obtain rfl := e158.symm
            exact ab_retv (pc := 161) dX4_tried_161 rfl ⟨rfl, (by rw [m_tried, if_neg c14, if_neg (m_catch_f (by first | exact Or.inl c73 | exact Or.inr (Or.inl c81) | exact Or.inr (Or.inr (Or.inl c85)) | exact Or.inr (Or.inr (Or.inr c101)))), if_pos (by first | exact Or.inl c146 | exact Or.inr c154)])⟩
      · refine ab_iload_n (pc := 84) dX4_tried_84 rfl rfl ?_
        refine ab_if_lt (pc := 85) 135 dX4_tried_85 (by decide) (fun c85 => ?_) (fun c85 => ?_)
        · refine ab_aload_n (pc := 135) dX4_tried_135 rfl rfl ?_
          refine ab_iload_n (pc := 136) dX4_tried_136 rfl rfl ?_
          refine ab_bipush (pc := 137) (v := 12) dX4_tried_137 (by decide) ?_
          refine ab_V2 (pc := 139) dX4_tried_139 mvX4_186 rfl rfl (kX4_partOf (hf c14)) (ab_ki fun r139 h139 e139 => ?_)
          obtain ⟨rfl, rfl⟩ := And.intro e139.1.symm e139.2.symm
          refine ab_istore (pc := 142) dX4_tried_142 rfl ?_
          refine ab_iload (pc := 144) dX4_tried_144 rfl ?_
          refine ab_if_lt (pc := 146) 157 dX4_tried_146 (by decide) (fun c146 => ?_) (fun c146 => ?_)
          · refine ab_aload_n (pc := 157) dX4_tried_157 rfl rfl ?_
            refine ab_V0 (pc := 158) dX4_tried_158 mvX4_190 rfl rfl (kX4_leave ho1) (ab_kv fun h158 e158 => ?_)
            obtain rfl := e158.symm
            exact ab_retv (pc := 161) dX4_tried_161 rfl ⟨rfl, (by rw [m_tried, if_neg c14, if_neg (m_catch_f (by first | exact Or.inl c73 | exact Or.inr (Or.inl c81) | exact Or.inr (Or.inr (Or.inl c85)) | exact Or.inr (Or.inr (Or.inr c101)))), if_pos (by first | exact Or.inl c146 | exact Or.inr c154)])⟩
          · refine ab_aload_n (pc := 149) dX4_tried_149 rfl rfl ?_
            refine ab_geti (pc := 150) dX4_tried_150 fX4_197 rfl rfl ?_
            refine ab_topi (by (try simp only [ab_rd, ab_rdA, Nat.reduceEqDiff, reduceIte]); exact rfl) ?_
            refine ab_iconst (pc := 153) (v := 3) dX4_tried_153 (by decide) ?_
            refine ab_icmp_ne (pc := 154) 162 dX4_tried_154 (by decide) (fun c154 => ?_) (fun c154 => ?_)
            · refine ab_aload_n (pc := 162) dX4_tried_162 rfl rfl ?_
              refine ab_getr (pc := 163) dX4_tried_163 fX4_83 rfl rfl ?_
              refine ab_iload_n (pc := 166) dX4_tried_166 rfl rfl ?_
              refine ab_aload_n (pc := 167) dX4_tried_167 rfl rfl ?_
              refine ab_geti (pc := 168) dX4_tried_168 fX4_197 rfl rfl ?_
              refine ab_topi (by (try simp only [ab_rd, ab_rdA, Nat.reduceEqDiff, reduceIte]); exact rfl) ?_
              refine ab_iast (pc := 171) dX4_tried_171 rfl ho ?_
              refine ab_aload_n (pc := 172) dX4_tried_172 rfl rfl ?_
              refine ab_getr (pc := 173) dX4_tried_173 fX4_86 rfl rfl ?_
              refine ab_iload_n (pc := 176) dX4_tried_176 rfl rfl ?_
              refine ab_aload_n (pc := 177) dX4_tried_177 rfl rfl ?_
              refine ab_geti (pc := 178) dX4_tried_178 fX4_142 rfl rfl ?_
              refine ab_topi (by (try simp only [ab_rd, ab_rdA, Nat.reduceEqDiff, reduceIte]); exact rfl) ?_
              refine ab_iast (pc := 181) dX4_tried_181 rfl ho ?_
              refine ab_aload_n (pc := 182) dX4_tried_182 rfl rfl ?_
              refine ab_getr (pc := 183) dX4_tried_183 fX4_89 rfl rfl ?_
              refine ab_iload_n (pc := 186) dX4_tried_186 rfl rfl ?_
              refine ab_aload_n (pc := 187) dX4_tried_187 rfl rfl ?_
              refine ab_geti (pc := 188) dX4_tried_188 fX4_171 rfl rfl ?_
              refine ab_topi (by (try simp only [ab_rd, ab_rdA, Nat.reduceEqDiff, reduceIte]); exact rfl) ?_
              refine ab_iast (pc := 191) dX4_tried_191 rfl ho ?_
              refine ab_aload_n (pc := 192) dX4_tried_192 rfl rfl ?_
              refine ab_getr (pc := 193) dX4_tried_193 fX4_77 rfl rfl ?_
              refine ab_iload_n (pc := 196) dX4_tried_196 rfl rfl ?_
              refine ab_iconst (pc := 197) (v := 2) dX4_tried_197 (by decide) ?_
              refine ab_iast (pc := 198) dX4_tried_198 rfl ho ?_
              refine ab_aload_n (pc := 199) dX4_tried_199 rfl rfl ?_
              refine ab_iconst (pc := 200) (v := 0) dX4_tried_200 (by decide) ?_
              refine ab_puti (pc := 201) dX4_tried_201 fwX4_197 rfl rfl ?_
              refine ab_aload_n (pc := 204) dX4_tried_204 rfl rfl ?_
              refine ab_iload (pc := 205) dX4_tried_205 rfl ?_
              refine ab_iconst (pc := 207) (v := 1) dX4_tried_207 (by decide) ?_
              refine ab_iadd (pc := 208) dX4_tried_208 ?_
              refine ab_puti (pc := 209) dX4_tried_209 fwX4_174 rfl rfl ?_
              exact ab_retv (pc := 212) dX4_tried_212 rfl ⟨rfl, (by rw [m_tried, if_neg c14, if_neg (m_catch_f (by first | exact Or.inl c73 | exact Or.inr (Or.inl c81) | exact Or.inr (Or.inr (Or.inl c85)) | exact Or.inr (Or.inr (Or.inr c101)))), if_neg (fun q => q.elim c146 c154)])⟩
            · refine ab_aload_n (pc := 157) dX4_tried_157 rfl rfl ?_
              refine ab_V0 (pc := 158) dX4_tried_158 mvX4_190 rfl rfl (kX4_leave ho1) (ab_kv fun h158 e158 => ?_)
              obtain rfl := e158.symm
              exact ab_retv (pc := 161) dX4_tried_161 rfl ⟨rfl, (by rw [m_tried, if_neg c14, if_neg (m_catch_f (by first | exact Or.inl c73 | exact Or.inr (Or.inl c81) | exact Or.inr (Or.inr (Or.inl c85)) | exact Or.inr (Or.inr (Or.inr c101)))), if_pos (by first | exact Or.inl c146 | exact Or.inr c154)])⟩
        · refine ab_aload_n (pc := 88) dX4_tried_88 rfl rfl ?_
          refine ab_getr (pc := 89) dX4_tried_89 fX4_16 rfl rfl ?_
          refine ab_iload_n (pc := 92) dX4_tried_92 rfl rfl ?_
          refine ab_iald (pc := 93) dX4_tried_93 rfl hhd ?_
          refine ab_topi (by (try simp only [ab_rd, ab_rdA, Nat.reduceEqDiff, reduceIte]); exact rfl) ?_
          refine ab_aload_n (pc := 94) dX4_tried_94 rfl rfl ?_
          refine ab_geti (pc := 95) dX4_tried_95 fX4_142 rfl rfl ?_
          refine ab_topi (by (try simp only [ab_rd, ab_rdA, Nat.reduceEqDiff, reduceIte]); exact rfl) ?_
          refine ab_ishr (pc := 98) dX4_tried_98 ?_
          refine ab_iconst (pc := 99) (v := 1) dX4_tried_99 (by decide) ?_
          refine ab_iand (pc := 100) dX4_tried_100 ?_
          refine ab_if_eq (pc := 101) 135 dX4_tried_101 (by decide) (fun c101 => ?_) (fun c101 => ?_)
          · refine ab_aload_n (pc := 135) dX4_tried_135 rfl rfl ?_
            refine ab_iload_n (pc := 136) dX4_tried_136 rfl rfl ?_
            refine ab_bipush (pc := 137) (v := 12) dX4_tried_137 (by decide) ?_
            refine ab_V2 (pc := 139) dX4_tried_139 mvX4_186 rfl rfl (kX4_partOf (hf c14)) (ab_ki fun r139 h139 e139 => ?_)
            obtain ⟨rfl, rfl⟩ := And.intro e139.1.symm e139.2.symm
            refine ab_istore (pc := 142) dX4_tried_142 rfl ?_
            refine ab_iload (pc := 144) dX4_tried_144 rfl ?_
            refine ab_if_lt (pc := 146) 157 dX4_tried_146 (by decide) (fun c146 => ?_) (fun c146 => ?_)
            · refine ab_aload_n (pc := 157) dX4_tried_157 rfl rfl ?_
              refine ab_V0 (pc := 158) dX4_tried_158 mvX4_190 rfl rfl (kX4_leave ho1) (ab_kv fun h158 e158 => ?_)
              obtain rfl := e158.symm
              exact ab_retv (pc := 161) dX4_tried_161 rfl ⟨rfl, (by rw [m_tried, if_neg c14, if_neg (m_catch_f (by first | exact Or.inl c73 | exact Or.inr (Or.inl c81) | exact Or.inr (Or.inr (Or.inl c85)) | exact Or.inr (Or.inr (Or.inr c101)))), if_pos (by first | exact Or.inl c146 | exact Or.inr c154)])⟩
            · refine ab_aload_n (pc := 149) dX4_tried_149 rfl rfl ?_
              refine ab_geti (pc := 150) dX4_tried_150 fX4_197 rfl rfl ?_
              refine ab_topi (by (try simp only [ab_rd, ab_rdA, Nat.reduceEqDiff, reduceIte]); exact rfl) ?_
              refine ab_iconst (pc := 153) (v := 3) dX4_tried_153 (by decide) ?_
              refine ab_icmp_ne (pc := 154) 162 dX4_tried_154 (by decide) (fun c154 => ?_) (fun c154 => ?_)
              · refine ab_aload_n (pc := 162) dX4_tried_162 rfl rfl ?_
                refine ab_getr (pc := 163) dX4_tried_163 fX4_83 rfl rfl ?_
                refine ab_iload_n (pc := 166) dX4_tried_166 rfl rfl ?_
                refine ab_aload_n (pc := 167) dX4_tried_167 rfl rfl ?_
                refine ab_geti (pc := 168) dX4_tried_168 fX4_197 rfl rfl ?_
                refine ab_topi (by (try simp only [ab_rd, ab_rdA, Nat.reduceEqDiff, reduceIte]); exact rfl) ?_
                refine ab_iast (pc := 171) dX4_tried_171 rfl ho ?_
                refine ab_aload_n (pc := 172) dX4_tried_172 rfl rfl ?_
                refine ab_getr (pc := 173) dX4_tried_173 fX4_86 rfl rfl ?_
                refine ab_iload_n (pc := 176) dX4_tried_176 rfl rfl ?_
                refine ab_aload_n (pc := 177) dX4_tried_177 rfl rfl ?_
                refine ab_geti (pc := 178) dX4_tried_178 fX4_142 rfl rfl ?_
                refine ab_topi (by (try simp only [ab_rd, ab_rdA, Nat.reduceEqDiff, reduceIte]); exact rfl) ?_
                refine ab_iast (pc := 181) dX4_tried_181 rfl ho ?_
                refine ab_aload_n (pc := 182) dX4_tried_182 rfl rfl ?_
                refine ab_getr (pc := 183) dX4_tried_183 fX4_89 rfl rfl ?_
                refine ab_iload_n (pc := 186) dX4_tried_186 rfl rfl ?_
                refine ab_aload_n (pc := 187) dX4_tried_187 rfl rfl ?_
                refine ab_geti (pc := 188) dX4_tried_188 fX4_171 rfl rfl ?_
                refine ab_topi (by (try simp only [ab_rd, ab_rdA, Nat.reduceEqDiff, reduceIte]); exact rfl) ?_
                refine ab_iast (pc := 191) dX4_tried_191 rfl ho ?_
                refine ab_aload_n (pc := 192) dX4_tried_192 rfl rfl ?_
                refine ab_getr (pc := 193) dX4_tried_193 fX4_77 rfl rfl ?_
                refine ab_iload_n (pc := 196) dX4_tried_196 rfl rfl ?_
                refine ab_iconst (pc := 197) (v := 2) dX4_tried_197 (by decide) ?_
                refine ab_iast (pc := 198) dX4_tried_198 rfl ho ?_
                refine ab_aload_n (pc := 199) dX4_tried_199 rfl rfl ?_
                refine ab_iconst (pc := 200) (v := 0) dX4_tried_200 (by decide) ?_
                refine ab_puti (pc := 201) dX4_tried_201 fwX4_197 rfl rfl ?_
                refine ab_aload_n (pc := 204) dX4_tried_204 rfl rfl ?_
                refine ab_iload (pc := 205) dX4_tried_205 rfl ?_
                refine ab_iconst (pc := 207) (v := 1) dX4_tried_207 (by decide) ?_
                refine ab_iadd (pc := 208) dX4_tried_208 ?_
                refine ab_puti (pc := 209) dX4_tried_209 fwX4_174 rfl rfl ?_
                exact ab_retv (pc := 212) dX4_tried_212 rfl ⟨rfl, (by rw [m_tried, if_neg c14, if_neg (m_catch_f (by first | exact Or.inl c73 | exact Or.inr (Or.inl c81) | exact Or.inr (Or.inr (Or.inl c85)) | exact Or.inr (Or.inr (Or.inr c101)))), if_neg (fun q => q.elim c146 c154)])⟩
              · refine ab_aload_n (pc := 157) dX4_tried_157 rfl rfl ?_
                refine ab_V0 (pc := 158) dX4_tried_158 mvX4_190 rfl rfl (kX4_leave ho1) (ab_kv fun h158 e158 => ?_)
                obtain rfl := e158.symm
                exact ab_retv (pc := 161) dX4_tried_161 rfl ⟨rfl, (by rw [m_tried, if_neg c14, if_neg (m_catch_f (by first | exact Or.inl c73 | exact Or.inr (Or.inl c81) | exact Or.inr (Or.inr (Or.inl c85)) | exact Or.inr (Or.inr (Or.inr c101)))), if_pos (by first | exact Or.inl c146 | exact Or.inr c154)])⟩
          · refine ab_aload_n (pc := 104) dX4_tried_104 rfl rfl ?_
            refine ab_getr (pc := 105) dX4_tried_105 fX4_22 rfl rfl ?_
            refine ab_bipush (pc := 108) (v := 7) dX4_tried_108 (by decide) ?_
            refine ab_aload_n (pc := 110) dX4_tried_110 rfl rfl ?_
            refine ab_geti (pc := 111) dX4_tried_111 fX4_142 rfl rfl ?_
            refine ab_topi (by (try simp only [ab_rd, ab_rdA, Nat.reduceEqDiff, reduceIte]); exact rfl) ?_
            refine ab_iast (pc := 114) dX4_tried_114 rfl (show vp_in (nI 7) 8 from vp_in_nI (by omega) (by omega)) ?_
            refine ab_aload_n (pc := 115) dX4_tried_115 rfl rfl ?_
            refine ab_getr (pc := 116) dX4_tried_116 fX4_77 rfl rfl ?_
            refine ab_iload_n (pc := 119) dX4_tried_119 rfl rfl ?_
            refine ab_iconst (pc := 120) (v := 1) dX4_tried_120 (by decide) ?_
            refine ab_iast (pc := 121) dX4_tried_121 rfl ho ?_
            refine ab_aload_n (pc := 122) dX4_tried_122 rfl rfl ?_
            refine ab_iconst (pc := 123) (v := 0) dX4_tried_123 (by decide) ?_
            refine ab_puti (pc := 124) dX4_tried_124 fwX4_197 rfl rfl ?_
            refine ab_aload_n (pc := 127) dX4_tried_127 rfl rfl ?_
            refine ab_iload_n (pc := 128) dX4_tried_128 rfl rfl ?_
            refine ab_iconst (pc := 129) (v := 1) dX4_tried_129 (by decide) ?_
            refine ab_iadd (pc := 130) dX4_tried_130 ?_
            refine ab_puti (pc := 131) dX4_tried_131 fwX4_174 rfl rfl ?_
            exact ab_retv (pc := 134) dX4_tried_134 rfl ⟨rfl, (by rw [m_tried, if_neg c14, if_pos (m_catch_t c73 c81 c85 c101)]; rfl)⟩
  · refine ab_aload_n (pc := 17) dX4_tried_17 rfl rfl ?_
    refine ab_geti (pc := 18) dX4_tried_18 fX4_197 rfl rfl ?_
    refine ab_if_ne (pc := 21) 54 dX4_tried_21 (by decide) (fun c21 => ?_) (fun c21 => ?_)
    · refine ab_aload_n (pc := 54) dX4_tried_54 rfl rfl ?_
      refine ab_V0 (pc := 55) dX4_tried_55 mvX4_190 rfl rfl (kX4_leave ho1) (ab_kv fun h55 e55 => ?_)
      obtain rfl := e55.symm
      exact ab_retv (pc := 58) dX4_tried_58 rfl ⟨rfl, (by first | rw [m_tried, if_pos c14, if_pos c21] | rw [m_tried, if_pos c14, if_neg c21])⟩
    · refine ab_aload_n (pc := 24) dX4_tried_24 rfl rfl ?_
      refine ab_aload_n (pc := 25) dX4_tried_25 rfl rfl ?_
      refine ab_getr (pc := 26) dX4_tried_26 fX4_83 rfl rfl ?_
      refine ab_iload_n (pc := 29) dX4_tried_29 rfl rfl ?_
      refine ab_iald (pc := 30) dX4_tried_30 rfl ho ?_
      refine ab_puti (pc := 31) dX4_tried_31 fwX4_197 rfl rfl ?_
      refine ab_aload_n (pc := 34) dX4_tried_34 rfl rfl ?_
      refine ab_aload_n (pc := 35) dX4_tried_35 rfl rfl ?_
      refine ab_getr (pc := 36) dX4_tried_36 fX4_86 rfl rfl ?_
      refine ab_iload_n (pc := 39) dX4_tried_39 rfl rfl ?_
      refine ab_iald (pc := 40) dX4_tried_40 rfl ho ?_
      refine ab_topi (by (try simp only [ab_rd, ab_rdA, Nat.reduceEqDiff, reduceIte]); exact rfl) ?_
      refine ab_puti (pc := 41) dX4_tried_41 fwX4_142 rfl rfl ?_
      refine ab_aload_n (pc := 44) dX4_tried_44 rfl rfl ?_
      refine ab_aload_n (pc := 45) dX4_tried_45 rfl rfl ?_
      refine ab_getr (pc := 46) dX4_tried_46 fX4_89 rfl rfl ?_
      refine ab_iload_n (pc := 49) dX4_tried_49 rfl rfl ?_
      refine ab_iald (pc := 50) dX4_tried_50 rfl ho ?_
      refine ab_topi (by (try simp only [ab_rd, ab_rdA, Nat.reduceEqDiff, reduceIte]); exact rfl) ?_
      refine ab_puti (pc := 51) dX4_tried_51 fwX4_171 rfl rfl ?_
      refine ab_aload_n (pc := 54) dX4_tried_54 rfl rfl ?_
      refine ab_V0 (pc := 55) dX4_tried_55 mvX4_190 rfl rfl (kX4_leave ho1) (ab_kv fun h55 e55 => ?_)
      obtain rfl := e55.symm
      exact ab_retv (pc := 58) dX4_tried_58 rfl ⟨rfl, (by first | rw [m_tried, if_pos c14, if_pos c21] | rw [m_tried, if_pos c14, if_neg c21])⟩

set_option maxRecDepth 100000 in
set_option maxHeartbeats 4000000 in
theorem kX4_begin {l : Launch} {d : Nat} {h : ab_H} {s en q : Int32} (hop : vp_in (h 0 39) 80) (hat : vp_in (h 0 40) 480) (he : m_endOf (h 1) (h 0 40) = some en) (hsc : s = 14 → vp_in (h 0 30) 70) (hnm : s = 21 → vp_in (h 2 (h 0 40).toNatClampNeg) 8) (hp : s = 21 → m_partE (h 1) (h 0 40) 22 = some q) : ab_C l layM (d + 3) mX4_begin [ab_R 0, ab_I s] h (ab_qv fun h' => h' = m_begin h s en (m_partR (h 1) 22 q)) := by
  refine ab_enter (by decide) (Nat.le_of_ble_eq_true rfl) ?_
  have hop2 : vp_in (h 0 39 + 1 - 1) 80 := by rw [Int32.add_sub_cancel]; exact hop
  refine ab_aload_n (pc := 0) dX4_begin_0 rfl rfl ?_
  refine ab_iload_n (pc := 1) dX4_begin_1 rfl rfl ?_
  refine ab_aload_n (pc := 2) dX4_begin_2 rfl rfl ?_
  refine ab_geti (pc := 3) dX4_begin_3 fX4_174 rfl rfl ?_
  refine ab_aload_n (pc := 6) dX4_begin_6 rfl rfl ?_
  refine ab_aload_n (pc := 7) dX4_begin_7 rfl rfl ?_
  refine ab_geti (pc := 8) dX4_begin_8 fX4_174 rfl rfl ?_
  refine ab_V1 (pc := 11) dX4_begin_11 mvX4_177 rfl rfl (kX4_endOf he) (ab_ki fun r11 h11 e11 => ?_)
  obtain ⟨rfl, rfl⟩ := And.intro e11.1.symm e11.2.symm
  refine ab_V3 (pc := 14) dX4_begin_14 mvX4_180 rfl rfl (kX4_push hop) (ab_kv fun h14 e14 => ?_)
  obtain rfl := e14.symm
  refine ab_aload_n (pc := 17) dX4_begin_17 rfl rfl ?_
  refine ab_geti (pc := 18) dX4_begin_18 fX4_174 rfl rfl ?_
  refine ab_topi (by (try simp only [ab_rd, ab_rdA, Nat.reduceEqDiff, reduceIte, m_push, Int32.add_sub_cancel]); exact rfl) ?_
  refine ab_istore_n (pc := 21) dX4_begin_21 rfl rfl ?_
  refine ab_aload_n (pc := 22) dX4_begin_22 rfl rfl ?_
  refine ab_dup (pc := 23) dX4_begin_23 rfl ?_
  refine ab_geti (pc := 24) dX4_begin_24 fX4_174 rfl rfl ?_
  refine ab_topi (by (try simp only [ab_rd, ab_rdA, Nat.reduceEqDiff, reduceIte, m_push, Int32.add_sub_cancel]); exact rfl) ?_
  refine ab_iconst (pc := 27) (v := 1) dX4_begin_27 (by decide) ?_
  refine ab_iadd (pc := 28) dX4_begin_28 ?_
  refine ab_puti (pc := 29) dX4_begin_29 fwX4_174 rfl rfl ?_
  refine ab_iload_n (pc := 32) dX4_begin_32 rfl rfl ?_
  refine ab_bipush (pc := 33) (v := 13) dX4_begin_33 (by decide) ?_
  refine ab_icmp_ne (pc := 35) 62 dX4_begin_35 (by decide) (fun c35 => ?_) (fun c35 => ?_)
  · refine ab_iload_n (pc := 62) dX4_begin_62 rfl rfl ?_
    refine ab_bipush (pc := 63) (v := 14) dX4_begin_63 (by decide) ?_
    refine ab_icmp_ne (pc := 65) 94 dX4_begin_65 (by decide) (fun c65 => ?_) (fun c65 => ?_)
    · refine ab_iload_n (pc := 94) dX4_begin_94 rfl rfl ?_
      refine ab_bipush (pc := 95) (v := 21) dX4_begin_95 (by decide) ?_
      refine ab_icmp_ne (pc := 97) 147 dX4_begin_97 (by decide) (fun c97 => ?_) (fun c97 => ?_)
      · exact ab_retv (pc := 147) dX4_begin_147 rfl ⟨rfl, (by first | rw [m_begin, if_pos c35] | rw [m_begin, if_neg c35, if_pos c65] | rw [m_begin, if_neg c35, if_neg c65, if_neg (fun z => c97 z.1)] | rw [m_begin, if_neg c35, if_neg c65, if_neg (fun z => c111 z.2)] | rw [m_begin, if_neg c35, if_neg c65, if_pos ⟨c97, c111⟩, if_pos c124] | rw [m_begin, if_neg c35, if_neg c65, if_pos ⟨c97, c111⟩, if_neg c124])⟩
      · refine ab_aload_n (pc := 100) dX4_begin_100 rfl rfl ?_
        refine ab_getr (pc := 101) dX4_begin_101 fX4_22 rfl rfl ?_
        refine ab_aload_n (pc := 104) dX4_begin_104 rfl rfl ?_
        refine ab_getr (pc := 105) dX4_begin_105 fX4_13 rfl rfl ?_
        refine ab_iload_n (pc := 108) dX4_begin_108 rfl rfl ?_
        refine ab_iald (pc := 109) dX4_begin_109 rfl hat ?_
        refine ab_topi (by (try simp only [ab_rd, ab_rdA, Nat.reduceEqDiff, reduceIte, m_push, Int32.add_sub_cancel]); exact rfl) ?_
        refine ab_iald (pc := 110) dX4_begin_110 rfl (hnm c97) ?_
        refine ab_topi (by (try simp only [ab_rd, ab_rdA, Nat.reduceEqDiff, reduceIte, m_push, Int32.add_sub_cancel]); exact rfl) ?_
        refine ab_if_ne (pc := 111) 147 dX4_begin_111 (by decide) (fun c111 => ?_) (fun c111 => ?_)
        · exact ab_retv (pc := 147) dX4_begin_147 rfl ⟨rfl, (by first | rw [m_begin, if_pos c35] | rw [m_begin, if_neg c35, if_pos c65] | rw [m_begin, if_neg c35, if_neg c65, if_neg (fun z => c97 z.1)] | rw [m_begin, if_neg c35, if_neg c65, if_neg (fun z => c111 z.2)] | rw [m_begin, if_neg c35, if_neg c65, if_pos ⟨c97, c111⟩, if_pos c124] | rw [m_begin, if_neg c35, if_neg c65, if_pos ⟨c97, c111⟩, if_neg c124])⟩
        · refine ab_aload_n (pc := 114) dX4_begin_114 rfl rfl ?_
          refine ab_iload_n (pc := 115) dX4_begin_115 rfl rfl ?_
          refine ab_bipush (pc := 116) (v := 22) dX4_begin_116 (by decide) ?_
          refine ab_V2 (pc := 118) dX4_begin_118 mvX4_186 rfl rfl (kX4_partOf (hp c97)) (ab_ki fun r118 h118 e118 => ?_)
          obtain ⟨rfl, rfl⟩ := And.intro e118.1.symm e118.2.symm
          refine ab_topi (y := m_partR (h 1) 22 q) rfl ?_
          refine ab_istore_n (pc := 121) dX4_begin_121 rfl rfl ?_
          refine ab_aload_n (pc := 122) dX4_begin_122 rfl rfl ?_
          refine ab_iload_n (pc := 123) dX4_begin_123 rfl rfl ?_
          refine ab_if_ge (pc := 124) 141 dX4_begin_124 (by decide) (fun c124 => ?_) (fun c124 => ?_)
          · refine ab_iload_n (pc := 141) dX4_begin_141 rfl rfl ?_
            refine ab_iconst (pc := 142) (v := 1) dX4_begin_142 (by decide) ?_
            refine ab_iadd (pc := 143) dX4_begin_143 ?_
            refine ab_puti (pc := 144) dX4_begin_144 fwX4_174 rfl rfl ?_
            exact ab_retv (pc := 147) dX4_begin_147 rfl ⟨rfl, (by first | rw [m_begin, if_pos c35] | rw [m_begin, if_neg c35, if_pos c65] | rw [m_begin, if_neg c35, if_neg c65, if_neg (fun z => c97 z.1)] | rw [m_begin, if_neg c35, if_neg c65, if_neg (fun z => c111 z.2)] | rw [m_begin, if_neg c35, if_neg c65, if_pos ⟨c97, c111⟩, if_pos c124] | rw [m_begin, if_neg c35, if_neg c65, if_pos ⟨c97, c111⟩, if_neg c124])⟩
          · refine ab_aload_n (pc := 127) dX4_begin_127 rfl rfl ?_
            refine ab_getr (pc := 128) dX4_begin_128 fX4_74 rfl rfl ?_
            refine ab_aload_n (pc := 131) dX4_begin_131 rfl rfl ?_
            refine ab_geti (pc := 132) dX4_begin_132 fX4_95 rfl rfl ?_
            refine ab_topi (by (try simp only [ab_rd, ab_rdA, Nat.reduceEqDiff, reduceIte, m_push, Int32.add_sub_cancel]); exact rfl) ?_
            refine ab_iconst (pc := 135) (v := 1) dX4_begin_135 (by decide) ?_
            refine ab_isub (pc := 136) dX4_begin_136 ?_
            refine ab_topi (by (try simp only [ab_rd, ab_rdA, Nat.reduceEqDiff, reduceIte, m_push, Int32.add_sub_cancel]); exact rfl) ?_
            refine ab_iald (pc := 137) dX4_begin_137 rfl hop ?_
            refine ab_topi (by (try simp only [ab_rd, ab_rdA, Nat.reduceEqDiff, reduceIte, m_push, Int32.add_sub_cancel]); exact rfl) ?_
            refine ab_goto (pc := 138) 144 dX4_begin_138 (by decide) ?_
            refine ab_puti (pc := 144) dX4_begin_144 fwX4_174 rfl rfl ?_
            exact ab_retv (pc := 147) dX4_begin_147 rfl ⟨rfl, (by first | rw [m_begin, if_pos c35] | rw [m_begin, if_neg c35, if_pos c65] | rw [m_begin, if_neg c35, if_neg c65, if_neg (fun z => c97 z.1)] | rw [m_begin, if_neg c35, if_neg c65, if_neg (fun z => c111 z.2)] | rw [m_begin, if_neg c35, if_neg c65, if_pos ⟨c97, c111⟩, if_pos c124] | rw [m_begin, if_neg c35, if_neg c65, if_pos ⟨c97, c111⟩, if_neg c124])⟩
    · refine ab_aload_n (pc := 68) dX4_begin_68 rfl rfl ?_
      refine ab_getr (pc := 69) dX4_begin_69 fX4_65 rfl rfl ?_
      refine ab_aload_n (pc := 72) dX4_begin_72 rfl rfl ?_
      refine ab_geti (pc := 73) dX4_begin_73 fX4_127 rfl rfl ?_
      refine ab_topi (by (try simp only [ab_rd, ab_rdA, Nat.reduceEqDiff, reduceIte, m_push, Int32.add_sub_cancel]); exact rfl) ?_
      refine ab_aload_n (pc := 76) dX4_begin_76 rfl rfl ?_
      refine ab_geti (pc := 77) dX4_begin_77 fX4_130 rfl rfl ?_
      refine ab_topi (by (try simp only [ab_rd, ab_rdA, Nat.reduceEqDiff, reduceIte, m_push, Int32.add_sub_cancel]); exact rfl) ?_
      refine ab_iast (pc := 80) dX4_begin_80 rfl (hsc c65) ?_
      refine ab_aload_n (pc := 81) dX4_begin_81 rfl rfl ?_
      refine ab_dup (pc := 82) dX4_begin_82 rfl ?_
      refine ab_geti (pc := 83) dX4_begin_83 fX4_127 rfl rfl ?_
      refine ab_topi (by (try simp only [ab_rd, ab_rdA, Nat.reduceEqDiff, reduceIte, m_push, Int32.add_sub_cancel]); exact rfl) ?_
      refine ab_iconst (pc := 86) (v := 1) dX4_begin_86 (by decide) ?_
      refine ab_iadd (pc := 87) dX4_begin_87 ?_
      refine ab_puti (pc := 88) dX4_begin_88 fwX4_127 rfl rfl ?_
      refine ab_goto (pc := 91) 147 dX4_begin_91 (by decide) ?_
      exact ab_retv (pc := 147) dX4_begin_147 rfl ⟨rfl, (by first | rw [m_begin, if_pos c35] | rw [m_begin, if_neg c35, if_pos c65] | rw [m_begin, if_neg c35, if_neg c65, if_neg (fun z => c97 z.1)] | rw [m_begin, if_neg c35, if_neg c65, if_neg (fun z => c111 z.2)] | rw [m_begin, if_neg c35, if_neg c65, if_pos ⟨c97, c111⟩, if_pos c124] | rw [m_begin, if_neg c35, if_neg c65, if_pos ⟨c97, c111⟩, if_neg c124])⟩
  · refine ab_aload_n (pc := 38) dX4_begin_38 rfl rfl ?_
    refine ab_getr (pc := 39) dX4_begin_39 fX4_80 rfl rfl ?_
    refine ab_aload_n (pc := 42) dX4_begin_42 rfl rfl ?_
    refine ab_geti (pc := 43) dX4_begin_43 fX4_95 rfl rfl ?_
    refine ab_topi (by (try simp only [ab_rd, ab_rdA, Nat.reduceEqDiff, reduceIte, m_push, Int32.add_sub_cancel]); exact rfl) ?_
    refine ab_iconst (pc := 46) (v := 1) dX4_begin_46 (by decide) ?_
    refine ab_isub (pc := 47) dX4_begin_47 ?_
    refine ab_topi (by (try simp only [ab_rd, ab_rdA, Nat.reduceEqDiff, reduceIte, m_push, Int32.add_sub_cancel]); exact rfl) ?_
    refine ab_aload_n (pc := 48) dX4_begin_48 rfl rfl ?_
    refine ab_getr (pc := 49) dX4_begin_49 fX4_16 rfl rfl ?_
    refine ab_iload_n (pc := 52) dX4_begin_52 rfl rfl ?_
    refine ab_iald (pc := 53) dX4_begin_53 rfl hat ?_
    refine ab_topi (by (try simp only [ab_rd, ab_rdA, Nat.reduceEqDiff, reduceIte, m_push, Int32.add_sub_cancel]); exact rfl) ?_
    refine ab_iast (pc := 54) dX4_begin_54 rfl hop ?_
    refine ab_aload_n (pc := 55) dX4_begin_55 rfl rfl ?_
    refine ab_V0 (pc := 56) dX4_begin_56 mvX4_183 rfl rfl (kX4_round hop2) (ab_kv fun h56 e56 => ?_)
    obtain rfl := e56.symm
    refine ab_goto (pc := 59) 147 dX4_begin_59 (by decide) ?_
    exact ab_retv (pc := 147) dX4_begin_147 rfl ⟨rfl, (by first | rw [m_begin, if_pos c35] | rw [m_begin, if_neg c35, if_pos c65] | rw [m_begin, if_neg c35, if_neg c65, if_neg (fun z => c97 z.1)] | rw [m_begin, if_neg c35, if_neg c65, if_neg (fun z => c111 z.2)] | rw [m_begin, if_neg c35, if_neg c65, if_pos ⟨c97, c111⟩, if_pos c124] | rw [m_begin, if_neg c35, if_neg c65, if_pos ⟨c97, c111⟩, if_neg c124])⟩

set_option maxRecDepth 100000 in
set_option maxHeartbeats 4000000 in
theorem kX4_call {l : Launch} {d : Nat} {h : ab_H} {hd z : Int32} (hop : vp_in (h 0 39) 80) (hhd : vp_in hd 480) (hw : vp_in (h 3 hd.toNatClampNeg) 8) (hz : m_unended h (h 3 hd.toNatClampNeg) = some z) : ab_C l layM (d + 2) mX4_call [ab_R 0, ab_I hd] h (ab_qv fun h' => h' = m_call h hd z) := by
  refine ab_enter (by decide) (Nat.le_of_ble_eq_true rfl) ?_
  refine ab_aload_n (pc := 0) dX4_call_0 rfl rfl ?_
  refine ab_getr (pc := 1) dX4_call_1 fX4_16 rfl rfl ?_
  refine ab_iload_n (pc := 4) dX4_call_4 rfl rfl ?_
  refine ab_iald (pc := 5) dX4_call_5 rfl hhd ?_
  refine ab_istore_n (pc := 6) dX4_call_6 rfl rfl ?_
  refine ab_aload_n (pc := 7) dX4_call_7 rfl rfl ?_
  refine ab_geti (pc := 8) dX4_call_8 fX4_200 rfl rfl ?_
  refine ab_bipush (pc := 11) (v := 6) dX4_call_11 (by decide) ?_
  refine ab_icmp_eq (pc := 13) 24 dX4_call_13 (by decide) (fun c13 => ?_) (fun c13 => ?_)
  · refine ab_aload_n (pc := 24) dX4_call_24 rfl rfl ?_
    refine ab_aload_n (pc := 25) dX4_call_25 rfl rfl ?_
    refine ab_bipush (pc := 26) (v := 7) dX4_call_26 (by decide) ?_
    refine ab_V1 (pc := 28) dX4_call_28 mvX4_155 rfl rfl (kX4_fails) (ab_ki fun r28 h28 e28 => ?_)
    obtain ⟨rfl, rfl⟩ := And.intro e28.1.symm e28.2.symm
    refine ab_puti (pc := 31) dX4_call_31 fwX4_197 rfl rfl ?_
    exact ab_retv (pc := 34) dX4_call_34 rfl ⟨rfl, (by rw [m_call, if_pos (by first | exact Or.inl c13 | exact Or.inr c21)])⟩
  · refine ab_aload_n (pc := 16) dX4_call_16 rfl rfl ?_
    refine ab_iload_n (pc := 17) dX4_call_17 rfl rfl ?_
    refine ab_V1 (pc := 18) dX4_call_18 mvX4_203 rfl rfl (kX4_unended hw hz) (ab_ki fun r18 h18 e18 => ?_)
    obtain ⟨rfl, rfl⟩ := And.intro e18.1.symm e18.2.symm
    refine ab_if_eq (pc := 21) 35 dX4_call_21 (by decide) (fun c21 => ?_) (fun c21 => ?_)
    · refine ab_aload_n (pc := 35) dX4_call_35 rfl rfl ?_
      refine ab_dup (pc := 36) dX4_call_36 rfl ?_
      refine ab_geti (pc := 37) dX4_call_37 fX4_200 rfl rfl ?_
      refine ab_topi (by (try simp only [ab_rd, ab_rdA, Nat.reduceEqDiff, reduceIte]); exact rfl) ?_
      refine ab_iconst (pc := 40) (v := 1) dX4_call_40 (by decide) ?_
      refine ab_iadd (pc := 41) dX4_call_41 ?_
      refine ab_puti (pc := 42) dX4_call_42 fwX4_200 rfl rfl ?_
      refine ab_aload_n (pc := 45) dX4_call_45 rfl rfl ?_
      refine ab_iconst (pc := 46) (v := 0) dX4_call_46 (by decide) ?_
      refine ab_puti (pc := 47) dX4_call_47 fwX4_171 rfl rfl ?_
      refine ab_aload_n (pc := 50) dX4_call_50 rfl rfl ?_
      refine ab_iconst (pc := 51) (v := 0) dX4_call_51 (by decide) ?_
      refine ab_iload_n (pc := 52) dX4_call_52 rfl rfl ?_
      refine ab_bipush (pc := 53) (v := 60) dX4_call_53 (by decide) ?_
      refine ab_iload_n (pc := 55) dX4_call_55 rfl rfl ?_
      refine ab_imul (pc := 56) dX4_call_56 ?_
      refine ab_aload_n (pc := 57) dX4_call_57 rfl rfl ?_
      refine ab_getr (pc := 58) dX4_call_58 fX4_19 rfl rfl ?_
      refine ab_iload_n (pc := 61) dX4_call_61 rfl rfl ?_
      refine ab_iald (pc := 62) dX4_call_62 rfl hw ?_
      refine ab_topi (by (try simp only [ab_rd, ab_rdA, Nat.reduceEqDiff, reduceIte]); exact rfl) ?_
      refine ab_iadd (pc := 63) dX4_call_63 ?_
      refine ab_V3 (pc := 64) dX4_call_64 mvX4_180 rfl rfl (kX4_push hop) (ab_kv fun h64 e64 => ?_)
      obtain rfl := e64.symm
      refine ab_aload_n (pc := 67) dX4_call_67 rfl rfl ?_
      refine ab_bipush (pc := 68) (v := 60) dX4_call_68 (by decide) ?_
      refine ab_iload_n (pc := 70) dX4_call_70 rfl rfl ?_
      refine ab_imul (pc := 71) dX4_call_71 ?_
      refine ab_puti (pc := 72) dX4_call_72 fwX4_174 rfl rfl ?_
      exact ab_retv (pc := 75) dX4_call_75 rfl ⟨rfl, (by rw [m_call, if_neg (fun q => q.elim c13 (fun z => z c21))])⟩
    · refine ab_aload_n (pc := 24) dX4_call_24 rfl rfl ?_
      refine ab_aload_n (pc := 25) dX4_call_25 rfl rfl ?_
      refine ab_bipush (pc := 26) (v := 7) dX4_call_26 (by decide) ?_
      refine ab_V1 (pc := 28) dX4_call_28 mvX4_155 rfl rfl (kX4_fails) (ab_ki fun r28 h28 e28 => ?_)
      obtain ⟨rfl, rfl⟩ := And.intro e28.1.symm e28.2.symm
      refine ab_puti (pc := 31) dX4_call_31 fwX4_197 rfl rfl ?_
      exact ab_retv (pc := 34) dX4_call_34 rfl ⟨rfl, (by rw [m_call, if_pos (by first | exact Or.inl c13 | exact Or.inr c21)])⟩
end
section
set_option maxRecDepth 100000 in
set_option maxHeartbeats 4000000 in
theorem kX4_step {l : Launch} {d : Nat} {h : ab_H} {u : Nat} {sN aN bN en q z : Int32} (esN : sN = h 1 (h 0 40).toNatClampNeg) (eaN : aN = h 2 (h 0 40).toNatClampNeg) (ebN : bN = h 3 (h 0 40).toNatClampNeg) (hat : vp_in (h 0 40) 480) (hop : vp_in (h 0 39) 80) (he : m_opens sN = true → m_endOf (h 1) (h 0 40) = some en) (hsc : sN = 14 → vp_in (h 0 30) 70) (hnm : sN = 21 → vp_in aN 8) (hp : sN = 21 → m_partE (h 1) (h 0 40) 22 = some q) (hw : sN = 20 → vp_in bN 8) (hz : sN = 20 → m_unended h bN = some z) (hu : h 0 28 = nI u) (hu2 : u < 70) (hA : sN = 0 ∨ sN = 1 ∨ sN = 2 ∨ sN = 3 ∨ sN = 4 ∨ sN = 5 ∨ sN = 6 ∨ sN = 19 → vp_in aN 8) (hB : sN = 3 ∨ sN = 4 ∨ sN = 5 → vp_in bN 8) (hS : sN = 7 ∨ sN = 8 → vp_in aN 4) (hlg : ¬ h 0 15 = 100 → vp_in (h 0 15) 100) (hp16 : ∀ i : Int32, ¬ i < 0 → i < h 0 7 → vp_in i 16) (hbx : vp_in (h 0 13) 80) (hsl : sN = 8 → vp_in (h 7 (aN).toNatClampNeg) 80) (hmk : ¬ h 0 30 ≤ 0 → vp_in (h 0 30 - 1) 70) : ab_C l layM (d + 4) mX4_step [ab_R 0] h (ab_qv fun h' => h' = m_step h en (m_partR (h 1) 22 q) z) := by
  refine ab_enter (by decide) (Nat.le_of_ble_eq_true rfl) ?_
  refine ab_aload_n (pc := 0) dX4_step_0 rfl rfl ?_
  refine ab_getr (pc := 1) dX4_step_1 fX4_7 rfl rfl ?_
  refine ab_aload_n (pc := 4) dX4_step_4 rfl rfl ?_
  refine ab_geti (pc := 5) dX4_step_5 fX4_174 rfl rfl ?_
  refine ab_iald (pc := 8) dX4_step_8 rfl hat ?_
  refine ab_topi esN.symm ?_
  refine ab_istore_n (pc := 9) dX4_step_9 rfl rfl ?_
  refine ab_aload_n (pc := 10) dX4_step_10 rfl rfl ?_
  refine ab_V0 (pc := 11) dX4_step_11 mvX4_193 rfl rfl kX4_pays2 (ab_ki fun r11 h11 e11 => ?_)
  rcases e11 with ⟨q16, rfl, rfl⟩ | ⟨q16, rfl, rfl⟩
  · refine ab_if_ne (pc := 14) 25 dX4_step_14 (by decide) (fun c14 => ?_) (fun c14 => absurd c14 (by decide))
    refine ab_iload_n (pc := 25) dX4_step_25 rfl rfl ?_
    refine ab_S1 (pc := 26) dX4_step_26 msX4_98 rfl (kX4_opens) (ab_ki fun r26 h26 e26 => ?_)
    obtain ⟨rfl, rfl⟩ := And.intro e26.1.symm e26.2.symm
    refine ab_if_eq (pc := 29) 40 dX4_step_29 (by decide) (fun c29 => ?_) (fun c29 => ?_)
    · replace c29 := b2i_0.mp c29
      refine ab_iload_n (pc := 40) dX4_step_40 rfl rfl ?_
      refine ab_bipush (pc := 41) (v := 20) dX4_step_41 (by decide) ?_
      refine ab_icmp_ne (pc := 43) 57 dX4_step_43 (by decide) (fun c43 => ?_) (fun c43 => ?_)
      · refine ab_aload_n (pc := 57) dX4_step_57 rfl rfl ?_
        refine ab_aload_n (pc := 58) dX4_step_58 rfl rfl ?_
        refine ab_iload_n (pc := 59) dX4_step_59 rfl rfl ?_
        refine ab_aload_n (pc := 60) dX4_step_60 rfl rfl ?_
        refine ab_getr (pc := 61) dX4_step_61 fX4_13 rfl rfl ?_
        refine ab_aload_n (pc := 64) dX4_step_64 rfl rfl ?_
        refine ab_geti (pc := 65) dX4_step_65 fX4_174 rfl rfl ?_
        refine ab_topi (by (try simp only [ab_rd, ab_rdA, Nat.reduceEqDiff, reduceIte]); exact rfl) ?_
        refine ab_iald (pc := 68) dX4_step_68 rfl hat ?_
        refine ab_topi (by (try simp only [ab_rd, ab_rdA, Nat.reduceEqDiff, reduceIte]); exact rfl) ?_
        refine ab_topi eaN.symm ?_
        refine ab_aload_n (pc := 69) dX4_step_69 rfl rfl ?_
        refine ab_getr (pc := 70) dX4_step_70 fX4_16 rfl rfl ?_
        refine ab_aload_n (pc := 73) dX4_step_73 rfl rfl ?_
        refine ab_geti (pc := 74) dX4_step_74 fX4_174 rfl rfl ?_
        refine ab_topi (by (try simp only [ab_rd, ab_rdA, Nat.reduceEqDiff, reduceIte]); exact rfl) ?_
        refine ab_iald (pc := 77) dX4_step_77 rfl hat ?_
        refine ab_topi (by (try simp only [ab_rd, ab_rdA, Nat.reduceEqDiff, reduceIte]); exact rfl) ?_
        refine ab_topi ebN.symm ?_
        refine ab_V3 (pc := 78) dX4_step_78 mvX4_212 rfl rfl (kX4_plain (u := u) hu hu2 hA hB hS hlg hp16 hbx hsl hmk) (ab_ki fun r78 h78 e78 => ?_)
        obtain ⟨rfl, rfl⟩ := And.intro e78.1.symm e78.2.symm
        refine ab_puti (pc := 81) dX4_step_81 fwX4_197 rfl rfl ?_
        refine ab_aload_n (pc := 84) dX4_step_84 rfl rfl ?_
        refine ab_dup (pc := 85) dX4_step_85 rfl ?_
        refine ab_geti (pc := 86) dX4_step_86 fX4_174 rfl rfl ?_
        refine ab_topi (by (try simp only [ab_rd, ab_rdA, Nat.reduceEqDiff, reduceIte]); exact rfl) ?_
        refine ab_iconst (pc := 89) (v := 1) dX4_step_89 (by decide) ?_
        refine ab_iadd (pc := 90) dX4_step_90 ?_
        refine ab_puti (pc := 91) dX4_step_91 fwX4_174 rfl rfl ?_
        exact ab_retv (pc := 94) dX4_step_94 rfl ⟨rfl, (by first | rw [m_step, if_pos q16] | (rw [m_step, if_neg q16, ← esN, if_pos c29]; rfl) | rw [m_step, if_neg q16, ← esN, if_neg (ne_true_of_eq_false c29), if_pos c43] | rw [m_step, if_neg q16, ← esN, ← eaN, ← ebN, if_neg (ne_true_of_eq_false c29), if_neg c43])⟩
      · refine ab_aload_n (pc := 46) dX4_step_46 rfl rfl ?_
        refine ab_aload_n (pc := 47) dX4_step_47 rfl rfl ?_
        refine ab_geti (pc := 48) dX4_step_48 fX4_174 rfl rfl ?_
        refine ab_topi (by (try simp only [ab_rd, ab_rdA, Nat.reduceEqDiff, reduceIte]); exact rfl) ?_
        refine ab_V1 (pc := 51) dX4_step_51 mvX4_209 rfl rfl (kX4_call (z := z) hop hat (by have := hw c43; rw [ebN] at this; exact this) (by have := hz c43; rw [ebN] at this; exact this)) (ab_kv fun h51 e51 => ?_)
        obtain rfl := e51.symm
        refine ab_goto (pc := 54) 94 dX4_step_54 (by decide) ?_
        exact ab_retv (pc := 94) dX4_step_94 rfl ⟨rfl, (by first | rw [m_step, if_pos q16] | (rw [m_step, if_neg q16, ← esN, if_pos c29]; rfl) | rw [m_step, if_neg q16, ← esN, if_neg (ne_true_of_eq_false c29), if_pos c43] | rw [m_step, if_neg q16, ← esN, ← eaN, ← ebN, if_neg (ne_true_of_eq_false c29), if_neg c43])⟩
    · replace c29 := b2i_1.mp c29
      refine ab_aload_n (pc := 32) dX4_step_32 rfl rfl ?_
      refine ab_iload_n (pc := 33) dX4_step_33 rfl rfl ?_
      refine ab_V1 (pc := 34) dX4_step_34 mvX4_206 rfl rfl (kX4_begin (q := q) hop hat (he c29) hsc (fun q9 => by have := hnm q9; rw [eaN] at this; exact this) hp) (ab_kv fun h34 e34 => ?_)
      obtain rfl := e34.symm
      refine ab_goto (pc := 37) 94 dX4_step_37 (by decide) ?_
      exact ab_retv (pc := 94) dX4_step_94 rfl ⟨rfl, (by first | rw [m_step, if_pos q16] | (rw [m_step, if_neg q16, ← esN, if_pos c29]; rfl) | rw [m_step, if_neg q16, ← esN, if_neg (ne_true_of_eq_false c29), if_pos c43] | rw [m_step, if_neg q16, ← esN, ← eaN, ← ebN, if_neg (ne_true_of_eq_false c29), if_neg c43])⟩
  · refine ab_if_ne (pc := 14) 25 dX4_step_14 (by decide) (fun c14 => absurd c14 (by decide)) (fun c14 => ?_)
    refine ab_aload_n (pc := 17) dX4_step_17 rfl rfl ?_
    refine ab_iconst (pc := 18) (v := 3) dX4_step_18 (by decide) ?_
    refine ab_puti (pc := 19) dX4_step_19 fwX4_197 rfl rfl ?_
    refine ab_goto (pc := 22) 94 dX4_step_22 (by decide) ?_
    exact ab_retv (pc := 94) dX4_step_94 rfl ⟨rfl, (by first | rw [m_step, if_pos q16] | (rw [m_step, if_neg q16, ← esN, if_pos c29]; rfl) | rw [m_step, if_neg q16, ← esN, if_neg (ne_true_of_eq_false c29), if_pos c43] | rw [m_step, if_neg q16, ← esN, ← eaN, ← ebN, if_neg (ne_true_of_eq_false c29), if_neg c43])⟩

/-- the entries below u may be undone: their places are there -/
def m_uok (h : ab_H) (u : Nat) : Prop := ∀ j, j < u → (h 13 j = 1 ∨ h 13 j = 2 → vp_in (h 14 j) 8) ∧ (h 13 j = 7 → vp_in (h 14 j) 4) ∧ (¬ h 13 j = 1 → ¬ h 13 j = 2 → ¬ h 13 j = 5 → ¬ h 13 j = 7 → ∀ i : Int32, ¬ i < 0 → i < h 15 j → vp_in i 16)
def m_pok (h : ab_H) : Prop := ∀ i : Int32, ¬ i < 0 → i < h 0 7 → vp_in i 16
theorem m_undo_ne (h : ab_H) (u i : Nat) (h0 : i ≠ 0) (h5 : i ≠ 5) (h6 : i ≠ 6) (h7 : i ≠ 7) : m_undo h u i = h i := by
  unfold m_undo m_undoB
  repeat' split
  all_goals (funext k; simp [ab_rd, ab_rdA, h0, h5, h6, h7])
theorem m_undo_0 (h : ab_H) (u k : Nat) (h1 : k ≠ 28) (h2 : k ≠ 17) (h3 : k ≠ 18) (h4 : k ≠ 7) : m_undo h u 0 k = h 0 k := by
  unfold m_undo m_undoB
  repeat' split
  all_goals simp [ab_rd, ab_rdA, h1, h2, h3, h4]
theorem m_undo_28 (h : ab_H) (u : Nat) : m_undo h u 0 28 = nI u := by
  unfold m_undo m_undoB
  repeat' split
  all_goals simp [ab_rd, ab_rdA]
theorem m_undo_uok {h : ab_H} {u : Nat} (H : m_uok h (u + 1)) : m_uok (m_undo h u) u := by
  intro j hj
  rw [m_undo_ne h u 13 (by omega) (by omega) (by omega) (by omega), m_undo_ne h u 14 (by omega) (by omega) (by omega) (by omega), m_undo_ne h u 15 (by omega) (by omega) (by omega) (by omega)]
  exact H j (by omega)
theorem m_undo_pok {h : ab_H} {u : Nat} (H : m_uok h (u + 1)) (P : m_pok h) : m_pok (m_undo h u) := by
  have H := (H u (by omega)).2.2
  unfold m_undo m_undoB
  split
  · intro i h1 h2
    exact P i h1 (by simpa [ab_rd] using h2)
  · next q =>
    split
    · intro i h1 h2
      exact P i h1 (by simpa [ab_rd] using h2)
    · next q1 =>
      split
      · intro i h1 h2
        exact P i h1 (by simpa [ab_rd] using h2)
      · next q2 =>
        split
        · intro i h1 h2
          exact P i h1 (by simpa [ab_rd] using h2)
        · next q3 =>
          split
          · intro i h1 h2
            exact P i h1 (by simpa [ab_rd] using h2)
          · next q4 =>
            intro i h1 h2
            exact H q1 q2 q3 q4 i h1 (by simpa [ab_rd, ab_rdA] using h2)
/-- undo n entries, down to mk -/
def m_ua (mk : Nat) : Nat → ab_H → ab_H
  | 0, h => h
  | n + 1, h => m_ua mk n (m_undo h (mk + n))
theorem m_ua_ne (mk : Nat) (i : Nat) (h0 : i ≠ 0) (h5 : i ≠ 5) (h6 : i ≠ 6) (h7 : i ≠ 7) : ∀ (n : Nat) (h : ab_H), m_ua mk n h i = h i
  | 0, _ => rfl
  | n + 1, h => (m_ua_ne mk i h0 h5 h6 h7 n _).trans (m_undo_ne h _ i h0 h5 h6 h7)
theorem m_ua_0 (mk : Nat) (k : Nat) (h1 : k ≠ 28) (h2 : k ≠ 17) (h3 : k ≠ 18) (h4 : k ≠ 7) : ∀ (n : Nat) (h : ab_H), m_ua mk n h 0 k = h 0 k
  | 0, _ => rfl
  | n + 1, h => (m_ua_0 mk k h1 h2 h3 h4 n _).trans (m_undo_0 h _ k h1 h2 h3 h4)
set_option maxRecDepth 100000 in
set_option maxHeartbeats 4000000 in
theorem lpX4_ended {l : Launch} {d : Nat} {mk : Nat} {Q : Option ab_V → ab_H → Prop} : ∀ (n : Nat) (h : ab_H), h 0 28 = nI (mk + n) → mk + n ≤ 70 → h 17 (h 0 30).toNatClampNeg = nI mk → vp_in (h 0 30) 70 → m_uok h (mk + n) → m_pok h → ab_J l layM mX4_ended (d + 1) Q 128 [(0, ab_R 0)] [] (m_ua mk n h) → ab_J l layM mX4_ended (d + 1) Q 105 [(0, ab_R 0)] [] h := by
  intro n
  induction n with
  | zero =>
    intro h hu hle hmk hsc hok hpl K
    refine ab_aload_n (pc := 105) dX4_ended_105 rfl rfl ?_
    refine ab_geti (pc := 106) dX4_ended_106 fX4_130 rfl rfl ?_
    refine ab_aload_n (pc := 109) dX4_ended_109 rfl rfl ?_
    refine ab_getr (pc := 110) dX4_ended_110 fX4_65 rfl rfl ?_
    refine ab_aload_n (pc := 113) dX4_ended_113 rfl rfl ?_
    refine ab_geti (pc := 114) dX4_ended_114 fX4_127 rfl rfl ?_
    refine ab_iald (pc := 117) dX4_ended_117 rfl hsc ?_
    rw [hu, hmk]
    refine ab_icmp_le (pc := 118) 128 dX4_ended_118 (by decide) (fun c118 => ?_) (fun c118 => ?_)
    · exact K
    · exact absurd (nI_le (by omega) (by omega)) c118
  | succ n ih =>
    intro h hu hle hmk hsc hok hpl K
    refine ab_aload_n (pc := 105) dX4_ended_105 rfl rfl ?_
    refine ab_geti (pc := 106) dX4_ended_106 fX4_130 rfl rfl ?_
    refine ab_aload_n (pc := 109) dX4_ended_109 rfl rfl ?_
    refine ab_getr (pc := 110) dX4_ended_110 fX4_65 rfl rfl ?_
    refine ab_aload_n (pc := 113) dX4_ended_113 rfl rfl ?_
    refine ab_geti (pc := 114) dX4_ended_114 fX4_127 rfl rfl ?_
    refine ab_iald (pc := 117) dX4_ended_117 rfl hsc ?_
    rw [hu, hmk]
    refine ab_icmp_le (pc := 118) 128 dX4_ended_118 (by decide) (fun c118 => ?_) (fun c118 => ?_)
    · exact absurd c118 (nI_ge (by omega) (by omega))
    · refine ab_aload_n (pc := 121) dX4_ended_121 rfl rfl ?_
      refine ab_V0 (pc := 122) dX4_ended_122 mvX4_224 rfl rfl (kX4_undoOne (u := mk + n) hu (by omega) (hok _ (by omega)).1 (fun _ => hpl _) (hok _ (by omega)).2.1) (ab_kv fun h122 e122 => ?_)
      obtain rfl := e122.symm
      refine ab_goto (pc := 125) 105 dX4_ended_125 (by decide) ?_
      exact ih _ (m_undo_28 _ _) (by omega) (by rw [m_undo_ne h _ 17 (by omega) (by omega) (by omega) (by omega), m_undo_0 h _ 30 (by omega) (by omega) (by omega) (by omega)]; exact hmk) (by rw [m_undo_0 h _ 30 (by omega) (by omega) (by omega) (by omega)]; exact hsc) (m_undo_uok hok) (m_undo_pok hok hpl) K
end
section
/-! the end of a block, and the run -/
def m_sc0 (h : ab_H) : ab_H := if h 0 30 = 0 then ab_up h 0 28 0 else h
def m_scE (h : ab_H) (mk n : Nat) : ab_H := if h 0 41 = 1 then m_ua mk n (ab_up h 0 30 (h 0 30 - 1)) else ab_up h 0 30 (h 0 30 - 1)
def m_ended (h : ab_H) (c f : Int32) (mk n : Nat) : ab_H :=
  if h 18 (h 0 39 - 1).toNatClampNeg = 0 then m_back h (h 0 39 - 1)
  else if h 18 (h 0 39 - 1).toNatClampNeg = 10 then m_tried h (h 0 39 - 1) c f
  else if h 18 (h 0 39 - 1).toNatClampNeg = 13 then m_looped h
  else if h 18 (h 0 39 - 1).toNatClampNeg = 14 then m_leave (m_sc0 (m_scE h mk n))
  else if h 18 (h 0 39 - 1).toNatClampNeg = 15 then (if h 0 41 = 3 then m_leave h else m_leave (ab_up h 0 41 0))
  else m_leave h
theorem m_scE_39 (h : ab_H) (mk n : Nat) : m_scE h mk n 0 39 = h 0 39 := by
  unfold m_scE
  split
  · rw [m_ua_0 mk 39 (by omega) (by omega) (by omega) (by omega)]
    rfl
  · rfl
theorem m_sc0_39 (h : ab_H) : m_sc0 h 0 39 = h 0 39 := by
  unfold m_sc0
  split <;> rfl
/-- what must hold where a block ends: rows that are read are there -/
def m_endOK (h : ab_H) (c f : Int32) (mk n : Nat) : Prop :=
  (h 18 (h 0 39 - 1).toNatClampNeg = 0 → ¬ h 0 39 - 1 = 0 → vp_in (h 19 (h 0 39 - 1).toNatClampNeg) 480 ∧ vp_in (h 2 (h 19 (h 0 39 - 1).toNatClampNeg).toNatClampNeg) 8) ∧
  (h 18 (h 0 39 - 1).toNatClampNeg = 10 → vp_in (h 19 (h 0 39 - 1).toNatClampNeg) 480 ∧ (¬ h 21 (h 0 39 - 1).toNatClampNeg = 2 → m_partE (h 1) (h 19 (h 0 39 - 1).toNatClampNeg) 11 = some c ∧ m_partE (h 1) (h 19 (h 0 39 - 1).toNatClampNeg) 12 = some f)) ∧
  (h 18 (h 0 39 - 1).toNatClampNeg = 14 → h 0 41 = 1 → h 0 28 = nI (mk + n) ∧ mk + n ≤ 70 ∧ h 17 (h 0 30 - 1).toNatClampNeg = nI mk ∧ vp_in (h 0 30 - 1) 70 ∧ m_uok h (mk + n) ∧ m_pok h)
set_option maxRecDepth 100000 in
set_option maxHeartbeats 4000000 in
theorem kX4_ended {l : Launch} {d : Nat} {h : ab_H} {c f : Int32} {mk n : Nat} (ho : vp_in (h 0 39 - 1) 80) (hok : m_endOK h c f mk n) : ab_C l layM (d + 4) mX4_ended [ab_R 0] h (ab_qv fun h' => h' = m_ended h (m_partR (h 1) 11 c) (m_partR (h 1) 12 f) mk n) := by
  refine ab_enter (by decide) (Nat.le_of_ble_eq_true rfl) ?_
  refine ab_aload_n (pc := 0) dX4_ended_0 rfl rfl ?_
  refine ab_geti (pc := 1) dX4_ended_1 fX4_95 rfl rfl ?_
  refine ab_iconst (pc := 4) (v := 1) dX4_ended_4 (by decide) ?_
  refine ab_isub (pc := 5) dX4_ended_5 ?_
  refine ab_istore_n (pc := 6) dX4_ended_6 rfl rfl ?_
  refine ab_aload_n (pc := 7) dX4_ended_7 rfl rfl ?_
  refine ab_getr (pc := 8) dX4_ended_8 fX4_68 rfl rfl ?_
  refine ab_iload_n (pc := 11) dX4_ended_11 rfl rfl ?_
  refine ab_iald (pc := 12) dX4_ended_12 rfl ho ?_
  refine ab_look (pc := 13) dX4_ended_13 (by decide) (by decide) (by decide) ?_
  refine ab_lw_c 0 64 (by decide) (by decide) (fun s13 => ?_) (fun n13_0 => ?_)
  · refine ab_aload_n (pc := 64) dX4_ended_64 rfl rfl ?_
    refine ab_iload_n (pc := 65) dX4_ended_65 rfl rfl ?_
    refine ab_V1 (pc := 66) dX4_ended_66 mvX4_215 rfl rfl (kX4_back ho (fun z => (hok.1 s13 z).1) (fun z => (hok.1 s13 z).2)) (ab_kv fun h66 e66 => ?_)
    obtain rfl := e66.symm
    refine ab_goto (pc := 69) 171 dX4_ended_69 (by decide) ?_
    exact ab_retv (pc := 171) dX4_ended_171 rfl ⟨rfl, (by rw [m_ended, if_pos s13])⟩
  refine ab_lw_c 10 72 (by decide) (by decide) (fun s13 => ?_) (fun n13_10 => ?_)
  · refine ab_aload_n (pc := 72) dX4_ended_72 rfl rfl ?_
    refine ab_iload_n (pc := 73) dX4_ended_73 rfl rfl ?_
    refine ab_V1 (pc := 74) dX4_ended_74 mvX4_218 rfl rfl (kX4_tried ho ho (hok.2.1 s13).1 (fun z => ((hok.2.1 s13).2 z).1) (fun z => ((hok.2.1 s13).2 z).2)) (ab_kv fun h74 e74 => ?_)
    obtain rfl := e74.symm
    refine ab_goto (pc := 77) 171 dX4_ended_77 (by decide) ?_
    exact ab_retv (pc := 171) dX4_ended_171 rfl ⟨rfl, (by rw [m_ended, if_neg n13_0, if_pos s13])⟩
  refine ab_lw_c 13 80 (by decide) (by decide) (fun s13 => ?_) (fun n13_13 => ?_)
  · refine ab_aload_n (pc := 80) dX4_ended_80 rfl rfl ?_
    refine ab_V0 (pc := 81) dX4_ended_81 mvX4_221 rfl rfl (kX4_looped ho) (ab_kv fun h81 e81 => ?_)
    obtain rfl := e81.symm
    refine ab_goto (pc := 84) 171 dX4_ended_84 (by decide) ?_
    exact ab_retv (pc := 171) dX4_ended_171 rfl ⟨rfl, (by rw [m_ended, if_neg n13_0, if_neg n13_10, if_pos s13])⟩
  refine ab_lw_c 14 87 (by decide) (by decide) (fun s13 => ?_) (fun n13_14 => ?_)
  · refine ab_aload_n (pc := 87) dX4_ended_87 rfl rfl ?_
    refine ab_dup (pc := 88) dX4_ended_88 rfl ?_
    refine ab_geti (pc := 89) dX4_ended_89 fX4_127 rfl rfl ?_
    refine ab_iconst (pc := 92) (v := 1) dX4_ended_92 (by decide) ?_
    refine ab_isub (pc := 93) dX4_ended_93 ?_
    refine ab_puti (pc := 94) dX4_ended_94 fwX4_127 rfl rfl ?_
    refine ab_aload_n (pc := 97) dX4_ended_97 rfl rfl ?_
    refine ab_geti (pc := 98) dX4_ended_98 fX4_197 rfl rfl ?_
    refine ab_topi (by (try simp only [ab_rd, ab_rdA, Nat.reduceEqDiff, reduceIte]); exact rfl) ?_
    refine ab_iconst (pc := 101) (v := 1) dX4_ended_101 (by decide) ?_
    refine ab_icmp_ne (pc := 102) 128 dX4_ended_102 (by decide) (fun c102 => ?_) (fun c102 => ?_)
    · refine ab_heq (show ab_up h 0 30 (h 0 30 - 1) = m_scE h mk n by rw [m_scE, if_neg c102]) ?_
      show ab_J _ _ _ _ _ 128 _ _ (m_scE h mk n)
      refine ab_aload_n (pc := 128) dX4_ended_128 rfl rfl ?_
      refine ab_geti (pc := 129) dX4_ended_129 fX4_127 rfl rfl ?_
      refine ab_if_ne (pc := 132) 140 dX4_ended_132 (by decide) (fun c132 => ?_) (fun c132 => ?_)
      · refine ab_heq (show m_scE h mk n = m_sc0 (m_scE h mk n) by rw [m_sc0, if_neg c132]) ?_
        refine ab_aload_n (pc := 140) dX4_ended_140 rfl rfl ?_
        refine ab_V0 (pc := 141) dX4_ended_141 mvX4_190 rfl rfl (kX4_leave (by rw [m_sc0_39, m_scE_39]; exact ho)) (ab_kv fun h141 e141 => ?_)
        obtain rfl := e141.symm
        refine ab_goto (pc := 144) 171 dX4_ended_144 (by decide) ?_
        exact ab_retv (pc := 171) dX4_ended_171 rfl ⟨rfl, (by rw [m_ended, if_neg n13_0, if_neg n13_10, if_neg n13_13, if_pos s13])⟩
      · refine ab_aload_n (pc := 135) dX4_ended_135 rfl rfl ?_
        refine ab_iconst (pc := 136) (v := 0) dX4_ended_136 (by decide) ?_
        refine ab_puti (pc := 137) dX4_ended_137 fwX4_130 rfl rfl ?_
        refine ab_heq (show ab_up (m_scE h mk n) 0 28 0 = m_sc0 (m_scE h mk n) by rw [m_sc0, if_pos c132]) ?_
        refine ab_aload_n (pc := 140) dX4_ended_140 rfl rfl ?_
        refine ab_V0 (pc := 141) dX4_ended_141 mvX4_190 rfl rfl (kX4_leave (by rw [m_sc0_39, m_scE_39]; exact ho)) (ab_kv fun h141 e141 => ?_)
        obtain rfl := e141.symm
        refine ab_goto (pc := 144) 171 dX4_ended_144 (by decide) ?_
        exact ab_retv (pc := 171) dX4_ended_171 rfl ⟨rfl, (by rw [m_ended, if_neg n13_0, if_neg n13_10, if_neg n13_13, if_pos s13])⟩
    · obtain ⟨g1, g2, g3, g4, g5, g6⟩ := hok.2.2 s13 c102
      refine ab_weak [(0, ab_R 0)] ⟨rfl, trivial⟩ ?_
      refine lpX4_ended (mk := mk) n (ab_up h 0 30 (h 0 30 - 1)) g1 g2 g3 g4 g5 g6 ?_
      refine ab_heq (show m_ua mk n (ab_up h 0 30 (h 0 30 - 1)) = m_scE h mk n by rw [m_scE, if_pos c102]) ?_
      show ab_J _ _ _ _ _ 128 _ _ (m_scE h mk n)
      refine ab_aload_n (pc := 128) dX4_ended_128 rfl rfl ?_
      refine ab_geti (pc := 129) dX4_ended_129 fX4_127 rfl rfl ?_
      refine ab_if_ne (pc := 132) 140 dX4_ended_132 (by decide) (fun c132 => ?_) (fun c132 => ?_)
      · refine ab_heq (show m_scE h mk n = m_sc0 (m_scE h mk n) by rw [m_sc0, if_neg c132]) ?_
        refine ab_aload_n (pc := 140) dX4_ended_140 rfl rfl ?_
        refine ab_V0 (pc := 141) dX4_ended_141 mvX4_190 rfl rfl (kX4_leave (by rw [m_sc0_39, m_scE_39]; exact ho)) (ab_kv fun h141 e141 => ?_)
        obtain rfl := e141.symm
        refine ab_goto (pc := 144) 171 dX4_ended_144 (by decide) ?_
        exact ab_retv (pc := 171) dX4_ended_171 rfl ⟨rfl, (by rw [m_ended, if_neg n13_0, if_neg n13_10, if_neg n13_13, if_pos s13])⟩
      · refine ab_aload_n (pc := 135) dX4_ended_135 rfl rfl ?_
        refine ab_iconst (pc := 136) (v := 0) dX4_ended_136 (by decide) ?_
        refine ab_puti (pc := 137) dX4_ended_137 fwX4_130 rfl rfl ?_
        refine ab_heq (show ab_up (m_scE h mk n) 0 28 0 = m_sc0 (m_scE h mk n) by rw [m_sc0, if_pos c132]) ?_
        refine ab_aload_n (pc := 140) dX4_ended_140 rfl rfl ?_
        refine ab_V0 (pc := 141) dX4_ended_141 mvX4_190 rfl rfl (kX4_leave (by rw [m_sc0_39, m_scE_39]; exact ho)) (ab_kv fun h141 e141 => ?_)
        obtain rfl := e141.symm
        refine ab_goto (pc := 144) 171 dX4_ended_144 (by decide) ?_
        exact ab_retv (pc := 171) dX4_ended_171 rfl ⟨rfl, (by rw [m_ended, if_neg n13_0, if_neg n13_10, if_neg n13_13, if_pos s13])⟩
  refine ab_lw_c 15 147 (by decide) (by decide) (fun s13 => ?_) (fun n13_15 => ?_)
  · refine ab_aload_n (pc := 147) dX4_ended_147 rfl rfl ?_
    refine ab_geti (pc := 148) dX4_ended_148 fX4_197 rfl rfl ?_
    refine ab_iconst (pc := 151) (v := 3) dX4_ended_151 (by decide) ?_
    refine ab_icmp_eq (pc := 152) 160 dX4_ended_152 (by decide) (fun c152 => ?_) (fun c152 => ?_)
    · refine ab_aload_n (pc := 160) dX4_ended_160 rfl rfl ?_
      refine ab_V0 (pc := 161) dX4_ended_161 mvX4_190 rfl rfl (kX4_leave ho) (ab_kv fun h161 e161 => ?_)
      obtain rfl := e161.symm
      refine ab_goto (pc := 164) 171 dX4_ended_164 (by decide) ?_
      exact ab_retv (pc := 171) dX4_ended_171 rfl ⟨rfl, (by first | rw [m_ended, if_neg n13_0, if_neg n13_10, if_neg n13_13, if_neg n13_14, if_pos s13, if_pos c152] | rw [m_ended, if_neg n13_0, if_neg n13_10, if_neg n13_13, if_neg n13_14, if_pos s13, if_neg c152])⟩
    · refine ab_aload_n (pc := 155) dX4_ended_155 rfl rfl ?_
      refine ab_iconst (pc := 156) (v := 0) dX4_ended_156 (by decide) ?_
      refine ab_puti (pc := 157) dX4_ended_157 fwX4_197 rfl rfl ?_
      refine ab_aload_n (pc := 160) dX4_ended_160 rfl rfl ?_
      refine ab_V0 (pc := 161) dX4_ended_161 mvX4_190 rfl rfl (kX4_leave ho) (ab_kv fun h161 e161 => ?_)
      obtain rfl := e161.symm
      refine ab_goto (pc := 164) 171 dX4_ended_164 (by decide) ?_
      exact ab_retv (pc := 171) dX4_ended_171 rfl ⟨rfl, (by first | rw [m_ended, if_neg n13_0, if_neg n13_10, if_neg n13_13, if_neg n13_14, if_pos s13, if_pos c152] | rw [m_ended, if_neg n13_0, if_neg n13_10, if_neg n13_13, if_neg n13_14, if_pos s13, if_neg c152])⟩
  refine ab_lw_n 167 (by decide) ?_
  refine ab_aload_n (pc := 167) dX4_ended_167 rfl rfl ?_
  refine ab_V0 (pc := 168) dX4_ended_168 mvX4_190 rfl rfl (kX4_leave ho) (ab_kv fun h168 e168 => ?_)
  obtain rfl := e168.symm
  exact ab_retv (pc := 171) dX4_ended_171 rfl ⟨rfl, (by rw [m_ended, if_neg n13_0, if_neg n13_10, if_neg n13_13, if_neg n13_14, if_neg n13_15])⟩
end
section
/-! boxes are numbered anew; the run -/
def m_st1 (h : ab_H) (k : Nat) : ab_H := ab_up (ab_up h 10 k (h 8 (h 7 k).toNatClampNeg)) 11 k (h 9 (h 7 k).toNatClampNeg)
def m_st2 (h : ab_H) (k : Nat) : ab_H := ab_up (ab_up (ab_up h 8 (k + 1) (h 10 k)) 9 (k + 1) (h 11 k)) 7 k (if h 7 k = 0 then 0 else nI (k + 1))
def m_s1 (h : ab_H) : Nat → ab_H
  | 0 => h
  | k + 1 => m_st1 (m_s1 h k) k
def m_s2 (h : ab_H) : Nat → ab_H
  | 0 => h
  | k + 1 => m_st2 (m_s2 h k) k
def m_settle (h : ab_H) : ab_H := ab_up (m_s2 (m_s1 h 4) 4) 0 13 5
theorem m_s1_7 (h : ab_H) : ∀ k, m_s1 h k 7 = h 7
  | 0 => rfl
  | k + 1 => by
    show m_st1 (m_s1 h k) k 7 = h 7
    rw [← m_s1_7 h k]
    rfl
theorem m_ge4 {k : Nat} (hk : k ≤ 4) (c : 4 ≤ nI k) : k = 4 := by
  have : nI 4 ≤ nI k := c
  rw [nI_leI (by omega) (by omega)] at this
  omega
theorem m_lt4 {k : Nat} (hk : k ≤ 4) (c : ¬ 4 ≤ nI k) : k < 4 := by
  rcases Nat.lt_or_ge k 4 with h | h
  · exact h
  · exact absurd (show nI 4 ≤ nI k from nI_le h (by omega)) c
set_option maxRecDepth 100000 in
set_option maxHeartbeats 4000000 in
theorem lpX4_settle1 {l : Launch} {d : Nat} {h : ab_H} {Q : Option ab_V → ab_H → Prop} (hs : ∀ k, k < 4 → vp_in (h 7 k) 80) (K : ab_J l layM mX4_settle d Q 47 [(0, ab_R 0)] [] (m_s1 h 4)) : ∀ (n : Nat) (k : Nat), k ≤ 4 → 4 < k + n → ab_J l layM mX4_settle (d) (Q) 2 [(0, ab_R 0), (1, ab_I (nI k))] [] (m_s1 h k) := by
  intro n
  induction n with
  | zero =>
    intro k hk hn
    omega
  | succ n ih =>
    intro k hk hn
    refine ab_iload_n (pc := 2) dX4_settle_2 rfl rfl ?_
    refine ab_iconst (pc := 3) (v := 4) dX4_settle_3 (by decide) ?_
    refine ab_icmp_ge (pc := 4) 47 dX4_settle_4 (by decide) (fun c4 => ?_) (fun c4 => ?_)
    · obtain rfl := m_ge4 hk (by assumption)
      refine ab_weak [(0, ab_R 0)] ⟨rfl, trivial⟩ ?_
      exact K
    · have hk2 := m_lt4 hk (by assumption)
      have hc : (nI k).toNatClampNeg = k := nI_clamp (by omega)
      have hc1 : (nI (k + 1)).toNatClampNeg = k + 1 := nI_clamp (by omega)
      have hi : vp_in (nI k) 4 := vp_in_nI hk2 (by omega)
      have hb : vp_in (m_s1 h k 7 k) 80 := by rw [m_s1_7]; exact hs k hk2
      refine ab_aload_n (pc := 7) dX4_settle_7 rfl rfl ?_
      refine ab_getr (pc := 8) dX4_settle_8 fX4_41 rfl rfl ?_
      refine ab_iload_n (pc := 11) dX4_settle_11 rfl rfl ?_
      refine ab_aload_n (pc := 12) dX4_settle_12 rfl rfl ?_
      refine ab_getr (pc := 13) dX4_settle_13 fX4_35 rfl rfl ?_
      refine ab_aload_n (pc := 16) dX4_settle_16 rfl rfl ?_
      refine ab_getr (pc := 17) dX4_settle_17 fX4_32 rfl rfl ?_
      refine ab_iload_n (pc := 20) dX4_settle_20 rfl rfl ?_
      refine ab_iald (pc := 21) dX4_settle_21 rfl hi ?_
      refine ab_topi (by (try simp only [ab_rd, ab_rdA, Nat.reduceEqDiff, reduceIte, hc]); exact rfl) ?_
      refine ab_iald (pc := 22) dX4_settle_22 rfl hb ?_
      refine ab_topi (by (try simp only [ab_rd, ab_rdA, Nat.reduceEqDiff, reduceIte, hc]); exact rfl) ?_
      refine ab_iast (pc := 23) dX4_settle_23 rfl hi ?_
      refine ab_aload_n (pc := 24) dX4_settle_24 rfl rfl ?_
      refine ab_getr (pc := 25) dX4_settle_25 fX4_44 rfl rfl ?_
      refine ab_iload_n (pc := 28) dX4_settle_28 rfl rfl ?_
      refine ab_aload_n (pc := 29) dX4_settle_29 rfl rfl ?_
      refine ab_getr (pc := 30) dX4_settle_30 fX4_38 rfl rfl ?_
      refine ab_aload_n (pc := 33) dX4_settle_33 rfl rfl ?_
      refine ab_getr (pc := 34) dX4_settle_34 fX4_32 rfl rfl ?_
      refine ab_iload_n (pc := 37) dX4_settle_37 rfl rfl ?_
      refine ab_iald (pc := 38) dX4_settle_38 rfl hi ?_
      refine ab_topi (by (try simp only [ab_rd, ab_rdA, Nat.reduceEqDiff, reduceIte, hc]); exact rfl) ?_
      refine ab_iald (pc := 39) dX4_settle_39 rfl hb ?_
      refine ab_topi (by (try simp only [ab_rd, ab_rdA, Nat.reduceEqDiff, reduceIte, hc]); exact rfl) ?_
      refine ab_iast (pc := 40) dX4_settle_40 rfl hi ?_
      refine ab_iinc (pc := 41) (v := 1) dX4_settle_41 rfl (by decide) rfl ?_
      refine ab_goto (pc := 44) 2 dX4_settle_44 (by decide) ?_
      refine ab_weak [(0, ab_R 0), (1, ab_I (nI k + 1))] ⟨rfl, rfl, trivial⟩ ?_
      rw [nI_1]
      refine ab_heq ?_ (ih (k + 1) (by omega) (by omega))
      rw [hc]
      rfl

set_option maxRecDepth 100000 in
set_option maxHeartbeats 4000000 in
theorem lpX4_settle2 {l : Launch} {d : Nat} {h : ab_H} {P : ab_H → Prop} (hP : P (ab_up (m_s2 h 4) 0 13 5)) : ∀ (n : Nat) (k : Nat), k ≤ 4 → 4 < k + n → ab_J l layM mX4_settle (d) (ab_qv P) 49 [(0, ab_R 0), (1, ab_I (nI k))] [] (m_s2 h k) := by
  intro n
  induction n with
  | zero =>
    intro k hk hn
    omega
  | succ n ih =>
    intro k hk hn
    refine ab_iload_n (pc := 49) dX4_settle_49 rfl rfl ?_
    refine ab_iconst (pc := 50) (v := 4) dX4_settle_50 (by decide) ?_
    refine ab_icmp_ge (pc := 51) 110 dX4_settle_51 (by decide) (fun c51 => ?_) (fun c51 => ?_)
    · obtain rfl := m_ge4 hk (by assumption)
      refine ab_aload_n (pc := 110) dX4_settle_110 rfl rfl ?_
      refine ab_iconst (pc := 111) (v := 5) dX4_settle_111 (by decide) ?_
      refine ab_puti (pc := 112) dX4_settle_112 fwX4_47 rfl rfl ?_
      exact ab_retv (pc := 115) dX4_settle_115 rfl ⟨rfl, hP⟩
    · have hk2 := m_lt4 hk (by assumption)
      have hc : (nI k).toNatClampNeg = k := nI_clamp (by omega)
      have hc1 : (nI (k + 1)).toNatClampNeg = k + 1 := nI_clamp (by omega)
      have hi : vp_in (nI k) 4 := vp_in_nI hk2 (by omega)
      have hi1 : vp_in (nI k + 1) 80 := by rw [nI_1]; exact vp_in_nI (by omega) (by omega)
      refine ab_aload_n (pc := 54) dX4_settle_54 rfl rfl ?_
      refine ab_getr (pc := 55) dX4_settle_55 fX4_35 rfl rfl ?_
      refine ab_iload_n (pc := 58) dX4_settle_58 rfl rfl ?_
      refine ab_iconst (pc := 59) (v := 1) dX4_settle_59 (by decide) ?_
      refine ab_iadd (pc := 60) dX4_settle_60 ?_
      refine ab_aload_n (pc := 61) dX4_settle_61 rfl rfl ?_
      refine ab_getr (pc := 62) dX4_settle_62 fX4_41 rfl rfl ?_
      refine ab_iload_n (pc := 65) dX4_settle_65 rfl rfl ?_
      refine ab_iald (pc := 66) dX4_settle_66 rfl hi ?_
      refine ab_topi (by (try simp only [ab_rd, ab_rdA, Nat.reduceEqDiff, reduceIte, hc, hc1, nI_1]); exact rfl) ?_
      refine ab_iast (pc := 67) dX4_settle_67 rfl hi1 ?_
      refine ab_aload_n (pc := 68) dX4_settle_68 rfl rfl ?_
      refine ab_getr (pc := 69) dX4_settle_69 fX4_38 rfl rfl ?_
      refine ab_iload_n (pc := 72) dX4_settle_72 rfl rfl ?_
      refine ab_iconst (pc := 73) (v := 1) dX4_settle_73 (by decide) ?_
      refine ab_iadd (pc := 74) dX4_settle_74 ?_
      refine ab_aload_n (pc := 75) dX4_settle_75 rfl rfl ?_
      refine ab_getr (pc := 76) dX4_settle_76 fX4_44 rfl rfl ?_
      refine ab_iload_n (pc := 79) dX4_settle_79 rfl rfl ?_
      refine ab_iald (pc := 80) dX4_settle_80 rfl hi ?_
      refine ab_topi (by (try simp only [ab_rd, ab_rdA, Nat.reduceEqDiff, reduceIte, hc, hc1, nI_1]); exact rfl) ?_
      refine ab_iast (pc := 81) dX4_settle_81 rfl hi1 ?_
      refine ab_aload_n (pc := 82) dX4_settle_82 rfl rfl ?_
      refine ab_getr (pc := 83) dX4_settle_83 fX4_32 rfl rfl ?_
      refine ab_iload_n (pc := 86) dX4_settle_86 rfl rfl ?_
      refine ab_aload_n (pc := 87) dX4_settle_87 rfl rfl ?_
      refine ab_getr (pc := 88) dX4_settle_88 fX4_32 rfl rfl ?_
      refine ab_iload_n (pc := 91) dX4_settle_91 rfl rfl ?_
      refine ab_iald (pc := 92) dX4_settle_92 rfl hi ?_
      refine ab_topi (by (try simp only [ab_rd, ab_rdA, Nat.reduceEqDiff, reduceIte, hc, hc1, nI_1]); exact rfl) ?_
      refine ab_if_ne (pc := 93) 100 dX4_settle_93 (by decide) (fun c93 => ?_) (fun c93 => ?_)
      · refine ab_iload_n (pc := 100) dX4_settle_100 rfl rfl ?_
        refine ab_iconst (pc := 101) (v := 1) dX4_settle_101 (by decide) ?_
        refine ab_iadd (pc := 102) dX4_settle_102 ?_
        refine ab_iast (pc := 103) dX4_settle_103 rfl hi ?_
        refine ab_iinc (pc := 104) (v := 1) dX4_settle_104 rfl (by decide) rfl ?_
        refine ab_goto (pc := 107) 49 dX4_settle_107 (by decide) ?_
        refine ab_weak [(0, ab_R 0), (1, ab_I (nI k + 1))] ⟨rfl, rfl, trivial⟩ ?_
        rw [nI_1]
        refine ab_heq ?_ (ih (k + 1) (by omega) (by omega))
        show _ = m_st2 (m_s2 h k) k
        first | (rw [m_st2, if_pos c93]; simp only [hc, hc1, nI_1]; done) | (rw [m_st2, if_neg c93]; simp only [hc, hc1, nI_1]; done)
      · refine ab_iconst (pc := 96) (v := 0) dX4_settle_96 (by decide) ?_
        refine ab_goto (pc := 97) 103 dX4_settle_97 (by decide) ?_
        refine ab_iast (pc := 103) dX4_settle_103 rfl hi ?_
        refine ab_iinc (pc := 104) (v := 1) dX4_settle_104 rfl (by decide) rfl ?_
        refine ab_goto (pc := 107) 49 dX4_settle_107 (by decide) ?_
        refine ab_weak [(0, ab_R 0), (1, ab_I (nI k + 1))] ⟨rfl, rfl, trivial⟩ ?_
        rw [nI_1]
        refine ab_heq ?_ (ih (k + 1) (by omega) (by omega))
        show _ = m_st2 (m_s2 h k) k
        first | (rw [m_st2, if_pos c93]; simp only [hc, hc1, nI_1]; done) | (rw [m_st2, if_neg c93]; simp only [hc, hc1, nI_1]; done)

set_option maxRecDepth 100000 in
set_option maxHeartbeats 4000000 in
theorem kX4_settle {l : Launch} {d : Nat} {h : ab_H} (hs : ∀ k, k < 4 → vp_in (h 7 k) 80) : ab_C l layM (d) mX4_settle [ab_R 0] h (ab_qv fun h' => h' = m_settle h) := by
  refine ab_enter (by decide) (Nat.le_of_ble_eq_true rfl) ?_
  refine ab_iconst (pc := 0) (v := 0) dX4_settle_0 (by decide) ?_
  refine ab_istore_n (pc := 1) dX4_settle_1 rfl rfl ?_
  refine ab_weak [(0, ab_R 0), (1, ab_I (nI 0))] ⟨rfl, rfl, trivial⟩ ?_
  refine lpX4_settle1 hs ?_ 5 0 (by omega) (by omega)
  refine ab_iconst (pc := 47) (v := 0) dX4_settle_47 (by decide) ?_
  refine ab_istore_n (pc := 48) dX4_settle_48 rfl rfl ?_
  refine ab_weak [(0, ab_R 0), (1, ab_I (nI 0))] ⟨rfl, rfl, trivial⟩ ?_
  exact lpX4_settle2 (h := m_s1 h 4) (P := fun h' => h' = m_settle h) rfl 5 0 (by omega) (by omega)

/-- what must hold where a NODE begins: rows that are read are there -/
def m_stepOK (h : ab_H) (u : Nat) (en q z : Int32) : Prop :=
  (vp_in (h 0 40) 480) ∧
  (vp_in (h 0 39) 80) ∧
  (m_opens (h 1 (h 0 40).toNatClampNeg) = true → m_endOf (h 1) (h 0 40) = some en) ∧
  (h 1 (h 0 40).toNatClampNeg = 14 → vp_in (h 0 30) 70) ∧
  (h 1 (h 0 40).toNatClampNeg = 21 → vp_in (h 2 (h 0 40).toNatClampNeg) 8) ∧
  (h 1 (h 0 40).toNatClampNeg = 21 → m_partE (h 1) (h 0 40) 22 = some q) ∧
  (h 1 (h 0 40).toNatClampNeg = 20 → vp_in (h 3 (h 0 40).toNatClampNeg) 8) ∧
  (h 1 (h 0 40).toNatClampNeg = 20 → m_unended h (h 3 (h 0 40).toNatClampNeg) = some z) ∧
  (h 0 28 = nI u) ∧
  (u < 70) ∧
  (h 1 (h 0 40).toNatClampNeg = 0 ∨ h 1 (h 0 40).toNatClampNeg = 1 ∨ h 1 (h 0 40).toNatClampNeg = 2 ∨ h 1 (h 0 40).toNatClampNeg = 3 ∨ h 1 (h 0 40).toNatClampNeg = 4 ∨ h 1 (h 0 40).toNatClampNeg = 5 ∨ h 1 (h 0 40).toNatClampNeg = 6 ∨ h 1 (h 0 40).toNatClampNeg = 19 → vp_in (h 2 (h 0 40).toNatClampNeg) 8) ∧
  (h 1 (h 0 40).toNatClampNeg = 3 ∨ h 1 (h 0 40).toNatClampNeg = 4 ∨ h 1 (h 0 40).toNatClampNeg = 5 → vp_in (h 3 (h 0 40).toNatClampNeg) 8) ∧
  (h 1 (h 0 40).toNatClampNeg = 7 ∨ h 1 (h 0 40).toNatClampNeg = 8 → vp_in (h 2 (h 0 40).toNatClampNeg) 4) ∧
  (¬ h 0 15 = 100 → vp_in (h 0 15) 100) ∧
  (∀ i : Int32, ¬ i < 0 → i < h 0 7 → vp_in i 16) ∧
  (vp_in (h 0 13) 80) ∧
  (h 1 (h 0 40).toNatClampNeg = 8 → vp_in (h 7 (h 2 (h 0 40).toNatClampNeg).toNatClampNeg) 80) ∧
  (¬ h 0 30 ≤ 0 → vp_in (h 0 30 - 1) 70)
theorem kX4_step2 {l : Launch} {d : Nat} {h : ab_H} {u : Nat} {en q z : Int32} (hok : m_stepOK h u en q z) : ab_C l layM (d + 4) mX4_step [ab_R 0] h (ab_qv fun h' => h' = m_step h en (m_partR (h 1) 22 q) z) := by
  obtain ⟨hat, hop, he, hsc, hnm, hp, hw, hz, hu, hu2, hA, hB, hS, hlg, hp16, hbx, hsl, hmk⟩ := hok
  exact kX4_step rfl rfl rfl hat hop he hsc hnm hp hw hz hu hu2 hA hB hS hlg hp16 hbx hsl hmk
/-- one turn of the run's loop -/
def m_turn (h h' : ab_H) : Prop := vp_in (h 0 39 - 1) 80 ∧ (¬ h 18 (h 0 39 - 1).toNatClampNeg = 0 → h 0 41 = 0 → vp_in (h 0 40) 480) ∧
  ((¬ h 0 41 = 0 ∨ m_atEnd h = true) → ∃ (c f : Int32) (mk n : Nat), m_endOK h c f mk n ∧ h' = m_ended h (m_partR (h 1) 11 c) (m_partR (h 1) 12 f) mk n) ∧
  (h 0 41 = 0 → m_atEnd h = false → ∃ (u : Nat) (en q z : Int32), m_stepOK h u en q z ∧ h' = m_step h en (m_partR (h 1) 22 q) z)
/-- so many turns lead from h to g, where nothing is open -/
def m_runs : Nat → ab_H → ab_H → Prop
  | 0, h, g => h 0 39 ≤ 0 ∧ g = h
  | n + 1, h, g => ¬ h 0 39 ≤ 0 ∧ ∃ h', m_turn h h' ∧ m_runs n h' g
def m_ans (h : ab_H) : Int32 := if h 0 41 = 0 then 0 else if h 0 41 = 2 then 1 else if h 0 41 = 1 then 2 + h 0 21 else -1
def m_fin (h : ab_H) : ab_H := ab_up h 0 20 (if h 0 41 = 2 then h 0 22 else 0)
def m_init (h : ab_H) (w : Int32) : ab_H := ab_up (m_push (m_settle (ab_up (ab_up (ab_up (ab_up (ab_up (ab_up (ab_up (ab_up (ab_up (ab_up h 0 0 0) 0 15 0) 0 16 0) 0 30 0) 0 28 0) 0 23 1) 0 22 0) 0 39 0) 0 41 0) 0 19 (h 0 19 + 1))) 0 0 (60 * w + m_settle (ab_up (ab_up (ab_up (ab_up (ab_up (ab_up (ab_up (ab_up (ab_up (ab_up h 0 0 0) 0 15 0) 0 16 0) 0 30 0) 0 28 0) 0 23 1) 0 22 0) 0 39 0) 0 41 0) 0 19 (h 0 19 + 1)) 4 w.toNatClampNeg)) 0 40 (60 * w)
set_option maxRecDepth 100000 in
set_option maxHeartbeats 4000000 in
theorem lpX4_run {l : Launch} {d : Nat} {g : ab_H} : ∀ (n : Nat) (h : ab_H), m_runs n h g → ab_J l layM mX4_run (d + 5) (ab_qi fun r h' => r = m_ans g ∧ h' = m_fin g) 113 [(0, ab_R 0)] [] h := by
  intro n
  induction n with
  | zero =>
    intro h hr
    obtain ⟨h0, rfl⟩ := hr
    refine ab_aload_n (pc := 113) dX4_run_113 rfl rfl ?_
    refine ab_geti (pc := 114) dX4_run_114 fX4_95 rfl rfl ?_
    refine ab_if_le (pc := 117) 148 dX4_run_117 (by decide) (fun c117 => ?_) (fun c117 => ?_)
    · refine ab_aload_n (pc := 148) dX4_run_148 rfl rfl ?_
      refine ab_aload_n (pc := 149) dX4_run_149 rfl rfl ?_
      refine ab_geti (pc := 150) dX4_run_150 fX4_197 rfl rfl ?_
      refine ab_iconst (pc := 153) (v := 2) dX4_run_153 (by decide) ?_
      refine ab_icmp_ne (pc := 154) 164 dX4_run_154 (by decide) (fun c154 => ?_) (fun c154 => ?_)
      · refine ab_iconst (pc := 164) (v := 0) dX4_run_164 (by decide) ?_
        refine ab_puti (pc := 165) dX4_run_165 fwX4_242 rfl rfl ?_
        refine ab_aload_n (pc := 168) dX4_run_168 rfl rfl ?_
        refine ab_geti (pc := 169) dX4_run_169 fX4_197 rfl rfl ?_
        refine ab_topi (by (try simp only [ab_rd, ab_rdA, Nat.reduceEqDiff, reduceIte]); exact rfl) ?_
        refine ab_if_ne (pc := 172) 179 dX4_run_172 (by decide) (fun c172 => ?_) (fun c172 => ?_)
        · refine ab_aload_n (pc := 179) dX4_run_179 rfl rfl ?_
          refine ab_geti (pc := 180) dX4_run_180 fX4_197 rfl rfl ?_
          refine ab_topi (by (try simp only [ab_rd, ab_rdA, Nat.reduceEqDiff, reduceIte]); exact rfl) ?_
          refine ab_iconst (pc := 183) (v := 2) dX4_run_183 (by decide) ?_
          refine ab_icmp_ne (pc := 184) 191 dX4_run_184 (by decide) (fun c184 => ?_) (fun c184 => ?_)
          · refine ab_aload_n (pc := 191) dX4_run_191 rfl rfl ?_
            refine ab_geti (pc := 192) dX4_run_192 fX4_197 rfl rfl ?_
            refine ab_topi (by (try simp only [ab_rd, ab_rdA, Nat.reduceEqDiff, reduceIte]); exact rfl) ?_
            refine ab_iconst (pc := 195) (v := 1) dX4_run_195 (by decide) ?_
            refine ab_icmp_ne (pc := 196) 208 dX4_run_196 (by decide) (fun c196 => ?_) (fun c196 => ?_)
            · refine ab_iconst (pc := 208) (v := (-1)) dX4_run_208 (by decide) ?_
              exact ab_reti (pc := 209) dX4_run_209 rfl ⟨_, rfl, ⟨by first | rw [m_ans, if_pos c172] | rw [m_ans, if_neg c172, if_pos c184] | rw [m_ans, if_neg c172, if_neg c184, if_pos c196] | rw [m_ans, if_neg c172, if_neg c184, if_neg c196], by first | rw [m_fin, if_pos c154] | rw [m_fin, if_neg c154]⟩⟩
            · refine ab_iconst (pc := 199) (v := 2) dX4_run_199 (by decide) ?_
              refine ab_aload_n (pc := 200) dX4_run_200 rfl rfl ?_
              refine ab_geti (pc := 201) dX4_run_201 fX4_142 rfl rfl ?_
              refine ab_topi (by (try simp only [ab_rd, ab_rdA, Nat.reduceEqDiff, reduceIte]); exact rfl) ?_
              refine ab_iadd (pc := 204) dX4_run_204 ?_
              refine ab_goto (pc := 205) 209 dX4_run_205 (by decide) ?_
              exact ab_reti (pc := 209) dX4_run_209 rfl ⟨_, rfl, ⟨by first | rw [m_ans, if_pos c172] | rw [m_ans, if_neg c172, if_pos c184] | rw [m_ans, if_neg c172, if_neg c184, if_pos c196] | rw [m_ans, if_neg c172, if_neg c184, if_neg c196], by first | rw [m_fin, if_pos c154] | rw [m_fin, if_neg c154]⟩⟩
          · refine ab_iconst (pc := 187) (v := 1) dX4_run_187 (by decide) ?_
            refine ab_goto (pc := 188) 209 dX4_run_188 (by decide) ?_
            exact ab_reti (pc := 209) dX4_run_209 rfl ⟨_, rfl, ⟨by first | rw [m_ans, if_pos c172] | rw [m_ans, if_neg c172, if_pos c184] | rw [m_ans, if_neg c172, if_neg c184, if_pos c196] | rw [m_ans, if_neg c172, if_neg c184, if_neg c196], by first | rw [m_fin, if_pos c154] | rw [m_fin, if_neg c154]⟩⟩
        · refine ab_iconst (pc := 175) (v := 0) dX4_run_175 (by decide) ?_
          refine ab_goto (pc := 176) 209 dX4_run_176 (by decide) ?_
          exact ab_reti (pc := 209) dX4_run_209 rfl ⟨_, rfl, ⟨by first | rw [m_ans, if_pos c172] | rw [m_ans, if_neg c172, if_pos c184] | rw [m_ans, if_neg c172, if_neg c184, if_pos c196] | rw [m_ans, if_neg c172, if_neg c184, if_neg c196], by first | rw [m_fin, if_pos c154] | rw [m_fin, if_neg c154]⟩⟩
      · refine ab_aload_n (pc := 157) dX4_run_157 rfl rfl ?_
        refine ab_geti (pc := 158) dX4_run_158 fX4_171 rfl rfl ?_
        refine ab_goto (pc := 161) 165 dX4_run_161 (by decide) ?_
        refine ab_puti (pc := 165) dX4_run_165 fwX4_242 rfl rfl ?_
        refine ab_aload_n (pc := 168) dX4_run_168 rfl rfl ?_
        refine ab_geti (pc := 169) dX4_run_169 fX4_197 rfl rfl ?_
        refine ab_topi (by (try simp only [ab_rd, ab_rdA, Nat.reduceEqDiff, reduceIte]); exact rfl) ?_
        refine ab_if_ne (pc := 172) 179 dX4_run_172 (by decide) (fun c172 => ?_) (fun c172 => ?_)
        · refine ab_aload_n (pc := 179) dX4_run_179 rfl rfl ?_
          refine ab_geti (pc := 180) dX4_run_180 fX4_197 rfl rfl ?_
          refine ab_topi (by (try simp only [ab_rd, ab_rdA, Nat.reduceEqDiff, reduceIte]); exact rfl) ?_
          refine ab_iconst (pc := 183) (v := 2) dX4_run_183 (by decide) ?_
          refine ab_icmp_ne (pc := 184) 191 dX4_run_184 (by decide) (fun c184 => ?_) (fun c184 => ?_)
          · refine ab_aload_n (pc := 191) dX4_run_191 rfl rfl ?_
            refine ab_geti (pc := 192) dX4_run_192 fX4_197 rfl rfl ?_
            refine ab_topi (by (try simp only [ab_rd, ab_rdA, Nat.reduceEqDiff, reduceIte]); exact rfl) ?_
            refine ab_iconst (pc := 195) (v := 1) dX4_run_195 (by decide) ?_
            refine ab_icmp_ne (pc := 196) 208 dX4_run_196 (by decide) (fun c196 => ?_) (fun c196 => ?_)
            · refine ab_iconst (pc := 208) (v := (-1)) dX4_run_208 (by decide) ?_
              exact ab_reti (pc := 209) dX4_run_209 rfl ⟨_, rfl, ⟨by first | rw [m_ans, if_pos c172] | rw [m_ans, if_neg c172, if_pos c184] | rw [m_ans, if_neg c172, if_neg c184, if_pos c196] | rw [m_ans, if_neg c172, if_neg c184, if_neg c196], by first | rw [m_fin, if_pos c154] | rw [m_fin, if_neg c154]⟩⟩
            · refine ab_iconst (pc := 199) (v := 2) dX4_run_199 (by decide) ?_
              refine ab_aload_n (pc := 200) dX4_run_200 rfl rfl ?_
              refine ab_geti (pc := 201) dX4_run_201 fX4_142 rfl rfl ?_
              refine ab_topi (by (try simp only [ab_rd, ab_rdA, Nat.reduceEqDiff, reduceIte]); exact rfl) ?_
              refine ab_iadd (pc := 204) dX4_run_204 ?_
              refine ab_goto (pc := 205) 209 dX4_run_205 (by decide) ?_
              exact ab_reti (pc := 209) dX4_run_209 rfl ⟨_, rfl, ⟨by first | rw [m_ans, if_pos c172] | rw [m_ans, if_neg c172, if_pos c184] | rw [m_ans, if_neg c172, if_neg c184, if_pos c196] | rw [m_ans, if_neg c172, if_neg c184, if_neg c196], by first | rw [m_fin, if_pos c154] | rw [m_fin, if_neg c154]⟩⟩
          · refine ab_iconst (pc := 187) (v := 1) dX4_run_187 (by decide) ?_
            refine ab_goto (pc := 188) 209 dX4_run_188 (by decide) ?_
            exact ab_reti (pc := 209) dX4_run_209 rfl ⟨_, rfl, ⟨by first | rw [m_ans, if_pos c172] | rw [m_ans, if_neg c172, if_pos c184] | rw [m_ans, if_neg c172, if_neg c184, if_pos c196] | rw [m_ans, if_neg c172, if_neg c184, if_neg c196], by first | rw [m_fin, if_pos c154] | rw [m_fin, if_neg c154]⟩⟩
        · refine ab_iconst (pc := 175) (v := 0) dX4_run_175 (by decide) ?_
          refine ab_goto (pc := 176) 209 dX4_run_176 (by decide) ?_
          exact ab_reti (pc := 209) dX4_run_209 rfl ⟨_, rfl, ⟨by first | rw [m_ans, if_pos c172] | rw [m_ans, if_neg c172, if_pos c184] | rw [m_ans, if_neg c172, if_neg c184, if_pos c196] | rw [m_ans, if_neg c172, if_neg c184, if_neg c196], by first | rw [m_fin, if_pos c154] | rw [m_fin, if_neg c154]⟩⟩
    · exact absurd h0 c117
  | succ n ih =>
    intro h hr
    obtain ⟨h0, h2, hT, hr2⟩ := hr
    obtain ⟨ho, ha, hE, hS⟩ := hT
    refine ab_aload_n (pc := 113) dX4_run_113 rfl rfl ?_
    refine ab_geti (pc := 114) dX4_run_114 fX4_95 rfl rfl ?_
    refine ab_if_le (pc := 117) 148 dX4_run_117 (by decide) (fun c117 => ?_) (fun c117 => ?_)
    · exact absurd c117 h0
    · refine ab_aload_n (pc := 120) dX4_run_120 rfl rfl ?_
      refine ab_geti (pc := 121) dX4_run_121 fX4_197 rfl rfl ?_
      refine ab_if_ne (pc := 124) 134 dX4_run_124 (by decide) (fun c124 => ?_) (fun c124 => ?_)
      · obtain ⟨c, f, mk, n2, hok, rfl⟩ := hE (by first | exact Or.inl c124 | exact Or.inr c131)
        refine ab_aload_n (pc := 134) dX4_run_134 rfl rfl ?_
        refine ab_V0 (pc := 135) dX4_run_135 mvX4_236 rfl rfl (kX4_ended ho hok) (ab_kv fun h135 e135 => ?_)
        obtain rfl := e135.symm
        refine ab_goto (pc := 138) 113 dX4_run_138 (by decide) ?_
        exact ih _ hr2
      · refine ab_aload_n (pc := 127) dX4_run_127 rfl rfl ?_
        refine ab_V0 (pc := 128) dX4_run_128 mvX4_233 rfl rfl (kX4_atEnd ho (fun z => ha z c124)) (ab_ki fun r128 h128 e128 => ?_)
        obtain ⟨rfl, rfl⟩ := And.intro e128.1.symm e128.2.symm
        refine ab_if_eq (pc := 131) 141 dX4_run_131 (by decide) (fun c131 => ?_) (fun c131 => ?_)
        · replace c131 := b2i_0.mp c131
          obtain ⟨u, en, q, z, hok, rfl⟩ := hS c124 c131
          refine ab_aload_n (pc := 141) dX4_run_141 rfl rfl ?_
          refine ab_V0 (pc := 142) dX4_run_142 mvX4_239 rfl rfl (kX4_step2 hok) (ab_kv fun h142 e142 => ?_)
          obtain rfl := e142.symm
          refine ab_goto (pc := 145) 113 dX4_run_145 (by decide) ?_
          exact ih _ hr2
        · replace c131 := b2i_1.mp c131
          obtain ⟨c, f, mk, n2, hok, rfl⟩ := hE (by first | exact Or.inl c124 | exact Or.inr c131)
          refine ab_aload_n (pc := 134) dX4_run_134 rfl rfl ?_
          refine ab_V0 (pc := 135) dX4_run_135 mvX4_236 rfl rfl (kX4_ended ho hok) (ab_kv fun h135 e135 => ?_)
          obtain rfl := e135.symm
          refine ab_goto (pc := 138) 113 dX4_run_138 (by decide) ?_
          exact ih _ hr2
theorem m_within_8 {w : Int32} (h : m_within w 7 = true) : vp_in w 8 := by
  simp only [m_within, Bool.and_eq_true, decide_eq_true_eq] at h
  obtain ⟨j, hj, rfl⟩ := nI_of h.1
  refine vp_in_nI ?_ (by omega)
  have h2 : ¬ nI 7 < nI j := h.2
  rw [nI_ltI (by omega) hj] at h2
  omega
set_option maxRecDepth 100000 in
set_option maxHeartbeats 4000000 in
theorem kX4_run {l : Launch} {d : Nat} {h : ab_H} {w z : Int32} {g : ab_H} (hz : m_within w 7 = true → m_unended h w = some z) (hs : ∀ k, k < 4 → vp_in (h 7 k) 80) (hr : m_within w 7 = true → z = 0 → ∃ n, m_runs n (m_init h w) g) : ab_C l layM (d + 5) mX4_run [ab_R 0, ab_I w] h (ab_qi fun r h' => r = (if m_within w 7 = true then (if z = 0 then m_ans g else 0) else 0) ∧ h' = (if m_within w 7 = true then (if z = 0 then m_fin g else ab_up h 0 0 2) else ab_up h 0 0 1)) := by
  refine ab_enter (by decide) (Nat.le_of_ble_eq_true rfl) ?_
  refine ab_iload_n (pc := 0) dX4_run_0 rfl rfl ?_
  refine ab_bipush (pc := 1) (v := 7) dX4_run_1 (by decide) ?_
  refine ab_S2 (pc := 3) dX4_run_3 msX4_105 rfl (kX4_within) (ab_ki fun r3 h3 e3 => ?_)
  obtain ⟨rfl, rfl⟩ := And.intro e3.1.symm e3.2.symm
  refine ab_if_ne (pc := 6) 15 dX4_run_6 (by decide) (fun c6 => ?_) (fun c6 => ?_)
  · replace c6 := b2i_1.mp c6
    have hw : vp_in w 8 := m_within_8 c6
    refine ab_aload_n (pc := 15) dX4_run_15 rfl rfl ?_
    refine ab_iload_n (pc := 16) dX4_run_16 rfl rfl ?_
    refine ab_V1 (pc := 17) dX4_run_17 mvX4_203 rfl rfl (kX4_unended hw (hz c6)) (ab_ki fun r17 h17 e17 => ?_)
    obtain ⟨rfl, rfl⟩ := And.intro e17.1.symm e17.2.symm
    refine ab_if_eq (pc := 20) 29 dX4_run_20 (by decide) (fun c20 => ?_) (fun c20 => ?_)
    · refine ab_aload_n (pc := 29) dX4_run_29 rfl rfl ?_
      refine ab_iconst (pc := 30) (v := 0) dX4_run_30 (by decide) ?_
      refine ab_puti (pc := 31) dX4_run_31 fwX4_92 rfl rfl ?_
      refine ab_aload_n (pc := 34) dX4_run_34 rfl rfl ?_
      refine ab_iconst (pc := 35) (v := 0) dX4_run_35 (by decide) ?_
      refine ab_puti (pc := 36) dX4_run_36 fwX4_145 rfl rfl ?_
      refine ab_aload_n (pc := 39) dX4_run_39 rfl rfl ?_
      refine ab_iconst (pc := 40) (v := 0) dX4_run_40 (by decide) ?_
      refine ab_puti (pc := 41) dX4_run_41 fwX4_139 rfl rfl ?_
      refine ab_aload_n (pc := 44) dX4_run_44 rfl rfl ?_
      refine ab_iconst (pc := 45) (v := 0) dX4_run_45 (by decide) ?_
      refine ab_puti (pc := 46) dX4_run_46 fwX4_127 rfl rfl ?_
      refine ab_aload_n (pc := 49) dX4_run_49 rfl rfl ?_
      refine ab_iconst (pc := 50) (v := 0) dX4_run_50 (by decide) ?_
      refine ab_puti (pc := 51) dX4_run_51 fwX4_130 rfl rfl ?_
      refine ab_aload_n (pc := 54) dX4_run_54 rfl rfl ?_
      refine ab_iconst (pc := 55) (v := 1) dX4_run_55 (by decide) ?_
      refine ab_puti (pc := 56) dX4_run_56 fwX4_200 rfl rfl ?_
      refine ab_aload_n (pc := 59) dX4_run_59 rfl rfl ?_
      refine ab_iconst (pc := 60) (v := 0) dX4_run_60 (by decide) ?_
      refine ab_puti (pc := 61) dX4_run_61 fwX4_171 rfl rfl ?_
      refine ab_aload_n (pc := 64) dX4_run_64 rfl rfl ?_
      refine ab_iconst (pc := 65) (v := 0) dX4_run_65 (by decide) ?_
      refine ab_puti (pc := 66) dX4_run_66 fwX4_95 rfl rfl ?_
      refine ab_aload_n (pc := 69) dX4_run_69 rfl rfl ?_
      refine ab_iconst (pc := 70) (v := 0) dX4_run_70 (by decide) ?_
      refine ab_puti (pc := 71) dX4_run_71 fwX4_197 rfl rfl ?_
      refine ab_aload_n (pc := 74) dX4_run_74 rfl rfl ?_
      refine ab_dup (pc := 75) dX4_run_75 rfl ?_
      refine ab_geti (pc := 76) dX4_run_76 fX4_227 rfl rfl ?_
      refine ab_iconst (pc := 79) (v := 1) dX4_run_79 (by decide) ?_
      refine ab_iadd (pc := 80) dX4_run_80 ?_
      refine ab_puti (pc := 81) dX4_run_81 fwX4_227 rfl rfl ?_
      refine ab_aload_n (pc := 84) dX4_run_84 rfl rfl ?_
      refine ab_V0 (pc := 85) dX4_run_85 mvX4_230 rfl rfl (kX4_settle hs) (ab_kv fun h85 e85 => ?_)
      obtain rfl := e85.symm
      refine ab_aload_n (pc := 88) dX4_run_88 rfl rfl ?_
      refine ab_iconst (pc := 89) (v := 0) dX4_run_89 (by decide) ?_
      refine ab_iconst (pc := 90) (v := 0) dX4_run_90 (by decide) ?_
      refine ab_bipush (pc := 91) (v := 60) dX4_run_91 (by decide) ?_
      refine ab_iload_n (pc := 93) dX4_run_93 rfl rfl ?_
      refine ab_imul (pc := 94) dX4_run_94 ?_
      refine ab_aload_n (pc := 95) dX4_run_95 rfl rfl ?_
      refine ab_getr (pc := 96) dX4_run_96 fX4_19 rfl rfl ?_
      refine ab_iload_n (pc := 99) dX4_run_99 rfl rfl ?_
      refine ab_iald (pc := 100) dX4_run_100 rfl hw ?_
      refine ab_iadd (pc := 101) dX4_run_101 ?_
      refine ab_V3 (pc := 102) dX4_run_102 mvX4_180 rfl rfl (kX4_push (show vp_in (nI 0) 80 from vp_in_nI (by omega) (by omega))) (ab_kv fun h102 e102 => ?_)
      obtain rfl := e102.symm
      refine ab_aload_n (pc := 105) dX4_run_105 rfl rfl ?_
      refine ab_bipush (pc := 106) (v := 60) dX4_run_106 (by decide) ?_
      refine ab_iload_n (pc := 108) dX4_run_108 rfl rfl ?_
      refine ab_imul (pc := 109) dX4_run_109 ?_
      refine ab_puti (pc := 110) dX4_run_110 fwX4_174 rfl rfl ?_
      obtain ⟨n, hr⟩ := hr c6 c20
      refine ab_weak [(0, ab_R 0)] ⟨rfl, trivial⟩ ?_
      rw [if_pos c6, if_pos c20, if_pos c6, if_pos c20]
      exact lpX4_run n _ hr
    · refine ab_aload_n (pc := 23) dX4_run_23 rfl rfl ?_
      refine ab_iconst (pc := 24) (v := 2) dX4_run_24 (by decide) ?_
      refine ab_V1 (pc := 25) dX4_run_25 mvX4_113 rfl rfl (kX4_no) (ab_ki fun r25 h25 e25 => ?_)
      obtain ⟨rfl, rfl⟩ := And.intro e25.1.symm e25.2.symm
      exact ab_reti (pc := 28) dX4_run_28 rfl ⟨_, rfl, ⟨by rw [if_pos c6, if_neg c20], by rw [if_pos c6, if_neg c20]⟩⟩
  · replace c6 := b2i_0.mp c6
    refine ab_aload_n (pc := 9) dX4_run_9 rfl rfl ?_
    refine ab_iconst (pc := 10) (v := 1) dX4_run_10 (by decide) ?_
    refine ab_V1 (pc := 11) dX4_run_11 mvX4_113 rfl rfl (kX4_no) (ab_ki fun r11 h11 e11 => ?_)
    obtain ⟨rfl, rfl⟩ := And.intro e11.1.symm e11.2.symm
    exact ab_reti (pc := 14) dX4_run_14 rfl ⟨_, rfl, ⟨by rw [if_neg (ne_true_of_eq_false c6)], by rw [if_neg (ne_true_of_eq_false c6)]⟩⟩
end
section
/-! the reference's nodes, and what it tells -/
def m_right (s a b : Int32) : Bool :=
  if s = 0 ∨ s = 1 ∨ s = 2 ∨ s = 6 ∨ s = 19 ∨ s = 21 then m_within a 7
  else if s = 3 ∨ s = 4 ∨ s = 5 then m_within a 7 && m_within b 7
  else if s = 7 then m_within a 3 && m_within b 2
  else if s = 8 then m_within a 3
  else if s = 9 ∨ s = 13 ∨ s = 17 ∨ s = 18 then m_within b 9
  else if s = 10 then m_within b 1023
  else if s = 20 then m_within a 7 && m_within b 7
  else m_within s 23
def m_in (h : ab_H) : Int32 := if h 0 39 = 0 then -1 else h 18 (h 0 39 - 1).toNatClampNeg
def m_pt (h : ab_H) : Int32 := if h 0 39 = 0 then 0 else h 21 (h 0 39 - 1).toNatClampNeg
def m_stands (h : ab_H) (s b : Int32) : Bool :=
  if s = 11 then decide (m_in h = 10) && decide (m_pt h = 0)
  else if s = 12 then decide (m_in h = 10) && decide (¬ 2 ≤ m_pt h)
  else if s = 22 then decide (m_in h = 21) && decide (m_pt h = 0)
  else if s = 16 then decide (¬ h 0 39 ≤ 0)
  else if s = 17 ∨ s = 18 then decide (¬ h 0 42 ≤ b)
  else !m_opens s || decide (¬ 10 ≤ h 0 39)
theorem i10 : ¬ (1 : Int32) = 0 := by decide
theorem and_nn {a b : Prop} (h : a) : ¬ (¬ a ∧ b) := fun q => q.1 h
theorem and_nr {a b : Prop} (h : ¬ b) : ¬ (a ∧ b) := fun q => h q.2
theorem b2i_nar (b : Bool) : narrow .boolean (.int (b2i b)) = .int (b2i b) := by cases b <;> rfl
theorem b2i_and {a b : Bool} : b2i (a && b) = if a = true then b2i b else 0 := by cases a <;> rfl
set_option maxRecDepth 100000 in
set_option maxHeartbeats 4000000 in
theorem kX4_right {l : Launch} {d : Nat} {h : ab_H} {s a b : Int32}  : ab_C l layM (d + 1) mX4_right [ab_I s, ab_I a, ab_I b] h (ab_qi fun r h' => r = b2i (m_right s a b) ∧ h' = h) := by
  refine ab_enter (by decide) (Nat.le_of_ble_eq_true rfl) ?_
  refine ab_iload_n (pc := 0) dX4_right_0 rfl rfl ?_
  refine ab_table (pc := 1) dX4_right_1 (by decide) (by decide) (by decide) (by decide) ?_
  refine ab_tw_c 0 104 (by decide) (by decide) (fun s1 => ?_) (fun n1_0 => ?_)
  · refine ab_iload_n (pc := 104) dX4_right_104 rfl rfl ?_
    refine ab_bipush (pc := 105) (v := 7) dX4_right_105 (by decide) ?_
    refine ab_S2 (pc := 107) dX4_right_107 msX4_105 rfl (kX4_within) (ab_ki fun r107 h107 e107 => ?_)
    obtain ⟨rfl, rfl⟩ := And.intro e107.1.symm e107.2.symm
    exact ab_retz (pc := 110) dX4_right_110 rfl (b2i_nar _) ⟨_, rfl, ⟨by simp [m_right, s1], rfl⟩⟩
  refine ab_tw_c 1 104 (by decide) (by decide) (fun s1 => ?_) (fun n1_1 => ?_)
  · refine ab_iload_n (pc := 104) dX4_right_104 rfl rfl ?_
    refine ab_bipush (pc := 105) (v := 7) dX4_right_105 (by decide) ?_
    refine ab_S2 (pc := 107) dX4_right_107 msX4_105 rfl (kX4_within) (ab_ki fun r107 h107 e107 => ?_)
    obtain ⟨rfl, rfl⟩ := And.intro e107.1.symm e107.2.symm
    exact ab_retz (pc := 110) dX4_right_110 rfl (b2i_nar _) ⟨_, rfl, ⟨by simp [m_right, s1], rfl⟩⟩
  refine ab_tw_c 2 104 (by decide) (by decide) (fun s1 => ?_) (fun n1_2 => ?_)
  · refine ab_iload_n (pc := 104) dX4_right_104 rfl rfl ?_
    refine ab_bipush (pc := 105) (v := 7) dX4_right_105 (by decide) ?_
    refine ab_S2 (pc := 107) dX4_right_107 msX4_105 rfl (kX4_within) (ab_ki fun r107 h107 e107 => ?_)
    obtain ⟨rfl, rfl⟩ := And.intro e107.1.symm e107.2.symm
    exact ab_retz (pc := 110) dX4_right_110 rfl (b2i_nar _) ⟨_, rfl, ⟨by simp [m_right, s1], rfl⟩⟩
  refine ab_tw_c 3 111 (by decide) (by decide) (fun s1 => ?_) (fun n1_3 => ?_)
  · refine ab_iload_n (pc := 111) dX4_right_111 rfl rfl ?_
    refine ab_bipush (pc := 112) (v := 7) dX4_right_112 (by decide) ?_
    refine ab_S2 (pc := 114) dX4_right_114 msX4_105 rfl (kX4_within) (ab_ki fun r114 h114 e114 => ?_)
    obtain ⟨rfl, rfl⟩ := And.intro e114.1.symm e114.2.symm
    refine ab_if_eq (pc := 117) 133 dX4_right_117 (by decide) (fun c117 => ?_) (fun c117 => ?_)
    · replace c117 := b2i_0.mp c117
      refine ab_iconst (pc := 133) (v := 0) dX4_right_133 (by decide) ?_
      exact ab_retz (pc := 134) dX4_right_134 rfl rfl ⟨_, rfl, ⟨by simp [m_right, s1, b2i, *], rfl⟩⟩
    · replace c117 := b2i_1.mp c117
      refine ab_iload_n (pc := 120) dX4_right_120 rfl rfl ?_
      refine ab_bipush (pc := 121) (v := 7) dX4_right_121 (by decide) ?_
      refine ab_S2 (pc := 123) dX4_right_123 msX4_105 rfl (kX4_within) (ab_ki fun r123 h123 e123 => ?_)
      obtain ⟨rfl, rfl⟩ := And.intro e123.1.symm e123.2.symm
      refine ab_if_eq (pc := 126) 133 dX4_right_126 (by decide) (fun c126 => ?_) (fun c126 => ?_)
      · replace c126 := b2i_0.mp c126
        refine ab_iconst (pc := 133) (v := 0) dX4_right_133 (by decide) ?_
        exact ab_retz (pc := 134) dX4_right_134 rfl rfl ⟨_, rfl, ⟨by simp [m_right, s1, b2i, *], rfl⟩⟩
      · replace c126 := b2i_1.mp c126
        refine ab_iconst (pc := 129) (v := 1) dX4_right_129 (by decide) ?_
        refine ab_goto (pc := 130) 134 dX4_right_130 (by decide) ?_
        exact ab_retz (pc := 134) dX4_right_134 rfl rfl ⟨_, rfl, ⟨by simp [m_right, s1, b2i, *], rfl⟩⟩
  refine ab_tw_c 4 111 (by decide) (by decide) (fun s1 => ?_) (fun n1_4 => ?_)
  · refine ab_iload_n (pc := 111) dX4_right_111 rfl rfl ?_
    refine ab_bipush (pc := 112) (v := 7) dX4_right_112 (by decide) ?_
    refine ab_S2 (pc := 114) dX4_right_114 msX4_105 rfl (kX4_within) (ab_ki fun r114 h114 e114 => ?_)
    obtain ⟨rfl, rfl⟩ := And.intro e114.1.symm e114.2.symm
    refine ab_if_eq (pc := 117) 133 dX4_right_117 (by decide) (fun c117 => ?_) (fun c117 => ?_)
    · replace c117 := b2i_0.mp c117
      refine ab_iconst (pc := 133) (v := 0) dX4_right_133 (by decide) ?_
      exact ab_retz (pc := 134) dX4_right_134 rfl rfl ⟨_, rfl, ⟨by simp [m_right, s1, b2i, *], rfl⟩⟩
    · replace c117 := b2i_1.mp c117
      refine ab_iload_n (pc := 120) dX4_right_120 rfl rfl ?_
      refine ab_bipush (pc := 121) (v := 7) dX4_right_121 (by decide) ?_
      refine ab_S2 (pc := 123) dX4_right_123 msX4_105 rfl (kX4_within) (ab_ki fun r123 h123 e123 => ?_)
      obtain ⟨rfl, rfl⟩ := And.intro e123.1.symm e123.2.symm
      refine ab_if_eq (pc := 126) 133 dX4_right_126 (by decide) (fun c126 => ?_) (fun c126 => ?_)
      · replace c126 := b2i_0.mp c126
        refine ab_iconst (pc := 133) (v := 0) dX4_right_133 (by decide) ?_
        exact ab_retz (pc := 134) dX4_right_134 rfl rfl ⟨_, rfl, ⟨by simp [m_right, s1, b2i, *], rfl⟩⟩
      · replace c126 := b2i_1.mp c126
        refine ab_iconst (pc := 129) (v := 1) dX4_right_129 (by decide) ?_
        refine ab_goto (pc := 130) 134 dX4_right_130 (by decide) ?_
        exact ab_retz (pc := 134) dX4_right_134 rfl rfl ⟨_, rfl, ⟨by simp [m_right, s1, b2i, *], rfl⟩⟩
  refine ab_tw_c 5 111 (by decide) (by decide) (fun s1 => ?_) (fun n1_5 => ?_)
  · refine ab_iload_n (pc := 111) dX4_right_111 rfl rfl ?_
    refine ab_bipush (pc := 112) (v := 7) dX4_right_112 (by decide) ?_
    refine ab_S2 (pc := 114) dX4_right_114 msX4_105 rfl (kX4_within) (ab_ki fun r114 h114 e114 => ?_)
    obtain ⟨rfl, rfl⟩ := And.intro e114.1.symm e114.2.symm
    refine ab_if_eq (pc := 117) 133 dX4_right_117 (by decide) (fun c117 => ?_) (fun c117 => ?_)
    · replace c117 := b2i_0.mp c117
      refine ab_iconst (pc := 133) (v := 0) dX4_right_133 (by decide) ?_
      exact ab_retz (pc := 134) dX4_right_134 rfl rfl ⟨_, rfl, ⟨by simp [m_right, s1, b2i, *], rfl⟩⟩
    · replace c117 := b2i_1.mp c117
      refine ab_iload_n (pc := 120) dX4_right_120 rfl rfl ?_
      refine ab_bipush (pc := 121) (v := 7) dX4_right_121 (by decide) ?_
      refine ab_S2 (pc := 123) dX4_right_123 msX4_105 rfl (kX4_within) (ab_ki fun r123 h123 e123 => ?_)
      obtain ⟨rfl, rfl⟩ := And.intro e123.1.symm e123.2.symm
      refine ab_if_eq (pc := 126) 133 dX4_right_126 (by decide) (fun c126 => ?_) (fun c126 => ?_)
      · replace c126 := b2i_0.mp c126
        refine ab_iconst (pc := 133) (v := 0) dX4_right_133 (by decide) ?_
        exact ab_retz (pc := 134) dX4_right_134 rfl rfl ⟨_, rfl, ⟨by simp [m_right, s1, b2i, *], rfl⟩⟩
      · replace c126 := b2i_1.mp c126
        refine ab_iconst (pc := 129) (v := 1) dX4_right_129 (by decide) ?_
        refine ab_goto (pc := 130) 134 dX4_right_130 (by decide) ?_
        exact ab_retz (pc := 134) dX4_right_134 rfl rfl ⟨_, rfl, ⟨by simp [m_right, s1, b2i, *], rfl⟩⟩
  refine ab_tw_c 6 104 (by decide) (by decide) (fun s1 => ?_) (fun n1_6 => ?_)
  · refine ab_iload_n (pc := 104) dX4_right_104 rfl rfl ?_
    refine ab_bipush (pc := 105) (v := 7) dX4_right_105 (by decide) ?_
    refine ab_S2 (pc := 107) dX4_right_107 msX4_105 rfl (kX4_within) (ab_ki fun r107 h107 e107 => ?_)
    obtain ⟨rfl, rfl⟩ := And.intro e107.1.symm e107.2.symm
    exact ab_retz (pc := 110) dX4_right_110 rfl (b2i_nar _) ⟨_, rfl, ⟨by simp [m_right, s1], rfl⟩⟩
  refine ab_tw_c 7 135 (by decide) (by decide) (fun s1 => ?_) (fun n1_7 => ?_)
  · refine ab_iload_n (pc := 135) dX4_right_135 rfl rfl ?_
    refine ab_iconst (pc := 136) (v := 3) dX4_right_136 (by decide) ?_
    refine ab_S2 (pc := 137) dX4_right_137 msX4_105 rfl (kX4_within) (ab_ki fun r137 h137 e137 => ?_)
    obtain ⟨rfl, rfl⟩ := And.intro e137.1.symm e137.2.symm
    refine ab_if_eq (pc := 140) 155 dX4_right_140 (by decide) (fun c140 => ?_) (fun c140 => ?_)
    · replace c140 := b2i_0.mp c140
      refine ab_iconst (pc := 155) (v := 0) dX4_right_155 (by decide) ?_
      exact ab_retz (pc := 156) dX4_right_156 rfl rfl ⟨_, rfl, ⟨by simp [m_right, s1, b2i, *], rfl⟩⟩
    · replace c140 := b2i_1.mp c140
      refine ab_iload_n (pc := 143) dX4_right_143 rfl rfl ?_
      refine ab_iconst (pc := 144) (v := 2) dX4_right_144 (by decide) ?_
      refine ab_S2 (pc := 145) dX4_right_145 msX4_105 rfl (kX4_within) (ab_ki fun r145 h145 e145 => ?_)
      obtain ⟨rfl, rfl⟩ := And.intro e145.1.symm e145.2.symm
      refine ab_if_eq (pc := 148) 155 dX4_right_148 (by decide) (fun c148 => ?_) (fun c148 => ?_)
      · replace c148 := b2i_0.mp c148
        refine ab_iconst (pc := 155) (v := 0) dX4_right_155 (by decide) ?_
        exact ab_retz (pc := 156) dX4_right_156 rfl rfl ⟨_, rfl, ⟨by simp [m_right, s1, b2i, *], rfl⟩⟩
      · replace c148 := b2i_1.mp c148
        refine ab_iconst (pc := 151) (v := 1) dX4_right_151 (by decide) ?_
        refine ab_goto (pc := 152) 156 dX4_right_152 (by decide) ?_
        exact ab_retz (pc := 156) dX4_right_156 rfl rfl ⟨_, rfl, ⟨by simp [m_right, s1, b2i, *], rfl⟩⟩
  refine ab_tw_c 8 157 (by decide) (by decide) (fun s1 => ?_) (fun n1_8 => ?_)
  · refine ab_iload_n (pc := 157) dX4_right_157 rfl rfl ?_
    refine ab_iconst (pc := 158) (v := 3) dX4_right_158 (by decide) ?_
    refine ab_S2 (pc := 159) dX4_right_159 msX4_105 rfl (kX4_within) (ab_ki fun r159 h159 e159 => ?_)
    obtain ⟨rfl, rfl⟩ := And.intro e159.1.symm e159.2.symm
    exact ab_retz (pc := 162) dX4_right_162 rfl (b2i_nar _) ⟨_, rfl, ⟨by simp [m_right, s1], rfl⟩⟩
  refine ab_tw_c 9 163 (by decide) (by decide) (fun s1 => ?_) (fun n1_9 => ?_)
  · refine ab_iload_n (pc := 163) dX4_right_163 rfl rfl ?_
    refine ab_bipush (pc := 164) (v := 9) dX4_right_164 (by decide) ?_
    refine ab_S2 (pc := 166) dX4_right_166 msX4_105 rfl (kX4_within) (ab_ki fun r166 h166 e166 => ?_)
    obtain ⟨rfl, rfl⟩ := And.intro e166.1.symm e166.2.symm
    exact ab_retz (pc := 169) dX4_right_169 rfl (b2i_nar _) ⟨_, rfl, ⟨by simp [m_right, s1], rfl⟩⟩
  refine ab_tw_c 10 170 (by decide) (by decide) (fun s1 => ?_) (fun n1_10 => ?_)
  · refine ab_iload_n (pc := 170) dX4_right_170 rfl rfl ?_
    refine ab_sipush (pc := 171) (v := 1023) dX4_right_171 (by decide) ?_
    refine ab_S2 (pc := 174) dX4_right_174 msX4_105 rfl (kX4_within) (ab_ki fun r174 h174 e174 => ?_)
    obtain ⟨rfl, rfl⟩ := And.intro e174.1.symm e174.2.symm
    exact ab_retz (pc := 177) dX4_right_177 rfl (b2i_nar _) ⟨_, rfl, ⟨by simp [m_right, s1], rfl⟩⟩
  refine ab_tw_c 11 202 (by decide) (by decide) (fun s1 => ?_) (fun n1_11 => ?_)
  · refine ab_iload_n (pc := 202) dX4_right_202 rfl rfl ?_
    refine ab_bipush (pc := 203) (v := 23) dX4_right_203 (by decide) ?_
    refine ab_S2 (pc := 205) dX4_right_205 msX4_105 rfl (kX4_within) (ab_ki fun r205 h205 e205 => ?_)
    obtain ⟨rfl, rfl⟩ := And.intro e205.1.symm e205.2.symm
    exact ab_retz (pc := 208) dX4_right_208 rfl (b2i_nar _) ⟨_, rfl, ⟨by first | (simp [m_right, s1]; done) | (simp [m_right, n1_0, n1_1, n1_2, n1_3, n1_4, n1_5, n1_6, n1_7, n1_8, n1_9, n1_10, n1_13, n1_17, n1_18, n1_19, n1_20, n1_21]; done), rfl⟩⟩
  refine ab_tw_c 12 202 (by decide) (by decide) (fun s1 => ?_) (fun n1_12 => ?_)
  · refine ab_iload_n (pc := 202) dX4_right_202 rfl rfl ?_
    refine ab_bipush (pc := 203) (v := 23) dX4_right_203 (by decide) ?_
    refine ab_S2 (pc := 205) dX4_right_205 msX4_105 rfl (kX4_within) (ab_ki fun r205 h205 e205 => ?_)
    obtain ⟨rfl, rfl⟩ := And.intro e205.1.symm e205.2.symm
    exact ab_retz (pc := 208) dX4_right_208 rfl (b2i_nar _) ⟨_, rfl, ⟨by first | (simp [m_right, s1]; done) | (simp [m_right, n1_0, n1_1, n1_2, n1_3, n1_4, n1_5, n1_6, n1_7, n1_8, n1_9, n1_10, n1_13, n1_17, n1_18, n1_19, n1_20, n1_21]; done), rfl⟩⟩
  refine ab_tw_c 13 163 (by decide) (by decide) (fun s1 => ?_) (fun n1_13 => ?_)
  · refine ab_iload_n (pc := 163) dX4_right_163 rfl rfl ?_
    refine ab_bipush (pc := 164) (v := 9) dX4_right_164 (by decide) ?_
    refine ab_S2 (pc := 166) dX4_right_166 msX4_105 rfl (kX4_within) (ab_ki fun r166 h166 e166 => ?_)
    obtain ⟨rfl, rfl⟩ := And.intro e166.1.symm e166.2.symm
    exact ab_retz (pc := 169) dX4_right_169 rfl (b2i_nar _) ⟨_, rfl, ⟨by simp [m_right, s1], rfl⟩⟩
  refine ab_tw_c 14 202 (by decide) (by decide) (fun s1 => ?_) (fun n1_14 => ?_)
  · refine ab_iload_n (pc := 202) dX4_right_202 rfl rfl ?_
    refine ab_bipush (pc := 203) (v := 23) dX4_right_203 (by decide) ?_
    refine ab_S2 (pc := 205) dX4_right_205 msX4_105 rfl (kX4_within) (ab_ki fun r205 h205 e205 => ?_)
    obtain ⟨rfl, rfl⟩ := And.intro e205.1.symm e205.2.symm
    exact ab_retz (pc := 208) dX4_right_208 rfl (b2i_nar _) ⟨_, rfl, ⟨by first | (simp [m_right, s1]; done) | (simp [m_right, n1_0, n1_1, n1_2, n1_3, n1_4, n1_5, n1_6, n1_7, n1_8, n1_9, n1_10, n1_13, n1_17, n1_18, n1_19, n1_20, n1_21]; done), rfl⟩⟩
  refine ab_tw_c 15 202 (by decide) (by decide) (fun s1 => ?_) (fun n1_15 => ?_)
  · refine ab_iload_n (pc := 202) dX4_right_202 rfl rfl ?_
    refine ab_bipush (pc := 203) (v := 23) dX4_right_203 (by decide) ?_
    refine ab_S2 (pc := 205) dX4_right_205 msX4_105 rfl (kX4_within) (ab_ki fun r205 h205 e205 => ?_)
    obtain ⟨rfl, rfl⟩ := And.intro e205.1.symm e205.2.symm
    exact ab_retz (pc := 208) dX4_right_208 rfl (b2i_nar _) ⟨_, rfl, ⟨by first | (simp [m_right, s1]; done) | (simp [m_right, n1_0, n1_1, n1_2, n1_3, n1_4, n1_5, n1_6, n1_7, n1_8, n1_9, n1_10, n1_13, n1_17, n1_18, n1_19, n1_20, n1_21]; done), rfl⟩⟩
  refine ab_tw_c 16 202 (by decide) (by decide) (fun s1 => ?_) (fun n1_16 => ?_)
  · refine ab_iload_n (pc := 202) dX4_right_202 rfl rfl ?_
    refine ab_bipush (pc := 203) (v := 23) dX4_right_203 (by decide) ?_
    refine ab_S2 (pc := 205) dX4_right_205 msX4_105 rfl (kX4_within) (ab_ki fun r205 h205 e205 => ?_)
    obtain ⟨rfl, rfl⟩ := And.intro e205.1.symm e205.2.symm
    exact ab_retz (pc := 208) dX4_right_208 rfl (b2i_nar _) ⟨_, rfl, ⟨by first | (simp [m_right, s1]; done) | (simp [m_right, n1_0, n1_1, n1_2, n1_3, n1_4, n1_5, n1_6, n1_7, n1_8, n1_9, n1_10, n1_13, n1_17, n1_18, n1_19, n1_20, n1_21]; done), rfl⟩⟩
  refine ab_tw_c 17 163 (by decide) (by decide) (fun s1 => ?_) (fun n1_17 => ?_)
  · refine ab_iload_n (pc := 163) dX4_right_163 rfl rfl ?_
    refine ab_bipush (pc := 164) (v := 9) dX4_right_164 (by decide) ?_
    refine ab_S2 (pc := 166) dX4_right_166 msX4_105 rfl (kX4_within) (ab_ki fun r166 h166 e166 => ?_)
    obtain ⟨rfl, rfl⟩ := And.intro e166.1.symm e166.2.symm
    exact ab_retz (pc := 169) dX4_right_169 rfl (b2i_nar _) ⟨_, rfl, ⟨by simp [m_right, s1], rfl⟩⟩
  refine ab_tw_c 18 163 (by decide) (by decide) (fun s1 => ?_) (fun n1_18 => ?_)
  · refine ab_iload_n (pc := 163) dX4_right_163 rfl rfl ?_
    refine ab_bipush (pc := 164) (v := 9) dX4_right_164 (by decide) ?_
    refine ab_S2 (pc := 166) dX4_right_166 msX4_105 rfl (kX4_within) (ab_ki fun r166 h166 e166 => ?_)
    obtain ⟨rfl, rfl⟩ := And.intro e166.1.symm e166.2.symm
    exact ab_retz (pc := 169) dX4_right_169 rfl (b2i_nar _) ⟨_, rfl, ⟨by simp [m_right, s1], rfl⟩⟩
  refine ab_tw_c 19 104 (by decide) (by decide) (fun s1 => ?_) (fun n1_19 => ?_)
  · refine ab_iload_n (pc := 104) dX4_right_104 rfl rfl ?_
    refine ab_bipush (pc := 105) (v := 7) dX4_right_105 (by decide) ?_
    refine ab_S2 (pc := 107) dX4_right_107 msX4_105 rfl (kX4_within) (ab_ki fun r107 h107 e107 => ?_)
    obtain ⟨rfl, rfl⟩ := And.intro e107.1.symm e107.2.symm
    exact ab_retz (pc := 110) dX4_right_110 rfl (b2i_nar _) ⟨_, rfl, ⟨by simp [m_right, s1], rfl⟩⟩
  refine ab_tw_c 20 178 (by decide) (by decide) (fun s1 => ?_) (fun n1_20 => ?_)
  · refine ab_iload_n (pc := 178) dX4_right_178 rfl rfl ?_
    refine ab_bipush (pc := 179) (v := 7) dX4_right_179 (by decide) ?_
    refine ab_S2 (pc := 181) dX4_right_181 msX4_105 rfl (kX4_within) (ab_ki fun r181 h181 e181 => ?_)
    obtain ⟨rfl, rfl⟩ := And.intro e181.1.symm e181.2.symm
    refine ab_if_eq (pc := 184) 200 dX4_right_184 (by decide) (fun c184 => ?_) (fun c184 => ?_)
    · replace c184 := b2i_0.mp c184
      refine ab_iconst (pc := 200) (v := 0) dX4_right_200 (by decide) ?_
      exact ab_retz (pc := 201) dX4_right_201 rfl rfl ⟨_, rfl, ⟨by simp [m_right, s1, b2i, *], rfl⟩⟩
    · replace c184 := b2i_1.mp c184
      refine ab_iload_n (pc := 187) dX4_right_187 rfl rfl ?_
      refine ab_bipush (pc := 188) (v := 7) dX4_right_188 (by decide) ?_
      refine ab_S2 (pc := 190) dX4_right_190 msX4_105 rfl (kX4_within) (ab_ki fun r190 h190 e190 => ?_)
      obtain ⟨rfl, rfl⟩ := And.intro e190.1.symm e190.2.symm
      refine ab_if_eq (pc := 193) 200 dX4_right_193 (by decide) (fun c193 => ?_) (fun c193 => ?_)
      · replace c193 := b2i_0.mp c193
        refine ab_iconst (pc := 200) (v := 0) dX4_right_200 (by decide) ?_
        exact ab_retz (pc := 201) dX4_right_201 rfl rfl ⟨_, rfl, ⟨by simp [m_right, s1, b2i, *], rfl⟩⟩
      · replace c193 := b2i_1.mp c193
        refine ab_iconst (pc := 196) (v := 1) dX4_right_196 (by decide) ?_
        refine ab_goto (pc := 197) 201 dX4_right_197 (by decide) ?_
        exact ab_retz (pc := 201) dX4_right_201 rfl rfl ⟨_, rfl, ⟨by simp [m_right, s1, b2i, *], rfl⟩⟩
  refine ab_tw_c 21 104 (by decide) (by decide) (fun s1 => ?_) (fun n1_21 => ?_)
  · refine ab_iload_n (pc := 104) dX4_right_104 rfl rfl ?_
    refine ab_bipush (pc := 105) (v := 7) dX4_right_105 (by decide) ?_
    refine ab_S2 (pc := 107) dX4_right_107 msX4_105 rfl (kX4_within) (ab_ki fun r107 h107 e107 => ?_)
    obtain ⟨rfl, rfl⟩ := And.intro e107.1.symm e107.2.symm
    exact ab_retz (pc := 110) dX4_right_110 rfl (b2i_nar _) ⟨_, rfl, ⟨by simp [m_right, s1], rfl⟩⟩
  refine ab_tw_n 202 (by decide) ?_
  refine ab_iload_n (pc := 202) dX4_right_202 rfl rfl ?_
  refine ab_bipush (pc := 203) (v := 23) dX4_right_203 (by decide) ?_
  refine ab_S2 (pc := 205) dX4_right_205 msX4_105 rfl (kX4_within) (ab_ki fun r205 h205 e205 => ?_)
  obtain ⟨rfl, rfl⟩ := And.intro e205.1.symm e205.2.symm
  exact ab_retz (pc := 208) dX4_right_208 rfl (b2i_nar _) ⟨_, rfl, ⟨by first | (simp [m_right, s1]; done) | (simp [m_right, n1_0, n1_1, n1_2, n1_3, n1_4, n1_5, n1_6, n1_7, n1_8, n1_9, n1_10, n1_13, n1_17, n1_18, n1_19, n1_20, n1_21]; done), rfl⟩⟩

set_option maxRecDepth 100000 in
set_option maxHeartbeats 4000000 in
theorem kX4_given {l : Launch} {d : Nat} {h : ab_H}  : ab_C l layM (d) mX4_given [ab_R 0] h (ab_qi fun r h' => r = h 0 20 ∧ h' = ab_up h 0 0 0) := by
  refine ab_enter (by decide) (Nat.le_of_ble_eq_true rfl) ?_
  refine ab_aload_n (pc := 0) dX4_given_0 rfl rfl ?_
  refine ab_iconst (pc := 1) (v := 0) dX4_given_1 (by decide) ?_
  refine ab_puti (pc := 2) dX4_given_2 fwX4_92 rfl rfl ?_
  refine ab_aload_n (pc := 5) dX4_given_5 rfl rfl ?_
  refine ab_geti (pc := 6) dX4_given_6 fX4_242 rfl rfl ?_
  exact ab_reti (pc := 9) dX4_given_9 rfl ⟨_, rfl, ⟨rfl, rfl⟩⟩

set_option maxRecDepth 100000 in
set_option maxHeartbeats 4000000 in
theorem kX4_number {l : Launch} {d : Nat} {h : ab_H} {i : Int32}  : ab_C l layM (d + 1) mX4_number [ab_R 0, ab_I i] h (ab_qi fun r h' => r = (if m_within i 7 = true then h 5 i.toNatClampNeg else 0) ∧ h' = (if m_within i 7 = true then ab_up h 0 0 0 else ab_up h 0 0 1)) := by
  refine ab_enter (by decide) (Nat.le_of_ble_eq_true rfl) ?_
  refine ab_iload_n (pc := 0) dX4_number_0 rfl rfl ?_
  refine ab_bipush (pc := 1) (v := 7) dX4_number_1 (by decide) ?_
  refine ab_S2 (pc := 3) dX4_number_3 msX4_105 rfl (kX4_within) (ab_ki fun r3 h3 e3 => ?_)
  obtain ⟨rfl, rfl⟩ := And.intro e3.1.symm e3.2.symm
  refine ab_if_ne (pc := 6) 15 dX4_number_6 (by decide) (fun c6 => ?_) (fun c6 => ?_)
  · replace c6 := b2i_1.mp c6
    refine ab_aload_n (pc := 15) dX4_number_15 rfl rfl ?_
    refine ab_iconst (pc := 16) (v := 0) dX4_number_16 (by decide) ?_
    refine ab_puti (pc := 17) dX4_number_17 fwX4_92 rfl rfl ?_
    refine ab_aload_n (pc := 20) dX4_number_20 rfl rfl ?_
    refine ab_getr (pc := 21) dX4_number_21 fX4_22 rfl rfl ?_
    refine ab_iload_n (pc := 24) dX4_number_24 rfl rfl ?_
    refine ab_iald (pc := 25) dX4_number_25 rfl (m_within_8 c6) ?_
    refine ab_topi (by (try simp only [ab_rd, ab_rdA, Nat.reduceEqDiff, reduceIte]); exact rfl) ?_
    exact ab_reti (pc := 26) dX4_number_26 rfl ⟨_, rfl, ⟨by rw [if_pos c6], by rw [if_pos c6]⟩⟩
  · replace c6 := b2i_0.mp c6
    refine ab_aload_n (pc := 9) dX4_number_9 rfl rfl ?_
    refine ab_iconst (pc := 10) (v := 1) dX4_number_10 (by decide) ?_
    refine ab_V1 (pc := 11) dX4_number_11 mvX4_113 rfl rfl (kX4_no) (ab_ki fun r11 h11 e11 => ?_)
    obtain ⟨rfl, rfl⟩ := And.intro e11.1.symm e11.2.symm
    exact ab_reti (pc := 14) dX4_number_14 rfl ⟨_, rfl, ⟨by rw [if_neg (ne_true_of_eq_false c6)], by rw [if_neg (ne_true_of_eq_false c6)]⟩⟩

set_option maxRecDepth 100000 in
set_option maxHeartbeats 4000000 in
theorem kX4_row {l : Launch} {d : Nat} {h : ab_H} {i : Int32} (hp : ¬ i < 0 → i < h 0 7 → vp_in i 16) : ab_C l layM (d + 1) mX4_row [ab_R 0, ab_I i] h (ab_qi fun r h' => r = (if ¬ i < 0 ∧ i < h 0 7 then h 6 i.toNatClampNeg else 0) ∧ h' = (if ¬ i < 0 ∧ i < h 0 7 then ab_up h 0 0 0 else ab_up h 0 0 1)) := by
  refine ab_enter (by decide) (Nat.le_of_ble_eq_true rfl) ?_
  refine ab_iload_n (pc := 0) dX4_row_0 rfl rfl ?_
  refine ab_if_lt (pc := 1) 12 dX4_row_1 (by decide) (fun c1 => ?_) (fun c1 => ?_)
  · refine ab_aload_n (pc := 12) dX4_row_12 rfl rfl ?_
    refine ab_iconst (pc := 13) (v := 1) dX4_row_13 (by decide) ?_
    refine ab_V1 (pc := 14) dX4_row_14 mvX4_113 rfl rfl (kX4_no) (ab_ki fun r14 h14 e14 => ?_)
    obtain ⟨rfl, rfl⟩ := And.intro e14.1.symm e14.2.symm
    exact ab_reti (pc := 17) dX4_row_17 rfl ⟨_, rfl, (by constructor <;> first | rw [if_pos (And.intro c1 c9)] | rw [if_neg (and_nn c1)] | rw [if_neg (and_nr c9)])⟩
  · refine ab_iload_n (pc := 4) dX4_row_4 rfl rfl ?_
    refine ab_aload_n (pc := 5) dX4_row_5 rfl rfl ?_
    refine ab_geti (pc := 6) dX4_row_6 fX4_28 rfl rfl ?_
    refine ab_icmp_lt (pc := 9) 18 dX4_row_9 (by decide) (fun c9 => ?_) (fun c9 => ?_)
    · refine ab_aload_n (pc := 18) dX4_row_18 rfl rfl ?_
      refine ab_iconst (pc := 19) (v := 0) dX4_row_19 (by decide) ?_
      refine ab_puti (pc := 20) dX4_row_20 fwX4_92 rfl rfl ?_
      refine ab_aload_n (pc := 23) dX4_row_23 rfl rfl ?_
      refine ab_getr (pc := 24) dX4_row_24 fX4_25 rfl rfl ?_
      refine ab_iload_n (pc := 27) dX4_row_27 rfl rfl ?_
      refine ab_iald (pc := 28) dX4_row_28 rfl (hp c1 c9) ?_
      refine ab_topi (by (try simp only [ab_rd, ab_rdA, Nat.reduceEqDiff, reduceIte]); exact rfl) ?_
      exact ab_reti (pc := 29) dX4_row_29 rfl ⟨_, rfl, (by constructor <;> first | rw [if_pos (And.intro c1 c9)] | rw [if_neg (and_nn c1)] | rw [if_neg (and_nr c9)])⟩
    · refine ab_aload_n (pc := 12) dX4_row_12 rfl rfl ?_
      refine ab_iconst (pc := 13) (v := 1) dX4_row_13 (by decide) ?_
      refine ab_V1 (pc := 14) dX4_row_14 mvX4_113 rfl rfl (kX4_no) (ab_ki fun r14 h14 e14 => ?_)
      obtain ⟨rfl, rfl⟩ := And.intro e14.1.symm e14.2.symm
      exact ab_reti (pc := 17) dX4_row_17 rfl ⟨_, rfl, (by constructor <;> first | rw [if_pos (And.intro c1 c9)] | rw [if_neg (and_nn c1)] | rw [if_neg (and_nr c9)])⟩

set_option maxRecDepth 100000 in
set_option maxHeartbeats 4000000 in
theorem kX4_log {l : Launch} {d : Nat} {h : ab_H} {i : Int32} (hp : ¬ i < 0 → i < h 0 15 → vp_in i 100) : ab_C l layM (d + 1) mX4_log [ab_R 0, ab_I i] h (ab_qi fun r h' => r = (if ¬ i < 0 ∧ i < h 0 15 then h 12 i.toNatClampNeg else 0) ∧ h' = (if ¬ i < 0 ∧ i < h 0 15 then ab_up h 0 0 0 else ab_up h 0 0 1)) := by
  refine ab_enter (by decide) (Nat.le_of_ble_eq_true rfl) ?_
  refine ab_iload_n (pc := 0) dX4_log_0 rfl rfl ?_
  refine ab_if_lt (pc := 1) 12 dX4_log_1 (by decide) (fun c1 => ?_) (fun c1 => ?_)
  · refine ab_aload_n (pc := 12) dX4_log_12 rfl rfl ?_
    refine ab_iconst (pc := 13) (v := 1) dX4_log_13 (by decide) ?_
    refine ab_V1 (pc := 14) dX4_log_14 mvX4_113 rfl rfl (kX4_no) (ab_ki fun r14 h14 e14 => ?_)
    obtain ⟨rfl, rfl⟩ := And.intro e14.1.symm e14.2.symm
    exact ab_reti (pc := 17) dX4_log_17 rfl ⟨_, rfl, (by constructor <;> first | rw [if_pos (And.intro c1 c9)] | rw [if_neg (and_nn c1)] | rw [if_neg (and_nr c9)])⟩
  · refine ab_iload_n (pc := 4) dX4_log_4 rfl rfl ?_
    refine ab_aload_n (pc := 5) dX4_log_5 rfl rfl ?_
    refine ab_geti (pc := 6) dX4_log_6 fX4_145 rfl rfl ?_
    refine ab_icmp_lt (pc := 9) 18 dX4_log_9 (by decide) (fun c9 => ?_) (fun c9 => ?_)
    · refine ab_aload_n (pc := 18) dX4_log_18 rfl rfl ?_
      refine ab_iconst (pc := 19) (v := 0) dX4_log_19 (by decide) ?_
      refine ab_puti (pc := 20) dX4_log_20 fwX4_92 rfl rfl ?_
      refine ab_aload_n (pc := 23) dX4_log_23 rfl rfl ?_
      refine ab_getr (pc := 24) dX4_log_24 fX4_50 rfl rfl ?_
      refine ab_iload_n (pc := 27) dX4_log_27 rfl rfl ?_
      refine ab_iald (pc := 28) dX4_log_28 rfl (hp c1 c9) ?_
      refine ab_topi (by (try simp only [ab_rd, ab_rdA, Nat.reduceEqDiff, reduceIte]); exact rfl) ?_
      exact ab_reti (pc := 29) dX4_log_29 rfl ⟨_, rfl, (by constructor <;> first | rw [if_pos (And.intro c1 c9)] | rw [if_neg (and_nn c1)] | rw [if_neg (and_nr c9)])⟩
    · refine ab_aload_n (pc := 12) dX4_log_12 rfl rfl ?_
      refine ab_iconst (pc := 13) (v := 1) dX4_log_13 (by decide) ?_
      refine ab_V1 (pc := 14) dX4_log_14 mvX4_113 rfl rfl (kX4_no) (ab_ki fun r14 h14 e14 => ?_)
      obtain ⟨rfl, rfl⟩ := And.intro e14.1.symm e14.2.symm
      exact ab_reti (pc := 17) dX4_log_17 rfl ⟨_, rfl, (by constructor <;> first | rw [if_pos (And.intro c1 c9)] | rw [if_neg (and_nn c1)] | rw [if_neg (and_nr c9)])⟩

set_option maxRecDepth 100000 in
set_option maxHeartbeats 4000000 in
theorem kX4_clear {l : Launch} {d : Nat} {h : ab_H} {w : Int32}  : ab_C l layM (d + 1) mX4_clear [ab_R 0, ab_I w] h (ab_qv fun h' => h' = (if m_within w 7 = true then ab_up (ab_up h 0 0 0) 4 w.toNatClampNeg 0 else ab_up h 0 0 1)) := by
  refine ab_enter (by decide) (Nat.le_of_ble_eq_true rfl) ?_
  refine ab_aload_n (pc := 0) dX4_clear_0 rfl rfl ?_
  refine ab_iload_n (pc := 1) dX4_clear_1 rfl rfl ?_
  refine ab_bipush (pc := 2) (v := 7) dX4_clear_2 (by decide) ?_
  refine ab_S2 (pc := 4) dX4_clear_4 msX4_105 rfl (kX4_within) (ab_ki fun r4 h4 e4 => ?_)
  obtain ⟨rfl, rfl⟩ := And.intro e4.1.symm e4.2.symm
  refine ab_if_eq (pc := 7) 14 dX4_clear_7 (by decide) (fun c7 => ?_) (fun c7 => ?_)
  · replace c7 := b2i_0.mp c7
    refine ab_iconst (pc := 14) (v := 1) dX4_clear_14 (by decide) ?_
    refine ab_puti (pc := 15) dX4_clear_15 fwX4_92 rfl rfl ?_
    refine ab_aload_n (pc := 18) dX4_clear_18 rfl rfl ?_
    refine ab_geti (pc := 19) dX4_clear_19 fX4_92 rfl rfl ?_
    refine ab_topi (by (try simp only [ab_rd, ab_rdA, Nat.reduceEqDiff, reduceIte]); exact rfl) ?_
    refine ab_if_ne (pc := 22) 32 dX4_clear_22 (by decide) (fun c22 => ?_) (fun c22 => ?_)
    · exact ab_retv (pc := 32) dX4_clear_32 rfl ⟨rfl, (by first | exact absurd rfl c22 | rw [if_neg (ne_true_of_eq_false c7)])⟩
    · first
        | exact absurd c22 i10
        | (refine ab_aload_n (pc := 25) dX4_clear_25 rfl rfl ?_
           refine ab_getr (pc := 26) dX4_clear_26 fX4_19 rfl rfl ?_
           refine ab_iload_n (pc := 29) dX4_clear_29 rfl rfl ?_
           refine ab_iconst (pc := 30) (v := 0) dX4_clear_30 (by decide) ?_
           refine ab_iast (pc := 31) dX4_clear_31 rfl (m_within_8 c7) ?_
           exact ab_retv (pc := 32) dX4_clear_32 rfl ⟨rfl, by rw [if_pos c7]⟩)
  · replace c7 := b2i_1.mp c7
    refine ab_iconst (pc := 10) (v := 0) dX4_clear_10 (by decide) ?_
    refine ab_goto (pc := 11) 15 dX4_clear_11 (by decide) ?_
    refine ab_puti (pc := 15) dX4_clear_15 fwX4_92 rfl rfl ?_
    refine ab_aload_n (pc := 18) dX4_clear_18 rfl rfl ?_
    refine ab_geti (pc := 19) dX4_clear_19 fX4_92 rfl rfl ?_
    refine ab_topi (by (try simp only [ab_rd, ab_rdA, Nat.reduceEqDiff, reduceIte]); exact rfl) ?_
    refine ab_if_ne (pc := 22) 32 dX4_clear_22 (by decide) (fun c22 => ?_) (fun c22 => ?_)
    · exact ab_retv (pc := 32) dX4_clear_32 rfl ⟨rfl, (by first | exact absurd rfl c22 | rw [if_neg (ne_true_of_eq_false c7)])⟩
    · first
        | exact absurd c22 i10
        | (refine ab_aload_n (pc := 25) dX4_clear_25 rfl rfl ?_
           refine ab_getr (pc := 26) dX4_clear_26 fX4_19 rfl rfl ?_
           refine ab_iload_n (pc := 29) dX4_clear_29 rfl rfl ?_
           refine ab_iconst (pc := 30) (v := 0) dX4_clear_30 (by decide) ?_
           refine ab_iast (pc := 31) dX4_clear_31 rfl (m_within_8 c7) ?_
           exact ab_retv (pc := 32) dX4_clear_32 rfl ⟨rfl, by rw [if_pos c7]⟩)
end
