section
-- ===== PART A: goes FIRST, ahead of the names: the tables' words, and 'selects' of the private methods out of them =====
/-- a private method of a class that the tables say can be made, by its rows of tables_1 -/
def lw_okq (q : MethodName × Nat) : Prop := (q.1.cls ≠ "java/lang/invoke/MethodHandle" ∧ q.1.cls ≠ "java/lang/invoke/VarHandle") ∧ Cond.instantiable q.1.cls q.2 ∈ tables_1 ∧ Cond.privateMethod q.1 ∈ tables_1 ∧ Cond.instanceMethod q.1 ∈ tables_1
theorem lw_p0 : lw_okq (⟨"UndoWorks", "allNodes", "()I"⟩, 6) := ⟨⟨by decide +kernel, by decide +kernel⟩, List.mem_of_getElem? (i := 14) (by decide +kernel), List.mem_of_getElem? (i := 167) (by decide +kernel), List.mem_of_getElem? (i := 168) (by decide +kernel)⟩
theorem lw_p1 : lw_okq (⟨"java/lang/Throwable", "fillInStackTrace", "(I)Ljava/lang/Throwable;"⟩, 6) := ⟨⟨by decide +kernel, by decide +kernel⟩, List.mem_of_getElem? (i := 223) (by decide +kernel), List.mem_of_getElem? (i := 221) (by decide +kernel), List.mem_of_getElem? (i := 222) (by decide +kernel)⟩
theorem lw_p2 : lw_okq (⟨"UndoWorks$Workflow", "latestPart", "()I"⟩, 9) := ⟨⟨by decide +kernel, by decide +kernel⟩, List.mem_of_getElem? (i := 23) (by decide +kernel), List.mem_of_getElem? (i := 264) (by decide +kernel), List.mem_of_getElem? (i := 265) (by decide +kernel)⟩
theorem lw_p3 : lw_okq (⟨"UndoWorks$Workflow", "openLoops", "()I"⟩, 9) := ⟨⟨by decide +kernel, by decide +kernel⟩, List.mem_of_getElem? (i := 23) (by decide +kernel), List.mem_of_getElem? (i := 268) (by decide +kernel), List.mem_of_getElem? (i := 269) (by decide +kernel)⟩
theorem lw_p4 : lw_okq (⟨"UndoWorks$Workflow", "openAt", "(I)V"⟩, 9) := ⟨⟨by decide +kernel, by decide +kernel⟩, List.mem_of_getElem? (i := 23) (by decide +kernel), List.mem_of_getElem? (i := 292) (by decide +kernel), List.mem_of_getElem? (i := 293) (by decide +kernel)⟩
theorem lw_p5 : lw_okq (⟨"UndoWorks$Workflow", "beginPartAt", "(I)V"⟩, 9) := ⟨⟨by decide +kernel, by decide +kernel⟩, List.mem_of_getElem? (i := 23) (by decide +kernel), List.mem_of_getElem? (i := 296) (by decide +kernel), List.mem_of_getElem? (i := 297) (by decide +kernel)⟩
theorem lw_p6 : lw_okq (⟨"UndoWorks$Workflow", "closeAt", "(I)V"⟩, 9) := ⟨⟨by decide +kernel, by decide +kernel⟩, List.mem_of_getElem? (i := 23) (by decide +kernel), List.mem_of_getElem? (i := 300) (by decide +kernel), List.mem_of_getElem? (i := 301) (by decide +kernel)⟩
theorem lw_p7 : lw_okq (⟨"UndoWorks", "doPart", "(LUndoWorks$Workflow;II)J"⟩, 6) := ⟨⟨by decide +kernel, by decide +kernel⟩, List.mem_of_getElem? (i := 14) (by decide +kernel), List.mem_of_getElem? (i := 327) (by decide +kernel), List.mem_of_getElem? (i := 328) (by decide +kernel)⟩
theorem lw_p8 : lw_okq (⟨"UndoWorks", "doNode", "(LUndoWorks$Workflow;II)J"⟩, 6) := ⟨⟨by decide +kernel, by decide +kernel⟩, List.mem_of_getElem? (i := 14) (by decide +kernel), List.mem_of_getElem? (i := 331) (by decide +kernel), List.mem_of_getElem? (i := 332) (by decide +kernel)⟩
theorem lw_p9 : lw_okq (⟨"UndoWorks", "canPay", "()Z"⟩, 6) := ⟨⟨by decide +kernel, by decide +kernel⟩, List.mem_of_getElem? (i := 14) (by decide +kernel), List.mem_of_getElem? (i := 335) (by decide +kernel), List.mem_of_getElem? (i := 336) (by decide +kernel)⟩
theorem lw_p10 : lw_okq (⟨"UndoWorks", "doTry", "(LUndoWorks$Workflow;II)J"⟩, 6) := ⟨⟨by decide +kernel, by decide +kernel⟩, List.mem_of_getElem? (i := 14) (by decide +kernel), List.mem_of_getElem? (i := 342) (by decide +kernel), List.mem_of_getElem? (i := 343) (by decide +kernel)⟩
theorem lw_p11 : lw_okq (⟨"UndoWorks", "doLoop", "(LUndoWorks$Workflow;II)J"⟩, 6) := ⟨⟨by decide +kernel, by decide +kernel⟩, List.mem_of_getElem? (i := 14) (by decide +kernel), List.mem_of_getElem? (i := 353) (by decide +kernel), List.mem_of_getElem? (i := 354) (by decide +kernel)⟩
theorem lw_p12 : lw_okq (⟨"UndoWorks", "doScope", "(LUndoWorks$Workflow;II)J"⟩, 6) := ⟨⟨by decide +kernel, by decide +kernel⟩, List.mem_of_getElem? (i := 14) (by decide +kernel), List.mem_of_getElem? (i := 357) (by decide +kernel), List.mem_of_getElem? (i := 358) (by decide +kernel)⟩
theorem lw_p13 : lw_okq (⟨"UndoWorks$UndoList", "undoAt", "(ILUndoWorks$Data;)V"⟩, 9) := ⟨⟨by decide +kernel, by decide +kernel⟩, List.mem_of_getElem? (i := 104) (by decide +kernel), List.mem_of_getElem? (i := 369) (by decide +kernel), List.mem_of_getElem? (i := 370) (by decide +kernel)⟩
theorem lw_p14 : lw_okq (⟨"UndoWorks", "doMute", "(LUndoWorks$Workflow;II)J"⟩, 6) := ⟨⟨by decide +kernel, by decide +kernel⟩, List.mem_of_getElem? (i := 14) (by decide +kernel), List.mem_of_getElem? (i := 384) (by decide +kernel), List.mem_of_getElem? (i := 385) (by decide +kernel)⟩
theorem lw_p15 : lw_okq (⟨"UndoWorks", "doIf", "(LUndoWorks$Workflow;II)J"⟩, 6) := ⟨⟨by decide +kernel, by decide +kernel⟩, List.mem_of_getElem? (i := 14) (by decide +kernel), List.mem_of_getElem? (i := 388) (by decide +kernel), List.mem_of_getElem? (i := 389) (by decide +kernel)⟩
def lw_privs_1 : List (MethodName × Nat) := [(⟨"UndoWorks", "allNodes", "()I"⟩, 6), (⟨"java/lang/Throwable", "fillInStackTrace", "(I)Ljava/lang/Throwable;"⟩, 6), (⟨"UndoWorks$Workflow", "latestPart", "()I"⟩, 9), (⟨"UndoWorks$Workflow", "openLoops", "()I"⟩, 9), (⟨"UndoWorks$Workflow", "openAt", "(I)V"⟩, 9), (⟨"UndoWorks$Workflow", "beginPartAt", "(I)V"⟩, 9), (⟨"UndoWorks$Workflow", "closeAt", "(I)V"⟩, 9), (⟨"UndoWorks", "doPart", "(LUndoWorks$Workflow;II)J"⟩, 6), (⟨"UndoWorks", "doNode", "(LUndoWorks$Workflow;II)J"⟩, 6), (⟨"UndoWorks", "canPay", "()Z"⟩, 6), (⟨"UndoWorks", "doTry", "(LUndoWorks$Workflow;II)J"⟩, 6), (⟨"UndoWorks", "doLoop", "(LUndoWorks$Workflow;II)J"⟩, 6), (⟨"UndoWorks", "doScope", "(LUndoWorks$Workflow;II)J"⟩, 6), (⟨"UndoWorks$UndoList", "undoAt", "(ILUndoWorks$Data;)V"⟩, 9), (⟨"UndoWorks", "doMute", "(LUndoWorks$Workflow;II)J"⟩, 6), (⟨"UndoWorks", "doIf", "(LUndoWorks$Workflow;II)J"⟩, 6)]
theorem lw_r1 : ∀ q ∈ lw_privs_1, lw_okq q := List.forall_mem_cons.mpr ⟨lw_p0, List.forall_mem_cons.mpr ⟨lw_p1, List.forall_mem_cons.mpr ⟨lw_p2, List.forall_mem_cons.mpr ⟨lw_p3, List.forall_mem_cons.mpr ⟨lw_p4, List.forall_mem_cons.mpr ⟨lw_p5, List.forall_mem_cons.mpr ⟨lw_p6, List.forall_mem_cons.mpr ⟨lw_p7, List.forall_mem_cons.mpr ⟨lw_p8, List.forall_mem_cons.mpr ⟨lw_p9, List.forall_mem_cons.mpr ⟨lw_p10, List.forall_mem_cons.mpr ⟨lw_p11, List.forall_mem_cons.mpr ⟨lw_p12, List.forall_mem_cons.mpr ⟨lw_p13, List.forall_mem_cons.mpr ⟨lw_p14, List.forall_mem_cons.mpr ⟨lw_p15, fun _ h => absurd h List.not_mem_nil⟩⟩⟩⟩⟩⟩⟩⟩⟩⟩⟩⟩⟩⟩⟩⟩
theorem lw_p16 : lw_okq (⟨"UndoWorks", "doCall", "(III)J"⟩, 6) := ⟨⟨by decide +kernel, by decide +kernel⟩, List.mem_of_getElem? (i := 14) (by decide +kernel), List.mem_of_getElem? (i := 392) (by decide +kernel), List.mem_of_getElem? (i := 393) (by decide +kernel)⟩
theorem lw_p17 : lw_okq (⟨"UndoWorks", "doStep", "(III)J"⟩, 6) := ⟨⟨by decide +kernel, by decide +kernel⟩, List.mem_of_getElem? (i := 14) (by decide +kernel), List.mem_of_getElem? (i := 399) (by decide +kernel), List.mem_of_getElem? (i := 400) (by decide +kernel)⟩
theorem lw_p18 : lw_okq (⟨"UndoWorks", "doNote", "(I)J"⟩, 6) := ⟨⟨by decide +kernel, by decide +kernel⟩, List.mem_of_getElem? (i := 14) (by decide +kernel), List.mem_of_getElem? (i := 403) (by decide +kernel), List.mem_of_getElem? (i := 404) (by decide +kernel)⟩
theorem lw_p19 : lw_okq (⟨"UndoWorks", "doAdd", "(II)J"⟩, 6) := ⟨⟨by decide +kernel, by decide +kernel⟩, List.mem_of_getElem? (i := 14) (by decide +kernel), List.mem_of_getElem? (i := 411) (by decide +kernel), List.mem_of_getElem? (i := 412) (by decide +kernel)⟩
theorem lw_p20 : lw_okq (⟨"UndoWorks$UndoList", "hasRoom", "()Z"⟩, 9) := ⟨⟨by decide +kernel, by decide +kernel⟩, List.mem_of_getElem? (i := 104) (by decide +kernel), List.mem_of_getElem? (i := 419) (by decide +kernel), List.mem_of_getElem? (i := 420) (by decide +kernel)⟩
theorem lw_p21 : lw_okq (⟨"UndoWorks", "doSet", "(II)J"⟩, 6) := ⟨⟨by decide +kernel, by decide +kernel⟩, List.mem_of_getElem? (i := 14) (by decide +kernel), List.mem_of_getElem? (i := 423) (by decide +kernel), List.mem_of_getElem? (i := 424) (by decide +kernel)⟩
theorem lw_p22 : lw_okq (⟨"UndoWorks", "doDivide", "(II)J"⟩, 6) := ⟨⟨by decide +kernel, by decide +kernel⟩, List.mem_of_getElem? (i := 14) (by decide +kernel), List.mem_of_getElem? (i := 427) (by decide +kernel), List.mem_of_getElem? (i := 428) (by decide +kernel)⟩
theorem lw_p23 : lw_okq (⟨"UndoWorks", "doRead", "(II)J"⟩, 6) := ⟨⟨by decide +kernel, by decide +kernel⟩, List.mem_of_getElem? (i := 14) (by decide +kernel), List.mem_of_getElem? (i := 431) (by decide +kernel), List.mem_of_getElem? (i := 432) (by decide +kernel)⟩
theorem lw_p24 : lw_okq (⟨"UndoWorks", "doWrite", "(II)J"⟩, 6) := ⟨⟨by decide +kernel, by decide +kernel⟩, List.mem_of_getElem? (i := 14) (by decide +kernel), List.mem_of_getElem? (i := 436) (by decide +kernel), List.mem_of_getElem? (i := 437) (by decide +kernel)⟩
theorem lw_p25 : lw_okq (⟨"UndoWorks", "doMake", "(I)J"⟩, 6) := ⟨⟨by decide +kernel, by decide +kernel⟩, List.mem_of_getElem? (i := 14) (by decide +kernel), List.mem_of_getElem? (i := 440) (by decide +kernel), List.mem_of_getElem? (i := 441) (by decide +kernel)⟩
theorem lw_p26 : lw_okq (⟨"UndoWorks", "doHold", "(II)J"⟩, 6) := ⟨⟨by decide +kernel, by decide +kernel⟩, List.mem_of_getElem? (i := 14) (by decide +kernel), List.mem_of_getElem? (i := 453) (by decide +kernel), List.mem_of_getElem? (i := 454) (by decide +kernel)⟩
theorem lw_p27 : lw_okq (⟨"UndoWorks", "doUse", "(I)J"⟩, 6) := ⟨⟨by decide +kernel, by decide +kernel⟩, List.mem_of_getElem? (i := 14) (by decide +kernel), List.mem_of_getElem? (i := 461) (by decide +kernel), List.mem_of_getElem? (i := 462) (by decide +kernel)⟩
theorem lw_p28 : lw_okq (⟨"UndoWorks", "doKeep", "()J"⟩, 6) := ⟨⟨by decide +kernel, by decide +kernel⟩, List.mem_of_getElem? (i := 14) (by decide +kernel), List.mem_of_getElem? (i := 465) (by decide +kernel), List.mem_of_getElem? (i := 466) (by decide +kernel)⟩
theorem lw_p29 : lw_okq (⟨"UndoWorksModel", "no", "(I)I"⟩, 43) := ⟨⟨by decide +kernel, by decide +kernel⟩, List.mem_of_getElem? (i := 500) (by decide +kernel), List.mem_of_getElem? (i := 650) (by decide +kernel), List.mem_of_getElem? (i := 651) (by decide +kernel)⟩
theorem lw_p30 : lw_okq (⟨"UndoWorksModel", "look", "(I)V"⟩, 43) := ⟨⟨by decide +kernel, by decide +kernel⟩, List.mem_of_getElem? (i := 500) (by decide +kernel), List.mem_of_getElem? (i := 654) (by decide +kernel), List.mem_of_getElem? (i := 655) (by decide +kernel)⟩
theorem lw_p31 : lw_okq (⟨"UndoWorksModel", "stands", "(II)Z"⟩, 43) := ⟨⟨by decide +kernel, by decide +kernel⟩, List.mem_of_getElem? (i := 500) (by decide +kernel), List.mem_of_getElem? (i := 661) (by decide +kernel), List.mem_of_getElem? (i := 662) (by decide +kernel)⟩
def lw_privs_2 : List (MethodName × Nat) := [(⟨"UndoWorks", "doCall", "(III)J"⟩, 6), (⟨"UndoWorks", "doStep", "(III)J"⟩, 6), (⟨"UndoWorks", "doNote", "(I)J"⟩, 6), (⟨"UndoWorks", "doAdd", "(II)J"⟩, 6), (⟨"UndoWorks$UndoList", "hasRoom", "()Z"⟩, 9), (⟨"UndoWorks", "doSet", "(II)J"⟩, 6), (⟨"UndoWorks", "doDivide", "(II)J"⟩, 6), (⟨"UndoWorks", "doRead", "(II)J"⟩, 6), (⟨"UndoWorks", "doWrite", "(II)J"⟩, 6), (⟨"UndoWorks", "doMake", "(I)J"⟩, 6), (⟨"UndoWorks", "doHold", "(II)J"⟩, 6), (⟨"UndoWorks", "doUse", "(I)J"⟩, 6), (⟨"UndoWorks", "doKeep", "()J"⟩, 6), (⟨"UndoWorksModel", "no", "(I)I"⟩, 43), (⟨"UndoWorksModel", "look", "(I)V"⟩, 43), (⟨"UndoWorksModel", "stands", "(II)Z"⟩, 43)]
theorem lw_r2 : ∀ q ∈ lw_privs_2, lw_okq q := List.forall_mem_cons.mpr ⟨lw_p16, List.forall_mem_cons.mpr ⟨lw_p17, List.forall_mem_cons.mpr ⟨lw_p18, List.forall_mem_cons.mpr ⟨lw_p19, List.forall_mem_cons.mpr ⟨lw_p20, List.forall_mem_cons.mpr ⟨lw_p21, List.forall_mem_cons.mpr ⟨lw_p22, List.forall_mem_cons.mpr ⟨lw_p23, List.forall_mem_cons.mpr ⟨lw_p24, List.forall_mem_cons.mpr ⟨lw_p25, List.forall_mem_cons.mpr ⟨lw_p26, List.forall_mem_cons.mpr ⟨lw_p27, List.forall_mem_cons.mpr ⟨lw_p28, List.forall_mem_cons.mpr ⟨lw_p29, List.forall_mem_cons.mpr ⟨lw_p30, List.forall_mem_cons.mpr ⟨lw_p31, fun _ h => absurd h List.not_mem_nil⟩⟩⟩⟩⟩⟩⟩⟩⟩⟩⟩⟩⟩⟩⟩⟩
theorem lw_p32 : lw_okq (⟨"UndoWorksModel", "unended", "(I)I"⟩, 43) := ⟨⟨by decide +kernel, by decide +kernel⟩, List.mem_of_getElem? (i := 500) (by decide +kernel), List.mem_of_getElem? (i := 673) (by decide +kernel), List.mem_of_getElem? (i := 674) (by decide +kernel)⟩
theorem lw_p33 : lw_okq (⟨"UndoWorksModel", "settle", "()V"⟩, 43) := ⟨⟨by decide +kernel, by decide +kernel⟩, List.mem_of_getElem? (i := 500) (by decide +kernel), List.mem_of_getElem? (i := 677) (by decide +kernel), List.mem_of_getElem? (i := 678) (by decide +kernel)⟩
theorem lw_p34 : lw_okq (⟨"UndoWorksModel", "push", "(III)V"⟩, 43) := ⟨⟨by decide +kernel, by decide +kernel⟩, List.mem_of_getElem? (i := 500) (by decide +kernel), List.mem_of_getElem? (i := 681) (by decide +kernel), List.mem_of_getElem? (i := 682) (by decide +kernel)⟩
theorem lw_p35 : lw_okq (⟨"UndoWorksModel", "atEnd", "()Z"⟩, 43) := ⟨⟨by decide +kernel, by decide +kernel⟩, List.mem_of_getElem? (i := 500) (by decide +kernel), List.mem_of_getElem? (i := 685) (by decide +kernel), List.mem_of_getElem? (i := 686) (by decide +kernel)⟩
theorem lw_p36 : lw_okq (⟨"UndoWorksModel", "ended", "()V"⟩, 43) := ⟨⟨by decide +kernel, by decide +kernel⟩, List.mem_of_getElem? (i := 500) (by decide +kernel), List.mem_of_getElem? (i := 689) (by decide +kernel), List.mem_of_getElem? (i := 690) (by decide +kernel)⟩
theorem lw_p37 : lw_okq (⟨"UndoWorksModel", "back", "(I)V"⟩, 43) := ⟨⟨by decide +kernel, by decide +kernel⟩, List.mem_of_getElem? (i := 500) (by decide +kernel), List.mem_of_getElem? (i := 693) (by decide +kernel), List.mem_of_getElem? (i := 694) (by decide +kernel)⟩
theorem lw_p38 : lw_okq (⟨"UndoWorksModel", "tried", "(I)V"⟩, 43) := ⟨⟨by decide +kernel, by decide +kernel⟩, List.mem_of_getElem? (i := 500) (by decide +kernel), List.mem_of_getElem? (i := 697) (by decide +kernel), List.mem_of_getElem? (i := 698) (by decide +kernel)⟩
theorem lw_p39 : lw_okq (⟨"UndoWorksModel", "leave", "()V"⟩, 43) := ⟨⟨by decide +kernel, by decide +kernel⟩, List.mem_of_getElem? (i := 500) (by decide +kernel), List.mem_of_getElem? (i := 701) (by decide +kernel), List.mem_of_getElem? (i := 702) (by decide +kernel)⟩
theorem lw_p40 : lw_okq (⟨"UndoWorksModel", "partOf", "(II)I"⟩, 43) := ⟨⟨by decide +kernel, by decide +kernel⟩, List.mem_of_getElem? (i := 500) (by decide +kernel), List.mem_of_getElem? (i := 705) (by decide +kernel), List.mem_of_getElem? (i := 706) (by decide +kernel)⟩
theorem lw_p41 : lw_okq (⟨"UndoWorksModel", "after", "(I)I"⟩, 43) := ⟨⟨by decide +kernel, by decide +kernel⟩, List.mem_of_getElem? (i := 500) (by decide +kernel), List.mem_of_getElem? (i := 709) (by decide +kernel), List.mem_of_getElem? (i := 710) (by decide +kernel)⟩
theorem lw_p42 : lw_okq (⟨"UndoWorksModel", "looped", "()V"⟩, 43) := ⟨⟨by decide +kernel, by decide +kernel⟩, List.mem_of_getElem? (i := 500) (by decide +kernel), List.mem_of_getElem? (i := 713) (by decide +kernel), List.mem_of_getElem? (i := 714) (by decide +kernel)⟩
theorem lw_p43 : lw_okq (⟨"UndoWorksModel", "round", "()V"⟩, 43) := ⟨⟨by decide +kernel, by decide +kernel⟩, List.mem_of_getElem? (i := 500) (by decide +kernel), List.mem_of_getElem? (i := 717) (by decide +kernel), List.mem_of_getElem? (i := 718) (by decide +kernel)⟩
theorem lw_p44 : lw_okq (⟨"UndoWorksModel", "pays", "()Z"⟩, 43) := ⟨⟨by decide +kernel, by decide +kernel⟩, List.mem_of_getElem? (i := 500) (by decide +kernel), List.mem_of_getElem? (i := 721) (by decide +kernel), List.mem_of_getElem? (i := 722) (by decide +kernel)⟩
theorem lw_p45 : lw_okq (⟨"UndoWorksModel", "undoOne", "()V"⟩, 43) := ⟨⟨by decide +kernel, by decide +kernel⟩, List.mem_of_getElem? (i := 500) (by decide +kernel), List.mem_of_getElem? (i := 725) (by decide +kernel), List.mem_of_getElem? (i := 726) (by decide +kernel)⟩
theorem lw_p46 : lw_okq (⟨"UndoWorksModel", "step", "()V"⟩, 43) := ⟨⟨by decide +kernel, by decide +kernel⟩, List.mem_of_getElem? (i := 500) (by decide +kernel), List.mem_of_getElem? (i := 729) (by decide +kernel), List.mem_of_getElem? (i := 730) (by decide +kernel)⟩
theorem lw_p47 : lw_okq (⟨"UndoWorksModel", "begin", "(I)V"⟩, 43) := ⟨⟨by decide +kernel, by decide +kernel⟩, List.mem_of_getElem? (i := 500) (by decide +kernel), List.mem_of_getElem? (i := 733) (by decide +kernel), List.mem_of_getElem? (i := 734) (by decide +kernel)⟩
def lw_privs_3 : List (MethodName × Nat) := [(⟨"UndoWorksModel", "unended", "(I)I"⟩, 43), (⟨"UndoWorksModel", "settle", "()V"⟩, 43), (⟨"UndoWorksModel", "push", "(III)V"⟩, 43), (⟨"UndoWorksModel", "atEnd", "()Z"⟩, 43), (⟨"UndoWorksModel", "ended", "()V"⟩, 43), (⟨"UndoWorksModel", "back", "(I)V"⟩, 43), (⟨"UndoWorksModel", "tried", "(I)V"⟩, 43), (⟨"UndoWorksModel", "leave", "()V"⟩, 43), (⟨"UndoWorksModel", "partOf", "(II)I"⟩, 43), (⟨"UndoWorksModel", "after", "(I)I"⟩, 43), (⟨"UndoWorksModel", "looped", "()V"⟩, 43), (⟨"UndoWorksModel", "round", "()V"⟩, 43), (⟨"UndoWorksModel", "pays", "()Z"⟩, 43), (⟨"UndoWorksModel", "undoOne", "()V"⟩, 43), (⟨"UndoWorksModel", "step", "()V"⟩, 43), (⟨"UndoWorksModel", "begin", "(I)V"⟩, 43)]
theorem lw_r3 : ∀ q ∈ lw_privs_3, lw_okq q := List.forall_mem_cons.mpr ⟨lw_p32, List.forall_mem_cons.mpr ⟨lw_p33, List.forall_mem_cons.mpr ⟨lw_p34, List.forall_mem_cons.mpr ⟨lw_p35, List.forall_mem_cons.mpr ⟨lw_p36, List.forall_mem_cons.mpr ⟨lw_p37, List.forall_mem_cons.mpr ⟨lw_p38, List.forall_mem_cons.mpr ⟨lw_p39, List.forall_mem_cons.mpr ⟨lw_p40, List.forall_mem_cons.mpr ⟨lw_p41, List.forall_mem_cons.mpr ⟨lw_p42, List.forall_mem_cons.mpr ⟨lw_p43, List.forall_mem_cons.mpr ⟨lw_p44, List.forall_mem_cons.mpr ⟨lw_p45, List.forall_mem_cons.mpr ⟨lw_p46, List.forall_mem_cons.mpr ⟨lw_p47, fun _ h => absurd h List.not_mem_nil⟩⟩⟩⟩⟩⟩⟩⟩⟩⟩⟩⟩⟩⟩⟩⟩
theorem lw_p48 : lw_okq (⟨"UndoWorksModel", "endOf", "(I)I"⟩, 43) := ⟨⟨by decide +kernel, by decide +kernel⟩, List.mem_of_getElem? (i := 500) (by decide +kernel), List.mem_of_getElem? (i := 737) (by decide +kernel), List.mem_of_getElem? (i := 738) (by decide +kernel)⟩
theorem lw_p49 : lw_okq (⟨"UndoWorksModel", "call", "(I)V"⟩, 43) := ⟨⟨by decide +kernel, by decide +kernel⟩, List.mem_of_getElem? (i := 500) (by decide +kernel), List.mem_of_getElem? (i := 741) (by decide +kernel), List.mem_of_getElem? (i := 742) (by decide +kernel)⟩
theorem lw_p50 : lw_okq (⟨"UndoWorksModel", "fails", "(I)I"⟩, 43) := ⟨⟨by decide +kernel, by decide +kernel⟩, List.mem_of_getElem? (i := 500) (by decide +kernel), List.mem_of_getElem? (i := 745) (by decide +kernel), List.mem_of_getElem? (i := 746) (by decide +kernel)⟩
theorem lw_p51 : lw_okq (⟨"UndoWorksModel", "plain", "(III)I"⟩, 43) := ⟨⟨by decide +kernel, by decide +kernel⟩, List.mem_of_getElem? (i := 500) (by decide +kernel), List.mem_of_getElem? (i := 749) (by decide +kernel), List.mem_of_getElem? (i := 750) (by decide +kernel)⟩
theorem lw_p52 : lw_okq (⟨"UndoWorksModel", "note", "(I)V"⟩, 43) := ⟨⟨by decide +kernel, by decide +kernel⟩, List.mem_of_getElem? (i := 500) (by decide +kernel), List.mem_of_getElem? (i := 753) (by decide +kernel), List.mem_of_getElem? (i := 754) (by decide +kernel)⟩
theorem lw_p53 : lw_okq (⟨"UndoWorksModel", "remember", "(III)V"⟩, 43) := ⟨⟨by decide +kernel, by decide +kernel⟩, List.mem_of_getElem? (i := 500) (by decide +kernel), List.mem_of_getElem? (i := 757) (by decide +kernel), List.mem_of_getElem? (i := 758) (by decide +kernel)⟩
theorem lw_p54 : lw_okq (⟨"UndoWorksModel", "onRow", "(III)I"⟩, 43) := ⟨⟨by decide +kernel, by decide +kernel⟩, List.mem_of_getElem? (i := 500) (by decide +kernel), List.mem_of_getElem? (i := 761) (by decide +kernel), List.mem_of_getElem? (i := 762) (by decide +kernel)⟩
theorem lw_p55 : lw_okq (⟨"UndoWorksModel", "makes", "(I)I"⟩, 43) := ⟨⟨by decide +kernel, by decide +kernel⟩, List.mem_of_getElem? (i := 500) (by decide +kernel), List.mem_of_getElem? (i := 765) (by decide +kernel), List.mem_of_getElem? (i := 766) (by decide +kernel)⟩
theorem lw_p56 : lw_okq (⟨"UndoWorksModel", "box", "(I)I"⟩, 43) := ⟨⟨by decide +kernel, by decide +kernel⟩, List.mem_of_getElem? (i := 500) (by decide +kernel), List.mem_of_getElem? (i := 769) (by decide +kernel), List.mem_of_getElem? (i := 770) (by decide +kernel)⟩
theorem lw_p57 : lw_okq (⟨"UndoWorksModel", "uses", "(I)I"⟩, 43) := ⟨⟨by decide +kernel, by decide +kernel⟩, List.mem_of_getElem? (i := 500) (by decide +kernel), List.mem_of_getElem? (i := 773) (by decide +kernel), List.mem_of_getElem? (i := 774) (by decide +kernel)⟩
def lw_privs_4 : List (MethodName × Nat) := [(⟨"UndoWorksModel", "endOf", "(I)I"⟩, 43), (⟨"UndoWorksModel", "call", "(I)V"⟩, 43), (⟨"UndoWorksModel", "fails", "(I)I"⟩, 43), (⟨"UndoWorksModel", "plain", "(III)I"⟩, 43), (⟨"UndoWorksModel", "note", "(I)V"⟩, 43), (⟨"UndoWorksModel", "remember", "(III)V"⟩, 43), (⟨"UndoWorksModel", "onRow", "(III)I"⟩, 43), (⟨"UndoWorksModel", "makes", "(I)I"⟩, 43), (⟨"UndoWorksModel", "box", "(I)I"⟩, 43), (⟨"UndoWorksModel", "uses", "(I)I"⟩, 43)]
theorem lw_r4 : ∀ q ∈ lw_privs_4, lw_okq q := List.forall_mem_cons.mpr ⟨lw_p48, List.forall_mem_cons.mpr ⟨lw_p49, List.forall_mem_cons.mpr ⟨lw_p50, List.forall_mem_cons.mpr ⟨lw_p51, List.forall_mem_cons.mpr ⟨lw_p52, List.forall_mem_cons.mpr ⟨lw_p53, List.forall_mem_cons.mpr ⟨lw_p54, List.forall_mem_cons.mpr ⟨lw_p55, List.forall_mem_cons.mpr ⟨lw_p56, List.forall_mem_cons.mpr ⟨lw_p57, fun _ h => absurd h List.not_mem_nil⟩⟩⟩⟩⟩⟩⟩⟩⟩⟩
def lw_privs : List (MethodName × Nat) := lw_privs_1 ++ (lw_privs_2 ++ (lw_privs_3 ++ (lw_privs_4)))
def lw_tbl : List Cond := k2_sels lw_privs ++ tables_1
theorem lw_privs_ok : ∀ q ∈ lw_privs, lw_okq q := by
  show ∀ q ∈ lw_privs_1 ++ (lw_privs_2 ++ (lw_privs_3 ++ (lw_privs_4))), lw_okq q
  exact List.forall_mem_append.mpr ⟨lw_r1, List.forall_mem_append.mpr ⟨lw_r2, List.forall_mem_append.mpr ⟨lw_r3, lw_r4⟩⟩⟩
-- ===== end of PART A; then your names; then what follows =====
end
section
/-! ===== BEGIN words of one list among another's, by their places ===== -/
theorem goodIn_r {big : List Cond} (ws : List Cond) (ps : List Nat) (hp : ws = ps.filterMap (fun i => big[i]?)) (h : ws.all goodWord = true) : GoodIn big ws := by
  intro w hw
  have h1 := List.all_eq_true.mp h w hw
  rw [hp] at hw
  obtain ⟨i, -, hi⟩ := List.mem_filterMap.mp hw
  have hm : w ∈ big := by first | exact List.mem_of_getElem? hi | exact List.getElem?_mem hi
  exact ⟨hm, good_of_word h1⟩
theorem goodIn_app {big a b : List Cond} (ha : GoodIn big a) (hb : GoodIn big b) : GoodIn big (a ++ b) := fun w h => (List.mem_append.mp h).elim (ha w) (hb w)
theorem goodIn_ca {big a b : List Cond} {c : Cond} (ha : GoodIn big (c :: a)) (hb : GoodIn big b) : GoodIn big (c :: (a ++ b)) := fun w h => (List.mem_cons.mp h).elim (fun e => ha w (List.mem_cons.mpr (Or.inl e))) (fun h => (List.mem_append.mp h).elim (fun h => ha w (List.mem_cons.mpr (Or.inr h))) (hb w))
theorem goodIn_sub {big ws : List Cond} (hm : ∀ w ∈ ws, w ∈ big) (h : ws.all goodWord = true) : GoodIn big ws := fun w hw => ⟨hm w hw, good_of_word (List.all_eq_true.mp h w hw)⟩
/-! ===== END ===== -/

/-! ===== BEGIN exceptions that leave a method, and their catching by the caller (launches without stack traces) ===== -/
section VXA
/-! The laws vx_back, vx_callV, vx_callS, vx_callSW, vx_throw0, vx_throwS follow proofs of the library, with one case more: JvmDerived/Free/Laws.lean (Back.of_free), Shelf42/LK1.lean (callV, callS), Shelf/KitTraced.lean (throwNew0V, throwNewS). -/

/-- where a method has thrown q: the class by its name, the cell, what was written, the world -/
def vx_T (XC : String → State → State → Prop) (st : State) (q : Addr) (t : State) (mc ms : Nat) (free : Addr → Prop) : Prop :=
  ∃ (E : String) (ce : Cell) (L : List Loc), XC E st t ∧ t.heap[q]? = some ce ∧ ce.vm = .none ∧ st.vm.findClass E = some ce.cls ∧ st.WarmedH t.vm ∧ st.sameButNew ({ t with vm := st.vm } : State) L mc ms ∧ ∀ z ∈ L, free z.base
def vx_Q (Qc : Array Value → State → Outcome → State → Prop) (XC : String → State → State → Prop) (mc ms : Nat) (free : Addr → Prop) : Array Value → State → Outcome → State → Prop := fun a st o t =>
  (Qc a st o t ∧ ∃ L, FrameEnd st o t L mc ms ∧ ∀ q ∈ L, free q.base) ∨ ∃ q, o = .threw q ∧ vx_T XC st q t mc ms free
/-- a callee that returns or throws -/
def vx_Met (l : Launch) (y : MethodName) (ws : List Cond) (rm : Room) (Pc : Array Value → State → Prop) (Qc : Array Value → State → Outcome → State → Prop) (XC : String → State → State → Prop) (mc ms : Nat) (free : Addr → Prop) : Prop :=
  MetFree l y (headSpec ws rm) Pc (fun _ _ _ _ _ => True) (vx_Q Qc XC mc ms free)
def vx_Post (XC : String → State → State → Prop) (mc ms : Nat) (free : Addr → Prop) : Pt → Array Value → Addr → Pt → Prop := fun A a q B =>
  ∃ (g : JFrame) (mk : MethodId) (t : State) (L : List Loc) (E : String) (ce : Cell), B.U.heap = t.heap ∧ B.U.vm = t.vm ∧ XC E (A.U.calling g mk a) t ∧ t.heap[q]? = some ce ∧ ce.vm = .none ∧ A.U.vm.findClass E = some ce.cls ∧ B.locs = A.locs ++ L ∧ (∀ z ∈ L, free z.base) ∧ B.cells = A.cells + mc ∧ B.slots = A.slots + ms
def vx_Back (l : Launch) (R : Room) (p : Program) (e : Env) (below : List Frame) (s : State) (sargs : Array Value) (y : MethodName) (len W9 : Nat)
    (Pre : Pt → Array Value → Prop) (Post : Pt → Array Value → Option Value → Pt → Prop) (PostX : Pt → Array Value → Addr → Pt → Prop) : Prop :=
  ∀ (m : MethodId) (meth : Method) (c : Code) (A : Pt) (g : JFrame) (ig : Instr) (mk : MethodId) (a : Array Value),
    Stand p l e R s m sargs below meth c A.U A.locs A.cells A.slots → g.method = m → g.locals.size = c.maxLocals → decode c.code g.pc = .ok (ig, len) →
    2 * g.monitorRoom + (g.stack.map fun v => v.category).sum ≤ W9 → A.U.methodNamed? y = some mk → Pre A a →
    (∃ (v : Option Value) (B : Pt), Stand p l e R s m sargs below meth c B.U B.locs B.cells B.slots ∧ Post A a v B ∧
      Steps p.tables e below (doInvoke e (A.U.setTop g) [] mk a).1 (B.U.setTop { g with pc := g.pc + len, stack := v.toList ++ g.stack })) ∨
    (∃ (q : Addr) (B : Pt), Stand p l e R s m sargs below meth c B.U B.locs B.cells B.slots ∧ PostX A a q B ∧
      Steps p.tables e below (doInvoke e (A.U.setTop g) [] mk a).1 ((B.U.setTop g).pushFrame (.throwing q)))
section Payer
variable {l : Launch} {R : Room} {p : Program} {e : Env} {below : List Frame} {s : State} {sargs : Array Value} {y : MethodName} {len W9 : Nat}
theorem vx_back {ws : List Cond} {rm : Room} {Pc : Array Value → State → Prop} {Qc : Array Value → State → Outcome → State → Prop} {XC : String → State → State → Prop} {mc ms : Nat} {free : Addr → Prop} {bytes : ByteArray} {maxL : Nat} {ret : Option FieldType}
    (hM : vx_Met l y ws rm Pc Qc XC mc ms free) (hblind : FrameBlind Pc) (hrc : rm.cells = mc) (hrs : rm.slots = ms)
    (hframes : rm.frames + 1 ≤ R.frames) (hlocals : W9 + (maxL + 11) + rm.locals ≤ R.locals)
    (hws : ∀ w ∈ ws, ∀ a' U, s.WarmedH U.vm → w.before a' U = true) (hcode : Cond.code y bytes maxL ret ∈ ws) (hinit : ∀ a' U, s.WarmedH U.vm → (Cond.initialized y.cls).before a' U = true) :
    vx_Back l R p e below s sargs y len W9 (PreOf R mc ms Pc) (PostOf Qc mc ms free) (vx_Post XC mc ms free) := by
  intro m meth c A g ig mk a X hg hsize hdg hW hn hp
  have h1 : (headSpec ws rm).pre.before a A.U = true := atoms_intro fun w hw => hws w hw _ _ X.warmed
  have h2 : (Cond.code y bytes maxL ret).before a A.U = true := hws _ hcode _ _ X.warmed
  have h3 : (Cond.initialized y.cls).before a A.U = true := hinit _ _ X.warmed
  have h4 : A.cells + (headSpec ws rm).room.cells ≤ R.cells := by rw [show (headSpec ws rm).room.cells = mc from hrc]; exact hp.1
  have h5 : A.slots + (headSpec ws rm).room.slots ≤ R.slots := by rw [show (headSpec ws rm).room.slots = ms from hrs]; exact hp.2.1
  have hPc : Pc a (A.U.calling g mk a) := hblind _ _ _ _ hp.2.2
  obtain ⟨U, Ls, c0, s0⟩ := A
  dsimp only [Pt.U, Pt.locs, Pt.cells, Pt.slots] at h1 h2 h3 h4 h5 X hn hPc ⊢
  obtain ⟨methY, cY, hmY, hcY, -, hlY, -, -, -, -⟩ := Cond.code_spec hn h2
  obtain ⟨kY, hkY, -⟩ := className_of_methodNamed hn
  have hinitY : kY.init = .initialized := Cond.initialized_spec (findClass_of_methodNamed hn) hkY h3
  have h : At U g.method c below := by rw [hg]; exact X.here
  have hlocals9 : W9 + (maxL + 11) + (headSpec ws rm).room.locals ≤ R.locals := hlocals
  have happ : (headSpec ws rm).appliesLoose y e.platform (U.calling g mk a) = true :=
    Spec.appliesLoose_calling (g := g) h hdg hn hkY hinitY
      (X.room_calling (g := g) (R' := (headSpec ws rm).room) hsize hmY hcY hframes (by rw [hlY]; omega) h4 h5) h1
  obtain ⟨mid, hmid⟩ := h.above
  have hfr : (U.setTop g).frames = (.java g :: mid) ++ below := by rw [State.frames_setTop' g h.top, hmid]; rfl
  obtain ⟨o, s₂, hsteps, -, hend, hq⟩ := Steps.callFree hM p X.admits X.cas X.clock (acts := []) hfr happ hPc trivial
  have hq' : vx_Q Qc XC mc ms free a (U.calling g mk a) o s₂ := hq
  rw [State.frames_setTop' g h.top] at hend
  obtain ⟨g₀, hg0⟩ := Option.isSome_iff_exists.mp h.top
  obtain ⟨r, hr⟩ := State.topJava?_eq_some.mp hg0
  have hr' : (({ U with heap := s₂.heap, slotsUsed := s₂.slotsUsed } : State).setVm s₂.vm).frames = .java g₀ :: r := hr
  rcases hq' with ⟨hqc, L, hfe, hL⟩ | ⟨q, rfl, E, ce, L, hx, hce, hcv, hcl, hW₂, hsm, hL⟩
  · obtain ⟨⟨v, rfl⟩, hW₂, e2, q2, q3, q4, q5, q6⟩ := id hfe
    have e3 : s₂ = ({ (U.calling g mk a).setFrames s₂.frames with heap := s₂.heap, slotsUsed := s₂.slotsUsed } : State).setVm s₂.vm := by
      have : s₂ = ({ s₂ with vm := (U.calling g mk a).vm } : State).setVm s₂.vm := rfl
      rw [e2] at this
      exact this
    obtain ⟨c₂, i₂, len₂, hc₂, hd₂, hf₂⟩ := hend
    have hW' : U.WarmedH s₂.vm := hW₂
    have hcc : c₂ = c := by
      have h1 : s₂.code? g.method = U.code? g.method := by
        rw [State.code?_eq, State.code?_eq, hW'.alike.method?]
      exact Option.some.inj (hc₂.symm.trans (h1.trans h.code))
    subst hcc
    have hlen : len₂ = len := by rw [hdg] at hd₂; cases hd₂; rfl
    subst hlen
    have hs₂ : s₂ = (({ U with heap := s₂.heap, slotsUsed := s₂.slotsUsed } : State).setVm s₂.vm).setTop { g with pc := g.pc + len₂, stack := v.toList ++ g.stack } := by
      refine e3.trans ?_
      rw [hf₂, State.calling_eq h.top, State.setFrames_setFrames, State.setTop_of_frames _ hr', hr]
      rfl
    have hsame : U.sameButNew ({ U with heap := s₂.heap, slotsUsed := s₂.slotsUsed } : State) L mc ms := by
      refine ⟨?_, q2, q3, q4, q5, q6⟩
      obtain ⟨t, ht, -⟩ := State.frames_cons hr
      show ({ U with heap := s₂.heap, slotsUsed := s₂.slotsUsed } : State) = { U.setFrames U.frames with heap := s₂.heap, slotsUsed := s₂.slotsUsed }
      rw [State.setFrames_self ht]
    subst hg
    refine Or.inl ⟨v, ⟨(({ U with heap := s₂.heap, slotsUsed := s₂.slotsUsed } : State).setVm s₂.vm), Ls ++ L, c0 + mc, s0 + ms⟩,
      ⟨X.admits, X.cas, X.clock, X.frames, X.room, X.hears, X.method, X.code, (X.here.setHeapUsed s₂.heap s₂.slotsUsed).setVm hW'.alike, X.tail, State.WarmedH.trans X.warmed hW', X.limits, X.bytes, X.same.trans (hsame.setVm s.vm)⟩,
      ⟨g, mk, s₂, L, rfl, rfl, hqc, rfl, hL, rfl, rfl⟩, ?_⟩
    show Steps p.tables e below _ ((({ U with heap := s₂.heap, slotsUsed := s₂.slotsUsed } : State).setVm s₂.vm).setTop { g with pc := g.pc + len₂, stack := v.toList ++ g.stack })
    rw [← hs₂]
    exact hsteps
  · obtain ⟨e2, q2, q3, q4, q5, q6⟩ := id hsm
    have e3 : s₂ = ({ (U.calling g mk a).setFrames s₂.frames with heap := s₂.heap, slotsUsed := s₂.slotsUsed } : State).setVm s₂.vm := by
      have : s₂ = ({ s₂ with vm := (U.calling g mk a).vm } : State).setVm s₂.vm := rfl
      rw [e2] at this
      exact this
    have hf₂ : s₂.frames = .throwing q :: .java g :: U.frames.tail := hend
    have hW' : U.WarmedH s₂.vm := hW₂
    have hs₂ : s₂ = ((({ U with heap := s₂.heap, slotsUsed := s₂.slotsUsed } : State).setVm s₂.vm).setTop g).pushFrame (.throwing q) := by
      refine e3.trans ?_
      rw [hf₂, State.calling_eq h.top, State.setFrames_setFrames, State.pushFrame, State.frames_setTop _ hr', State.setTop_of_frames _ hr', State.setFrames_setFrames, hr]
      rfl
    have hsame : U.sameButNew ({ U with heap := s₂.heap, slotsUsed := s₂.slotsUsed } : State) L mc ms := by
      refine ⟨?_, q2, q3, q4, q5, q6⟩
      obtain ⟨t, ht, -⟩ := State.frames_cons hr
      show ({ U with heap := s₂.heap, slotsUsed := s₂.slotsUsed } : State) = { U.setFrames U.frames with heap := s₂.heap, slotsUsed := s₂.slotsUsed }
      rw [State.setFrames_self ht]
    subst hg
    refine Or.inr ⟨q, ⟨(({ U with heap := s₂.heap, slotsUsed := s₂.slotsUsed } : State).setVm s₂.vm), Ls ++ L, c0 + mc, s0 + ms⟩,
      ⟨X.admits, X.cas, X.clock, X.frames, X.room, X.hears, X.method, X.code, (X.here.setHeapUsed s₂.heap s₂.slotsUsed).setVm hW'.alike, X.tail, State.WarmedH.trans X.warmed hW', X.limits, X.bytes, X.same.trans (hsame.setVm s.vm)⟩,
      ⟨g, mk, s₂, L, E, ce, rfl, rfl, hx, hce, hcv, hcl, rfl, hL, rfl, rfl⟩, ?_⟩
    show Steps p.tables e below _ (((({ U with heap := s₂.heap, slotsUsed := s₂.slotsUsed } : State).setVm s₂.vm).setTop g).pushFrame (.throwing q))
    rw [← hs₂]
    exact hsteps
end Payer
section Calls
variable {p : Program} {l : Launch} {e : Env} {R : Room} {s : State} {m : MethodId} {args : Array Value} {below : List Frame} {meth : Method} {c : Code} {T : State} {locs : List Loc} {cells slots : Nat}
theorem vx_callV (X : Stand p l e R s m args below meth c T locs cells slots) (hexec : p.tables.exec = Jvm.exec) {own C : String} {index : Nat} {y : MethodName} {bytes : ByteArray} {maxL : Nat} {ret : Option FieldType}
    (hown : s.vm.findClass own = some m.cls) (hlink : (Cond.methodLink own index y).before args s = true) (hinst : (Cond.instanceMethod y).before args s = true) (hsel : (Cond.selects C y y).before args s = true)
    (hcode : (Cond.code y bytes maxL ret).before args s = true) (hy : y.cls ≠ "java/lang/invoke/MethodHandle" ∧ y.cls ≠ "java/lang/invoke/VarHandle")
    {W9 : Nat} {Pre : Pt → Array Value → Prop} {Post : Pt → Array Value → Option Value → Pt → Prop} {PostX : Pt → Array Value → Addr → Pt → Prop} (hK : vx_Back l R p e below s args y 3 W9 Pre Post PostX)
    {b : Addr} {cellB : Cell} (hcell : T.heap[b]? = some cellB) (hobj : cellB.vm.isStatics = false) (hcls : s.vm.findClass C = some cellB.cls)
    {g : JFrame} (hg : g.method = m) (hsize : g.locals.size = c.maxLocals) {argsL rest : List Value} (hlen : ∀ sig, parseMethodDescriptor y.desc = some sig → argsL.length = sig.parameters.length)
    (hstack : g.stack = argsL.reverse ++ .ref b :: rest) (hW : 2 * g.monitorRoom + (rest.map fun v => v.category).sum ≤ W9) (hdg : decode c.code g.pc = .ok (.invokevirtual index, 3))
    (hpre : ∀ vm₁, s.WarmedH vm₁ → Pre ⟨T.setVm vm₁, locs, cells, slots⟩ (Value.ref b :: argsL).toArray) :
    (∃ (v : Option Value) (vm₁ : Vm) (B : Pt), s.WarmedH vm₁ ∧ Stand p l e R s m args below meth c B.U B.locs B.cells B.slots ∧ Post ⟨T.setVm vm₁, locs, cells, slots⟩ (Value.ref b :: argsL).toArray v B ∧
      ∀ target, Steps p.tables e below (B.U.setTop { g with pc := g.pc + 3, stack := v.toList ++ rest }) target → Steps p.tables e below (T.setTop g) target) ∨
    (∃ (q : Addr) (vm₁ : Vm) (B : Pt), s.WarmedH vm₁ ∧ Stand p l e R s m args below meth c B.U B.locs B.cells B.slots ∧ PostX ⟨T.setVm vm₁, locs, cells, slots⟩ (Value.ref b :: argsL).toArray q B ∧
      Steps p.tables e below (T.setTop g) ((B.U.setTop { g with stack := rest }).pushFrame (.throwing q))) := by
  obtain ⟨mk, methM, hnamed, hmethM, hstM, habM⟩ := Cond.instanceMethod_spec hinst
  obtain ⟨methM', cM, hmethM', -, -, -, -, -, -, hsigM⟩ := Cond.code_spec hnamed hcode
  cases hmethM.symm.trans hmethM'
  obtain ⟨c2, r2, m2, q1, q2, q3, q4, kP, hkP, hkPi⟩ := Cond.selects_spec hsel
  cases hcls.symm.trans q1
  cases (State.methodFound?_of_named hnamed hy).symm.trans q2
  cases hnamed.symm.trans q3
  have hselP : selectMethod e.platform s.vm cellB.cls mk = .method mk := by rw [Launch.admits_selectMethod X.admits]; exact q4
  obtain ⟨vm₁, X₁, hstep₁⟩ := X.invokevirtual hexec hown hlink hnamed hmethM hstM hkP hkPi hy (a := b) (cell := cellB) hcell
    (fun z h => by rw [h] at hobj; cases hobj) hselP hmethM habM hkP hkPi (g := g) hg (argsL := argsL) (rest := rest) (hlen _ hsigM) hstack hdg
  rcases hK m meth c ⟨T.setVm vm₁, locs, cells, slots⟩ { g with stack := rest } (.invokevirtual index) mk (Value.ref b :: argsL).toArray X₁ hg hsize hdg hW (X₁.named hnamed) (hpre vm₁ X₁.warmed) with ⟨v, B, X', hpost, hsteps⟩ | ⟨q, B, X', hpost, hsteps⟩
  · exact Or.inl ⟨v, vm₁, B, X₁.warmed, X', hpost, fun target h => hstep₁ _ fun acts => by rw [doInvoke_state]; exact hsteps.trans h⟩
  · exact Or.inr ⟨q, vm₁, B, X₁.warmed, X', hpost, hstep₁ _ fun acts => by rw [doInvoke_state]; exact hsteps⟩
theorem vx_callS (X : Stand p l e R s m args below meth c T locs cells slots) (hexec : p.tables.exec = Jvm.exec) {own : String} {index : Nat} {y : MethodName} {bytes : ByteArray} {maxL : Nat} {ret : Option FieldType}
    (hown : s.vm.findClass own = some m.cls) (hlink : (Cond.methodLink own index y).before args s = true) (hstat : (Cond.static y).before args s = true) (hinit : (Cond.initialized y.cls).before args s = true)
    (hcode : (Cond.code y bytes maxL ret).before args s = true) (hy : y.cls ≠ "java/lang/invoke/MethodHandle" ∧ y.cls ≠ "java/lang/invoke/VarHandle")
    {W9 : Nat} {Pre : Pt → Array Value → Prop} {Post : Pt → Array Value → Option Value → Pt → Prop} {PostX : Pt → Array Value → Addr → Pt → Prop} (hK : vx_Back l R p e below s args y 3 W9 Pre Post PostX)
    {g : JFrame} (hg : g.method = m) (hsize : g.locals.size = c.maxLocals) {argsL rest : List Value} (hlen : ∀ sig, parseMethodDescriptor y.desc = some sig → argsL.length = sig.parameters.length)
    (hstack : g.stack = argsL.reverse ++ rest) (hW : 2 * g.monitorRoom + (rest.map fun v => v.category).sum ≤ W9) (hdg : decode c.code g.pc = .ok (.invokestatic index, 3))
    (hpre : ∀ vm₁, s.WarmedH vm₁ → Pre ⟨T.setVm vm₁, locs, cells, slots⟩ argsL.toArray) :
    (∃ (v : Option Value) (vm₁ : Vm) (B : Pt), s.WarmedH vm₁ ∧ Stand p l e R s m args below meth c B.U B.locs B.cells B.slots ∧ Post ⟨T.setVm vm₁, locs, cells, slots⟩ argsL.toArray v B ∧
      ∀ target, Steps p.tables e below (B.U.setTop { g with pc := g.pc + 3, stack := v.toList ++ rest }) target → Steps p.tables e below (T.setTop g) target) ∨
    (∃ (q : Addr) (vm₁ : Vm) (B : Pt), s.WarmedH vm₁ ∧ Stand p l e R s m args below meth c B.U B.locs B.cells B.slots ∧ PostX ⟨T.setVm vm₁, locs, cells, slots⟩ argsL.toArray q B ∧
      Steps p.tables e below (T.setTop g) ((B.U.setTop { g with stack := rest }).pushFrame (.throwing q))) := by
  obtain ⟨mk, hnamed⟩ := Cond.code_named hcode
  obtain ⟨methM, cM, hmethM, -, -, -, -, -, -, hsigM⟩ := Cond.code_spec hnamed hcode
  have hstatic : methM.isStatic = true := Cond.static_spec hnamed hmethM hstat
  obtain ⟨kP, hkP, -⟩ := className_of_methodNamed hnamed
  have hinitP : kP.init = .initialized := Cond.initialized_spec (findClass_of_methodNamed hnamed) hkP hinit
  obtain ⟨vm₁, X₁, hstep₁⟩ := X.invokestatic hexec hown hlink hnamed hmethM hstatic hkP hinitP hy (g := g) hg (argsL := argsL) (rest := rest) (hlen _ hsigM) hstack hdg
  rcases hK m meth c ⟨T.setVm vm₁, locs, cells, slots⟩ { g with stack := rest } (.invokestatic index) mk argsL.toArray X₁ hg hsize hdg hW (X₁.named hnamed) (hpre vm₁ X₁.warmed) with ⟨v, B, X', hpost, hsteps⟩ | ⟨q, B, X', hpost, hsteps⟩
  · exact Or.inl ⟨v, vm₁, B, X₁.warmed, X', hpost, fun target h => hstep₁ _ fun acts => by rw [doInvoke_state]; exact hsteps.trans h⟩
  · exact Or.inr ⟨q, vm₁, B, X₁.warmed, X', hpost, hstep₁ _ fun acts => by rw [doInvoke_state]; exact hsteps⟩
end Calls
theorem vx_cls {s : State} {T : State} {vm₁ : Vm} {E : String} {k : ClassId} (hW : s.WarmedH vm₁) (h : (T.setVm vm₁).vm.findClass E = some k) : s.vm.findClass E = some k := by
  have h1 : vm₁.findClass E = some k := h
  rw [hW.alike.findClass] at h1
  exact h1
/-- the method's frame g, with q thrown over it -/
def vx_W (p : Program) (l : Launch) (e : Env) (R : Room) (s : State) (m : MethodId) (args : Array Value) (below : List Frame) (meth : Method) (c : Code) (H : Heap) (locs : List Loc) (cells slots : Nat) (Q : State → Prop) (g : JFrame) (q : Addr) : Prop :=
  ∀ T : State, T.heap = H → Stand p l e R s m args below meth c T locs cells slots → ∃ t, Steps p.tables e below ((T.setTop g).pushFrame (.throwing q)) t ∧ Q t
def vx_Run (p : Program) (l : Launch) (e : Env) (R : Room) (s : State) (m : MethodId) (args : Array Value) (below : List Frame) (meth : Method) (c : Code) (H : Heap) (locs : List Loc) (cells slots mc ms : Nat) (g : JFrame) (rest : List Value) (Qa : State → Outcome → State → Prop) (XC : String → State → State → Prop) (free : Addr → Prop) : Prop :=
  ∀ T : State, T.heap = H → Stand p l e R s m args below meth c T locs cells slots →
    (∃ (v : Option Value) (st₀ t T' : State) (L : List Loc), st₀.heap = H ∧ Stand p l e R s m args below meth c T' (locs ++ L) (cells + mc) (slots + ms) ∧ (∀ q ∈ L, free q.base) ∧ T'.heap = t.heap ∧ T'.vm = t.vm ∧ Qa st₀ (.returned v) t ∧
      Goes p e below T g T' { g with pc := g.pc + 3, stack := v.toList ++ rest }) ∨
    (∃ (q : Addr) (st₀ t T' : State) (L : List Loc) (E : String) (ce : Cell), st₀.heap = H ∧ Stand p l e R s m args below meth c T' (locs ++ L) (cells + mc) (slots + ms) ∧ (∀ z ∈ L, free z.base) ∧ T'.heap = t.heap ∧ T'.vm = t.vm ∧ XC E st₀ t ∧ t.heap[q]? = some ce ∧ ce.vm = .none ∧ s.vm.findClass E = some ce.cls ∧
      Steps p.tables e below (T.setTop g) ((T'.setTop { g with stack := rest }).pushFrame (.throwing q)))
def vx_X {S : Type} (px : S → Prop) (B : String → S → State → Prop) (A : Nat → Prop) : String → State → State → Prop := fun E st t => ∃ u : S, px u ∧ B E u t ∧ va_F A st t
section Runs
variable {p : Program} {l : Launch} {e : Env} {R : Room} {s : State} {m : MethodId} {args : Array Value} {below : List Frame} {meth : Method} {c : Code} {H : Heap} {locs : List Loc} {cells slots : Nat}
variable {y : MethodName} {bytes cc : ByteArray} {maxL nL mc ms n index : Nat} {ret : Option FieldType} {ws : List Cond} {rm : Room} {Pc : Array Value → State → Prop} {Qc : Array Value → State → Outcome → State → Prop} {XC : String → State → State → Prop} {free : Addr → Prop} {Ts : List Cond} {own C : String} {b : Addr} {As rest : List Value} {g : JFrame}
theorem vx_callBack (cb : CallB R s args own index y bytes maxL ret ws rm mc ms n) (hM : vx_Met l y ws rm Pc Qc XC mc ms free) (hbl : FrameBlind Pc) : vx_Back l R p e below s args y 3 8 (PreOf R mc ms Pc) (PostOf Qc mc ms free) (vx_Post XC mc ms free) := by
  obtain ⟨hrc, hrs, hfr, hlo, hws, hcw, -, hini, -⟩ := cb
  exact vx_back (bytes := bytes) (maxL := maxL) (ret := ret) hM hbl hrc hrs hfr hlo hws hcw (fun a' U hW => word_at hW (Or.inl (by first | rfl | simp [Cond.onTables, Cond.keeps, Cond.steady])) hini)
theorem vx_runV (S : CallFix p m c cc nL s args Ts own) (hM : vx_Met l y ws rm Pc Qc XC mc ms free) (cw : CallW R s args own C index y bytes maxL ret ws rm mc ms n) (hp : PreV s H C b Pc As)
    (hg : g.method = m) (hn : As.length = n) (hsize : g.locals.size = nL) (hstack : g.stack = As.reverse ++ .ref b :: rest) (hW : 2 * g.monitorRoom + (rest.map fun v => v.category).sum ≤ 8) (hdg : decode cc g.pc = .ok (.invokevirtual index, 3)) (hf : cells + mc ≤ R.cells ∧ slots + ms ≤ R.slots) :
    vx_Run p l e R s m args below meth c H locs cells slots mc ms g rest (Qc (Value.ref b :: As).toArray) XC free := by
  have hK : vx_Back l R p e below s args y 3 8 (PreOf R mc ms Pc) (PostOf Qc mc ms free) (vx_Post XC mc ms free) := vx_callBack cw.1 hM hp.1
  obtain ⟨⟨-, -, -, -, -, -, hcode, -, hy, hlen, hl⟩, hin, hse⟩ := cw
  obtain ⟨hx, hb, hml, ho, -⟩ := S
  obtain ⟨-, ⟨cellB, hcB, hoB, hclB⟩, hPc⟩ := hp
  intro T hT X
  rcases vx_callV X hx (C := C) (bytes := bytes) (maxL := maxL) (ret := ret) ho hl hin hse hcode hy hK (by rw [hT]; exact hcB) hoB hclB hg (hsize.trans hml.symm) (argsL := As) (rest := rest) (fun sig h => hn.trans (hlen sig h)) hstack hW (by rw [hb]; exact hdg)
    (fun vm₁ hW₁ => ⟨hf.1, hf.2, hPc (T.setVm vm₁) hT hW₁⟩) with ⟨v, vm₁, ⟨U', l2, c2, s2⟩, hW₁, X', ⟨g', mk, t, L, e1, e2, hq, h1, hL, h2, h3⟩, st⟩ | ⟨q, vm₁, ⟨U', l2, c2, s2⟩, hW₁, X', ⟨g', mk, t, L, E, ce, e1, e2, hq, hce, hcv, hcl, h1, hL, h2, h3⟩, st⟩
  · dsimp only [Pt.U, Pt.locs, Pt.cells, Pt.slots] at X' e1 e2 h1 h2 h3 st
    subst h1; subst h2; subst h3
    exact Or.inl ⟨v, (T.setVm vm₁).calling g' mk (Value.ref b :: As).toArray, t, U', L, hT, X', hL, e1, e2, hq, st⟩
  · dsimp only [Pt.U, Pt.locs, Pt.cells, Pt.slots] at X' e1 e2 h1 h2 h3 st hcl
    subst h1; subst h2; subst h3
    exact Or.inr ⟨q, (T.setVm vm₁).calling g' mk (Value.ref b :: As).toArray, t, U', L, E, ce, hT, X', hL, e1, e2, hq, hce, hcv, vx_cls hW₁ hcl, st⟩
theorem vx_runS (S : CallFix p m c cc nL s args Ts own) (hM : vx_Met l y ws rm Pc Qc XC mc ms free) (cw : CallB R s args own index y bytes maxL ret ws rm mc ms n ∧ (Cond.static y).before args s = true) (hp : PreS s H Pc As)
    (hg : g.method = m) (hn : As.length = n) (hsize : g.locals.size = nL) (hstack : g.stack = As.reverse ++ rest) (hW : 2 * g.monitorRoom + (rest.map fun v => v.category).sum ≤ 8) (hdg : decode cc g.pc = .ok (.invokestatic index, 3)) (hf : cells + mc ≤ R.cells ∧ slots + ms ≤ R.slots) :
    vx_Run p l e R s m args below meth c H locs cells slots mc ms g rest (Qc As.toArray) XC free := by
  have hK : vx_Back l R p e below s args y 3 8 (PreOf R mc ms Pc) (PostOf Qc mc ms free) (vx_Post XC mc ms free) := vx_callBack cw.1 hM hp.1
  obtain ⟨⟨-, -, -, -, -, -, hcode, hini, hy, hlen, hl⟩, hstt⟩ := cw
  obtain ⟨hx, hb, hml, ho, -⟩ := S
  intro T hT X
  rcases vx_callS X hx (bytes := bytes) (maxL := maxL) (ret := ret) ho hl hstt hini hcode hy hK hg (hsize.trans hml.symm) (argsL := As) (rest := rest) (fun sig h => hn.trans (hlen sig h)) hstack hW (by rw [hb]; exact hdg)
    (fun vm₁ hW₁ => ⟨hf.1, hf.2, hp.2 (T.setVm vm₁) hT hW₁⟩) with ⟨v, vm₁, ⟨U', l2, c2, s2⟩, hW₁, X', ⟨g', mk, t, L, e1, e2, hq, h1, hL, h2, h3⟩, st⟩ | ⟨q, vm₁, ⟨U', l2, c2, s2⟩, hW₁, X', ⟨g', mk, t, L, E, ce, e1, e2, hq, hce, hcv, hcl, h1, hL, h2, h3⟩, st⟩
  · dsimp only [Pt.U, Pt.locs, Pt.cells, Pt.slots] at X' e1 e2 h1 h2 h3 st
    subst h1; subst h2; subst h3
    exact Or.inl ⟨v, (T.setVm vm₁).calling g' mk As.toArray, t, U', L, hT, X', hL, e1, e2, hq, st⟩
  · dsimp only [Pt.U, Pt.locs, Pt.cells, Pt.slots] at X' e1 e2 h1 h2 h3 st hcl
    subst h1; subst h2; subst h3
    exact Or.inr ⟨q, (T.setVm vm₁).calling g' mk As.toArray, t, U', L, E, ce, hT, X', hL, e1, e2, hq, hce, hcv, vx_cls hW₁ hcl, st⟩
end Runs
section Rows
variable {p : Program} {l : Launch} {e : Env} {R : Room} {s : State} {m : MethodId} {args : Array Value} {below : List Frame} {meth : Method} {c : Code} {H : Heap} {locs : List Loc} {cells slots : Nat} {Q : State → Prop}
variable {mc ms : Nat} {free : Addr → Prop} {A0 A1 : Nat → Prop} {H0 : Heap} {a : Array Value} {pc : Nat} {ls : Array Slot} {st0 rest : List Value}
theorem vx_keep {st₀ t T' : State} {L : List Loc} (h0 : st₀.heap = H) (e1 : T'.heap = t.heap) (hS : va_S A0 H0 H locs) (hA : ∀ q, q < H.size → A1 q → A0 q) (hf : ∀ q, free q → A0 q) (hL : ∀ q ∈ L, free q.base) (hF : va_F A1 st₀ t) :
    H.size ≤ T'.heap.size ∧ (∀ q : Nat, q < H.size → ¬ A1 q → T'.heap[q]? = H[q]?) ∧ va_S A0 H0 T'.heap (locs ++ L) := by
  obtain ⟨hz, hk⟩ := hF
  rw [h0] at hz hk
  exact ⟨by rw [e1]; exact hz, fun q h1 h2 => by rw [e1]; exact hk q h1 h2,
    ⟨Nat.le_trans hS.1 (by rw [e1]; exact hz), fun q h1 h2 => by rw [e1, hk q (Nat.lt_of_lt_of_le h1 hS.1) (fun z => h2 (hA q (Nat.lt_of_lt_of_le h1 hS.1) z))]; exact hS.2.1 q h1 h2, fun q hq => by
      rcases List.mem_append.mp hq with h | h
      · exact hS.2.2 q h
      · exact hf _ (hL q h)⟩⟩
theorem vx_calli {S SX : Type} {post : Int32 → S → Prop} {px : SX → Prop} {B : S → State → Prop} {BX : String → SX → State → Prop} {AX : Nat → Prop} (hr : vx_Run p l e R s m args below meth c H locs cells slots mc ms (F0 m pc ls st0) rest (va_Qi post B A1 a) (vx_X px BX AX) free) (hS : va_S A0 H0 H locs) (hA : ∀ q, q < H.size → A1 q → A0 q) (hf : ∀ q, free q → A0 q) (hAX : ∀ q, q < H.size → AX q → A0 q)
    (kx : ∀ (E : String) (ce : Cell) (q9 : Addr) (u : SX) (t : State) (H1 : Heap) (locs1 : List Loc), t.heap = H1 → s.vm.Alike t.vm → px u → BX E u t → H.size ≤ H1.size → (∀ q : Nat, q < H.size → ¬ AX q → H1[q]? = H[q]?) → va_S A0 H0 H1 locs1 → H1[q9]? = some ce → ce.vm = .none → s.vm.findClass E = some ce.cls → vx_W p l e R s m args below meth c H1 locs1 (cells + mc) (slots + ms) Q (F0 m pc ls rest) q9)
    (kk : ∀ (r : Int32) (u : S) (t : State) (H1 : Heap) (locs1 : List Loc), t.heap = H1 → s.vm.Alike t.vm → post r u → B u t → H.size ≤ H1.size → (∀ q : Nat, q < H.size → ¬ A1 q → H1[q]? = H[q]?) → va_S A0 H0 H1 locs1 → W p l e R s m args below meth c H1 locs1 (cells + mc) (slots + ms) Q (F0 m (pc + 3) ls (.int r :: rest))) : W p l e R s m args below meth c H locs cells slots Q (F0 m pc ls st0) := by
  intro T hT X
  rcases hr T hT X with ⟨v, st₀, t, T', L, h0, X', hL, e1, e2, ⟨⟨r, u, hv, hp, hb⟩, hF⟩, st⟩ | ⟨q, st₀, t, T', L, E, ce, h0, X', hL, e1, e2, ⟨u, hp, hb, hF⟩, hce, hcv, hcl, st⟩
  · cases hv
    obtain ⟨k1, k2, k3⟩ := vx_keep h0 e1 hS hA hf hL hF
    obtain ⟨t2, a1, b1⟩ := kk r u t T'.heap (locs ++ L) e1.symm (by rw [← e2]; exact X'.warmed.alike) hp hb k1 k2 k3 T' rfl X'
    exact ⟨t2, st t2 a1, b1⟩
  · obtain ⟨k1, k2, k3⟩ := vx_keep h0 e1 hS hAX hf hL hF
    obtain ⟨t2, a1, b1⟩ := kx E ce q u t T'.heap (locs ++ L) e1.symm (by rw [← e2]; exact X'.warmed.alike) hp hb k1 k2 k3 (by rw [e1]; exact hce) hcv hcl T' rfl X'
    exact ⟨t2, st.trans a1, b1⟩
theorem vx_calll {S SX : Type} {post : Int64 → S → Prop} {px : SX → Prop} {B : S → State → Prop} {BX : String → SX → State → Prop} {AX : Nat → Prop} (hr : vx_Run p l e R s m args below meth c H locs cells slots mc ms (F0 m pc ls st0) rest (va_Ql post B A1 a) (vx_X px BX AX) free) (hS : va_S A0 H0 H locs) (hA : ∀ q, q < H.size → A1 q → A0 q) (hf : ∀ q, free q → A0 q) (hAX : ∀ q, q < H.size → AX q → A0 q)
    (kx : ∀ (E : String) (ce : Cell) (q9 : Addr) (u : SX) (t : State) (H1 : Heap) (locs1 : List Loc), t.heap = H1 → s.vm.Alike t.vm → px u → BX E u t → H.size ≤ H1.size → (∀ q : Nat, q < H.size → ¬ AX q → H1[q]? = H[q]?) → va_S A0 H0 H1 locs1 → H1[q9]? = some ce → ce.vm = .none → s.vm.findClass E = some ce.cls → vx_W p l e R s m args below meth c H1 locs1 (cells + mc) (slots + ms) Q (F0 m pc ls rest) q9)
    (kk : ∀ (r : Int64) (u : S) (t : State) (H1 : Heap) (locs1 : List Loc), t.heap = H1 → s.vm.Alike t.vm → post r u → B u t → H.size ≤ H1.size → (∀ q : Nat, q < H.size → ¬ A1 q → H1[q]? = H[q]?) → va_S A0 H0 H1 locs1 → W p l e R s m args below meth c H1 locs1 (cells + mc) (slots + ms) Q (F0 m (pc + 3) ls (.long r :: rest))) : W p l e R s m args below meth c H locs cells slots Q (F0 m pc ls st0) := by
  intro T hT X
  rcases hr T hT X with ⟨v, st₀, t, T', L, h0, X', hL, e1, e2, ⟨⟨r, u, hv, hp, hb⟩, hF⟩, st⟩ | ⟨q, st₀, t, T', L, E, ce, h0, X', hL, e1, e2, ⟨u, hp, hb, hF⟩, hce, hcv, hcl, st⟩
  · cases hv
    obtain ⟨k1, k2, k3⟩ := vx_keep h0 e1 hS hA hf hL hF
    obtain ⟨t2, a1, b1⟩ := kk r u t T'.heap (locs ++ L) e1.symm (by rw [← e2]; exact X'.warmed.alike) hp hb k1 k2 k3 T' rfl X'
    exact ⟨t2, st t2 a1, b1⟩
  · obtain ⟨k1, k2, k3⟩ := vx_keep h0 e1 hS hAX hf hL hF
    obtain ⟨t2, a1, b1⟩ := kx E ce q u t T'.heap (locs ++ L) e1.symm (by rw [← e2]; exact X'.warmed.alike) hp hb k1 k2 k3 (by rw [e1]; exact hce) hcv hcl T' rfl X'
    exact ⟨t2, st.trans a1, b1⟩
theorem vx_callf {S SX : Type} {post : UInt32 → S → Prop} {px : SX → Prop} {B : S → State → Prop} {BX : String → SX → State → Prop} {AX : Nat → Prop} (hr : vx_Run p l e R s m args below meth c H locs cells slots mc ms (F0 m pc ls st0) rest (va_Qf post B A1 a) (vx_X px BX AX) free) (hS : va_S A0 H0 H locs) (hA : ∀ q, q < H.size → A1 q → A0 q) (hf : ∀ q, free q → A0 q) (hAX : ∀ q, q < H.size → AX q → A0 q)
    (kx : ∀ (E : String) (ce : Cell) (q9 : Addr) (u : SX) (t : State) (H1 : Heap) (locs1 : List Loc), t.heap = H1 → s.vm.Alike t.vm → px u → BX E u t → H.size ≤ H1.size → (∀ q : Nat, q < H.size → ¬ AX q → H1[q]? = H[q]?) → va_S A0 H0 H1 locs1 → H1[q9]? = some ce → ce.vm = .none → s.vm.findClass E = some ce.cls → vx_W p l e R s m args below meth c H1 locs1 (cells + mc) (slots + ms) Q (F0 m pc ls rest) q9)
    (kk : ∀ (r : UInt32) (u : S) (t : State) (H1 : Heap) (locs1 : List Loc), t.heap = H1 → s.vm.Alike t.vm → post r u → B u t → H.size ≤ H1.size → (∀ q : Nat, q < H.size → ¬ A1 q → H1[q]? = H[q]?) → va_S A0 H0 H1 locs1 → W p l e R s m args below meth c H1 locs1 (cells + mc) (slots + ms) Q (F0 m (pc + 3) ls (.float r :: rest))) : W p l e R s m args below meth c H locs cells slots Q (F0 m pc ls st0) := by
  intro T hT X
  rcases hr T hT X with ⟨v, st₀, t, T', L, h0, X', hL, e1, e2, ⟨⟨r, u, hv, hp, hb⟩, hF⟩, st⟩ | ⟨q, st₀, t, T', L, E, ce, h0, X', hL, e1, e2, ⟨u, hp, hb, hF⟩, hce, hcv, hcl, st⟩
  · cases hv
    obtain ⟨k1, k2, k3⟩ := vx_keep h0 e1 hS hA hf hL hF
    obtain ⟨t2, a1, b1⟩ := kk r u t T'.heap (locs ++ L) e1.symm (by rw [← e2]; exact X'.warmed.alike) hp hb k1 k2 k3 T' rfl X'
    exact ⟨t2, st t2 a1, b1⟩
  · obtain ⟨k1, k2, k3⟩ := vx_keep h0 e1 hS hAX hf hL hF
    obtain ⟨t2, a1, b1⟩ := kx E ce q u t T'.heap (locs ++ L) e1.symm (by rw [← e2]; exact X'.warmed.alike) hp hb k1 k2 k3 (by rw [e1]; exact hce) hcv hcl T' rfl X'
    exact ⟨t2, st.trans a1, b1⟩
theorem vx_calld {S SX : Type} {post : UInt64 → S → Prop} {px : SX → Prop} {B : S → State → Prop} {BX : String → SX → State → Prop} {AX : Nat → Prop} (hr : vx_Run p l e R s m args below meth c H locs cells slots mc ms (F0 m pc ls st0) rest (va_Qd post B A1 a) (vx_X px BX AX) free) (hS : va_S A0 H0 H locs) (hA : ∀ q, q < H.size → A1 q → A0 q) (hf : ∀ q, free q → A0 q) (hAX : ∀ q, q < H.size → AX q → A0 q)
    (kx : ∀ (E : String) (ce : Cell) (q9 : Addr) (u : SX) (t : State) (H1 : Heap) (locs1 : List Loc), t.heap = H1 → s.vm.Alike t.vm → px u → BX E u t → H.size ≤ H1.size → (∀ q : Nat, q < H.size → ¬ AX q → H1[q]? = H[q]?) → va_S A0 H0 H1 locs1 → H1[q9]? = some ce → ce.vm = .none → s.vm.findClass E = some ce.cls → vx_W p l e R s m args below meth c H1 locs1 (cells + mc) (slots + ms) Q (F0 m pc ls rest) q9)
    (kk : ∀ (r : UInt64) (u : S) (t : State) (H1 : Heap) (locs1 : List Loc), t.heap = H1 → s.vm.Alike t.vm → post r u → B u t → H.size ≤ H1.size → (∀ q : Nat, q < H.size → ¬ A1 q → H1[q]? = H[q]?) → va_S A0 H0 H1 locs1 → W p l e R s m args below meth c H1 locs1 (cells + mc) (slots + ms) Q (F0 m (pc + 3) ls (.double r :: rest))) : W p l e R s m args below meth c H locs cells slots Q (F0 m pc ls st0) := by
  intro T hT X
  rcases hr T hT X with ⟨v, st₀, t, T', L, h0, X', hL, e1, e2, ⟨⟨r, u, hv, hp, hb⟩, hF⟩, st⟩ | ⟨q, st₀, t, T', L, E, ce, h0, X', hL, e1, e2, ⟨u, hp, hb, hF⟩, hce, hcv, hcl, st⟩
  · cases hv
    obtain ⟨k1, k2, k3⟩ := vx_keep h0 e1 hS hA hf hL hF
    obtain ⟨t2, a1, b1⟩ := kk r u t T'.heap (locs ++ L) e1.symm (by rw [← e2]; exact X'.warmed.alike) hp hb k1 k2 k3 T' rfl X'
    exact ⟨t2, st t2 a1, b1⟩
  · obtain ⟨k1, k2, k3⟩ := vx_keep h0 e1 hS hAX hf hL hF
    obtain ⟨t2, a1, b1⟩ := kx E ce q u t T'.heap (locs ++ L) e1.symm (by rw [← e2]; exact X'.warmed.alike) hp hb k1 k2 k3 (by rw [e1]; exact hce) hcv hcl T' rfl X'
    exact ⟨t2, st.trans a1, b1⟩
theorem vx_callv {S SX : Type} {post : S → Prop} {px : SX → Prop} {B : S → State → Prop} {BX : String → SX → State → Prop} {AX : Nat → Prop} (hr : vx_Run p l e R s m args below meth c H locs cells slots mc ms (F0 m pc ls st0) rest (va_Qv post B A1 a) (vx_X px BX AX) free) (hS : va_S A0 H0 H locs) (hA : ∀ q, q < H.size → A1 q → A0 q) (hf : ∀ q, free q → A0 q) (hAX : ∀ q, q < H.size → AX q → A0 q)
    (kx : ∀ (E : String) (ce : Cell) (q9 : Addr) (u : SX) (t : State) (H1 : Heap) (locs1 : List Loc), t.heap = H1 → s.vm.Alike t.vm → px u → BX E u t → H.size ≤ H1.size → (∀ q : Nat, q < H.size → ¬ AX q → H1[q]? = H[q]?) → va_S A0 H0 H1 locs1 → H1[q9]? = some ce → ce.vm = .none → s.vm.findClass E = some ce.cls → vx_W p l e R s m args below meth c H1 locs1 (cells + mc) (slots + ms) Q (F0 m pc ls rest) q9)
    (kk : ∀ (u : S) (t : State) (H1 : Heap) (locs1 : List Loc), t.heap = H1 → s.vm.Alike t.vm → post u → B u t → H.size ≤ H1.size → (∀ q : Nat, q < H.size → ¬ A1 q → H1[q]? = H[q]?) → va_S A0 H0 H1 locs1 → W p l e R s m args below meth c H1 locs1 (cells + mc) (slots + ms) Q (F0 m (pc + 3) ls (rest))) : W p l e R s m args below meth c H locs cells slots Q (F0 m pc ls st0) := by
  intro T hT X
  rcases hr T hT X with ⟨v, st₀, t, T', L, h0, X', hL, e1, e2, ⟨⟨u, hv, hp, hb⟩, hF⟩, st⟩ | ⟨q, st₀, t, T', L, E, ce, h0, X', hL, e1, e2, ⟨u, hp, hb, hF⟩, hce, hcv, hcl, st⟩
  · cases hv
    obtain ⟨k1, k2, k3⟩ := vx_keep h0 e1 hS hA hf hL hF
    obtain ⟨t2, a1, b1⟩ := kk u t T'.heap (locs ++ L) e1.symm (by rw [← e2]; exact X'.warmed.alike) hp hb k1 k2 k3 T' rfl X'
    exact ⟨t2, st t2 a1, b1⟩
  · obtain ⟨k1, k2, k3⟩ := vx_keep h0 e1 hS hAX hf hL hF
    obtain ⟨t2, a1, b1⟩ := kx E ce q u t T'.heap (locs ++ L) e1.symm (by rw [← e2]; exact X'.warmed.alike) hp hb k1 k2 k3 (by rw [e1]; exact hce) hcv hcl T' rfl X'
    exact ⟨t2, st.trans a1, b1⟩
end Rows
section Ends
variable {p : Program} {l : Launch} {e : Env} {R : Room} {s : State} {m : MethodId} {args : Array Value} {below : List Frame} {meth : Method} {c : Code} {H : Heap} {locs : List Loc} {cells slots : Nat} {Q : State → Prop}
variable {mc ms : Nat} {free : Addr → Prop} {A0 A1 : Nat → Prop} {H0 : Heap} {a : Array Value} {ls : Array Slot} {st0 rest : List Value}
variable {Qc : Array Value → State → Outcome → State → Prop} {XC : String → State → State → Prop}
/-- what a body that may throw owes at its end -/
def vx_MQ (below : List Frame) (Qc : Array Value → State → Outcome → State → Prop) (XC : String → State → State → Prop) (a : Array Value) (s : State) (mc ms : Nat) (free : Addr → Prop) : State → Prop := fun t =>
  ∃ o, t.status = .running ∧ Ended t below o ∧ vx_Q Qc XC mc ms free a s o t
theorem vx_ret {g : JFrame} {mc ms : Nat} (k : W p l e R s m args below meth c H locs cells slots (MQ below Qc args s mc ms free) g) : W p l e R s m args below meth c H locs cells slots (vx_MQ below Qc XC args s mc ms free) g := by
  intro T hT X
  obtain ⟨t, a1, o, b1, b2, b3, b4⟩ := k T hT X
  exact ⟨t, a1, o, b1, b2, Or.inl ⟨b3, b4⟩⟩
/-- not caught here: it goes on to the caller -/
theorem vx_widen {g : JFrame} {q : Addr} {k n : Nat} (h1 : cells ≤ k) (h2 : slots ≤ n) (kk : vx_W p l e R s m args below meth c H locs k n Q g q) : vx_W p l e R s m args below meth c H locs cells slots Q g q := fun T hT X => kk T hT (stand_widen X h1 h2)
theorem vx_out {pc : Nat} {E : String} {ce : Cell} {q : Addr} {mc ms : Nat} (hout : ∀ x ∈ c.exceptionTable.toList, covers x pc = false) (hlocks : meth.locks = false) (hcell : H[q]? = some ce) (hv : ce.vm = .none) (hcl : s.vm.findClass E = some ce.cls)
    (hx : ∀ t : State, t.heap = H → s.vm.Alike t.vm → XC E s t) (hf : ∀ z ∈ locs, free z.base) (hc : cells ≤ mc) (hs : slots ≤ ms) :
    vx_W p l e R s m args below meth c H locs cells slots (vx_MQ below Qc XC args s mc ms free) (F0 m pc ls rest) q := by
  intro T hT X
  obtain ⟨st1, hrun, hend, hW, hsm⟩ := X.leaveThrown q (g := F0 m pc ls rest) rfl rfl rfl hout hlocks
  have hcell9 : (T.setFrames (.throwing q :: below)).heap[q]? = some ce := by
    show T.heap[q]? = some ce
    rw [hT]; exact hcell
  exact ⟨_, st1, .threw q, hrun, hend, Or.inr ⟨q, rfl, E, ce, locs, hx _ hT hW.alike, hcell9, hv, hcl, hW, hsm.mono hc hs, hf⟩⟩
theorem vx_frame {U : State} {k n : Nat} (h : s.sameButNew ({ U with vm := s.vm } : State) locs k n) : s.heap.size ≤ U.heap.size ∧ ∀ q : Nat, q < s.heap.size → (∀ z ∈ locs, z.base ≠ q) → U.heap[q]? = s.heap[q]? := by
  obtain ⟨-, h2, -, -, -, h6⟩ := h
  refine ⟨h2, fun q hq hz => ?_⟩
  obtain ⟨c9, e1, e2, e3, e4⟩ := h6 q _ (Array.getElem?_eq_getElem hq)
  have hs : c9.slots = (s.heap[q]).slots := Array.ext_getElem? fun i => e4 i fun hm => hz _ hm rfl
  have h9 : c9 = s.heap[q] := by
    rw [hs] at e2
    exact e2
  have e5 : U.heap[q]? = some c9 := e1
  rw [e5, h9, Array.getElem?_eq_getElem hq]
/-- the words of a throw but the four that speak of the heap -/
def vx_no (w : Cond) : Bool := decide (w ≠ .isRef (.static Bundle.tN "UNASSIGNED_STACK" Bundle.steD)) && decide (w ≠ .isRef (.static Bundle.tN "SUPPRESSED_SENTINEL" Bundle.listD)) && decide (w ≠ .laysStatic Bundle.tN "UNASSIGNED_STACK" Bundle.steD) && decide (w ≠ .laysStatic Bundle.tN "SUPPRESSED_SENTINEL" Bundle.listD)
def vx_at0 (own : String) (ic : Nat) (X : String) (names : List String) : List Cond := (Bundle.ownAtoms0 own ic X names).filter vx_no
def vx_atS (own : String) (ic : Nat) (X : String) (names : List String) : List Cond := (Bundle.ownAtoms own ic X names).filter vx_no
/-- a word that the tables alone decide, or a good one -/
def vx_ot (w : Cond) : Bool := w.onTables || goodWord w
theorem vx_ot_at {args a' : Array Value} {s U : State} {w : Cond} (hW : s.WarmedH U.vm) (hvm : s.vm = U.vm) (hg : vx_ot w = true) (h : w.before args s = true) : w.before a' U = true := by
  simp only [vx_ot, Bool.or_eq_true] at hg
  rcases hg with hg | hg
  · exact va_tabs hg hvm h
  · exact word_at hW (good_of_word hg) h
/-- a list's words: the good ones out of the method's own list, the others by premises of their own -/
theorem vx_hat {args : Array Value} {s : State} {L B : List Cond} (h1 : ∀ w ∈ L.filter goodWord, w.before args s = true) (h2 : ∀ w ∈ L.filter (fun w => !goodWord w), w ∈ B) (h3 : ∀ w ∈ B, w.before args s = true) : ∀ w ∈ L, w.before args s = true := by
  intro w hw
  by_cases g : goodWord w = true
  · exact h1 w (List.mem_filter.mpr ⟨hw, g⟩)
  · refine h3 w (h2 w (List.mem_filter.mpr ⟨hw, ?_⟩))
    show (!goodWord w) = true
    cases hgw : goodWord w
    · rfl
    · exact absurd hgw g
theorem vx_c {args : Array Value} {s : State} {w : Cond} {B : List Cond} (h : w.before args s = true) (t : ∀ w ∈ B, w.before args s = true) : ∀ w' ∈ w :: B, w'.before args s = true := fun w' h' => (List.mem_cons.mp h').elim (fun e => by rw [e]; exact h) (t w')
theorem vx_n {args : Array Value} {s : State} : ∀ w ∈ ([] : List Cond), w.before args s = true := fun _ h => nomatch h
theorem vx_own {args : Array Value} {s : State} {L : List Cond} (h1 : ∀ w ∈ L.filter vx_no, w.before args s = true)
    (hU : (Cond.isRef (.static Bundle.tN "UNASSIGNED_STACK" Bundle.steD)).before args s = true) (hN : (Cond.isRef (.static Bundle.tN "SUPPRESSED_SENTINEL" Bundle.listD)).before args s = true)
    (lU : (Cond.laysStatic Bundle.tN "UNASSIGNED_STACK" Bundle.steD).before args s = true) (lN : (Cond.laysStatic Bundle.tN "SUPPRESSED_SENTINEL" Bundle.listD).before args s = true) : ∀ w ∈ L, w.before args s = true := by
  intro w hw
  by_cases e1 : w = .isRef (.static Bundle.tN "UNASSIGNED_STACK" Bundle.steD)
  · rw [e1]; exact hU
  · by_cases e2 : w = .isRef (.static Bundle.tN "SUPPRESSED_SENTINEL" Bundle.listD)
    · rw [e2]; exact hN
    · by_cases e3 : w = .laysStatic Bundle.tN "UNASSIGNED_STACK" Bundle.steD
      · rw [e3]; exact lU
      · by_cases e4 : w = .laysStatic Bundle.tN "SUPPRESSED_SENTINEL" Bundle.listD
        · rw [e4]; exact lN
        · exact h1 w (List.mem_filter.mpr ⟨hw, by unfold vx_no; rw [decide_eq_true e1, decide_eq_true e2, decide_eq_true e3, decide_eq_true e4]; rfl⟩)
/-- where a static field lies, its class's statics cell in H -/
def vx_L (C n d : String) (A : Nat → Prop) (U : State) (H : Heap) : Prop := ∃ (c : ClassId) (k : Class) (i : Nat) (f : Field) (a : Nat) (cell : Cell), U.vm.findClass C = some c ∧ U.fieldFound? C n d = some (c, k, i, f) ∧ f.isStatic = true ∧ k.statics = some a ∧ H[a]? = some cell ∧ cell.vm.isStatics = true ∧ cell.cls = c ∧ f.slot < cell.slots.size ∧ k.staticTypes[f.slot]? = some f.type ∧ ¬ A a
theorem vx_L.moved {C n d : String} {A : Nat → Prop} {u U : State} {H : Heap} (hvm : u.vm.Alike U.vm) (h : vx_L C n d A u H) : vx_L C n d A U H := by
  obtain ⟨c, k, i, f, a, cell, h1, h2, h3, h4, h5, h6, h7, h8, h9, h10⟩ := h
  obtain ⟨k', hi', he⟩ := State.fieldFound?_setVm hvm h2
  exact ⟨c, k', i, f, a, cell, by rw [hvm.findClass]; exact h1, hi', h3, by rw [he]; exact h4, h5, h6, h7, h8, by rw [he]; exact h9, h10⟩
theorem vx_L.kept {C n d : String} {A : Nat → Prop} {U : State} {H H1 : Heap} (h : vx_L C n d A U H) (hq : ∀ a : Nat, a < H.size → ¬ A a → H1[a]? = H[a]?) : vx_L C n d A U H1 := by
  obtain ⟨c, k, i, f, a, cell, h1, h2, h3, h4, h5, h6, h7, h8, h9, h10⟩ := h
  exact ⟨c, k, i, f, a, cell, h1, h2, h3, h4, by rw [hq a (Array.getElem?_eq_some_iff.mp h5).1 h10]; exact h5, h6, h7, h8, h9, h10⟩
theorem vx_L.narrow {C n d : String} {A B : Nat → Prop} {U : State} {H : Heap} (h : vx_L C n d A U H) (hAB : ∀ q, B q → A q) : vx_L C n d B U H := by
  obtain ⟨c, k, i, f, a, cell, h1, h2, h3, h4, h5, h6, h7, h8, h9, h10⟩ := h
  exact ⟨c, k, i, f, a, cell, h1, h2, h3, h4, h5, h6, h7, h8, h9, fun z => h10 (hAB _ z)⟩
theorem vx_L.word {C n d : String} {A : Nat → Prop} {s : State} {args : Array Value} (h : vx_L C n d A s s.heap) : (Cond.laysStatic C n d).before args s = true := by
  obtain ⟨c, k, i, f, a, cell, h1, h2, h3, h4, h5, h6, h7, h8, h9, -⟩ := h
  show (Cond.laysStatic C n d).holds args s none s [] = true
  exact Cond.laysStatic_of h1 h2 h3 h4 h5 h6 h7 h8 h9
/-- .. and what it holds: null or some reference -/
def vx_Zq (C n d : String) (A : Nat → Prop) (U : State) (H : Heap) : Prop := va_Zq C n d A U H ∧ vx_L C n d A U H
theorem vx_Zq.moved {C n d : String} {A : Nat → Prop} {u U : State} {H : Heap} (hvm : u.vm.Alike U.vm) (h : vx_Zq C n d A u H) : vx_Zq C n d A U H := ⟨va_Zq.moved hvm h.1, vx_L.moved hvm h.2⟩
theorem vx_Zq.kept {C n d : String} {A : Nat → Prop} {U : State} {H H1 : Heap} (h : vx_Zq C n d A U H) (hq : ∀ a : Nat, a < H.size → ¬ A a → H1[a]? = H[a]?) : vx_Zq C n d A U H1 := ⟨va_Zq.kept h.1 hq, vx_L.kept h.2 hq⟩
theorem vx_Zq.narrow {C n d : String} {A B : Nat → Prop} {U : State} {H : Heap} (h : vx_Zq C n d A U H) (hAB : ∀ q, B q → A q) : vx_Zq C n d B U H := ⟨va_Zq.narrow h.1 hAB, vx_L.narrow h.2 hAB⟩
theorem vx_Zqof {args : Array Value} {s : State} {C n d : String} {A : Nat → Prop} (hl : (Cond.laysStatic C n d).before args s = true) (hini : (Cond.initialized C).before args s = true) (h : (Cond.isRef (.static C n d)).before args s = true) (hA : ∀ a : Nat, a < s.heap.size → ¬ A a) : vx_Zq C n d A s s.heap := by
  refine ⟨va_Zqof hl hini h hA, ?_⟩
  obtain ⟨c, k, i, f, a, cell, h1, h2, h3, h4, h5, h6, h7, h8, h9⟩ := Cond.laysStatic_spec hl
  exact ⟨c, k, i, f, a, cell, h1, h2, h3, h4, h5, h6, h7, h8, h9, hA a (Array.getElem?_eq_some_iff.mp h5).1⟩
theorem vx_isRef {C n d : String} {v : Value} {A : Nat → Prop} {s : State} {args : Array Value} (h : va_Z C n d v A s s.heap) (hv : v.isRef = true) : (Cond.isRef (.static C n d)).before args s = true := by
  obtain ⟨cf, kf, fi, f, a, cell, h1, h2, h3, h4, h5, h6, h7, -⟩ := h
  have he : (Term.static C n d).eval args s none [] s = some v := by
    simp [Term.eval, State.fieldNamed?, h1, h2, h4, h5, h6, h7]
  simp only [Cond.before, Cond.holds, Cond.value, he]
  cases v <;> simp_all [Value.isRef]
theorem vx_isRefq {C n d : String} {A : Nat → Prop} {s : State} {args : Array Value} (h : va_Zq C n d A s s.heap) : (Cond.isRef (.static C n d)).before args s = true := by
  rcases h with h | ⟨t, h⟩
  · exact vx_isRef h rfl
  · exact vx_isRef h rfl
/-- the same frame, seen from here: as if the method were called anew in this heap -/
theorem vx_rebase {T : State} (X : Stand p l e R s m args below meth c T locs cells slots) {R' : Room} (hf : R'.frames ≤ R.frames) (hl : R'.locals ≤ R.locals) (hc : cells + R'.cells ≤ R.cells) (hs : slots + R'.slots ≤ R.slots) :
    Stand p l e R' ((T.setVm s.vm).setFrames (.invoking m args :: below)) m args below meth c T [] 0 0 := by
  have htop : (T.setVm s.vm).topJava?.isSome := X.here.top
  have hF : ((T.setVm s.vm).setFrames (.invoking m args :: below)).frames = .invoking m args :: below := State.frames_setFrames _ (State.cur_lt_of_top htop)
  obtain ⟨g₀, hg0⟩ := Option.isSome_iff_exists.mp htop
  obtain ⟨r, hr⟩ := State.topJava?_eq_some.mp hg0
  have hl9 : e.platform.stackLimits (T.setVm s.vm).me = e.platform.stackLimits s.me := X.limits
  have hb9 : (T.setVm s.vm).me.stackBytes = s.me.stackBytes := X.bytes
  refine ⟨X.admits, X.cas, X.clock, hF, ?_, X.hears, X.method, X.code, X.here, X.tail, X.warmed, ?_, ?_, ?_⟩
  · have h := X.room
    have hU : ((T.setVm s.vm).setFrames (.invoking m args :: below)).localsInUse = s.localsInUse := by
      rw [State.localsInUse_invoking hF (meth := meth) (c := c) X.method X.code, State.localsInUse_invoking X.frames X.method X.code]
    simp only [State.hasRoom, Bool.and_eq_true, decide_eq_true_eq] at h ⊢
    obtain ⟨⟨⟨⟨h1, h2, h3, h4, h5, h6⟩, h7⟩, h8⟩, h9⟩ := h
    rw [X.frames, List.length_cons] at h2 h3
    have q1 := X.heapSize
    have q2 := X.used
    simp only [hF, hU, List.length_cons, State.stackLimits_setFrames, State.stackBytes_setFrames, hl9, hb9]
    refine ⟨⟨⟨⟨by omega, by omega, by omega, by omega, by omega, h6⟩, ?_⟩, ?_⟩, X.book⟩
    · show T.heap.size + R'.cells ≤ e.platform.maxCells
      omega
    · show T.slotsUsed + R'.slots ≤ e.platform.maxSlots
      omega
  · rw [State.stackLimits_setFrames]; rfl
  · rw [State.stackBytes_setFrames]; rfl
  · refine ⟨?_, Nat.le_refl _, Nat.le_refl _, ?_, ?_, fun a c9 h9 => ⟨c9, h9, rfl, rfl, fun _ _ => rfl⟩⟩
    · obtain ⟨t, ht, -⟩ := State.frames_cons hr
      show T.setVm s.vm = { ((T.setVm s.vm).setFrames (.invoking m args :: below)).setFrames (T.setVm s.vm).frames with heap := T.heap, slotsUsed := T.slotsUsed }
      rw [State.setFrames_setFrames, State.setFrames_self ht]
      rfl
    · show T.slotsUsed = T.slotsUsed + ((T.heap.toList.drop T.heap.size).map (·.slots.size)).sum
      rw [List.drop_eq_nil_of_le (Nat.le_of_eq Array.length_toList)]
      rfl
    · show ((T.heap.toList.drop T.heap.size).map (·.slots.size)).sum ≤ 0
      rw [List.drop_eq_nil_of_le (Nat.le_of_eq Array.length_toList)]
      exact Nat.le_refl _
/-- 'throw new E()': new; dup; invokespecial; athrow -/
theorem vx_throw0 {cc : ByteArray} {pc : Nat} (hexec : p.tables.exec = Jvm.exec) (hb : c.code = cc) (hl : l.stackTraces = false) {own cls : String} {names : List String} {ik ic mc ms : Nat} {A : Nat → Prop}
    (hown : s.vm.findClass own = some m.cls) (hcls : Bundle.fit cls = true) (hnames : ∀ n ∈ names, Bundle.fit n = true)
    (hk : (Cond.classLink own ik cls).before args s = true) (hini : (Cond.initialized cls).before args s = true) (hat : ∀ w ∈ vx_at0 own ic cls names, w.before args s = true)
    (hgood : ∀ w ∈ Cond.classLink own ik cls :: Cond.initialized cls :: vx_at0 own ic cls names, vx_ot w = true)
    (hU : vx_Zq Bundle.tN "UNASSIGNED_STACK" Bundle.steD A s s.heap) (hN : vx_Zq Bundle.tN "SUPPRESSED_SENTINEL" Bundle.listD A s s.heap) (hS : va_S A s.heap H locs) (hsize : ls.size = c.maxLocals)
    (d0 : decode cc pc = .ok (.new ik, 3)) (d3 : decode cc (pc + 3) = .ok (.dup, 1)) (d4 : decode cc (pc + 4) = .ok (.invokespecial ic, 3)) (d7 : decode cc (pc + 7) = .ok (.athrow, 1))
    (hout : ∀ x ∈ c.exceptionTable.toList, covers x (pc + 7) = false)
    (hRframes : names.length + 3 < R.frames) (hRlocals : (rest.map fun v => v.category).sum + (13 * (names.length + 1) + 42) ≤ R.locals) (hRcells : cells + 1 ≤ R.cells) (hRslots : slots + 6 ≤ R.slots) (hlocks : meth.locks = false)
    (hx : ∀ t : State, s.vm.Alike t.vm → H.size ≤ t.heap.size → (∀ q : Nat, q < H.size → t.heap[q]? = H[q]?) → XC cls s t)
    (hf : ∀ z ∈ locs, free z.base) (hc : cells + 1 ≤ mc) (hs : slots + 6 ≤ ms) :
    W p l e R s m args below meth c H locs cells slots (vx_MQ below Qc XC args s mc ms free) (F0 m pc ls rest) := by
  intro T hT X
  have htr : e.platform.stackTraces = false := (show e.platform.stackTraces = l.stackTraces by rw [X.admits.platform]).trans hl
  have Y := vx_rebase X (R' := { frames := R.frames, locals := R.locals, cells := 1, slots := 6 }) (Nat.le_refl _) (Nat.le_refl _) hRcells hRslots
  obtain ⟨s', hA⟩ : ∃ z, z = (T.setVm s.vm).setFrames (.invoking m args :: below) := ⟨_, rfl⟩
  rw [← hA] at Y
  have hvm : s'.vm = s.vm := by rw [hA]; rfl
  have hhp : s'.heap = H := by rw [hA]; exact hT
  have hW0 : s.WarmedH s'.vm := by rw [hvm]; exact State.WarmedH.refl s
  have hat' : ∀ w ∈ vx_at0 own ic cls names, w.before args s' = true := fun w hw => vx_ot_at hW0 hvm.symm (hgood w (List.mem_cons_of_mem _ (List.mem_cons_of_mem _ hw))) (hat w hw)
  have hk' : (Cond.classLink own ik cls).before args s' = true := vx_ot_at hW0 hvm.symm (hgood _ List.mem_cons_self) hk
  have hini' : (Cond.initialized cls).before args s' = true := vx_ot_at hW0 hvm.symm (hgood _ (List.mem_cons_of_mem _ List.mem_cons_self)) hini
  have hU' : vx_Zq Bundle.tN "UNASSIGNED_STACK" Bundle.steD A s' s'.heap := by rw [hhp]; exact vx_Zq.moved hW0.alike (hU.kept hS.2.1)
  have hN' : vx_Zq Bundle.tN "SUPPRESSED_SENTINEL" Bundle.listD A s' s'.heap := by rw [hhp]; exact vx_Zq.moved hW0.alike (hN.kept hS.2.1)
  have h : ∀ w ∈ Bundle.ownAtoms0 own ic cls names, w.before args s' = true := vx_own hat' (vx_isRefq hU'.1) (vx_isRefq hN'.1) hU'.2.word hN'.2.word
  have hown' : s'.vm.findClass own = some m.cls := by rw [hvm]; exact hown
  have hins : (Cond.instantiable cls 6).before args s' = true := h _ (by simp [Bundle.ownAtoms0])
  obtain ⟨vm₁, cX, kX, hfX, hkX, -, -, X₁, st1⟩ := Y.newCold hexec (own := own) (C := cls) (index := ik) (n := 6) hown' hk' hins hini'
    (g := F0 m pc ls rest) rfl (by rw [hb]; exact d0) (Nat.le_refl _) (Nat.le_refl _)
  generalize hT1 : (T.setVm vm₁).pushCell { cls := cX, slots := kX.instanceTypes.map defaultValue, vm := .none } = T1 at X₁ st1
  have hcat : (Value.ref T.heap.size).category = 1 := rfl
  have hcellA : T1.heap[T.heap.size]? = some (freshCell cX kX) := by rw [← hT1]; exact State.heap_pushCell_size _ _
  have d3' : decode c.code (pc + 3) = .ok (.dup, 1) := by rw [hb]; exact d3
  obtain ⟨U, hsteps, hrun, hend, hW, hsame, ce, hce, hO⟩ := X₁.ctorThrow0 hexec htr (own := own) (cls := cls) (names := names) (ic := ic) hown' hcls hnames h (fun x hx => nomatch hx) hfX hkX hcellA (by rw [hhp, hT]; exact Nat.le_refl _)
    (g := { method := m, pc := pc + 4, locals := ls, stack := .ref T.heap.size :: .ref T.heap.size :: rest, locked := none }) rfl hsize rfl rfl (rest := rest) rfl
    (by rw [hb]; exact d4) (by rw [hb]; exact d7) hout hRframes (by simp only [List.map_cons, List.sum_cons, hcat]; omega) hlocks
  obtain ⟨f1, f2⟩ := vx_frame hsame
  rw [hhp] at f1 f2
  have hWs : s.WarmedH U.vm := State.WarmedH.trans hW0 hW
  have hcl : s.vm.findClass cls = some ce.cls := by
    have h9 := hO.cls
    rw [hvm] at h9
    exact h9
  have hall : s.sameButNew ({ U with vm := s.vm } : State) locs mc ms := by
    subst hA
    obtain ⟨e1, e2⟩ := hsame
    rw [State.setFrames_setFrames] at e1
    have h2 : (T.setVm s.vm).sameButNew ({ U with vm := s.vm } : State) [] (0 + 1) (0 + 6) := ⟨e1, e2⟩
    have h3 := X.same.trans h2
    rw [List.append_nil] at h3
    exact h3.mono hc hs
  refine ⟨U, ?_, .threw T.heap.size, hrun, hend, Or.inr ⟨T.heap.size, rfl, cls, ce, locs, hx U hWs.alike f1 (fun q hq => f2 q hq (fun z hz => nomatch hz)), hce, hO.vm, hcl, hWs, hall, hf⟩⟩
  refine st1 _ ?_
  show Steps p.tables e below (T1.setTop { method := m, pc := pc + 3, locals := ls, stack := .ref T.heap.size :: rest, locked := none }) _
  jvm_step X₁.here [X₁.here.top, hexec, d3', Value.category]
  exact hsteps
/-- 'throw new E("text")': new; dup; ldc; invokespecial; athrow -/
theorem vx_throwS {cc : ByteArray} {pc : Nat} (hexec : p.tables.exec = Jvm.exec) (hb : c.code = cc) (hl : l.stackTraces = false) {own cls text : String} {names : List String} {ik is ic mc ms sa : Nat} {A : Nat → Prop}
    (hown : s.vm.findClass own = some m.cls) (hcls : Bundle.fit cls = true) (hnames : ∀ n ∈ names, Bundle.fit n = true)
    (hk : (Cond.classLink own ik cls).before args s = true) (hini : (Cond.initialized cls).before args s = true) (hstr : vk_R own is text sa s) (hat : ∀ w ∈ vx_atS own ic cls names, w.before args s = true)
    (hgood : ∀ w ∈ Cond.classLink own ik cls :: Cond.initialized cls :: vx_atS own ic cls names, vx_ot w = true)
    (hU : vx_Zq Bundle.tN "UNASSIGNED_STACK" Bundle.steD A s s.heap) (hN : vx_Zq Bundle.tN "SUPPRESSED_SENTINEL" Bundle.listD A s s.heap) (hS : va_S A s.heap H locs) (hsize : ls.size = c.maxLocals)
    (d0 : decode cc pc = .ok (.new ik, 3)) (d3 : decode cc (pc + 3) = .ok (.dup, 1)) (d4 : decode cc (pc + 4) = .ok (.ldc is, 2)) (d6 : decode cc (pc + 6) = .ok (.invokespecial ic, 3)) (d9 : decode cc (pc + 9) = .ok (.athrow, 1))
    (hout : ∀ x ∈ c.exceptionTable.toList, covers x (pc + 9) = false)
    (hRframes : names.length + 3 < R.frames) (hRlocals : (rest.map fun v => v.category).sum + (13 * (names.length + 1) + 43) ≤ R.locals) (hRcells : cells + 1 ≤ R.cells) (hRslots : slots + 6 ≤ R.slots) (hlocks : meth.locks = false)
    (hx : ∀ t : State, s.vm.Alike t.vm → H.size ≤ t.heap.size → (∀ q : Nat, q < H.size → t.heap[q]? = H[q]?) → XC cls s t)
    (hf : ∀ z ∈ locs, free z.base) (hc : cells + 1 ≤ mc) (hs : slots + 6 ≤ ms) :
    W p l e R s m args below meth c H locs cells slots (vx_MQ below Qc XC args s mc ms free) (F0 m pc ls rest) := by
  intro T hT X
  have htr : e.platform.stackTraces = false := (show e.platform.stackTraces = l.stackTraces by rw [X.admits.platform]).trans hl
  have Y := vx_rebase X (R' := { frames := R.frames, locals := R.locals, cells := 1, slots := 6 }) (Nat.le_refl _) (Nat.le_refl _) hRcells hRslots
  obtain ⟨s', hA⟩ : ∃ z, z = (T.setVm s.vm).setFrames (.invoking m args :: below) := ⟨_, rfl⟩
  rw [← hA] at Y
  have hvm : s'.vm = s.vm := by rw [hA]; rfl
  have hhp : s'.heap = H := by rw [hA]; exact hT
  have hW0 : s.WarmedH s'.vm := by rw [hvm]; exact State.WarmedH.refl s
  have hat' : ∀ w ∈ vx_atS own ic cls names, w.before args s' = true := fun w hw => vx_ot_at hW0 hvm.symm (hgood w (List.mem_cons_of_mem _ (List.mem_cons_of_mem _ hw))) (hat w hw)
  have hk' : (Cond.classLink own ik cls).before args s' = true := vx_ot_at hW0 hvm.symm (hgood _ List.mem_cons_self) hk
  have hini' : (Cond.initialized cls).before args s' = true := vx_ot_at hW0 hvm.symm (hgood _ (List.mem_cons_of_mem _ List.mem_cons_self)) hini
  have hU' : vx_Zq Bundle.tN "UNASSIGNED_STACK" Bundle.steD A s' s'.heap := by rw [hhp]; exact vx_Zq.moved hW0.alike (hU.kept hS.2.1)
  have hN' : vx_Zq Bundle.tN "SUPPRESSED_SENTINEL" Bundle.listD A s' s'.heap := by rw [hhp]; exact vx_Zq.moved hW0.alike (hN.kept hS.2.1)
  have h : ∀ w ∈ Bundle.ownAtoms own ic cls names, w.before args s' = true := vx_own hat' (vx_isRefq hU'.1) (vx_isRefq hN'.1) hU'.2.word hN'.2.word
  have hown' : s'.vm.findClass own = some m.cls := by rw [hvm]; exact hown
  have hins : (Cond.instantiable cls 6).before args s' = true := h _ (by simp [Bundle.ownAtoms])
  obtain ⟨vm₁, cX, kX, hfX, hkX, -, -, X₁, st1⟩ := Y.newCold hexec (own := own) (C := cls) (index := ik) (n := 6) hown' hk' hins hini'
    (g := F0 m pc ls rest) rfl (by rw [hb]; exact d0) (Nat.le_refl _) (Nat.le_refl _)
  generalize hT1 : (T.setVm vm₁).pushCell { cls := cX, slots := kX.instanceTypes.map defaultValue, vm := .none } = T1 at X₁ st1
  have hcat : (Value.ref T.heap.size).category = 1 := rfl
  have hcellA : T1.heap[T.heap.size]? = some (freshCell cX kX) := by rw [← hT1]; exact State.heap_pushCell_size _ _
  have d3' : decode c.code (pc + 3) = .ok (.dup, 1) := by rw [hb]; exact d3
  have d4' : decode c.code (pc + 4) = .ok (.ldc is, 2) := by rw [hb]; exact d4
  have hstr' : vk_R own is text sa s' := vk_R.warm hW0 hstr
  obtain ⟨U, hsteps, hrun, hend, hW, hsame, ce, hce, hO⟩ := X₁.ctorThrowS hexec htr (own := own) (cls := cls) (names := names) (ic := ic) hown' hcls hnames h (fun x hx => nomatch hx) hfX hkX hcellA (by rw [hhp, hT]; exact Nat.le_refl _) (msg := .ref sa) rfl
    (g := { method := m, pc := pc + 6, locals := ls, stack := .ref sa :: .ref T.heap.size :: .ref T.heap.size :: rest, locked := none }) rfl hsize rfl rfl (rest := rest) rfl
    (by rw [hb]; exact d6) (by rw [hb]; exact d9) hout hRframes (by simp only [List.map_cons, List.sum_cons, hcat]; omega) hlocks
  obtain ⟨f1, f2⟩ := vx_frame hsame
  rw [hhp] at f1 f2
  have hWs : s.WarmedH U.vm := State.WarmedH.trans hW0 hW
  have hcl : s.vm.findClass cls = some ce.cls := by
    have h9 := hO.cls
    rw [hvm] at h9
    exact h9
  have hall : s.sameButNew ({ U with vm := s.vm } : State) locs mc ms := by
    subst hA
    obtain ⟨e1, e2⟩ := hsame
    rw [State.setFrames_setFrames] at e1
    have h2 : (T.setVm s.vm).sameButNew ({ U with vm := s.vm } : State) [] (0 + 1) (0 + 6) := ⟨e1, e2⟩
    have h3 := X.same.trans h2
    rw [List.append_nil] at h3
    exact h3.mono hc hs
  refine ⟨U, ?_, .threw T.heap.size, hrun, hend, Or.inr ⟨T.heap.size, rfl, cls, ce, locs, hx U hWs.alike f1 (fun q hq => f2 q hq (fun z hz => nomatch hz)), hce, hO.vm, hcl, hWs, hall, hf⟩⟩
  refine st1 _ ?_
  show Steps p.tables e below (T1.setTop { method := m, pc := pc + 3, locals := ls, stack := .ref T.heap.size :: rest, locked := none }) _
  jvm_step X₁.here [X₁.here.top, hexec, d3', Value.category]
  exact X₁.ldcString hexec (own := own) (text := text) (index := is) (a := sa) hown' hstr'.1 hstr'.2
    (g := { method := m, pc := pc + 4, locals := ls, stack := .ref T.heap.size :: .ref T.heap.size :: rest, locked := none }) rfl d4' _ hsteps
/-- 'throw new E("text")', the text by a wide index -/
theorem vx_throwSW {cc : ByteArray} {pc : Nat} (hexec : p.tables.exec = Jvm.exec) (hb : c.code = cc) (hl : l.stackTraces = false) {own cls text : String} {names : List String} {ik is ic mc ms sa : Nat} {A : Nat → Prop}
    (hown : s.vm.findClass own = some m.cls) (hcls : Bundle.fit cls = true) (hnames : ∀ n ∈ names, Bundle.fit n = true)
    (hk : (Cond.classLink own ik cls).before args s = true) (hini : (Cond.initialized cls).before args s = true) (hstr : vk_R own is text sa s) (hat : ∀ w ∈ vx_atS own ic cls names, w.before args s = true)
    (hgood : ∀ w ∈ Cond.classLink own ik cls :: Cond.initialized cls :: vx_atS own ic cls names, vx_ot w = true)
    (hU : vx_Zq Bundle.tN "UNASSIGNED_STACK" Bundle.steD A s s.heap) (hN : vx_Zq Bundle.tN "SUPPRESSED_SENTINEL" Bundle.listD A s s.heap) (hS : va_S A s.heap H locs) (hsize : ls.size = c.maxLocals)
    (d0 : decode cc pc = .ok (.new ik, 3)) (d3 : decode cc (pc + 3) = .ok (.dup, 1)) (d4 : decode cc (pc + 4) = .ok (.ldc_w is, 3)) (d7 : decode cc (pc + 7) = .ok (.invokespecial ic, 3)) (d10 : decode cc (pc + 10) = .ok (.athrow, 1))
    (hout : ∀ x ∈ c.exceptionTable.toList, covers x (pc + 10) = false)
    (hRframes : names.length + 3 < R.frames) (hRlocals : (rest.map fun v => v.category).sum + (13 * (names.length + 1) + 43) ≤ R.locals) (hRcells : cells + 1 ≤ R.cells) (hRslots : slots + 6 ≤ R.slots) (hlocks : meth.locks = false)
    (hx : ∀ t : State, s.vm.Alike t.vm → H.size ≤ t.heap.size → (∀ q : Nat, q < H.size → t.heap[q]? = H[q]?) → XC cls s t)
    (hf : ∀ z ∈ locs, free z.base) (hc : cells + 1 ≤ mc) (hs : slots + 6 ≤ ms) :
    W p l e R s m args below meth c H locs cells slots (vx_MQ below Qc XC args s mc ms free) (F0 m pc ls rest) := by
  intro T hT X
  have htr : e.platform.stackTraces = false := (show e.platform.stackTraces = l.stackTraces by rw [X.admits.platform]).trans hl
  have Y := vx_rebase X (R' := { frames := R.frames, locals := R.locals, cells := 1, slots := 6 }) (Nat.le_refl _) (Nat.le_refl _) hRcells hRslots
  obtain ⟨s', hA⟩ : ∃ z, z = (T.setVm s.vm).setFrames (.invoking m args :: below) := ⟨_, rfl⟩
  rw [← hA] at Y
  have hvm : s'.vm = s.vm := by rw [hA]; rfl
  have hhp : s'.heap = H := by rw [hA]; exact hT
  have hW0 : s.WarmedH s'.vm := by rw [hvm]; exact State.WarmedH.refl s
  have hat' : ∀ w ∈ vx_atS own ic cls names, w.before args s' = true := fun w hw => vx_ot_at hW0 hvm.symm (hgood w (List.mem_cons_of_mem _ (List.mem_cons_of_mem _ hw))) (hat w hw)
  have hk' : (Cond.classLink own ik cls).before args s' = true := vx_ot_at hW0 hvm.symm (hgood _ List.mem_cons_self) hk
  have hini' : (Cond.initialized cls).before args s' = true := vx_ot_at hW0 hvm.symm (hgood _ (List.mem_cons_of_mem _ List.mem_cons_self)) hini
  have hU' : vx_Zq Bundle.tN "UNASSIGNED_STACK" Bundle.steD A s' s'.heap := by rw [hhp]; exact vx_Zq.moved hW0.alike (hU.kept hS.2.1)
  have hN' : vx_Zq Bundle.tN "SUPPRESSED_SENTINEL" Bundle.listD A s' s'.heap := by rw [hhp]; exact vx_Zq.moved hW0.alike (hN.kept hS.2.1)
  have h : ∀ w ∈ Bundle.ownAtoms own ic cls names, w.before args s' = true := vx_own hat' (vx_isRefq hU'.1) (vx_isRefq hN'.1) hU'.2.word hN'.2.word
  have hown' : s'.vm.findClass own = some m.cls := by rw [hvm]; exact hown
  have hins : (Cond.instantiable cls 6).before args s' = true := h _ (by simp [Bundle.ownAtoms])
  obtain ⟨vm₁, cX, kX, hfX, hkX, -, -, X₁, st1⟩ := Y.newCold hexec (own := own) (C := cls) (index := ik) (n := 6) hown' hk' hins hini'
    (g := F0 m pc ls rest) rfl (by rw [hb]; exact d0) (Nat.le_refl _) (Nat.le_refl _)
  generalize hT1 : (T.setVm vm₁).pushCell { cls := cX, slots := kX.instanceTypes.map defaultValue, vm := .none } = T1 at X₁ st1
  have hcat : (Value.ref T.heap.size).category = 1 := rfl
  have hcellA : T1.heap[T.heap.size]? = some (freshCell cX kX) := by rw [← hT1]; exact State.heap_pushCell_size _ _
  have d3' : decode c.code (pc + 3) = .ok (.dup, 1) := by rw [hb]; exact d3
  have d4' : decode c.code (pc + 4) = .ok (.ldc_w is, 3) := by rw [hb]; exact d4
  have hstr' : vk_R own is text sa s' := vk_R.warm hW0 hstr
  obtain ⟨U, hsteps, hrun, hend, hW, hsame, ce, hce, hO⟩ := X₁.ctorThrowS hexec htr (own := own) (cls := cls) (names := names) (ic := ic) hown' hcls hnames h (fun x hx => nomatch hx) hfX hkX hcellA (by rw [hhp, hT]; exact Nat.le_refl _) (msg := .ref sa) rfl
    (g := { method := m, pc := pc + 7, locals := ls, stack := .ref sa :: .ref T.heap.size :: .ref T.heap.size :: rest, locked := none }) rfl hsize rfl rfl (rest := rest) rfl
    (by rw [hb]; exact d7) (by rw [hb]; exact d10) hout hRframes (by simp only [List.map_cons, List.sum_cons, hcat]; omega) hlocks
  obtain ⟨f1, f2⟩ := vx_frame hsame
  rw [hhp] at f1 f2
  have hWs : s.WarmedH U.vm := State.WarmedH.trans hW0 hW
  have hcl : s.vm.findClass cls = some ce.cls := by
    have h9 := hO.cls
    rw [hvm] at h9
    exact h9
  have hall : s.sameButNew ({ U with vm := s.vm } : State) locs mc ms := by
    subst hA
    obtain ⟨e1, e2⟩ := hsame
    rw [State.setFrames_setFrames] at e1
    have h2 : (T.setVm s.vm).sameButNew ({ U with vm := s.vm } : State) [] (0 + 1) (0 + 6) := ⟨e1, e2⟩
    have h3 := X.same.trans h2
    rw [List.append_nil] at h3
    exact h3.mono hc hs
  refine ⟨U, ?_, .threw T.heap.size, hrun, hend, Or.inr ⟨T.heap.size, rfl, cls, ce, locs, hx U hWs.alike f1 (fun q hq => f2 q hq (fun z hz => nomatch hz)), hce, hO.vm, hcl, hWs, hall, hf⟩⟩
  refine st1 _ ?_
  show Steps p.tables e below (T1.setTop { method := m, pc := pc + 3, locals := ls, stack := .ref T.heap.size :: rest, locked := none }) _
  jvm_step X₁.here [X₁.here.top, hexec, d3', Value.category]
  exact X₁.ldcStringW hexec (own := own) (text := text) (index := is) (a := sa) hown' hstr'.1 hstr'.2
    (g := { method := m, pc := pc + 4, locals := ls, stack := .ref T.heap.size :: .ref T.heap.size :: rest, locked := none }) rfl d4' _ hsteps
end Ends
section Bodies
variable {l : Launch}
theorem vx_ofW {y : MethodName} {ws ws' : List Cond} {rm : Room} {Pc : Array Value → State → Prop} {Qc : Array Value → State → Outcome → State → Prop} {XC : String → State → State → Prop} {mc ms : Nat} {free : Addr → Prop} {cc : ByteArray} {maxL : Nat} {ret : Option FieldType}
    (hy : plainName y.cls = true) (hw : ws = Cond.code y cc maxL ret :: ws')
    (body : ∀ p e s m args below meth c s₁, BodyLoose p l y (headSpec ws rm) cc maxL ret e s m args below meth c s₁ → c.maxLocals = maxL → (∀ x ∈ c.exceptionTable.toList, False) → Pc args s →
      W p l e (headSpec ws rm).room s m args below meth c s.heap [] 0 0 (vx_MQ below Qc XC args s mc ms free) (entryFrame m args maxL)) : vx_Met l y ws rm Pc Qc XC mc ms free := by
  refine MetFree.of_bodyS (code := cc) (maxLocals := maxL) (ret := ret) hy ?_ ?_
  · intro args s m h hn
    obtain ⟨meth, c, h1, h2, h3, h4, h5, h6, -, -⟩ := Cond.code_spec hn (atoms_spec (ws := ws) h _ (by rw [hw]; exact List.mem_cons_self))
    exact ⟨meth, c, h1, h2, h3, h4, h5, h6⟩
  · intro p e s m args below meth c s₁ B hml hP _
    have hh0 : s₁.heap = s.heap := by rw [B.state]; rfl
    have ht : ∀ x ∈ c.exceptionTable.toList, False := by
      obtain ⟨meth9, c9, h1, h2, -, -, -, -, h7, -⟩ := Cond.code_spec B.named (atoms_spec (ws := ws) B.pre _ (by rw [hw]; exact List.mem_cons_self))
      cases Option.some.inj (h1.symm.trans B.method)
      cases Option.some.inj (h2.symm.trans (Stand.of_body B).code)
      intro x hx
      rw [Array.isEmpty_iff.mp h7] at hx
      cases hx
    obtain ⟨t, a1, o, b1, b2, b3⟩ := body p e s m args below meth c s₁ B hml ht hP s₁ hh0 (Stand.of_body B)
    exact ⟨t, o, a1, b1, b2, b3⟩
/-- the table of a body with handlers -/
theorem vx_table {p : Program} {x y : MethodName} {S : Spec} {cc bytes : ByteArray} {maxL maxL' : Nat} {ret ret' : Option FieldType} {e : Env} {s s₁ : State} {m : MethodId} {args : Array Value} {below : List Frame} {meth : Method} {c : Code} {hh : List (Nat × Nat × Nat × Nat)}
    (B : BodyLoose p l y S cc maxL ret e s m args below meth c s₁) (h : (Cond.codeWith y bytes maxL' ret' hh).before args s = true) : c.exceptionTable.toList = tableOf hh := by
  obtain ⟨m9, meth9, c9, hn9, h1, h2, -, -, h6, -⟩ := Cond.codeWith_spec h
  cases Option.some.inj (hn9.symm.trans B.named)
  cases Option.some.inj (h1.symm.trans B.method)
  cases Option.some.inj (h2.symm.trans (Stand.of_body B).code)
  rw [← h6, table_eq]
end Bodies
end VXA
/-! ===== END ===== -/
/-! ===== BEGIN a static call of a method with an exception table ===== -/
section VXS
variable {p : Program} {l : Launch} {e : Env} {R : Room} {s : State} {m : MethodId} {args : Array Value} {below : List Frame} {meth : Method} {c : Code} {T : State} {H : Heap} {locs : List Loc} {cells slots : Nat}
abbrev vx_CSW (R : Room) (s : State) (args : Array Value) (own : String) (index : Nat) (y : MethodName) (bytes : ByteArray) (maxL : Nat) (ret : Option FieldType) (hh : List (Nat × Nat × Nat × Nat)) (ws : List Cond) (rm : Room) (mc ms n : Nat) : Prop :=
  (rm.cells = mc ∧ rm.slots = ms ∧ rm.frames + 1 ≤ R.frames ∧ 8 + (maxL + 11) + rm.locals ≤ R.locals ∧ (∀ w ∈ ws, ∀ (a' : Array Value) (U : State), s.WarmedH U.vm → w.before a' U = true) ∧ Cond.codeWith y bytes maxL ret hh ∈ ws) ∧
  (Cond.codeWith y bytes maxL ret hh).before args s = true ∧ (Cond.initialized y.cls).before args s = true ∧ (y.cls ≠ "java/lang/invoke/MethodHandle" ∧ y.cls ≠ "java/lang/invoke/VarHandle") ∧
  (∀ sig, parseMethodDescriptor y.desc = some sig → n = sig.parameters.length) ∧ (Cond.methodLink own index y).before args s = true ∧ (Cond.static y).before args s = true
theorem vx_cwSW {own : String} {index maxL mc ms : Nat} {y : MethodName} {bytes : ByteArray} {ret : Option FieldType} {hh : List (Nat × Nat × Nat × Nat)} {Ts ws ws' : List Cond} {rm : Room} (n : Nat) (ht : ∀ w ∈ Ts, w.before args s = true) (hT : GoodIn Ts (va_wsS own index y ws)) (hw : ws = Cond.codeWith y bytes maxL ret hh :: ws') (hrc : rm.cells = mc) (hrs : rm.slots = ms)
    (hd : y.cls ≠ "java/lang/invoke/MethodHandle" ∧ y.cls ≠ "java/lang/invoke/VarHandle" ∧ (parseMethodDescriptor y.desc).map (fun d => d.parameters.length) = some n) (hR : rm.frames + 1 ≤ R.frames ∧ 8 + (maxL + 11) + rm.locals ≤ R.locals) :
    vx_CSW R s args own index y bytes maxL ret hh ws rm mc ms n := by
  have ok : ∀ w ∈ va_wsS own index y ws, w.before args s = true := fun w h => ht w (hT w h).1
  have hG : GoodIn Ts ws := fun w h => hT w (by unfold va_wsS; exact List.mem_append_right _ h)
  have hc : Cond.codeWith y bytes maxL ret hh ∈ ws := by rw [hw]; exact List.mem_cons_self
  refine ⟨⟨hrc, hrs, hR.1, hR.2, pay_in ht hG, hc⟩, ht _ (hG _ hc).1, ok _ (by simp [va_wsS]), ⟨hd.1, hd.2.1⟩, fun sig h => ?_, ok _ (by simp [va_wsS]), ok _ (by simp [va_wsS])⟩
  have h2 := hd.2.2
  rw [h] at h2
  exact (Option.some.inj h2).symm
theorem vx_callSW (X : Stand p l e R s m args below meth c T locs cells slots) (hexec : p.tables.exec = Jvm.exec) {own : String} {index : Nat} {y : MethodName} {bytes : ByteArray} {maxL : Nat} {ret : Option FieldType} {hh : List (Nat × Nat × Nat × Nat)}
    (hown : s.vm.findClass own = some m.cls) (hlink : (Cond.methodLink own index y).before args s = true) (hstat : (Cond.static y).before args s = true) (hinit : (Cond.initialized y.cls).before args s = true)
    (hcode : (Cond.codeWith y bytes maxL ret hh).before args s = true) (hy : y.cls ≠ "java/lang/invoke/MethodHandle" ∧ y.cls ≠ "java/lang/invoke/VarHandle")
    {W9 : Nat} {Pre : Pt → Array Value → Prop} {Post : Pt → Array Value → Option Value → Pt → Prop} (hK : Back l R p e below s args y 3 W9 Pre Post)
    {g : JFrame} (hg : g.method = m) (hsize : g.locals.size = c.maxLocals) {argsL rest : List Value} (hlen : ∀ sig, parseMethodDescriptor y.desc = some sig → argsL.length = sig.parameters.length)
    (hstack : g.stack = argsL.reverse ++ rest) (hW : 2 * g.monitorRoom + (rest.map fun v => v.category).sum ≤ W9) (hdg : decode c.code g.pc = .ok (.invokestatic index, 3))
    (hpre : ∀ vm₁, s.WarmedH vm₁ → Pre ⟨T.setVm vm₁, locs, cells, slots⟩ argsL.toArray) :
    ∃ (v : Option Value) (vm₁ : Vm) (B : Pt), s.WarmedH vm₁ ∧ Stand p l e R s m args below meth c B.U B.locs B.cells B.slots ∧ Post ⟨T.setVm vm₁, locs, cells, slots⟩ argsL.toArray v B ∧
      ∀ target, Steps p.tables e below (B.U.setTop { g with pc := g.pc + 3, stack := v.toList ++ rest }) target → Steps p.tables e below (T.setTop g) target := by
  obtain ⟨mk, methM, cM, hnamed, hmethM, -, -, -, -, -, -, hsigM⟩ := Cond.codeWith_spec hcode
  have hstatic : methM.isStatic = true := Cond.static_spec hnamed hmethM hstat
  obtain ⟨kP, hkP, -⟩ := className_of_methodNamed hnamed
  have hinitP : kP.init = .initialized := Cond.initialized_spec (findClass_of_methodNamed hnamed) hkP hinit
  obtain ⟨vm₁, X₁, hstep₁⟩ := X.invokestatic hexec hown hlink hnamed hmethM hstatic hkP hinitP hy (g := g) hg (argsL := argsL) (rest := rest) (hlen _ hsigM) hstack hdg
  obtain ⟨v, B, X', hpost, hsteps⟩ := hK m meth c ⟨T.setVm vm₁, locs, cells, slots⟩ { g with stack := rest } (.invokestatic index) mk argsL.toArray X₁ hg hsize hdg hW (X₁.named hnamed) (hpre vm₁ X₁.warmed)
  exact ⟨v, vm₁, B, X₁.warmed, X', hpost, fun target h => hstep₁ _ fun acts => by rw [doInvoke_state]; exact hsteps.trans h⟩
theorem vx_runSW {y : MethodName} {bytes cc : ByteArray} {maxL nL mc ms n index : Nat} {ret : Option FieldType} {hh : List (Nat × Nat × Nat × Nat)} {ws : List Cond} {rm : Room} {Pc : Array Value → State → Prop} {Qc : Array Value → State → Outcome → State → Prop} {free : Addr → Prop} {Ts : List Cond} {own : String} {As rest : List Value} {g : JFrame}
    (S : CallFix p m c cc nL s args Ts own) (hM : Met l y ws rm Pc Qc mc ms free) (cw : vx_CSW R s args own index y bytes maxL ret hh ws rm mc ms n) (hp : PreS s H Pc As)
    (hg : g.method = m) (hn : As.length = n) (hsize : g.locals.size = nL) (hstack : g.stack = As.reverse ++ rest) (hW : 2 * g.monitorRoom + (rest.map fun v => v.category).sum ≤ 8) (hdg : decode cc g.pc = .ok (.invokestatic index, 3)) (hf : cells + mc ≤ R.cells ∧ slots + ms ≤ R.slots) :
    va_Run p l e R s m args below meth c H locs cells slots mc ms g rest (Qc As.toArray) (free) := by
  obtain ⟨⟨hrc, hrs, hfr, hlo, hws, hcw⟩, hcode, hini, hy, hlen, hl, hstt⟩ := cw
  have hK : Back l R p e below s args y 3 8 (PreOf R mc ms Pc) (PostOf Qc mc ms free) := va_backW (hh := hh) (bytes := bytes) (maxL := maxL) (ret := ret) hM hp.1 hrc hrs hfr hlo hws hcw (fun a' U hW => word_at hW (Or.inl (by first | rfl | simp [Cond.onTables, Cond.keeps, Cond.steady])) hini)
  obtain ⟨hx, hb, hml, ho, -⟩ := S
  intro T hT X
  obtain ⟨v, vm₁, ⟨U', l2, c2, s2⟩, hW₁, X', ⟨g', mk, t, L, e1, e2, hq, h1, hL, h2, h3⟩, st⟩ := vx_callSW X hx (hh := hh) (bytes := bytes) (maxL := maxL) (ret := ret) ho hl hstt hini hcode hy hK hg (hsize.trans hml.symm) (argsL := As) (rest := rest) (fun sig h => hn.trans (hlen sig h)) hstack hW (by rw [hb]; exact hdg)
    (fun vm₁ hW₁ => ⟨hf.1, hf.2, hp.2 (T.setVm vm₁) hT hW₁⟩)
  dsimp only [Pt.U, Pt.locs, Pt.cells, Pt.slots] at X' e1 e2 h1 h2 h3 st
  subst h1; subst h2; subst h3
  exact ⟨v, (T.setVm vm₁).calling g' mk As.toArray, t, U', L, hT, X', hL, e1, e2, hq, st⟩
/-- a thing of a world lies in the heap -/
theorem vx_lt {D : va_G} {cl : List vw_C} {ws : va_W} {H1 : Heap} (h : va_P D cl ws H1) {k : Nat} {q : Nat × va_E} (hk : ws[k]? = some q) : q.1 < H1.size := (h k q hk).lt
end VXS
/-! ===== END ===== -/
/-! ===== BEGIN methods with a table of their own: called by a name, returning or throwing ===== -/
section VXH
/-! vx_backW, vx_callVX, vx_callSX, vx_callVW, vx_runVW, vx_runVX, vx_runSX, vx_ofWH follow the same proofs as their sisters above (Free/Laws.lean, Shelf42/LK1.lean); vx_outP calls Shelf42/NT130.lean (outThrough). -/
section
variable {l : Launch} {R : Room} {p : Program} {e : Env} {below : List Frame} {s : State} {sargs : Array Value} {y : MethodName} {len W9 : Nat}
theorem vx_backW {ws : List Cond} {rm : Room} {Pc : Array Value → State → Prop} {Qc : Array Value → State → Outcome → State → Prop} {XC : String → State → State → Prop} {mc ms : Nat} {free : Addr → Prop} {bytes : ByteArray} {maxL : Nat} {ret : Option FieldType} {hh : List (Nat × Nat × Nat × Nat)}
    (hM : vx_Met l y ws rm Pc Qc XC mc ms free) (hblind : FrameBlind Pc) (hrc : rm.cells = mc) (hrs : rm.slots = ms)
    (hframes : rm.frames + 1 ≤ R.frames) (hlocals : W9 + (maxL + 11) + rm.locals ≤ R.locals)
    (hws : ∀ w ∈ ws, ∀ a' U, s.WarmedH U.vm → w.before a' U = true) (hcode : Cond.codeWith y bytes maxL ret hh ∈ ws) (hinit : ∀ a' U, s.WarmedH U.vm → (Cond.initialized y.cls).before a' U = true) :
    vx_Back l R p e below s sargs y len W9 (PreOf R mc ms Pc) (PostOf Qc mc ms free) (vx_Post XC mc ms free) := by
  intro m meth c A g ig mk a X hg hsize hdg hW hn hp
  have h1 : (headSpec ws rm).pre.before a A.U = true := atoms_intro fun w hw => hws w hw _ _ X.warmed
  have h2 : (Cond.codeWith y bytes maxL ret hh).before a A.U = true := hws _ hcode _ _ X.warmed
  have h3 : (Cond.initialized y.cls).before a A.U = true := hinit _ _ X.warmed
  have h4 : A.cells + (headSpec ws rm).room.cells ≤ R.cells := by rw [show (headSpec ws rm).room.cells = mc from hrc]; exact hp.1
  have h5 : A.slots + (headSpec ws rm).room.slots ≤ R.slots := by rw [show (headSpec ws rm).room.slots = ms from hrs]; exact hp.2.1
  have hPc : Pc a (A.U.calling g mk a) := hblind _ _ _ _ hp.2.2
  obtain ⟨U, Ls, c0, s0⟩ := A
  dsimp only [Pt.U, Pt.locs, Pt.cells, Pt.slots] at h1 h2 h3 h4 h5 X hn hPc ⊢
  obtain ⟨m9, methY, cY, hn9, hmY, hcY, -, hlY, -⟩ := Cond.codeWith_spec h2
  cases Option.some.inj (hn9.symm.trans hn)
  obtain ⟨kY, hkY, -⟩ := className_of_methodNamed hn
  have hinitY : kY.init = .initialized := Cond.initialized_spec (findClass_of_methodNamed hn) hkY h3
  have h : At U g.method c below := by rw [hg]; exact X.here
  have hlocals9 : W9 + (maxL + 11) + (headSpec ws rm).room.locals ≤ R.locals := hlocals
  have happ : (headSpec ws rm).appliesLoose y e.platform (U.calling g mk a) = true :=
    Spec.appliesLoose_calling (g := g) h hdg hn hkY hinitY
      (X.room_calling (g := g) (R' := (headSpec ws rm).room) hsize hmY hcY hframes (by rw [hlY]; omega) h4 h5) h1
  obtain ⟨mid, hmid⟩ := h.above
  have hfr : (U.setTop g).frames = (.java g :: mid) ++ below := by rw [State.frames_setTop' g h.top, hmid]; rfl
  obtain ⟨o, s₂, hsteps, -, hend, hq⟩ := Steps.callFree hM p X.admits X.cas X.clock (acts := []) hfr happ hPc trivial
  have hq' : vx_Q Qc XC mc ms free a (U.calling g mk a) o s₂ := hq
  rw [State.frames_setTop' g h.top] at hend
  obtain ⟨g₀, hg0⟩ := Option.isSome_iff_exists.mp h.top
  obtain ⟨r, hr⟩ := State.topJava?_eq_some.mp hg0
  have hr' : (({ U with heap := s₂.heap, slotsUsed := s₂.slotsUsed } : State).setVm s₂.vm).frames = .java g₀ :: r := hr
  rcases hq' with ⟨hqc, L, hfe, hL⟩ | ⟨q, rfl, E, ce, L, hx, hce, hcv, hcl, hW₂, hsm, hL⟩
  · obtain ⟨⟨v, rfl⟩, hW₂, e2, q2, q3, q4, q5, q6⟩ := id hfe
    have e3 : s₂ = ({ (U.calling g mk a).setFrames s₂.frames with heap := s₂.heap, slotsUsed := s₂.slotsUsed } : State).setVm s₂.vm := by
      have : s₂ = ({ s₂ with vm := (U.calling g mk a).vm } : State).setVm s₂.vm := rfl
      rw [e2] at this
      exact this
    obtain ⟨c₂, i₂, len₂, hc₂, hd₂, hf₂⟩ := hend
    have hW' : U.WarmedH s₂.vm := hW₂
    have hcc : c₂ = c := by
      have h1 : s₂.code? g.method = U.code? g.method := by
        rw [State.code?_eq, State.code?_eq, hW'.alike.method?]
      exact Option.some.inj (hc₂.symm.trans (h1.trans h.code))
    subst hcc
    have hlen : len₂ = len := by rw [hdg] at hd₂; cases hd₂; rfl
    subst hlen
    have hs₂ : s₂ = (({ U with heap := s₂.heap, slotsUsed := s₂.slotsUsed } : State).setVm s₂.vm).setTop { g with pc := g.pc + len₂, stack := v.toList ++ g.stack } := by
      refine e3.trans ?_
      rw [hf₂, State.calling_eq h.top, State.setFrames_setFrames, State.setTop_of_frames _ hr', hr]
      rfl
    have hsame : U.sameButNew ({ U with heap := s₂.heap, slotsUsed := s₂.slotsUsed } : State) L mc ms := by
      refine ⟨?_, q2, q3, q4, q5, q6⟩
      obtain ⟨t, ht, -⟩ := State.frames_cons hr
      show ({ U with heap := s₂.heap, slotsUsed := s₂.slotsUsed } : State) = { U.setFrames U.frames with heap := s₂.heap, slotsUsed := s₂.slotsUsed }
      rw [State.setFrames_self ht]
    subst hg
    refine Or.inl ⟨v, ⟨(({ U with heap := s₂.heap, slotsUsed := s₂.slotsUsed } : State).setVm s₂.vm), Ls ++ L, c0 + mc, s0 + ms⟩,
      ⟨X.admits, X.cas, X.clock, X.frames, X.room, X.hears, X.method, X.code, (X.here.setHeapUsed s₂.heap s₂.slotsUsed).setVm hW'.alike, X.tail, State.WarmedH.trans X.warmed hW', X.limits, X.bytes, X.same.trans (hsame.setVm s.vm)⟩,
      ⟨g, mk, s₂, L, rfl, rfl, hqc, rfl, hL, rfl, rfl⟩, ?_⟩
    show Steps p.tables e below _ ((({ U with heap := s₂.heap, slotsUsed := s₂.slotsUsed } : State).setVm s₂.vm).setTop { g with pc := g.pc + len₂, stack := v.toList ++ g.stack })
    rw [← hs₂]
    exact hsteps
  · obtain ⟨e2, q2, q3, q4, q5, q6⟩ := id hsm
    have e3 : s₂ = ({ (U.calling g mk a).setFrames s₂.frames with heap := s₂.heap, slotsUsed := s₂.slotsUsed } : State).setVm s₂.vm := by
      have : s₂ = ({ s₂ with vm := (U.calling g mk a).vm } : State).setVm s₂.vm := rfl
      rw [e2] at this
      exact this
    have hf₂ : s₂.frames = .throwing q :: .java g :: U.frames.tail := hend
    have hW' : U.WarmedH s₂.vm := hW₂
    have hs₂ : s₂ = ((({ U with heap := s₂.heap, slotsUsed := s₂.slotsUsed } : State).setVm s₂.vm).setTop g).pushFrame (.throwing q) := by
      refine e3.trans ?_
      rw [hf₂, State.calling_eq h.top, State.setFrames_setFrames, State.pushFrame, State.frames_setTop _ hr', State.setTop_of_frames _ hr', State.setFrames_setFrames, hr]
      rfl
    have hsame : U.sameButNew ({ U with heap := s₂.heap, slotsUsed := s₂.slotsUsed } : State) L mc ms := by
      refine ⟨?_, q2, q3, q4, q5, q6⟩
      obtain ⟨t, ht, -⟩ := State.frames_cons hr
      show ({ U with heap := s₂.heap, slotsUsed := s₂.slotsUsed } : State) = { U.setFrames U.frames with heap := s₂.heap, slotsUsed := s₂.slotsUsed }
      rw [State.setFrames_self ht]
    subst hg
    refine Or.inr ⟨q, ⟨(({ U with heap := s₂.heap, slotsUsed := s₂.slotsUsed } : State).setVm s₂.vm), Ls ++ L, c0 + mc, s0 + ms⟩,
      ⟨X.admits, X.cas, X.clock, X.frames, X.room, X.hears, X.method, X.code, (X.here.setHeapUsed s₂.heap s₂.slotsUsed).setVm hW'.alike, X.tail, State.WarmedH.trans X.warmed hW', X.limits, X.bytes, X.same.trans (hsame.setVm s.vm)⟩,
      ⟨g, mk, s₂, L, E, ce, rfl, rfl, hx, hce, hcv, hcl, rfl, hL, rfl, rfl⟩, ?_⟩
    show Steps p.tables e below _ (((({ U with heap := s₂.heap, slotsUsed := s₂.slotsUsed } : State).setVm s₂.vm).setTop g).pushFrame (.throwing q))
    rw [← hs₂]
    exact hsteps
end
variable {p : Program} {l : Launch} {e : Env} {R : Room} {s : State} {m : MethodId} {args : Array Value} {below : List Frame} {meth : Method} {c : Code} {T : State} {H : Heap} {locs : List Loc} {cells slots : Nat}
theorem vx_callVX (X : Stand p l e R s m args below meth c T locs cells slots) (hexec : p.tables.exec = Jvm.exec) {own C : String} {index : Nat} {y : MethodName} {bytes : ByteArray} {maxL : Nat} {ret : Option FieldType} {hh : List (Nat × Nat × Nat × Nat)}
    (hown : s.vm.findClass own = some m.cls) (hlink : (Cond.methodLink own index y).before args s = true) (hinst : (Cond.instanceMethod y).before args s = true) (hsel : (Cond.selects C y y).before args s = true)
    (hcode : (Cond.codeWith y bytes maxL ret hh).before args s = true) (hy : y.cls ≠ "java/lang/invoke/MethodHandle" ∧ y.cls ≠ "java/lang/invoke/VarHandle")
    {W9 : Nat} {Pre : Pt → Array Value → Prop} {Post : Pt → Array Value → Option Value → Pt → Prop} {PostX : Pt → Array Value → Addr → Pt → Prop} (hK : vx_Back l R p e below s args y 3 W9 Pre Post PostX)
    {b : Addr} {cellB : Cell} (hcell : T.heap[b]? = some cellB) (hobj : cellB.vm.isStatics = false) (hcls : s.vm.findClass C = some cellB.cls)
    {g : JFrame} (hg : g.method = m) (hsize : g.locals.size = c.maxLocals) {argsL rest : List Value} (hlen : ∀ sig, parseMethodDescriptor y.desc = some sig → argsL.length = sig.parameters.length)
    (hstack : g.stack = argsL.reverse ++ .ref b :: rest) (hW : 2 * g.monitorRoom + (rest.map fun v => v.category).sum ≤ W9) (hdg : decode c.code g.pc = .ok (.invokevirtual index, 3))
    (hpre : ∀ vm₁, s.WarmedH vm₁ → Pre ⟨T.setVm vm₁, locs, cells, slots⟩ (Value.ref b :: argsL).toArray) :
    (∃ (v : Option Value) (vm₁ : Vm) (B : Pt), s.WarmedH vm₁ ∧ Stand p l e R s m args below meth c B.U B.locs B.cells B.slots ∧ Post ⟨T.setVm vm₁, locs, cells, slots⟩ (Value.ref b :: argsL).toArray v B ∧
      ∀ target, Steps p.tables e below (B.U.setTop { g with pc := g.pc + 3, stack := v.toList ++ rest }) target → Steps p.tables e below (T.setTop g) target) ∨
    (∃ (q : Addr) (vm₁ : Vm) (B : Pt), s.WarmedH vm₁ ∧ Stand p l e R s m args below meth c B.U B.locs B.cells B.slots ∧ PostX ⟨T.setVm vm₁, locs, cells, slots⟩ (Value.ref b :: argsL).toArray q B ∧
      Steps p.tables e below (T.setTop g) ((B.U.setTop { g with stack := rest }).pushFrame (.throwing q))) := by
  obtain ⟨mk, methM, hnamed, hmethM, hstM, habM⟩ := Cond.instanceMethod_spec hinst
  obtain ⟨m8, methM', cM, hn8, hmethM', -, -, -, -, -, -, hsigM⟩ := Cond.codeWith_spec hcode
  cases Option.some.inj (hn8.symm.trans hnamed)
  cases hmethM.symm.trans hmethM'
  obtain ⟨c2, r2, m2, q1, q2, q3, q4, kP, hkP, hkPi⟩ := Cond.selects_spec hsel
  cases hcls.symm.trans q1
  cases (State.methodFound?_of_named hnamed hy).symm.trans q2
  cases hnamed.symm.trans q3
  have hselP : selectMethod e.platform s.vm cellB.cls mk = .method mk := by rw [Launch.admits_selectMethod X.admits]; exact q4
  obtain ⟨vm₁, X₁, hstep₁⟩ := X.invokevirtual hexec hown hlink hnamed hmethM hstM hkP hkPi hy (a := b) (cell := cellB) hcell
    (fun z h => by rw [h] at hobj; cases hobj) hselP hmethM habM hkP hkPi (g := g) hg (argsL := argsL) (rest := rest) (hlen _ hsigM) hstack hdg
  rcases hK m meth c ⟨T.setVm vm₁, locs, cells, slots⟩ { g with stack := rest } (.invokevirtual index) mk (Value.ref b :: argsL).toArray X₁ hg hsize hdg hW (X₁.named hnamed) (hpre vm₁ X₁.warmed) with ⟨v, B, X', hpost, hsteps⟩ | ⟨q, B, X', hpost, hsteps⟩
  · exact Or.inl ⟨v, vm₁, B, X₁.warmed, X', hpost, fun target h => hstep₁ _ fun acts => by rw [doInvoke_state]; exact hsteps.trans h⟩
  · exact Or.inr ⟨q, vm₁, B, X₁.warmed, X', hpost, hstep₁ _ fun acts => by rw [doInvoke_state]; exact hsteps⟩
theorem vx_callSX (X : Stand p l e R s m args below meth c T locs cells slots) (hexec : p.tables.exec = Jvm.exec) {own : String} {index : Nat} {y : MethodName} {bytes : ByteArray} {maxL : Nat} {ret : Option FieldType} {hh : List (Nat × Nat × Nat × Nat)}
    (hown : s.vm.findClass own = some m.cls) (hlink : (Cond.methodLink own index y).before args s = true) (hstat : (Cond.static y).before args s = true) (hinit : (Cond.initialized y.cls).before args s = true)
    (hcode : (Cond.codeWith y bytes maxL ret hh).before args s = true) (hy : y.cls ≠ "java/lang/invoke/MethodHandle" ∧ y.cls ≠ "java/lang/invoke/VarHandle")
    {W9 : Nat} {Pre : Pt → Array Value → Prop} {Post : Pt → Array Value → Option Value → Pt → Prop} {PostX : Pt → Array Value → Addr → Pt → Prop} (hK : vx_Back l R p e below s args y 3 W9 Pre Post PostX)
    {g : JFrame} (hg : g.method = m) (hsize : g.locals.size = c.maxLocals) {argsL rest : List Value} (hlen : ∀ sig, parseMethodDescriptor y.desc = some sig → argsL.length = sig.parameters.length)
    (hstack : g.stack = argsL.reverse ++ rest) (hW : 2 * g.monitorRoom + (rest.map fun v => v.category).sum ≤ W9) (hdg : decode c.code g.pc = .ok (.invokestatic index, 3))
    (hpre : ∀ vm₁, s.WarmedH vm₁ → Pre ⟨T.setVm vm₁, locs, cells, slots⟩ argsL.toArray) :
    (∃ (v : Option Value) (vm₁ : Vm) (B : Pt), s.WarmedH vm₁ ∧ Stand p l e R s m args below meth c B.U B.locs B.cells B.slots ∧ Post ⟨T.setVm vm₁, locs, cells, slots⟩ argsL.toArray v B ∧
      ∀ target, Steps p.tables e below (B.U.setTop { g with pc := g.pc + 3, stack := v.toList ++ rest }) target → Steps p.tables e below (T.setTop g) target) ∨
    (∃ (q : Addr) (vm₁ : Vm) (B : Pt), s.WarmedH vm₁ ∧ Stand p l e R s m args below meth c B.U B.locs B.cells B.slots ∧ PostX ⟨T.setVm vm₁, locs, cells, slots⟩ argsL.toArray q B ∧
      Steps p.tables e below (T.setTop g) ((B.U.setTop { g with stack := rest }).pushFrame (.throwing q))) := by
  obtain ⟨mk, methM, cM, hnamed, hmethM, -, -, -, -, -, -, hsigM⟩ := Cond.codeWith_spec hcode
  have hstatic : methM.isStatic = true := Cond.static_spec hnamed hmethM hstat
  obtain ⟨kP, hkP, -⟩ := className_of_methodNamed hnamed
  have hinitP : kP.init = .initialized := Cond.initialized_spec (findClass_of_methodNamed hnamed) hkP hinit
  obtain ⟨vm₁, X₁, hstep₁⟩ := X.invokestatic hexec hown hlink hnamed hmethM hstatic hkP hinitP hy (g := g) hg (argsL := argsL) (rest := rest) (hlen _ hsigM) hstack hdg
  rcases hK m meth c ⟨T.setVm vm₁, locs, cells, slots⟩ { g with stack := rest } (.invokestatic index) mk argsL.toArray X₁ hg hsize hdg hW (X₁.named hnamed) (hpre vm₁ X₁.warmed) with ⟨v, B, X', hpost, hsteps⟩ | ⟨q, B, X', hpost, hsteps⟩
  · exact Or.inl ⟨v, vm₁, B, X₁.warmed, X', hpost, fun target h => hstep₁ _ fun acts => by rw [doInvoke_state]; exact hsteps.trans h⟩
  · exact Or.inr ⟨q, vm₁, B, X₁.warmed, X', hpost, hstep₁ _ fun acts => by rw [doInvoke_state]; exact hsteps⟩
theorem vx_callVW (X : Stand p l e R s m args below meth c T locs cells slots) (hexec : p.tables.exec = Jvm.exec) {own C : String} {index : Nat} {y : MethodName} {bytes : ByteArray} {maxL : Nat} {ret : Option FieldType} {hh : List (Nat × Nat × Nat × Nat)}
    (hown : s.vm.findClass own = some m.cls) (hlink : (Cond.methodLink own index y).before args s = true) (hinst : (Cond.instanceMethod y).before args s = true) (hsel : (Cond.selects C y y).before args s = true)
    (hcode : (Cond.codeWith y bytes maxL ret hh).before args s = true) (hy : y.cls ≠ "java/lang/invoke/MethodHandle" ∧ y.cls ≠ "java/lang/invoke/VarHandle")
    {W9 : Nat} {Pre : Pt → Array Value → Prop} {Post : Pt → Array Value → Option Value → Pt → Prop} (hK : Back l R p e below s args y 3 W9 Pre Post)
    {b : Addr} {cellB : Cell} (hcell : T.heap[b]? = some cellB) (hobj : cellB.vm.isStatics = false) (hcls : s.vm.findClass C = some cellB.cls)
    {g : JFrame} (hg : g.method = m) (hsize : g.locals.size = c.maxLocals) {argsL rest : List Value} (hlen : ∀ sig, parseMethodDescriptor y.desc = some sig → argsL.length = sig.parameters.length)
    (hstack : g.stack = argsL.reverse ++ .ref b :: rest) (hW : 2 * g.monitorRoom + (rest.map fun v => v.category).sum ≤ W9) (hdg : decode c.code g.pc = .ok (.invokevirtual index, 3))
    (hpre : ∀ vm₁, s.WarmedH vm₁ → Pre ⟨T.setVm vm₁, locs, cells, slots⟩ (Value.ref b :: argsL).toArray) :
    ∃ (v : Option Value) (vm₁ : Vm) (B : Pt), s.WarmedH vm₁ ∧ Stand p l e R s m args below meth c B.U B.locs B.cells B.slots ∧ Post ⟨T.setVm vm₁, locs, cells, slots⟩ (Value.ref b :: argsL).toArray v B ∧
      ∀ target, Steps p.tables e below (B.U.setTop { g with pc := g.pc + 3, stack := v.toList ++ rest }) target → Steps p.tables e below (T.setTop g) target := by
  obtain ⟨mk, methM, hnamed, hmethM, hstM, habM⟩ := Cond.instanceMethod_spec hinst
  obtain ⟨m8, methM', cM, hn8, hmethM', -, -, -, -, -, -, hsigM⟩ := Cond.codeWith_spec hcode
  cases Option.some.inj (hn8.symm.trans hnamed)
  cases hmethM.symm.trans hmethM'
  obtain ⟨c2, r2, m2, q1, q2, q3, q4, kP, hkP, hkPi⟩ := Cond.selects_spec hsel
  cases hcls.symm.trans q1
  cases (State.methodFound?_of_named hnamed hy).symm.trans q2
  cases hnamed.symm.trans q3
  have hselP : selectMethod e.platform s.vm cellB.cls mk = .method mk := by rw [Launch.admits_selectMethod X.admits]; exact q4
  obtain ⟨vm₁, X₁, hstep₁⟩ := X.invokevirtual hexec hown hlink hnamed hmethM hstM hkP hkPi hy (a := b) (cell := cellB) hcell
    (fun z h => by rw [h] at hobj; cases hobj) hselP hmethM habM hkP hkPi (g := g) hg (argsL := argsL) (rest := rest) (hlen _ hsigM) hstack hdg
  obtain ⟨v, B, X', hpost, hsteps⟩ := hK m meth c ⟨T.setVm vm₁, locs, cells, slots⟩ { g with stack := rest } (.invokevirtual index) mk (Value.ref b :: argsL).toArray X₁ hg hsize hdg hW (X₁.named hnamed) (hpre vm₁ X₁.warmed)
  exact ⟨v, vm₁, B, X₁.warmed, X', hpost, fun target h => hstep₁ _ fun acts => by rw [doInvoke_state]; exact hsteps.trans h⟩
abbrev vx_CVW (R : Room) (s : State) (args : Array Value) (own C : String) (index : Nat) (y : MethodName) (bytes : ByteArray) (maxL : Nat) (ret : Option FieldType) (hh : List (Nat × Nat × Nat × Nat)) (ws : List Cond) (rm : Room) (mc ms n : Nat) : Prop :=
  (rm.cells = mc ∧ rm.slots = ms ∧ rm.frames + 1 ≤ R.frames ∧ 8 + (maxL + 11) + rm.locals ≤ R.locals ∧ (∀ w ∈ ws, ∀ (a' : Array Value) (U : State), s.WarmedH U.vm → w.before a' U = true) ∧ Cond.codeWith y bytes maxL ret hh ∈ ws) ∧
  (Cond.codeWith y bytes maxL ret hh).before args s = true ∧ (Cond.initialized y.cls).before args s = true ∧ (y.cls ≠ "java/lang/invoke/MethodHandle" ∧ y.cls ≠ "java/lang/invoke/VarHandle") ∧
  (∀ sig, parseMethodDescriptor y.desc = some sig → n = sig.parameters.length) ∧ (Cond.methodLink own index y).before args s = true ∧ (Cond.instanceMethod y).before args s = true ∧ (Cond.selects C y y).before args s = true
theorem vx_cwVW {own C : String} {index maxL mc ms : Nat} {y : MethodName} {bytes : ByteArray} {ret : Option FieldType} {hh : List (Nat × Nat × Nat × Nat)} {Ts ws ws' : List Cond} {rm : Room} (n : Nat) (ht : ∀ w ∈ Ts, w.before args s = true) (hT : GoodIn Ts (wsV own index C y ws)) (hw : ws = Cond.codeWith y bytes maxL ret hh :: ws') (hrc : rm.cells = mc) (hrs : rm.slots = ms)
    (hd : y.cls = C ∧ y.cls ≠ "java/lang/invoke/MethodHandle" ∧ y.cls ≠ "java/lang/invoke/VarHandle" ∧ (parseMethodDescriptor y.desc).map (fun d => d.parameters.length) = some n) (hR : rm.frames + 1 ≤ R.frames ∧ 8 + (maxL + 11) + rm.locals ≤ R.locals) :
    vx_CVW R s args own C index y bytes maxL ret hh ws rm mc ms n := by
  obtain ⟨hC, hd⟩ := hd
  subst hC
  have ok : ∀ w ∈ wsV own index y.cls y ws, w.before args s = true := fun w h => ht w (hT w h).1
  have hG : GoodIn Ts ws := fun w h => hT w (by unfold wsV; exact List.mem_append_right _ h)
  have hc : Cond.codeWith y bytes maxL ret hh ∈ ws := by rw [hw]; exact List.mem_cons_self
  refine ⟨⟨hrc, hrs, hR.1, hR.2, pay_in ht hG, hc⟩, ht _ (hG _ hc).1, ok _ (by simp [wsV]), ⟨hd.1, hd.2.1⟩, fun sig h => ?_, ok _ (by simp [wsV]), ok _ (by simp [wsV]), ok _ (by simp [wsV])⟩
  have h2 := hd.2.2
  rw [h] at h2
  exact (Option.some.inj h2).symm
theorem vx_runVW {y : MethodName} {bytes cc : ByteArray} {maxL nL mc ms n index : Nat} {ret : Option FieldType} {hh : List (Nat × Nat × Nat × Nat)} {ws : List Cond} {rm : Room} {Pc : Array Value → State → Prop} {Qc : Array Value → State → Outcome → State → Prop} {free : Addr → Prop} {Ts : List Cond} {own C : String} {b : Addr} {As rest : List Value} {g : JFrame}
    (S : CallFix p m c cc nL s args Ts own) (hM : Met l y ws rm Pc Qc mc ms free) (cw : vx_CVW R s args own C index y bytes maxL ret hh ws rm mc ms n) (hp : PreV s H C b Pc As)
    (hg : g.method = m) (hn : As.length = n) (hsize : g.locals.size = nL) (hstack : g.stack = As.reverse ++ .ref b :: rest) (hW : 2 * g.monitorRoom + (rest.map fun v => v.category).sum ≤ 8) (hdg : decode cc g.pc = .ok (.invokevirtual index, 3)) (hf : cells + mc ≤ R.cells ∧ slots + ms ≤ R.slots) :
    va_Run p l e R s m args below meth c H locs cells slots mc ms g rest (Qc (Value.ref b :: As).toArray) free := by
  obtain ⟨⟨hrc, hrs, hfr, hlo, hws, hcw⟩, hcode, hini, hy, hlen, hl, hin, hse⟩ := cw
  have hK : Back l R p e below s args y 3 8 (PreOf R mc ms Pc) (PostOf Qc mc ms free) := va_backW (hh := hh) (bytes := bytes) (maxL := maxL) (ret := ret) hM hp.1 hrc hrs hfr hlo hws hcw (fun a' U hW => word_at hW (Or.inl (by first | rfl | simp [Cond.onTables, Cond.keeps, Cond.steady])) hini)
  obtain ⟨hx, hb, hml, ho, -⟩ := S
  obtain ⟨-, ⟨cellB, hcB, hoB, hclB⟩, hPc⟩ := hp
  intro T hT X
  obtain ⟨v, vm₁, ⟨U', l2, c2, s2⟩, hW₁, X', ⟨g', mk, t, L, e1, e2, hq, h1, hL, h2, h3⟩, st⟩ := vx_callVW X hx (C := C) (hh := hh) (bytes := bytes) (maxL := maxL) (ret := ret) ho hl hin hse hcode hy hK (by rw [hT]; exact hcB) hoB hclB hg (hsize.trans hml.symm) (argsL := As) (rest := rest) (fun sig h => hn.trans (hlen sig h)) hstack hW (by rw [hb]; exact hdg)
    (fun vm₁ hW₁ => ⟨hf.1, hf.2, hPc (T.setVm vm₁) hT hW₁⟩)
  dsimp only [Pt.U, Pt.locs, Pt.cells, Pt.slots] at X' e1 e2 h1 h2 h3 st
  subst h1; subst h2; subst h3
  exact ⟨v, (T.setVm vm₁).calling g' mk (Value.ref b :: As).toArray, t, U', L, hT, X', hL, e1, e2, hq, st⟩
section
variable {y : MethodName} {bytes cc : ByteArray} {maxL nL mc ms n index : Nat} {ret : Option FieldType} {ws : List Cond} {rm : Room} {Pc : Array Value → State → Prop} {Qc : Array Value → State → Outcome → State → Prop} {XC : String → State → State → Prop} {free : Addr → Prop} {Ts : List Cond} {own C : String} {b : Addr} {As rest : List Value} {g : JFrame}
theorem vx_runVX {hh : List (Nat × Nat × Nat × Nat)} (S : CallFix p m c cc nL s args Ts own) (hM : vx_Met l y ws rm Pc Qc XC mc ms free) (cw : vx_CVW R s args own C index y bytes maxL ret hh ws rm mc ms n) (hp : PreV s H C b Pc As)
    (hg : g.method = m) (hn : As.length = n) (hsize : g.locals.size = nL) (hstack : g.stack = As.reverse ++ .ref b :: rest) (hW : 2 * g.monitorRoom + (rest.map fun v => v.category).sum ≤ 8) (hdg : decode cc g.pc = .ok (.invokevirtual index, 3)) (hf : cells + mc ≤ R.cells ∧ slots + ms ≤ R.slots) :
    vx_Run p l e R s m args below meth c H locs cells slots mc ms g rest (Qc (Value.ref b :: As).toArray) XC free := by
  obtain ⟨⟨hrc, hrs, hfr, hlo, hws, hcw⟩, hcode, hini, hy, hlen, hl, hin, hse⟩ := cw
  have hK : vx_Back l R p e below s args y 3 8 (PreOf R mc ms Pc) (PostOf Qc mc ms free) (vx_Post XC mc ms free) := vx_backW (hh := hh) (bytes := bytes) (maxL := maxL) (ret := ret) hM hp.1 hrc hrs hfr hlo hws hcw (fun a' U hW => word_at hW (Or.inl (by first | rfl | simp [Cond.onTables, Cond.keeps, Cond.steady])) hini)
  obtain ⟨hx, hb, hml, ho, -⟩ := S
  obtain ⟨-, ⟨cellB, hcB, hoB, hclB⟩, hPc⟩ := hp
  intro T hT X
  rcases vx_callVX X hx (C := C) (hh := hh) (bytes := bytes) (maxL := maxL) (ret := ret) ho hl hin hse hcode hy hK (by rw [hT]; exact hcB) hoB hclB hg (hsize.trans hml.symm) (argsL := As) (rest := rest) (fun sig h => hn.trans (hlen sig h)) hstack hW (by rw [hb]; exact hdg)
    (fun vm₁ hW₁ => ⟨hf.1, hf.2, hPc (T.setVm vm₁) hT hW₁⟩) with ⟨v, vm₁, ⟨U', l2, c2, s2⟩, hW₁, X', ⟨g', mk, t, L, e1, e2, hq, h1, hL, h2, h3⟩, st⟩ | ⟨q, vm₁, ⟨U', l2, c2, s2⟩, hW₁, X', ⟨g', mk, t, L, E, ce, e1, e2, hq, hce, hcv, hcl, h1, hL, h2, h3⟩, st⟩
  · dsimp only [Pt.U, Pt.locs, Pt.cells, Pt.slots] at X' e1 e2 h1 h2 h3 st
    subst h1; subst h2; subst h3
    exact Or.inl ⟨v, (T.setVm vm₁).calling g' mk (Value.ref b :: As).toArray, t, U', L, hT, X', hL, e1, e2, hq, st⟩
  · dsimp only [Pt.U, Pt.locs, Pt.cells, Pt.slots] at X' e1 e2 h1 h2 h3 st hcl
    subst h1; subst h2; subst h3
    exact Or.inr ⟨q, (T.setVm vm₁).calling g' mk (Value.ref b :: As).toArray, t, U', L, E, ce, hT, X', hL, e1, e2, hq, hce, hcv, vx_cls hW₁ hcl, st⟩
theorem vx_runSX {hh : List (Nat × Nat × Nat × Nat)} (S : CallFix p m c cc nL s args Ts own) (hM : vx_Met l y ws rm Pc Qc XC mc ms free) (cw : vx_CSW R s args own index y bytes maxL ret hh ws rm mc ms n) (hp : PreS s H Pc As)
    (hg : g.method = m) (hn : As.length = n) (hsize : g.locals.size = nL) (hstack : g.stack = As.reverse ++ rest) (hW : 2 * g.monitorRoom + (rest.map fun v => v.category).sum ≤ 8) (hdg : decode cc g.pc = .ok (.invokestatic index, 3)) (hf : cells + mc ≤ R.cells ∧ slots + ms ≤ R.slots) :
    vx_Run p l e R s m args below meth c H locs cells slots mc ms g rest (Qc As.toArray) XC free := by
  obtain ⟨⟨hrc, hrs, hfr, hlo, hws, hcw⟩, hcode, hini, hy, hlen, hl, hstt⟩ := cw
  have hK : vx_Back l R p e below s args y 3 8 (PreOf R mc ms Pc) (PostOf Qc mc ms free) (vx_Post XC mc ms free) := vx_backW (hh := hh) (bytes := bytes) (maxL := maxL) (ret := ret) hM hp.1 hrc hrs hfr hlo hws hcw (fun a' U hW => word_at hW (Or.inl (by first | rfl | simp [Cond.onTables, Cond.keeps, Cond.steady])) hini)
  obtain ⟨hx, hb, hml, ho, -⟩ := S
  intro T hT X
  rcases vx_callSX X hx (hh := hh) (bytes := bytes) (maxL := maxL) (ret := ret) ho hl hstt hini hcode hy hK hg (hsize.trans hml.symm) (argsL := As) (rest := rest) (fun sig h => hn.trans (hlen sig h)) hstack hW (by rw [hb]; exact hdg)
    (fun vm₁ hW₁ => ⟨hf.1, hf.2, hp.2 (T.setVm vm₁) hT hW₁⟩) with ⟨v, vm₁, ⟨U', l2, c2, s2⟩, hW₁, X', ⟨g', mk, t, L, e1, e2, hq, h1, hL, h2, h3⟩, st⟩ | ⟨q, vm₁, ⟨U', l2, c2, s2⟩, hW₁, X', ⟨g', mk, t, L, E, ce, e1, e2, hq, hce, hcv, hcl, h1, hL, h2, h3⟩, st⟩
  · dsimp only [Pt.U, Pt.locs, Pt.cells, Pt.slots] at X' e1 e2 h1 h2 h3 st
    subst h1; subst h2; subst h3
    exact Or.inl ⟨v, (T.setVm vm₁).calling g' mk As.toArray, t, U', L, hT, X', hL, e1, e2, hq, st⟩
  · dsimp only [Pt.U, Pt.locs, Pt.cells, Pt.slots] at X' e1 e2 h1 h2 h3 st hcl
    subst h1; subst h2; subst h3
    exact Or.inr ⟨q, (T.setVm vm₁).calling g' mk As.toArray, t, U', L, E, ce, hT, X', hL, e1, e2, hq, hce, hcv, vx_cls hW₁ hcl, st⟩
end
end VXH
theorem vx_ofWH {l : Launch} {y : MethodName} {ws ws' : List Cond} {rm : Room} {Pc : Array Value → State → Prop} {Qc : Array Value → State → Outcome → State → Prop} {XC : String → State → State → Prop} {mc ms : Nat} {free : Addr → Prop} {cc : ByteArray} {maxL : Nat} {ret : Option FieldType} {hh : List (Nat × Nat × Nat × Nat)}
    (hy : plainName y.cls = true) (hw : ws = Cond.codeWith y cc maxL ret hh :: ws')
    (body : ∀ p e s m args below meth c s₁, BodyLoose p l y (headSpec ws rm) cc maxL ret e s m args below meth c s₁ → c.maxLocals = maxL → Pc args s →
      W p l e (headSpec ws rm).room s m args below meth c s.heap [] 0 0 (vx_MQ below Qc XC args s mc ms free) (entryFrame m args maxL)) : vx_Met l y ws rm Pc Qc XC mc ms free := by
  refine MetFree.of_bodyS (code := cc) (maxLocals := maxL) (ret := ret) hy ?_ ?_
  · intro args s m h hn
    obtain ⟨m9, meth, c, hn9, h1, h2, h3, h4, -, h5, h6, -⟩ := Cond.codeWith_spec (atoms_spec (ws := ws) h _ (by rw [hw]; exact List.mem_cons_self))
    cases hn.symm.trans hn9
    exact ⟨meth, c, h1, h2, h3, h4, h5, h6⟩
  · intro p e s m args below meth c s₁ B hml hP _
    have hh0 : s₁.heap = s.heap := by rw [B.state]; rfl
    obtain ⟨t, a1, o, b1, b2, b3⟩ := body p e s m args below meth c s₁ B hml hP s₁ hh0 (Stand.of_body B)
    exact ⟨t, o, a1, b1, b2, b3⟩
/-! ===== END ===== -/
end
section
/-! ===== BEGIN printed: names, fields, word lists, decode rows ===== -/
def RX0 : String := "UndoWorks$Data"
def TX0 : u_T := fun k => match k with
  | 0 => ("UndoWorks$Data", "numbers", "[I", true)
  | 1 => ("UndoWorks$Data", "row", "[I", true)
  | 2 => ("UndoWorks$Data", "places", "I", false)
  | 3 => ("UndoWorks$Data", "held", "[I", true)
  | 4 => ("UndoWorks$Data", "counters", "[I", true)
  | 5 => ("UndoWorks$Data", "log", "[I", true)
  | _ => ("UndoWorks$Data", "notes", "I", false)
def tyX0 : Nat → FieldType := fun k => match k with
  | 0 => .array .int
  | 1 => .array .int
  | 2 => .int
  | 3 => .array .int
  | 4 => .array .int
  | 5 => .array .int
  | _ => .int
abbrev wsX00 : List Cond := u_ws RX0 TX0 7
theorem nmX0 : ∀ a, a < 7 → ∀ b, b < 7 → a ≠ b → (TX0 a).2.1 ≠ (TX0 b).2.1 := by decide +kernel
theorem tyX0_ok : ∀ k, k < 7 → parseFieldDescriptor (TX0 k).2.2.1 = some (tyX0 k) := by decide +kernel
abbrev cX0_init : ByteArray := prog_2_method_1_code
def yX0_init : MethodName := ⟨RX0, "<init>", "()V"⟩
abbrev cX0_hasPlace : ByteArray := prog_2_method_2_code
def yX0_hasPlace : MethodName := ⟨RX0, "hasPlace", "(I)Z"⟩
abbrev cX0_takeNote : ByteArray := prog_2_method_3_code
def yX0_takeNote : MethodName := ⟨RX0, "takeNote", "(I)V"⟩
abbrev cX0_makeRow : ByteArray := prog_2_method_4_code
def yX0_makeRow : MethodName := ⟨RX0, "makeRow", "(I)V"⟩
def RX1 : String := "UndoWorks$UndoList"
def TX1 : u_T := fun k => match k with
  | 0 => ("UndoWorks$UndoList", "sort", "[I", true)
  | 1 => ("UndoWorks$UndoList", "where", "[I", true)
  | 2 => ("UndoWorks$UndoList", "was", "[I", true)
  | 3 => ("UndoWorks$UndoList", "wasHeld", "[I", true)
  | 4 => ("UndoWorks$UndoList", "wasRow", "[I", true)
  | 5 => ("UndoWorks$UndoList", "size", "I", false)
  | 6 => ("UndoWorks$UndoList", "scope", "I", false)
  | 7 => ("UndoWorks$UndoList", "undone", "I", false)
  | _ => ("UndoWorks$UndoList", "lost", "I", false)
def tyX1 : Nat → FieldType := fun k => match k with
  | 0 => .array .int
  | 1 => .array .int
  | 2 => .array .int
  | 3 => .array .int
  | 4 => .array .int
  | 5 => .int
  | 6 => .int
  | 7 => .int
  | _ => .int
abbrev wsX10 : List Cond := u_ws RX1 TX1 9
theorem nmX1 : ∀ a, a < 9 → ∀ b, b < 9 → a ≠ b → (TX1 a).2.1 ≠ (TX1 b).2.1 := by decide +kernel
theorem tyX1_ok : ∀ k, k < 9 → parseFieldDescriptor (TX1 k).2.2.1 = some (tyX1 k) := by decide +kernel
abbrev cX1_init : ByteArray := prog_3_method_1_code
def yX1_init : MethodName := ⟨RX1, "<init>", "()V"⟩
abbrev cX1_enterScope : ByteArray := prog_3_method_2_code
def yX1_enterScope : MethodName := ⟨RX1, "enterScope", "()I"⟩
abbrev cX1_leaveScope : ByteArray := prog_3_method_3_code
def yX1_leaveScope : MethodName := ⟨RX1, "leaveScope", "(I)V"⟩
abbrev cX1_keep : ByteArray := prog_3_method_4_code
def yX1_keep : MethodName := ⟨RX1, "keep", "()V"⟩
abbrev cX1_remember : ByteArray := prog_3_method_5_code
def yX1_remember : MethodName := ⟨RX1, "remember", "(III)V"⟩
abbrev cX1_rememberRow : ByteArray := prog_3_method_6_code
def yX1_rememberRow : MethodName := ⟨RX1, "rememberRow", "(LUndoWorks$Data;)V"⟩
abbrev cX1_rememberSlot : ByteArray := prog_3_method_7_code
def yX1_rememberSlot : MethodName := ⟨RX1, "rememberSlot", "(ILUndoWorks$Data;)V"⟩
abbrev cX1_undoScope : ByteArray := prog_3_method_8_code
def yX1_undoScope : MethodName := ⟨RX1, "undoScope", "(LUndoWorks$Data;)V"⟩
abbrev cX1_hasRoom : ByteArray := prog_3_method_9_code
def yX1_hasRoom : MethodName := ⟨RX1, "hasRoom", "()Z"⟩
abbrev cX1_undoAt : ByteArray := prog_3_method_10_code
def yX1_undoAt : MethodName := ⟨RX1, "undoAt", "(ILUndoWorks$Data;)V"⟩
def RX2 : String := "UndoWorks$Workflow"
def TX2 : u_T := fun k => match k with
  | 0 => ("UndoWorks$Workflow", "sort", "[I", true)
  | 1 => ("UndoWorks$Workflow", "a", "[I", true)
  | 2 => ("UndoWorks$Workflow", "b", "[I", true)
  | 3 => ("UndoWorks$Workflow", "partEnd", "[I", true)
  | 4 => ("UndoWorks$Workflow", "blockEnd", "[I", true)
  | 5 => ("UndoWorks$Workflow", "openBlock", "[I", true)
  | 6 => ("UndoWorks$Workflow", "openPart", "[I", true)
  | 7 => ("UndoWorks$Workflow", "open", "I", false)
  | _ => ("UndoWorks$Workflow", "size", "I", false)
def tyX2 : Nat → FieldType := fun k => match k with
  | 0 => .array .int
  | 1 => .array .int
  | 2 => .array .int
  | 3 => .array .int
  | 4 => .array .int
  | 5 => .array .int
  | 6 => .array .int
  | 7 => .int
  | _ => .int
abbrev wsX20 : List Cond := u_ws RX2 TX2 9
theorem nmX2 : ∀ a, a < 9 → ∀ b, b < 9 → a ≠ b → (TX2 a).2.1 ≠ (TX2 b).2.1 := by decide +kernel
theorem tyX2_ok : ∀ k, k < 9 → parseFieldDescriptor (TX2 k).2.2.1 = some (tyX2 k) := by decide +kernel
abbrev cX2_init : ByteArray := prog_4_method_1_code
def yX2_init : MethodName := ⟨RX2, "<init>", "()V"⟩
abbrev cX2_isWhole : ByteArray := prog_4_method_2_code
def yX2_isWhole : MethodName := ⟨RX2, "isWhole", "()Z"⟩
abbrev cX2_empty : ByteArray := prog_4_method_3_code
def yX2_empty : MethodName := ⟨RX2, "empty", "()V"⟩
abbrev cX2_canTake : ByteArray := prog_4_method_4_code
def yX2_canTake : MethodName := ⟨RX2, "canTake", "(II)Z"⟩
abbrev cX2_append : ByteArray := prog_4_method_5_code
def yX2_append : MethodName := ⟨RX2, "append", "(III)V"⟩
abbrev cX2_latestPart : ByteArray := prog_4_method_6_code
def yX2_latestPart : MethodName := ⟨RX2, "latestPart", "()I"⟩
abbrev cX2_openLoops : ByteArray := prog_4_method_7_code
def yX2_openLoops : MethodName := ⟨RX2, "openLoops", "()I"⟩
abbrev cX2_openAt : ByteArray := prog_4_method_8_code
def yX2_openAt : MethodName := ⟨RX2, "openAt", "(I)V"⟩
abbrev cX2_beginPartAt : ByteArray := prog_4_method_9_code
def yX2_beginPartAt : MethodName := ⟨RX2, "beginPartAt", "(I)V"⟩
abbrev cX2_closeAt : ByteArray := prog_4_method_10_code
def yX2_closeAt : MethodName := ⟨RX2, "closeAt", "(I)V"⟩
def RX3 : String := "UndoWorks"
def TX3 : u_T := fun k => match k with
  | 0 => ("UndoWorks", "workflows", "[LUndoWorks$Workflow;", true)
  | 1 => ("UndoWorks", "data", "LUndoWorks$Data;", true)
  | 2 => ("UndoWorks", "undoList", "LUndoWorks$UndoList;", true)
  | 3 => ("UndoWorks", "cost", "I", false)
  | 4 => ("UndoWorks", "latestGiven", "I", false)
  | _ => ("UndoWorks", "runs", "I", false)
def tyX3 : Nat → FieldType := fun k => match k with
  | 0 => .array (.object "UndoWorks$Workflow")
  | 1 => .object "UndoWorks$Data"
  | 2 => .object "UndoWorks$UndoList"
  | 3 => .int
  | 4 => .int
  | _ => .int
abbrev wsX30 : List Cond := u_ws RX3 TX3 6
theorem nmX3 : ∀ a, a < 6 → ∀ b, b < 6 → a ≠ b → (TX3 a).2.1 ≠ (TX3 b).2.1 := by decide +kernel
theorem tyX3_ok : ∀ k, k < 6 → parseFieldDescriptor (TX3 k).2.2.1 = some (tyX3 k) := by decide +kernel
abbrev cX3_init : ByteArray := prog_1_method_1_code
def yX3_init : MethodName := ⟨RX3, "<init>", "()V"⟩
abbrev cX3_node : ByteArray := prog_1_method_2_code
def yX3_node : MethodName := ⟨RX3, "node", "(IIII)I"⟩
abbrev cX3_clear : ByteArray := prog_1_method_3_code
def yX3_clear : MethodName := ⟨RX3, "clear", "(I)V"⟩
abbrev cX3_run : ByteArray := prog_1_method_4_code
def yX3_run : MethodName := ⟨RX3, "run", "(I)I"⟩
abbrev cX3_given : ByteArray := prog_1_method_5_code
def yX3_given : MethodName := ⟨RX3, "given", "()I"⟩
abbrev cX3_number : ByteArray := prog_1_method_6_code
def yX3_number : MethodName := ⟨RX3, "number", "(I)I"⟩
abbrev cX3_row : ByteArray := prog_1_method_7_code
def yX3_row : MethodName := ⟨RX3, "row", "(I)I"⟩
abbrev cX3_log : ByteArray := prog_1_method_8_code
def yX3_log : MethodName := ⟨RX3, "log", "(I)I"⟩
abbrev cX3_count : ByteArray := prog_1_method_9_code
def yX3_count : MethodName := ⟨RX3, "count", "(I)I"⟩
abbrev cX3_demand : ByteArray := prog_1_method_10_code
def yX3_demand : MethodName := ⟨RX3, "demand", "(Z)V"⟩
abbrev cX3_demandRange : ByteArray := prog_1_method_11_code
def yX3_demandRange : MethodName := ⟨RX3, "demandRange", "(II)V"⟩
abbrev cX3_isBelow : ByteArray := prog_1_method_12_code
def yX3_isBelow : MethodName := ⟨RX3, "isBelow", "(II)Z"⟩
abbrev cX3_allNodes : ByteArray := prog_1_method_13_code
def yX3_allNodes : MethodName := ⟨RX3, "allNodes", "()I"⟩
abbrev cX3_wayOf : ByteArray := prog_1_method_14_code
def yX3_wayOf : MethodName := ⟨RX3, "wayOf", "(II)J"⟩
abbrev cX3_howOf : ByteArray := prog_1_method_15_code
def yX3_howOf : MethodName := ⟨RX3, "howOf", "(J)I"⟩
abbrev cX3_numberOf : ByteArray := prog_1_method_16_code
def yX3_numberOf : MethodName := ⟨RX3, "numberOf", "(J)I"⟩
abbrev cX3_failing : ByteArray := prog_1_method_17_code
def yX3_failing : MethodName := ⟨RX3, "failing", "(I)J"⟩
abbrev cX3_answerOf : ByteArray := prog_1_method_18_code
def yX3_answerOf : MethodName := ⟨RX3, "answerOf", "(J)I"⟩
abbrev cX3_canPay : ByteArray := prog_1_method_19_code
def yX3_canPay : MethodName := ⟨RX3, "canPay", "()Z"⟩
abbrev cX3_doPart : ByteArray := prog_1_method_20_code
def yX3_doPart : MethodName := ⟨RX3, "doPart", "(LUndoWorks$Workflow;II)J"⟩
abbrev cX3_doNode : ByteArray := prog_1_method_21_code
def yX3_doNode : MethodName := ⟨RX3, "doNode", "(LUndoWorks$Workflow;II)J"⟩
abbrev cX3_doTry : ByteArray := prog_1_method_22_code
def yX3_doTry : MethodName := ⟨RX3, "doTry", "(LUndoWorks$Workflow;II)J"⟩
abbrev cX3_doLoop : ByteArray := prog_1_method_23_code
def yX3_doLoop : MethodName := ⟨RX3, "doLoop", "(LUndoWorks$Workflow;II)J"⟩
abbrev cX3_doScope : ByteArray := prog_1_method_24_code
def yX3_doScope : MethodName := ⟨RX3, "doScope", "(LUndoWorks$Workflow;II)J"⟩
abbrev cX3_doMute : ByteArray := prog_1_method_25_code
def yX3_doMute : MethodName := ⟨RX3, "doMute", "(LUndoWorks$Workflow;II)J"⟩
abbrev cX3_doIf : ByteArray := prog_1_method_26_code
def yX3_doIf : MethodName := ⟨RX3, "doIf", "(LUndoWorks$Workflow;II)J"⟩
abbrev cX3_doCall : ByteArray := prog_1_method_27_code
def yX3_doCall : MethodName := ⟨RX3, "doCall", "(III)J"⟩
abbrev cX3_doStep : ByteArray := prog_1_method_28_code
def yX3_doStep : MethodName := ⟨RX3, "doStep", "(III)J"⟩
abbrev cX3_doNote : ByteArray := prog_1_method_29_code
def yX3_doNote : MethodName := ⟨RX3, "doNote", "(I)J"⟩
abbrev cX3_doAdd : ByteArray := prog_1_method_30_code
def yX3_doAdd : MethodName := ⟨RX3, "doAdd", "(II)J"⟩
abbrev cX3_doSet : ByteArray := prog_1_method_31_code
def yX3_doSet : MethodName := ⟨RX3, "doSet", "(II)J"⟩
abbrev cX3_doDivide : ByteArray := prog_1_method_32_code
def yX3_doDivide : MethodName := ⟨RX3, "doDivide", "(II)J"⟩
abbrev cX3_doRead : ByteArray := prog_1_method_33_code
def yX3_doRead : MethodName := ⟨RX3, "doRead", "(II)J"⟩
abbrev cX3_doWrite : ByteArray := prog_1_method_34_code
def yX3_doWrite : MethodName := ⟨RX3, "doWrite", "(II)J"⟩
abbrev cX3_doMake : ByteArray := prog_1_method_35_code
def yX3_doMake : MethodName := ⟨RX3, "doMake", "(I)J"⟩
abbrev cX3_doHold : ByteArray := prog_1_method_36_code
def yX3_doHold : MethodName := ⟨RX3, "doHold", "(II)J"⟩
abbrev cX3_doUse : ByteArray := prog_1_method_37_code
def yX3_doUse : MethodName := ⟨RX3, "doUse", "(I)J"⟩
abbrev cX3_doKeep : ByteArray := prog_1_method_38_code
def yX3_doKeep : MethodName := ⟨RX3, "doKeep", "()J"⟩
def RX4 : String := "UndoWorksModel"
def TX4 : u_T := fun k => match k with
  | 0 => ("UndoWorksModel", "thrown", "I", false)
  | 1 => ("UndoWorksModel", "sort", "[I", true)
  | 2 => ("UndoWorksModel", "first", "[I", true)
  | 3 => ("UndoWorksModel", "second", "[I", true)
  | 4 => ("UndoWorksModel", "many", "[I", true)
  | 5 => ("UndoWorksModel", "number", "[I", true)
  | 6 => ("UndoWorksModel", "row", "[I", true)
  | 7 => ("UndoWorksModel", "places", "I", false)
  | 8 => ("UndoWorksModel", "slot", "[I", true)
  | 9 => ("UndoWorksModel", "boxKind", "[I", true)
  | 10 => ("UndoWorksModel", "boxCount", "[I", true)
  | 11 => ("UndoWorksModel", "keptKind", "[I", true)
  | 12 => ("UndoWorksModel", "keptCount", "[I", true)
  | 13 => ("UndoWorksModel", "boxes", "I", false)
  | 14 => ("UndoWorksModel", "log", "[I", true)
  | 15 => ("UndoWorksModel", "logged", "I", false)
  | 16 => ("UndoWorksModel", "cost", "I", false)
  | 17 => ("UndoWorksModel", "lost", "I", false)
  | 18 => ("UndoWorksModel", "undone", "I", false)
  | 19 => ("UndoWorksModel", "runs", "I", false)
  | 20 => ("UndoWorksModel", "given", "I", false)
  | 21 => ("UndoWorksModel", "kind", "I", false)
  | 22 => ("UndoWorksModel", "value", "I", false)
  | 23 => ("UndoWorksModel", "calls", "I", false)
  | 24 => ("UndoWorksModel", "undoSort", "[I", true)
  | 25 => ("UndoWorksModel", "undoAt", "[I", true)
  | 26 => ("UndoWorksModel", "undoWas", "[I", true)
  | 27 => ("UndoWorksModel", "undoRow", "[I", true)
  | 28 => ("UndoWorksModel", "undos", "I", false)
  | 29 => ("UndoWorksModel", "mark", "[I", true)
  | 30 => ("UndoWorksModel", "scopes", "I", false)
  | 31 => ("UndoWorksModel", "openSort", "[I", true)
  | 32 => ("UndoWorksModel", "openHead", "[I", true)
  | 33 => ("UndoWorksModel", "openEnd", "[I", true)
  | 34 => ("UndoWorksModel", "openPart", "[I", true)
  | 35 => ("UndoWorksModel", "openLeft", "[I", true)
  | 36 => ("UndoWorksModel", "heldWay", "[I", true)
  | 37 => ("UndoWorksModel", "heldKind", "[I", true)
  | 38 => ("UndoWorksModel", "heldValue", "[I", true)
  | 39 => ("UndoWorksModel", "open", "I", false)
  | 40 => ("UndoWorksModel", "at", "I", false)
  | 41 => ("UndoWorksModel", "way", "I", false)
  | _ => ("UndoWorksModel", "loops", "I", false)
def tyX4 : Nat → FieldType := fun k => match k with
  | 0 => .int
  | 1 => .array .int
  | 2 => .array .int
  | 3 => .array .int
  | 4 => .array .int
  | 5 => .array .int
  | 6 => .array .int
  | 7 => .int
  | 8 => .array .int
  | 9 => .array .int
  | 10 => .array .int
  | 11 => .array .int
  | 12 => .array .int
  | 13 => .int
  | 14 => .array .int
  | 15 => .int
  | 16 => .int
  | 17 => .int
  | 18 => .int
  | 19 => .int
  | 20 => .int
  | 21 => .int
  | 22 => .int
  | 23 => .int
  | 24 => .array .int
  | 25 => .array .int
  | 26 => .array .int
  | 27 => .array .int
  | 28 => .int
  | 29 => .array .int
  | 30 => .int
  | 31 => .array .int
  | 32 => .array .int
  | 33 => .array .int
  | 34 => .array .int
  | 35 => .array .int
  | 36 => .array .int
  | 37 => .array .int
  | 38 => .array .int
  | 39 => .int
  | 40 => .int
  | 41 => .int
  | _ => .int
abbrev wsX40 : List Cond := u_ws RX4 TX4 43
theorem nmX4 : ∀ a, a < 43 → ∀ b, b < 43 → a ≠ b → (TX4 a).2.1 ≠ (TX4 b).2.1 := by decide +kernel
theorem tyX4_ok : ∀ k, k < 43 → parseFieldDescriptor (TX4 k).2.2.1 = some (tyX4 k) := by decide +kernel
abbrev cX4_init : ByteArray := prog_6_method_1_code
def yX4_init : MethodName := ⟨RX4, "<init>", "()V"⟩
abbrev cX4_thrown : ByteArray := prog_6_method_2_code
def yX4_thrown : MethodName := ⟨RX4, "thrown", "()I"⟩
abbrev cX4_no : ByteArray := prog_6_method_3_code
def yX4_no : MethodName := ⟨RX4, "no", "(I)I"⟩
abbrev cX4_opens : ByteArray := prog_6_method_4_code
def yX4_opens : MethodName := ⟨RX4, "opens", "(I)Z"⟩
abbrev cX4_look : ByteArray := prog_6_method_5_code
def yX4_look : MethodName := ⟨RX4, "look", "(I)V"⟩
abbrev cX4_stands : ByteArray := prog_6_method_6_code
def yX4_stands : MethodName := ⟨RX4, "stands", "(II)Z"⟩
abbrev cX4_within : ByteArray := prog_6_method_7_code
def yX4_within : MethodName := ⟨RX4, "within", "(II)Z"⟩
abbrev cX4_right : ByteArray := prog_6_method_8_code
def yX4_right : MethodName := ⟨RX4, "right", "(III)Z"⟩
abbrev cX4_node : ByteArray := prog_6_method_9_code
def yX4_node : MethodName := ⟨RX4, "node", "(IIII)I"⟩
abbrev cX4_clear : ByteArray := prog_6_method_10_code
def yX4_clear : MethodName := ⟨RX4, "clear", "(I)V"⟩
abbrev cX4_unended : ByteArray := prog_6_method_11_code
def yX4_unended : MethodName := ⟨RX4, "unended", "(I)I"⟩
abbrev cX4_after : ByteArray := prog_6_method_12_code
def yX4_after : MethodName := ⟨RX4, "after", "(I)I"⟩
abbrev cX4_endOf : ByteArray := prog_6_method_13_code
def yX4_endOf : MethodName := ⟨RX4, "endOf", "(I)I"⟩
abbrev cX4_partOf : ByteArray := prog_6_method_14_code
def yX4_partOf : MethodName := ⟨RX4, "partOf", "(II)I"⟩
abbrev cX4_remember : ByteArray := prog_6_method_15_code
def yX4_remember : MethodName := ⟨RX4, "remember", "(III)V"⟩
abbrev cX4_undoOne : ByteArray := prog_6_method_16_code
def yX4_undoOne : MethodName := ⟨RX4, "undoOne", "()V"⟩
abbrev cX4_pays : ByteArray := prog_6_method_17_code
def yX4_pays : MethodName := ⟨RX4, "pays", "()Z"⟩
abbrev cX4_fails : ByteArray := prog_6_method_18_code
def yX4_fails : MethodName := ⟨RX4, "fails", "(I)I"⟩
abbrev cX4_note : ByteArray := prog_6_method_19_code
def yX4_note : MethodName := ⟨RX4, "note", "(I)V"⟩
abbrev cX4_plain : ByteArray := prog_6_method_20_code
def yX4_plain : MethodName := ⟨RX4, "plain", "(III)I"⟩
abbrev cX4_makes : ByteArray := prog_6_method_21_code
def yX4_makes : MethodName := ⟨RX4, "makes", "(I)I"⟩
abbrev cX4_onRow : ByteArray := prog_6_method_22_code
def yX4_onRow : MethodName := ⟨RX4, "onRow", "(III)I"⟩
abbrev cX4_uses : ByteArray := prog_6_method_23_code
def yX4_uses : MethodName := ⟨RX4, "uses", "(I)I"⟩
abbrev cX4_box : ByteArray := prog_6_method_24_code
def yX4_box : MethodName := ⟨RX4, "box", "(I)I"⟩
abbrev cX4_push : ByteArray := prog_6_method_25_code
def yX4_push : MethodName := ⟨RX4, "push", "(III)V"⟩
abbrev cX4_begin : ByteArray := prog_6_method_26_code
def yX4_begin : MethodName := ⟨RX4, "begin", "(I)V"⟩
abbrev cX4_round : ByteArray := prog_6_method_27_code
def yX4_round : MethodName := ⟨RX4, "round", "()V"⟩
abbrev cX4_leave : ByteArray := prog_6_method_28_code
def yX4_leave : MethodName := ⟨RX4, "leave", "()V"⟩
abbrev cX4_call : ByteArray := prog_6_method_29_code
def yX4_call : MethodName := ⟨RX4, "call", "(I)V"⟩
abbrev cX4_step : ByteArray := prog_6_method_30_code
def yX4_step : MethodName := ⟨RX4, "step", "()V"⟩
abbrev cX4_ended : ByteArray := prog_6_method_31_code
def yX4_ended : MethodName := ⟨RX4, "ended", "()V"⟩
abbrev cX4_back : ByteArray := prog_6_method_32_code
def yX4_back : MethodName := ⟨RX4, "back", "(I)V"⟩
abbrev cX4_tried : ByteArray := prog_6_method_33_code
def yX4_tried : MethodName := ⟨RX4, "tried", "(I)V"⟩
abbrev cX4_looped : ByteArray := prog_6_method_34_code
def yX4_looped : MethodName := ⟨RX4, "looped", "()V"⟩
abbrev cX4_atEnd : ByteArray := prog_6_method_35_code
def yX4_atEnd : MethodName := ⟨RX4, "atEnd", "()Z"⟩
abbrev cX4_settle : ByteArray := prog_6_method_36_code
def yX4_settle : MethodName := ⟨RX4, "settle", "()V"⟩
abbrev cX4_run : ByteArray := prog_6_method_37_code
def yX4_run : MethodName := ⟨RX4, "run", "(I)I"⟩
abbrev cX4_given : ByteArray := prog_6_method_38_code
def yX4_given : MethodName := ⟨RX4, "given", "()I"⟩
abbrev cX4_number : ByteArray := prog_6_method_39_code
def yX4_number : MethodName := ⟨RX4, "number", "(I)I"⟩
abbrev cX4_row : ByteArray := prog_6_method_40_code
def yX4_row : MethodName := ⟨RX4, "row", "(I)I"⟩
abbrev cX4_log : ByteArray := prog_6_method_41_code
def yX4_log : MethodName := ⟨RX4, "log", "(I)I"⟩
abbrev cX4_count : ByteArray := prog_6_method_42_code
def yX4_count : MethodName := ⟨RX4, "count", "(I)I"⟩
def RJ9 : String := "java/lang/Math"
def TJ9 : u_T := fun k => match k with
  | _ => ("", "", "", false)
def tyJ9 : Nat → FieldType := fun k => match k with
  | _ => .int
abbrev wsJ90 : List Cond := u_ws RJ9 TJ9 0
theorem nmJ9 : ∀ a, a < 0 → ∀ b, b < 0 → a ≠ b → (TJ9 a).2.1 ≠ (TJ9 b).2.1 := by decide +kernel
theorem tyJ9_ok : ∀ k, k < 0 → parseFieldDescriptor (TJ9 k).2.2.1 = some (tyJ9 k) := by decide +kernel
abbrev cJ9_max_7cf53 : ByteArray := prog_10_method_65_code
def yJ9_max_7cf53 : MethodName := ⟨RJ9, "max", "(II)I"⟩
def RJ0 : String := "java/lang/String"
def TJ0 : u_T := fun k => match k with
  | _ => ("", "", "", false)
def tyJ0 : Nat → FieldType := fun k => match k with
  | _ => .int
abbrev wsJ00 : List Cond := u_ws RJ0 TJ0 0
theorem nmJ0 : ∀ a, a < 0 → ∀ b, b < 0 → a ≠ b → (TJ0 a).2.1 ≠ (TJ0 b).2.1 := by decide +kernel
theorem tyJ0_ok : ∀ k, k < 0 → parseFieldDescriptor (TJ0 k).2.2.1 = some (tyJ0 k) := by decide +kernel
def RJ10 : String := "java/lang/System"
def TJ10 : u_T := fun k => match k with
  | _ => ("", "", "", false)
def tyJ10 : Nat → FieldType := fun k => match k with
  | _ => .int
abbrev wsJ100 : List Cond := u_ws RJ10 TJ10 0
theorem nmJ10 : ∀ a, a < 0 → ∀ b, b < 0 → a ≠ b → (TJ10 a).2.1 ≠ (TJ10 b).2.1 := by decide +kernel
theorem tyJ10_ok : ∀ k, k < 0 → parseFieldDescriptor (TJ10 k).2.2.1 = some (tyJ10 k) := by decide +kernel
def RL : String := "UndoWorksLaw"
abbrev cL_node : ByteArray := method_3_code
def yL_node : MethodName := ⟨RL, "node", "(LUndoWorks;IIII[J)I"⟩
abbrev cL_clear : ByteArray := method_4_code
def yL_clear : MethodName := ⟨RL, "clear", "(LUndoWorks;I)I"⟩
abbrev cL_run : ByteArray := method_5_code
def yL_run : MethodName := ⟨RL, "run", "(LUndoWorks;I[J)I"⟩
abbrev cL_number : ByteArray := method_6_code
def yL_number : MethodName := ⟨RL, "number", "(LUndoWorks;I[J)I"⟩
abbrev cL_row : ByteArray := method_7_code
def yL_row : MethodName := ⟨RL, "row", "(LUndoWorks;I[J)I"⟩
abbrev cL_log : ByteArray := method_8_code
def yL_log : MethodName := ⟨RL, "log", "(LUndoWorks;I[J)I"⟩
abbrev cL_law : ByteArray := code
def yL_law : MethodName := ⟨RL, "law", "([I)Z"⟩
theorem inX0 : ∀ w ∈ wsX00, w ∈ lw_tbl := by decide +kernel
theorem inX1 : ∀ w ∈ wsX10, w ∈ lw_tbl := by decide +kernel
theorem inX2 : ∀ w ∈ wsX20, w ∈ lw_tbl := by decide +kernel
theorem inX3 : ∀ w ∈ wsX30, w ∈ lw_tbl := by decide +kernel
theorem inX4 : ∀ w ∈ wsX40, w ∈ lw_tbl := by decide +kernel
theorem inJ9 : ∀ w ∈ wsJ90, w ∈ lw_tbl := by decide +kernel
theorem inJ0 : ∀ w ∈ wsJ00, w ∈ lw_tbl := by decide +kernel
theorem inJ10 : ∀ w ∈ wsJ100, w ∈ lw_tbl := by decide +kernel
abbrev vwCl : List vw_C := [(RX0, TX0, 7), (RX1, TX1, 9), (RX2, TX2, 9), (RX3, TX3, 6), (RX4, TX4, 43)]
end
section
/-! An abstract picture of a method's run: values are ints, longs and numbers of cells; the heap is a function of cell number and place. -/
abbrev ab_V : Type := Int32 ⊕ (Int64 ⊕ Nat)
abbrev ab_I (x : Int32) : ab_V := Sum.inl x
abbrev ab_L (x : Int64) : ab_V := Sum.inr (Sum.inl x)
abbrev ab_R (i : Nat) : ab_V := Sum.inr (Sum.inr i)
def ab_c (adr : Nat → Nat) (v : ab_V) : Value := match v with
  | .inl x => .int x
  | .inr (.inl x) => .long x
  | .inr (.inr i) => .ref (adr i)
def ab_cat (v : ab_V) : Nat := match v with
  | .inl _ => 1
  | .inr (.inl _) => 2
  | .inr (.inr _) => 1
theorem ab_cat_c (adr : Nat → Nat) (v : ab_V) : (ab_c adr v).category = ab_cat v := by
  rcases v with x | x | i <;> rfl
abbrev ab_H : Type := Nat → Nat → Int32
/-- a cell: an array of so many ints; an array of cells; an object of a class with its fields (an int, or a cell) -/
abbrev ab_E : Type := Nat ⊕ (List Nat ⊕ (Nat × List (Option Nat)))
def ab_f (adr : Nat → Nat) (f : Nat → Int32) (k : Nat) (o : Option Nat) : Value := match o with
  | none => .int (f k)
  | some j => .ref (adr j)
def ab_e (cI cW : ClassId) (adr : Nat → Nat) (f : Nat → Int32) (en : ab_E) : va_E := match en with
  | .inl n => .inl (cI, n, .inl f)
  | .inr (.inl js) => .inl (cW, js.length, .inr (.inr (.inr (.inr (fun k => (js[k]?).map adr)))))
  | .inr (.inr (ci, fl)) => .inr (ci, fl.mapIdx (ab_f adr f))
def ab_w (lay : List ab_E) (cI cW : ClassId) (adr : Nat → Nat) (h : ab_H) : va_W := lay.mapIdx fun i en => (adr i, ab_e cI cW adr (h i) en)
def ab_up (h : ab_H) (i k : Nat) (v : Int32) : ab_H := fun j => if j = i then upd (h i) k v else h j
/-- the contents of a whole cell are new -/
def ab_upA (h : ab_H) (i : Nat) (g : Nat → Int32) : ab_H := fun j => if j = i then g else h j
theorem ab_w_at {lay : List ab_E} {cI cW : ClassId} {adr : Nat → Nat} {h : ab_H} {i : Nat} {en : ab_E} (he : lay[i]? = some en) : (ab_w lay cI cW adr h)[i]? = some (adr i, ab_e cI cW adr (h i) en) := by
  simp [ab_w, he]
theorem ab_w_set {lay : List ab_E} {cI cW : ClassId} {adr : Nat → Nat} {h : ab_H} {i : Nat} {en : ab_E} {g : Nat → Int32} (he : lay[i]? = some en) : (ab_w lay cI cW adr h).set i (adr i, ab_e cI cW adr g en) = ab_w lay cI cW adr (ab_upA h i g) := by
  apply List.ext_getElem?
  intro j
  rw [List.getElem?_set]
  have hl : i < lay.length := (List.getElem?_eq_some_iff.mp he).1
  by_cases hj : i = j
  · subst hj
    have hl2 : i < (ab_w lay cI cW adr h).length := by simpa [ab_w] using hl
    rw [if_pos rfl, if_pos hl2, ab_w_at he]
    simp [ab_upA]
  · simp [ab_w, hj, Ne.symm hj, ab_upA]
theorem ab_f_set {adr : Nat → Nat} {f : Nat → Int32} {fl : List (Option Nat)} {k : Nat} {v : Int32} (hk : fl[k]? = some none) : (fl.mapIdx (ab_f adr f)).set k (.int v) = fl.mapIdx (ab_f adr (upd f k v)) := by
  apply List.ext_getElem?
  intro j
  rw [List.getElem?_set]
  have hl : k < fl.length := (List.getElem?_eq_some_iff.mp hk).1
  by_cases hj : k = j
  · subst hj
    have hl2 : k < (fl.mapIdx (ab_f adr f)).length := by simpa using hl
    rw [if_pos rfl, if_pos hl2, List.getElem?_mapIdx, hk]
    simp [ab_f, upd]
  · rw [if_neg hj, List.getElem?_mapIdx, List.getElem?_mapIdx]
    cases hf : fl[j]? with
    | none => rfl
    | some o =>
      cases o with
      | none => simp [ab_f, upd, Ne.symm hj]
      | some q => rfl
def ab_A (lay : List ab_E) (adr : Nat → Nat) (sz : Nat) : Nat → Prop := fun q => (∃ i, i < lay.length ∧ q = adr i) ∨ sz ≤ q
/-- the cells are apart, and of a kind -/
def ab_D (lay : List ab_E) (adr : Nat → Nat) (A : Nat → Prop) : Prop := (∀ i j, i < lay.length → j < lay.length → adr i = adr j → i = j) ∧ ∀ i, i < lay.length → A (adr i)
theorem ab_w_in {lay : List ab_E} {cI cW : ClassId} {adr : Nat → Nat} {h : ab_H} {i : Nat} {q : Nat × va_E} (hq : (ab_w lay cI cW adr h)[i]? = some q) : i < lay.length ∧ q.1 = adr i := by
  simp only [ab_w, List.getElem?_mapIdx] at hq
  cases he : lay[i]? with
  | none => rw [he] at hq; cases hq
  | some en =>
    rw [he] at hq
    have := Option.some.inj hq
    exact ⟨(List.getElem?_eq_some_iff.mp he).1, by rw [← this]⟩
theorem ab_D.to {lay : List ab_E} {adr : Nat → Nat} {A : Nat → Prop} (hD : ab_D lay adr A) (cI cW : ClassId) (h : ab_H) : va_D A (ab_w lay cI cW adr h) := by
  refine ⟨fun i j p q hp hq e => ?_, fun k q hk => ?_⟩
  · obtain ⟨i1, e1⟩ := ab_w_in hp
    obtain ⟨j1, e2⟩ := ab_w_in hq
    exact hD.1 i j i1 j1 (by rw [← e1, ← e2]; exact e)
  · obtain ⟨k1, e1⟩ := ab_w_in hk
    rw [e1]
    exact hD.2 k k1
theorem ab_D.of {lay : List ab_E} {adr : Nat → Nat} {A : Nat → Prop} {cI cW : ClassId} {h : ab_H} (hD : va_D A (ab_w lay cI cW adr h)) : ab_D lay adr A := by
  refine ⟨fun i j hi hj e => ?_, fun i hi => ?_⟩
  · exact hD.1 i j _ _ (ab_w_at (List.getElem?_eq_getElem hi)) (ab_w_at (List.getElem?_eq_getElem hj)) e
  · exact hD.2 i _ (ab_w_at (List.getElem?_eq_getElem hi))
theorem ab_D.self {lay : List ab_E} {adr : Nat → Nat} {A : Nat → Prop} (hD : ab_D lay adr A) (sz : Nat) : ab_D lay adr (ab_A lay adr sz) := ⟨hD.1, fun i hi => Or.inl ⟨i, hi, rfl⟩⟩
/-- a method: its name, its bytes, its locals, what it answers -/
abbrev ab_M : Type := MethodName × ByteArray × Nat × Option FieldType
def ab_rm (d : Nat) : Room := { frames := d, cells := 0, slots := 0, locals := 40 * d }
def ab_tys (cI cW : ClassId) : List (ClassId × FieldType) := [(cI, .int), (cW, .object RX2)]
def ab_all : List Cond := lw_tbl.filter goodWord
def ab_ws (M : ab_M) : List Cond := Cond.code M.1 M.2.1 M.2.2.1 M.2.2.2 :: ab_all
theorem ab_all_in {w : Cond} (h : w ∈ ab_all) : w ∈ lw_tbl := (List.mem_filter.mp h).1
theorem ab_all_good {Ts : List Cond} (h : ∀ w ∈ ab_all, w ∈ Ts) : GoodIn Ts ab_all := fun w hw => ⟨h w hw, good_of_word (List.mem_filter.mp hw).2⟩
def ab_Qc (lay : List ab_E) (dC : Nat → ClassId) (dI : Nat → Nat → Nat) (cI cW : ClassId) (adr : Nat → Nat) (A : Nat → Prop) (Q : Option ab_V → ab_H → Prop) : Array Value → State → Outcome → State → Prop := fun _ st oc t =>
  (∃ (v : Option ab_V) (h : ab_H), oc = .returned (v.map (ab_c adr)) ∧ Q v h ∧ va_P (dC, dI) vwCl (ab_w lay cI cW adr h) t.heap ∧ va_K (dC, dI) vwCl (ab_tys cI cW) t) ∧ va_F A st t
/-- what a method answers, and does to its world -/
def ab_C (l : Launch) (lay : List ab_E) (d : Nat) (M : ab_M) (As : List ab_V) (h : ab_H) (Q : Option ab_V → ab_H → Prop) : Prop :=
  ∀ (dC : Nat → ClassId) (dI : Nat → Nat → Nat) (cI cW : ClassId) (adr : Nat → Nat) (sz : Nat),
    Met l M.1 (ab_ws M) (ab_rm d) (va_Pc (As.map (ab_c adr)) (fun U => U.heap.size = sz ∧ va_P (dC, dI) vwCl (ab_w lay cI cW adr h) U.heap ∧ va_K (dC, dI) vwCl (ab_tys cI cW) U ∧ ab_D lay adr (fun _ => True)))
      (ab_Qc lay dC dI cI cW adr (ab_A lay adr sz) Q) 0 0 (ab_A lay adr sz)
def ab_Cx (lay : List ab_E) (M : ab_M) (p : Program) (s : State) (m : MethodId) (args : Array Value) (meth : Method) (c : Code) (dC : Nat → ClassId) (dI : Nat → Nat → Nat) (cI cW : ClassId) (adr : Nat → Nat) (A : Nat → Prop) : Prop :=
  p.tables.exec = Jvm.exec ∧ c.code = M.2.1 ∧ meth.sig.returnType = M.2.2.2 ∧ c.maxLocals = M.2.2.1 ∧ s.vm.findClass M.1.cls = some m.cls ∧ (∀ w ∈ ab_all, w.before args s = true) ∧ meth.locks = false ∧ va_K (dC, dI) vwCl (ab_tys cI cW) s ∧ ab_D lay adr A ∧ ∀ q, s.heap.size ≤ q → A q
def ab_ls (adr : Nat → Nat) (L : List (Nat × ab_V)) : List (Nat × Value) := L.map fun q => (q.1, ab_c adr q.2)
def ab_Dy (lay : List ab_E) (nL : Nat) (s : State) (dC : Nat → ClassId) (dI : Nat → Nat → Nat) (cI cW : ClassId) (adr : Nat → Nat) (A : Nat → Prop) (H : Heap) (locs : List Loc) (ls : Array Slot) (L : List (Nat × ab_V)) (h : ab_H) : Prop :=
  va_P (dC, dI) vwCl (ab_w lay cI cW adr h) H ∧ va_S A s.heap H locs ∧ lv_has ls nL (ab_ls adr L)
/-- the judgement: from here the method comes to its end with Q -/
def ab_J (l : Launch) (lay : List ab_E) (M : ab_M) (d : Nat) (Q : Option ab_V → ab_H → Prop) (pc : Nat) (L : List (Nat × ab_V)) (S : List ab_V) (h : ab_H) : Prop :=
  ∀ (p : Program) (e : Env) (s : State) (m : MethodId) (args : Array Value) (below : List Frame) (meth : Method) (c : Code) (dC : Nat → ClassId) (dI : Nat → Nat → Nat) (cI cW : ClassId) (adr : Nat → Nat) (A : Nat → Prop),
    ab_Cx lay M p s m args meth c dC dI cI cW adr A → ∀ (H : Heap) (locs : List Loc) (ls : Array Slot), ab_Dy lay M.2.2.1 s dC dI cI cW adr A H locs ls L h →
      W p l e (ab_rm d) s m args below meth c H locs 0 0 (MQ below (ab_Qc lay dC dI cI cW adr A Q) args s 0 0 A) (F0 m pc ls (S.map (ab_c adr)))
def ab_args : Nat → List ab_V → List (Nat × ab_V)
  | _, [] => []
  | i, v :: vs => (i, v) :: ab_args (i + ab_cat v) vs
theorem ab_args_c (adr : Nat → Nat) : ∀ (As : List ab_V) (i : Nat), lv_args i (As.map (ab_c adr)) = ab_ls adr (ab_args i As)
  | [], _ => rfl
  | v :: vs, i => by
    show (i, ab_c adr v) :: lv_args (if (ab_c adr v).category = 2 then i + 2 else i + 1) (vs.map (ab_c adr)) = (i, ab_c adr v) :: ab_ls adr (ab_args (i + ab_cat v) vs)
    rw [← ab_args_c adr vs, ab_cat_c]
    rcases v with x | x | j <;> rfl
theorem ab_sl_len (adr : Nat → Nat) : ∀ (As : List ab_V), (lg_sl (As.map (ab_c adr))).length = (As.map ab_cat).sum
  | [] => rfl
  | v :: vs => by
    have ih := ab_sl_len adr vs
    simp only [lg_sl] at ih
    simp only [lg_sl, List.map_cons, List.flatMap_cons, List.length_append, List.sum_cons, ih, ab_cat_c]
    rcases v with x | x | j <;> rfl
theorem ab_enter {l : Launch} {lay : List ab_E} {M : ab_M} {d : Nat} {As : List ab_V} {h : ab_H} {Q : Option ab_V → ab_H → Prop} (hp : plainName M.1.cls = true) (hn : (As.map ab_cat).sum ≤ M.2.2.1)
    (k : ab_J l lay M d Q 0 (ab_args 0 As) [] h) : ab_C l lay d M As h Q := by
  intro dC dI cI cW adr sz
  refine Met.ofW (cc := M.2.1) (maxL := M.2.2.1) (ret := M.2.2.2) hp rfl ?_
  intro p e s m args below meth c s₁ B hml hv
  obtain ⟨rfl, hsz, hP, hK, hD0⟩ := hv
  have hts := atoms_spec (ws := ab_ws M) B.pre
  subst hsz
  have hl := lv_entry (As.map (ab_c adr)) (n := M.2.2.1) (by rw [ab_sl_len]; exact hn)
  rw [ab_args_c] at hl
  rw [lg_entry_eq]
  exact k p e s m _ below meth c dC dI cI cW adr (ab_A lay adr s.heap.size) ⟨B.exec, B.bytes, B.returns, hml, findClass_of_methodNamed B.named, fun w h => hts w (List.mem_cons_of_mem _ h), B.notSynchronized, hK, hD0.self _, fun q h => Or.inr h⟩ s.heap [] _ ⟨hP, va_S.rf, hl⟩
end
section
/-! the rules of the judgement, one for each instruction -/
def ab_lk : List (Nat × ab_V) → Nat → Option ab_V
  | [], _ => none
  | q :: r, i => match Nat.beq q.1 i with
    | true => some q.2
    | false => ab_lk r i
theorem ab_lk_mem : ∀ {L : List (Nat × ab_V)} {i : Nat} {v : ab_V}, ab_lk L i = some v → (i, v) ∈ L
  | [], _, _, h => by cases h
  | q :: r, i, v, h => by
    simp only [ab_lk] at h
    cases hb : Nat.beq q.1 i with
    | true =>
      rw [hb] at h
      have e1 : q.1 = i := Nat.eq_of_beq_eq_true hb
      have e2 : q.2 = v := Option.some.inj h
      rw [← e1, ← e2]
      exact List.mem_cons_self
    | false =>
      rw [hb] at h
      exact List.mem_cons_of_mem _ (ab_lk_mem h)
theorem ab_lkp {adr : Nat → Nat} {ls : Array Slot} {nL : Nat} {L : List (Nat × ab_V)} {i : Nat} {v : ab_V} (h : lv_has ls nL (ab_ls adr L)) (hk : ab_lk L i = some v) : ls[i]? = some (.val (ab_c adr v)) :=
  h.2.2 (i, ab_c adr v) (List.mem_map.mpr ⟨(i, v), ab_lk_mem hk, rfl⟩)
def ab_st (i : Nat) (v : ab_V) (L : List (Nat × ab_V)) : List (Nat × ab_V) := (i, v) :: L.filter (fun q => !(q.1 == i) && !(q.1 + 1 == i && ab_cat q.2 == 2))
def ab_st2 (i : Nat) (v : ab_V) (L : List (Nat × ab_V)) : List (Nat × ab_V) := (i, v) :: L.filter (fun q => !(q.1 == i) && (!(q.1 == i + 1) && !(q.1 + 1 == i && ab_cat q.2 == 2)))
theorem ab_st_c (adr : Nat → Nat) (i : Nat) (v : ab_V) (L : List (Nat × ab_V)) : (i, ab_c adr v) :: (ab_ls adr L).filter (fun q => !(q.1 == i) && !(q.1 + 1 == i && q.2.category == 2)) = ab_ls adr (ab_st i v L) := by
  simp only [ab_ls, ab_st, List.map_cons, List.filter_map, Function.comp_def, ab_cat_c]
theorem ab_st2_c (adr : Nat → Nat) (i : Nat) (v : ab_V) (L : List (Nat × ab_V)) : (i, ab_c adr v) :: (ab_ls adr L).filter (fun q => !(q.1 == i) && (!(q.1 == i + 1) && !(q.1 + 1 == i && q.2.category == 2))) = ab_ls adr (ab_st2 i v L) := by
  simp only [ab_ls, ab_st2, List.map_cons, List.filter_map, Function.comp_def, ab_cat_c]
def ab_sub (L : List (Nat × ab_V)) : List (Nat × ab_V) → Prop
  | [] => True
  | q :: r => ab_lk L q.1 = some q.2 ∧ ab_sub L r
theorem ab_sub_mem {L : List (Nat × ab_V)} : ∀ {L' : List (Nat × ab_V)}, ab_sub L L' → ∀ q ∈ L', q ∈ L
  | [], _, q, h => by cases h
  | a :: r, hs, q, h => by
    rcases List.mem_cons.mp h with e | h
    · subst e
      exact ab_lk_mem hs.1
    · exact ab_sub_mem hs.2 q h
/-- a field of a class by an entry of another's pool -/
def ab_F (own : String) (idx ci k : Nat) : Prop := ∃ (C : String) (T : u_T) (N : Nat) (ty0 : Nat → FieldType), vwCl[ci]? = some (C, T, N) ∧ k < N ∧ (∀ w ∈ u_ws C T N, w ∈ ab_all) ∧ (∀ k, k < N → parseFieldDescriptor (T k).2.2.1 = some (ty0 k)) ∧ (∀ a, a < N → ∀ b, b < N → a ≠ b → (T a).2.1 ≠ (T b).2.1) ∧ Cond.fieldLink own idx (T k).1 (T k).2.1 (T k).2.2.1 ∈ ab_all
/-- and it is an int that may be written -/
def ab_Fw (own : String) (idx ci k : Nat) : Prop := ∃ (C : String) (T : u_T) (N : Nat) (ty0 : Nat → FieldType), vwCl[ci]? = some (C, T, N) ∧ k < N ∧ (∀ w ∈ u_ws C T N, w ∈ ab_all) ∧ (∀ k, k < N → parseFieldDescriptor (T k).2.2.1 = some (ty0 k)) ∧ (∀ a, a < N → ∀ b, b < N → a ≠ b → (T a).2.1 ≠ (T b).2.1) ∧ Cond.fieldLink own idx (T k).1 (T k).2.1 (T k).2.2.1 ∈ ab_all ∧ (T k).2.2.2 = false ∧ parseFieldDescriptor (T k).2.2.1 = some .int
def ab_MB (own : String) (idx n : Nat) (M : ab_M) : Prop := (M.1.cls ≠ "java/lang/invoke/MethodHandle" ∧ M.1.cls ≠ "java/lang/invoke/VarHandle" ∧ (parseMethodDescriptor M.1.desc).map (fun d => d.parameters.length) = some n) ∧ M.2.2.1 ≤ 21 ∧ Cond.methodLink own idx M.1 ∈ ab_all ∧ Cond.initialized M.1.cls ∈ ab_all ∧ Cond.code M.1 M.2.1 M.2.2.1 M.2.2.2 ∈ ab_all
def ab_MV (own : String) (idx ci n : Nat) (M : ab_M) : Prop := ab_MB own idx n M ∧ (∃ q : vw_C, vwCl[ci]? = some q ∧ q.1 = M.1.cls) ∧ Cond.instanceMethod M.1 ∈ ab_all ∧ Cond.selects M.1.cls M.1 M.1 ∈ ab_all
def ab_MS (own : String) (idx n : Nat) (M : ab_M) : Prop := ab_MB own idx n M ∧ Cond.static M.1 ∈ ab_all
def ab_qi (P : Int32 → ab_H → Prop) : Option ab_V → ab_H → Prop := fun v h => ∃ r, v = some (ab_I r) ∧ P r h
def ab_ql (P : Int64 → ab_H → Prop) : Option ab_V → ab_H → Prop := fun v h => ∃ r, v = some (ab_L r) ∧ P r h
def ab_qv (P : ab_H → Prop) : Option ab_V → ab_H → Prop := fun v h => v = none ∧ P h
section ABR
variable {l : Launch} {lay : List ab_E} {M : ab_M} {d : Nat} {Q : Option ab_V → ab_H → Prop} {pc : Nat} {L : List (Nat × ab_V)} {S : List ab_V} {h : ab_H}
theorem ab_weak (L' : List (Nat × ab_V)) (hs : ab_sub L L') (k : ab_J l lay M d Q pc L' S h) : ab_J l lay M d Q pc L S h := by
  intro p e s m args below meth c dC dI cI cW adr A X H locs ls Y
  refine k p e s m args below meth c dC dI cI cW adr A X H locs ls ⟨Y.1, Y.2.1, Y.2.2.1, Y.2.2.2.1, fun q hq => ?_⟩
  obtain ⟨a, ha, rfl⟩ := List.mem_map.mp hq
  exact Y.2.2.2.2 _ (List.mem_map.mpr ⟨a, ab_sub_mem hs a ha, rfl⟩)
theorem ab_ki {P : Int32 → ab_H → Prop} (kk : ∀ r h', P r h' → ab_J l lay M d Q pc L (ab_I r :: S) h') : ∀ v h', ab_qi P v h' → ab_J l lay M d Q pc L (v.toList ++ S) h' := by
  rintro v h' ⟨r, rfl, hp⟩
  exact kk r h' hp
theorem ab_kl {P : Int64 → ab_H → Prop} (kk : ∀ r h', P r h' → ab_J l lay M d Q pc L (ab_L r :: S) h') : ∀ v h', ab_ql P v h' → ab_J l lay M d Q pc L (v.toList ++ S) h' := by
  rintro v h' ⟨r, rfl, hp⟩
  exact kk r h' hp
theorem ab_kv {P : ab_H → Prop} (kk : ∀ h', P h' → ab_J l lay M d Q pc L S h') : ∀ v h', ab_qv P v h' → ab_J l lay M d Q pc L (v.toList ++ S) h' := by
  rintro v h' ⟨rfl, hp⟩
  exact kk h' hp
theorem ab_iconst {n : Int} {v : Int32} (hd : decode M.2.1 pc = .ok (.iconst n, 1)) (hv : Int32.ofInt n = v) (k : ab_J l lay M d Q (pc + 1) (L) (ab_I v :: S) (h)) : ab_J l lay M d Q (pc) (L) (S) (h) := by
  intro p e s m args below meth c dC dI cI cW adr A X H locs ls Y
  exact lv_iconst X.1 X.2.1 hd hv (k p e s m args below meth c dC dI cI cW adr A X H locs ls Y)
theorem ab_bipush {n : Int} {v : Int32} (hd : decode M.2.1 pc = .ok (.bipush n, 2)) (hv : (Int8.ofInt n).toInt32 = v) (k : ab_J l lay M d Q (pc + 2) (L) (ab_I v :: S) (h)) : ab_J l lay M d Q (pc) (L) (S) (h) := by
  intro p e s m args below meth c dC dI cI cW adr A X H locs ls Y
  exact lv_bipush X.1 X.2.1 hd hv (k p e s m args below meth c dC dI cI cW adr A X H locs ls Y)
theorem ab_sipush {n : Int} {v : Int32} (hd : decode M.2.1 pc = .ok (.sipush n, 3)) (hv : (Int16.ofInt n).toInt32 = v) (k : ab_J l lay M d Q (pc + 3) (L) (ab_I v :: S) (h)) : ab_J l lay M d Q (pc) (L) (S) (h) := by
  intro p e s m args below meth c dC dI cI cW adr A X H locs ls Y
  exact lv_sipush X.1 X.2.1 hd hv (k p e s m args below meth c dC dI cI cW adr A X H locs ls Y)
theorem ab_lconst {n : Fin 2} {v : Int64} (hd : decode M.2.1 pc = .ok (.lconst n, 1)) (hv : Int64.ofNat (n : Nat) = v) (k : ab_J l lay M d Q (pc + 1) (L) (ab_L v :: S) (h)) : ab_J l lay M d Q (pc) (L) (S) (h) := by
  intro p e s m args below meth c dC dI cI cW adr A X H locs ls Y
  exact lv_lconst X.1 X.2.1 hd hv (k p e s m args below meth c dC dI cI cW adr A X H locs ls Y)
theorem ab_ldc2 {idx : Nat} {v : Int64} (hd : decode M.2.1 pc = .ok (.ldc2_w idx, 3)) (hw : Cond.constantLong M.1.cls idx v ∈ ab_all) (k : ab_J l lay M d Q (pc + 3) (L) (ab_L v :: S) (h)) : ab_J l lay M d Q (pc) (L) (S) (h) := by
  intro p e s m args below meth c dC dI cI cW adr A X H locs ls Y
  exact lv_ldc2 X.1 X.2.1 X.2.2.2.2.1 (X.2.2.2.2.2.1 _ hw) hd (k p e s m args below meth c dC dI cI cW adr A X H locs ls Y)
theorem ab_iload_n {j : Fin 4} {i : Nat} {x : Int32} (hd : decode M.2.1 pc = .ok (.iload_n j, 1)) (hi : (j : Nat) = i) (hl : ab_lk L i = some (ab_I x)) (k : ab_J l lay M d Q (pc + 1) (L) (ab_I x :: S) (h)) : ab_J l lay M d Q (pc) (L) (S) (h) := by
  intro p e s m args below meth c dC dI cI cW adr A X H locs ls Y
  exact lv_iload_n X.1 X.2.1 hd hi (ab_lkp Y.2.2 hl) (k p e s m args below meth c dC dI cI cW adr A X H locs ls Y)
theorem ab_iload {i : Nat} {x : Int32} (hd : decode M.2.1 pc = .ok (.iload i, 2)) (hl : ab_lk L i = some (ab_I x)) (k : ab_J l lay M d Q (pc + 2) (L) (ab_I x :: S) (h)) : ab_J l lay M d Q (pc) (L) (S) (h) := by
  intro p e s m args below meth c dC dI cI cW adr A X H locs ls Y
  exact lv_iload X.1 X.2.1 hd (ab_lkp Y.2.2 hl) (k p e s m args below meth c dC dI cI cW adr A X H locs ls Y)
theorem ab_istore_n {j : Fin 4} {i : Nat} {x : Int32} (hd : decode M.2.1 pc = .ok (.istore_n j, 1)) (hi : (j : Nat) = i) (hn : Nat.ble (i + 1) M.2.2.1 = true) (k : ab_J l lay M d Q (pc + 1) (ab_st i (ab_I x) L) (S) (h)) : ab_J l lay M d Q (pc) (L) (ab_I x :: S) (h) := by
  intro p e s m args below meth c dC dI cI cW adr A X H locs ls Y
  exact lv_istore_n X.1 X.2.1 hd hi Y.2.2 (Nat.le_of_ble_eq_true hn) (ab_st_c adr i (ab_I x) L) (fun ls hl => k p e s m args below meth c dC dI cI cW adr A X H locs ls ⟨Y.1, Y.2.1, hl⟩)
theorem ab_istore {i : Nat} {x : Int32} (hd : decode M.2.1 pc = .ok (.istore i, 2)) (hn : Nat.ble (i + 1) M.2.2.1 = true) (k : ab_J l lay M d Q (pc + 2) (ab_st i (ab_I x) L) (S) (h)) : ab_J l lay M d Q (pc) (L) (ab_I x :: S) (h) := by
  intro p e s m args below meth c dC dI cI cW adr A X H locs ls Y
  exact lv_istore X.1 X.2.1 hd Y.2.2 (Nat.le_of_ble_eq_true hn) (ab_st_c adr i (ab_I x) L) (fun ls hl => k p e s m args below meth c dC dI cI cW adr A X H locs ls ⟨Y.1, Y.2.1, hl⟩)
theorem ab_lload_n {j : Fin 4} {i : Nat} {x : Int64} (hd : decode M.2.1 pc = .ok (.lload_n j, 1)) (hi : (j : Nat) = i) (hl : ab_lk L i = some (ab_L x)) (k : ab_J l lay M d Q (pc + 1) (L) (ab_L x :: S) (h)) : ab_J l lay M d Q (pc) (L) (S) (h) := by
  intro p e s m args below meth c dC dI cI cW adr A X H locs ls Y
  exact lv_lload_n X.1 X.2.1 hd hi (ab_lkp Y.2.2 hl) (k p e s m args below meth c dC dI cI cW adr A X H locs ls Y)
theorem ab_lload {i : Nat} {x : Int64} (hd : decode M.2.1 pc = .ok (.lload i, 2)) (hl : ab_lk L i = some (ab_L x)) (k : ab_J l lay M d Q (pc + 2) (L) (ab_L x :: S) (h)) : ab_J l lay M d Q (pc) (L) (S) (h) := by
  intro p e s m args below meth c dC dI cI cW adr A X H locs ls Y
  exact lv_lload X.1 X.2.1 hd (ab_lkp Y.2.2 hl) (k p e s m args below meth c dC dI cI cW adr A X H locs ls Y)
theorem ab_lstore_n {j : Fin 4} {i : Nat} {x : Int64} (hd : decode M.2.1 pc = .ok (.lstore_n j, 1)) (hi : (j : Nat) = i) (hn : Nat.ble (i + 1 + 1) M.2.2.1 = true) (k : ab_J l lay M d Q (pc + 1) (ab_st2 i (ab_L x) L) (S) (h)) : ab_J l lay M d Q (pc) (L) (ab_L x :: S) (h) := by
  intro p e s m args below meth c dC dI cI cW adr A X H locs ls Y
  exact lv_lstore_n X.1 X.2.1 hd hi Y.2.2 (Nat.le_of_ble_eq_true hn) (ab_st2_c adr i (ab_L x) L) (fun ls hl => k p e s m args below meth c dC dI cI cW adr A X H locs ls ⟨Y.1, Y.2.1, hl⟩)
theorem ab_lstore {i : Nat} {x : Int64} (hd : decode M.2.1 pc = .ok (.lstore i, 2)) (hn : Nat.ble (i + 1 + 1) M.2.2.1 = true) (k : ab_J l lay M d Q (pc + 2) (ab_st2 i (ab_L x) L) (S) (h)) : ab_J l lay M d Q (pc) (L) (ab_L x :: S) (h) := by
  intro p e s m args below meth c dC dI cI cW adr A X H locs ls Y
  exact lv_lstore X.1 X.2.1 hd Y.2.2 (Nat.le_of_ble_eq_true hn) (ab_st2_c adr i (ab_L x) L) (fun ls hl => k p e s m args below meth c dC dI cI cW adr A X H locs ls ⟨Y.1, Y.2.1, hl⟩)
theorem ab_aload_n {j : Fin 4} {i : Nat} {x : Nat} (hd : decode M.2.1 pc = .ok (.aload_n j, 1)) (hi : (j : Nat) = i) (hl : ab_lk L i = some (ab_R x)) (k : ab_J l lay M d Q (pc + 1) (L) (ab_R x :: S) (h)) : ab_J l lay M d Q (pc) (L) (S) (h) := by
  intro p e s m args below meth c dC dI cI cW adr A X H locs ls Y
  exact lv_aload_n X.1 X.2.1 hd hi (ab_lkp Y.2.2 hl) (k p e s m args below meth c dC dI cI cW adr A X H locs ls Y)
theorem ab_aload {i : Nat} {x : Nat} (hd : decode M.2.1 pc = .ok (.aload i, 2)) (hl : ab_lk L i = some (ab_R x)) (k : ab_J l lay M d Q (pc + 2) (L) (ab_R x :: S) (h)) : ab_J l lay M d Q (pc) (L) (S) (h) := by
  intro p e s m args below meth c dC dI cI cW adr A X H locs ls Y
  exact lv_aload X.1 X.2.1 hd (ab_lkp Y.2.2 hl) (k p e s m args below meth c dC dI cI cW adr A X H locs ls Y)
theorem ab_astore_n {j : Fin 4} {i : Nat} {x : Nat} (hd : decode M.2.1 pc = .ok (.astore_n j, 1)) (hi : (j : Nat) = i) (hn : Nat.ble (i + 1) M.2.2.1 = true) (k : ab_J l lay M d Q (pc + 1) (ab_st i (ab_R x) L) (S) (h)) : ab_J l lay M d Q (pc) (L) (ab_R x :: S) (h) := by
  intro p e s m args below meth c dC dI cI cW adr A X H locs ls Y
  exact lv_astore_n X.1 X.2.1 hd hi Y.2.2 (Nat.le_of_ble_eq_true hn) (ab_st_c adr i (ab_R x) L) (fun ls hl => k p e s m args below meth c dC dI cI cW adr A X H locs ls ⟨Y.1, Y.2.1, hl⟩)
theorem ab_astore {i : Nat} {x : Nat} (hd : decode M.2.1 pc = .ok (.astore i, 2)) (hn : Nat.ble (i + 1) M.2.2.1 = true) (k : ab_J l lay M d Q (pc + 2) (ab_st i (ab_R x) L) (S) (h)) : ab_J l lay M d Q (pc) (L) (ab_R x :: S) (h) := by
  intro p e s m args below meth c dC dI cI cW adr A X H locs ls Y
  exact lv_astore X.1 X.2.1 hd Y.2.2 (Nat.le_of_ble_eq_true hn) (ab_st_c adr i (ab_R x) L) (fun ls hl => k p e s m args below meth c dC dI cI cW adr A X H locs ls ⟨Y.1, Y.2.1, hl⟩)
theorem ab_iinc {i : Nat} {n : Int} {x v : Int32} (hd : decode M.2.1 pc = .ok (.iinc i n, 3)) (hl : ab_lk L i = some (ab_I x)) (hv : Int32.ofInt n = v) (hn : Nat.ble (i + 1) M.2.2.1 = true) (k : ab_J l lay M d Q (pc + 3) (ab_st i (ab_I (x + v)) L) (S) (h)) : ab_J l lay M d Q (pc) (L) (S) (h) := by
  intro p e s m args below meth c dC dI cI cW adr A X H locs ls Y
  obtain ⟨j, hj⟩ := List.getElem?_of_mem (List.mem_map.mpr ⟨(i, ab_I x), ab_lk_mem hl, rfl⟩ : (i, ab_c adr (ab_I x)) ∈ ab_ls adr L)
  exact lv_iinc (k := j) X.1 X.2.1 hd Y.2.2 hj (by rw [hv]) (Nat.le_of_ble_eq_true hn) (ab_st_c adr i (ab_I (x + v)) L) (fun ls hl => k p e s m args below meth c dC dI cI cW adr A X H locs ls ⟨Y.1, Y.2.1, hl⟩)
theorem ab_iadd {x y : Int32} (hd : decode M.2.1 pc = .ok (.iadd, 1)) (k : ab_J l lay M d Q (pc + 1) (L) (ab_I (x + y) :: S) (h)) : ab_J l lay M d Q (pc) (L) (ab_I y :: ab_I x :: S) (h) := by
  intro p e s m args below meth c dC dI cI cW adr A X H locs ls Y
  exact lv_iadd X.1 X.2.1 hd (k p e s m args below meth c dC dI cI cW adr A X H locs ls Y)
theorem ab_isub {x y : Int32} (hd : decode M.2.1 pc = .ok (.isub, 1)) (k : ab_J l lay M d Q (pc + 1) (L) (ab_I (x - y) :: S) (h)) : ab_J l lay M d Q (pc) (L) (ab_I y :: ab_I x :: S) (h) := by
  intro p e s m args below meth c dC dI cI cW adr A X H locs ls Y
  exact lv_isub X.1 X.2.1 hd (k p e s m args below meth c dC dI cI cW adr A X H locs ls Y)
theorem ab_imul {x y : Int32} (hd : decode M.2.1 pc = .ok (.imul, 1)) (k : ab_J l lay M d Q (pc + 1) (L) (ab_I (x * y) :: S) (h)) : ab_J l lay M d Q (pc) (L) (ab_I y :: ab_I x :: S) (h) := by
  intro p e s m args below meth c dC dI cI cW adr A X H locs ls Y
  exact lv_imul X.1 X.2.1 hd (k p e s m args below meth c dC dI cI cW adr A X H locs ls Y)
theorem ab_iand {x y : Int32} (hd : decode M.2.1 pc = .ok (.iand, 1)) (k : ab_J l lay M d Q (pc + 1) (L) (ab_I (x &&& y) :: S) (h)) : ab_J l lay M d Q (pc) (L) (ab_I y :: ab_I x :: S) (h) := by
  intro p e s m args below meth c dC dI cI cW adr A X H locs ls Y
  exact lv_iand X.1 X.2.1 hd (k p e s m args below meth c dC dI cI cW adr A X H locs ls Y)
theorem ab_ishr {x y : Int32} (hd : decode M.2.1 pc = .ok (.ishr, 1)) (k : ab_J l lay M d Q (pc + 1) (L) (ab_I (x >>> (y &&& 31)) :: S) (h)) : ab_J l lay M d Q (pc) (L) (ab_I y :: ab_I x :: S) (h) := by
  intro p e s m args below meth c dC dI cI cW adr A X H locs ls Y
  exact lv_ishr X.1 X.2.1 hd (k p e s m args below meth c dC dI cI cW adr A X H locs ls Y)
theorem ab_idiv {x y : Int32} (hd : decode M.2.1 pc = .ok (.idiv, 1)) (hne : ¬ y = 0) (k : ab_J l lay M d Q (pc + 1) (L) (ab_I (x / y) :: S) (h)) : ab_J l lay M d Q (pc) (L) (ab_I y :: ab_I x :: S) (h) := by
  intro p e s m args below meth c dC dI cI cW adr A X H locs ls Y
  exact lv_idiv X.1 X.2.1 hd hne (k p e s m args below meth c dC dI cI cW adr A X H locs ls Y)
theorem ab_land {x y : Int64} (hd : decode M.2.1 pc = .ok (.land, 1)) (k : ab_J l lay M d Q (pc + 1) (L) (ab_L (x &&& y) :: S) (h)) : ab_J l lay M d Q (pc) (L) (ab_L y :: ab_L x :: S) (h) := by
  intro p e s m args below meth c dC dI cI cW adr A X H locs ls Y
  exact lv_land X.1 X.2.1 hd (k p e s m args below meth c dC dI cI cW adr A X H locs ls Y)
theorem ab_lor {x y : Int64} (hd : decode M.2.1 pc = .ok (.lor, 1)) (k : ab_J l lay M d Q (pc + 1) (L) (ab_L (x ||| y) :: S) (h)) : ab_J l lay M d Q (pc) (L) (ab_L y :: ab_L x :: S) (h) := by
  intro p e s m args below meth c dC dI cI cW adr A X H locs ls Y
  exact lv_lor X.1 X.2.1 hd (k p e s m args below meth c dC dI cI cW adr A X H locs ls Y)
theorem ab_lshl {x : Int64} {y : Int32} (hd : decode M.2.1 pc = .ok (.lshl, 1)) (k : ab_J l lay M d Q (pc + 1) (L) (ab_L (x <<< (y.toInt64 &&& 63)) :: S) (h)) : ab_J l lay M d Q (pc) (L) (ab_I y :: ab_L x :: S) (h) := by
  intro p e s m args below meth c dC dI cI cW adr A X H locs ls Y
  exact lv_lshl X.1 X.2.1 hd rfl (k p e s m args below meth c dC dI cI cW adr A X H locs ls Y)
theorem ab_lshr {x : Int64} {y : Int32} (hd : decode M.2.1 pc = .ok (.lshr, 1)) (k : ab_J l lay M d Q (pc + 1) (L) (ab_L (x >>> (y.toInt64 &&& 63)) :: S) (h)) : ab_J l lay M d Q (pc) (L) (ab_I y :: ab_L x :: S) (h) := by
  intro p e s m args below meth c dC dI cI cW adr A X H locs ls Y
  exact lv_lshr X.1 X.2.1 hd rfl (k p e s m args below meth c dC dI cI cW adr A X H locs ls Y)
theorem ab_i2l {x : Int32} (hd : decode M.2.1 pc = .ok (.i2l, 1)) (k : ab_J l lay M d Q (pc + 1) (L) (ab_L x.toInt64 :: S) (h)) : ab_J l lay M d Q (pc) (L) (ab_I x :: S) (h) := by
  intro p e s m args below meth c dC dI cI cW adr A X H locs ls Y
  exact lv_i2l X.1 X.2.1 hd rfl (k p e s m args below meth c dC dI cI cW adr A X H locs ls Y)
theorem ab_l2i {x : Int64} (hd : decode M.2.1 pc = .ok (.l2i, 1)) (k : ab_J l lay M d Q (pc + 1) (L) (ab_I x.toInt32 :: S) (h)) : ab_J l lay M d Q (pc) (L) (ab_L x :: S) (h) := by
  intro p e s m args below meth c dC dI cI cW adr A X H locs ls Y
  exact lv_l2i X.1 X.2.1 hd rfl (k p e s m args below meth c dC dI cI cW adr A X H locs ls Y)
theorem ab_lcmp {x y : Int64} (hd : decode M.2.1 pc = .ok (.lcmp, 1)) (k : ab_J l lay M d Q (pc + 1) (L) (ab_I (lg_cmp x y) :: S) (h)) : ab_J l lay M d Q (pc) (L) (ab_L y :: ab_L x :: S) (h) := by
  intro p e s m args below meth c dC dI cI cW adr A X H locs ls Y
  exact W.lcmp X.1 X.2.1 hd (k p e s m args below meth c dC dI cI cW adr A X H locs ls Y)
theorem ab_dup {v : ab_V} (hd : decode M.2.1 pc = .ok (.dup, 1)) (hc : ab_cat v = 1) (k : ab_J l lay M d Q (pc + 1) (L) (v :: v :: S) (h)) : ab_J l lay M d Q (pc) (L) (v :: S) (h) := by
  intro p e s m args below meth c dC dI cI cW adr A X H locs ls Y
  exact lv_dup X.1 X.2.1 hd ((ab_cat_c adr v).trans hc) (k p e s m args below meth c dC dI cI cW adr A X H locs ls Y)
theorem ab_dup2 {v w : ab_V} (hd : decode M.2.1 pc = .ok (.dup2, 1)) (hc : ab_cat v = 1) (hc2 : ab_cat w = 1) (k : ab_J l lay M d Q (pc + 1) (L) (v :: w :: v :: w :: S) (h)) : ab_J l lay M d Q (pc) (L) (v :: w :: S) (h) := by
  intro p e s m args below meth c dC dI cI cW adr A X H locs ls Y
  exact lv_dup2_11 X.1 X.2.1 hd ((ab_cat_c adr v).trans hc) ((ab_cat_c adr w).trans hc2) (k p e s m args below meth c dC dI cI cW adr A X H locs ls Y)
theorem ab_pop {v : ab_V} (hd : decode M.2.1 pc = .ok (.pop, 1)) (hc : ab_cat v = 1) (k : ab_J l lay M d Q (pc + 1) (L) (S) (h)) : ab_J l lay M d Q (pc) (L) (v :: S) (h) := by
  intro p e s m args below meth c dC dI cI cW adr A X H locs ls Y
  exact lv_pop X.1 X.2.1 hd ((ab_cat_c adr v).trans hc) (k p e s m args below meth c dC dI cI cW adr A X H locs ls Y)
theorem ab_if_eq {x : Int32} {off : Int} (tgt : Nat) (hd : decode M.2.1 pc = .ok (.ifCond .eq off, 3)) (ht : ((pc : Nat) : Int) + off = (tgt : Int)) (kt : x = 0 → ab_J l lay M d Q (tgt) (L) (S) (h)) (kf : ¬ (x = 0) → ab_J l lay M d Q (pc + 3) (L) (S) (h)) : ab_J l lay M d Q (pc) (L) (ab_I x :: S) (h) := by
  intro p e s m args below meth c dC dI cI cW adr A X H locs ls Y
  exact lv_if_eq X.1 X.2.1 hd ht (fun q => kt q p e s m args below meth c dC dI cI cW adr A X H locs ls Y) (fun q => kf q p e s m args below meth c dC dI cI cW adr A X H locs ls Y)
theorem ab_icmp_eq {x y : Int32} {off : Int} (tgt : Nat) (hd : decode M.2.1 pc = .ok (.if_icmp .eq off, 3)) (ht : ((pc : Nat) : Int) + off = (tgt : Int)) (kt : x = y → ab_J l lay M d Q (tgt) (L) (S) (h)) (kf : ¬ (x = y) → ab_J l lay M d Q (pc + 3) (L) (S) (h)) : ab_J l lay M d Q (pc) (L) (ab_I y :: ab_I x :: S) (h) := by
  intro p e s m args below meth c dC dI cI cW adr A X H locs ls Y
  exact lv_icmp_eq X.1 X.2.1 hd ht (fun q => kt q p e s m args below meth c dC dI cI cW adr A X H locs ls Y) (fun q => kf q p e s m args below meth c dC dI cI cW adr A X H locs ls Y)
theorem ab_if_ne {x : Int32} {off : Int} (tgt : Nat) (hd : decode M.2.1 pc = .ok (.ifCond .ne off, 3)) (ht : ((pc : Nat) : Int) + off = (tgt : Int)) (kt : ¬ x = 0 → ab_J l lay M d Q (tgt) (L) (S) (h)) (kf : x = 0 → ab_J l lay M d Q (pc + 3) (L) (S) (h)) : ab_J l lay M d Q (pc) (L) (ab_I x :: S) (h) := by
  intro p e s m args below meth c dC dI cI cW adr A X H locs ls Y
  exact lv_if_ne X.1 X.2.1 hd ht (fun q => kt q p e s m args below meth c dC dI cI cW adr A X H locs ls Y) (fun q => kf q p e s m args below meth c dC dI cI cW adr A X H locs ls Y)
theorem ab_icmp_ne {x y : Int32} {off : Int} (tgt : Nat) (hd : decode M.2.1 pc = .ok (.if_icmp .ne off, 3)) (ht : ((pc : Nat) : Int) + off = (tgt : Int)) (kt : ¬ x = y → ab_J l lay M d Q (tgt) (L) (S) (h)) (kf : x = y → ab_J l lay M d Q (pc + 3) (L) (S) (h)) : ab_J l lay M d Q (pc) (L) (ab_I y :: ab_I x :: S) (h) := by
  intro p e s m args below meth c dC dI cI cW adr A X H locs ls Y
  exact lv_icmp_ne X.1 X.2.1 hd ht (fun q => kt q p e s m args below meth c dC dI cI cW adr A X H locs ls Y) (fun q => kf q p e s m args below meth c dC dI cI cW adr A X H locs ls Y)
theorem ab_if_lt {x : Int32} {off : Int} (tgt : Nat) (hd : decode M.2.1 pc = .ok (.ifCond .lt off, 3)) (ht : ((pc : Nat) : Int) + off = (tgt : Int)) (kt : x < 0 → ab_J l lay M d Q (tgt) (L) (S) (h)) (kf : ¬ (x < 0) → ab_J l lay M d Q (pc + 3) (L) (S) (h)) : ab_J l lay M d Q (pc) (L) (ab_I x :: S) (h) := by
  intro p e s m args below meth c dC dI cI cW adr A X H locs ls Y
  exact lv_if_lt X.1 X.2.1 hd ht (fun q => kt q p e s m args below meth c dC dI cI cW adr A X H locs ls Y) (fun q => kf q p e s m args below meth c dC dI cI cW adr A X H locs ls Y)
theorem ab_icmp_lt {x y : Int32} {off : Int} (tgt : Nat) (hd : decode M.2.1 pc = .ok (.if_icmp .lt off, 3)) (ht : ((pc : Nat) : Int) + off = (tgt : Int)) (kt : x < y → ab_J l lay M d Q (tgt) (L) (S) (h)) (kf : ¬ (x < y) → ab_J l lay M d Q (pc + 3) (L) (S) (h)) : ab_J l lay M d Q (pc) (L) (ab_I y :: ab_I x :: S) (h) := by
  intro p e s m args below meth c dC dI cI cW adr A X H locs ls Y
  exact lv_icmp_lt X.1 X.2.1 hd ht (fun q => kt q p e s m args below meth c dC dI cI cW adr A X H locs ls Y) (fun q => kf q p e s m args below meth c dC dI cI cW adr A X H locs ls Y)
theorem ab_if_ge {x : Int32} {off : Int} (tgt : Nat) (hd : decode M.2.1 pc = .ok (.ifCond .ge off, 3)) (ht : ((pc : Nat) : Int) + off = (tgt : Int)) (kt : 0 ≤ x → ab_J l lay M d Q (tgt) (L) (S) (h)) (kf : ¬ (0 ≤ x) → ab_J l lay M d Q (pc + 3) (L) (S) (h)) : ab_J l lay M d Q (pc) (L) (ab_I x :: S) (h) := by
  intro p e s m args below meth c dC dI cI cW adr A X H locs ls Y
  exact lv_if_ge X.1 X.2.1 hd ht (fun q => kt q p e s m args below meth c dC dI cI cW adr A X H locs ls Y) (fun q => kf q p e s m args below meth c dC dI cI cW adr A X H locs ls Y)
theorem ab_icmp_ge {x y : Int32} {off : Int} (tgt : Nat) (hd : decode M.2.1 pc = .ok (.if_icmp .ge off, 3)) (ht : ((pc : Nat) : Int) + off = (tgt : Int)) (kt : y ≤ x → ab_J l lay M d Q (tgt) (L) (S) (h)) (kf : ¬ (y ≤ x) → ab_J l lay M d Q (pc + 3) (L) (S) (h)) : ab_J l lay M d Q (pc) (L) (ab_I y :: ab_I x :: S) (h) := by
  intro p e s m args below meth c dC dI cI cW adr A X H locs ls Y
  exact lv_icmp_ge X.1 X.2.1 hd ht (fun q => kt q p e s m args below meth c dC dI cI cW adr A X H locs ls Y) (fun q => kf q p e s m args below meth c dC dI cI cW adr A X H locs ls Y)
theorem ab_if_gt {x : Int32} {off : Int} (tgt : Nat) (hd : decode M.2.1 pc = .ok (.ifCond .gt off, 3)) (ht : ((pc : Nat) : Int) + off = (tgt : Int)) (kt : 0 < x → ab_J l lay M d Q (tgt) (L) (S) (h)) (kf : ¬ (0 < x) → ab_J l lay M d Q (pc + 3) (L) (S) (h)) : ab_J l lay M d Q (pc) (L) (ab_I x :: S) (h) := by
  intro p e s m args below meth c dC dI cI cW adr A X H locs ls Y
  exact lv_if_gt X.1 X.2.1 hd ht (fun q => kt q p e s m args below meth c dC dI cI cW adr A X H locs ls Y) (fun q => kf q p e s m args below meth c dC dI cI cW adr A X H locs ls Y)
theorem ab_icmp_gt {x y : Int32} {off : Int} (tgt : Nat) (hd : decode M.2.1 pc = .ok (.if_icmp .gt off, 3)) (ht : ((pc : Nat) : Int) + off = (tgt : Int)) (kt : y < x → ab_J l lay M d Q (tgt) (L) (S) (h)) (kf : ¬ (y < x) → ab_J l lay M d Q (pc + 3) (L) (S) (h)) : ab_J l lay M d Q (pc) (L) (ab_I y :: ab_I x :: S) (h) := by
  intro p e s m args below meth c dC dI cI cW adr A X H locs ls Y
  exact lv_icmp_gt X.1 X.2.1 hd ht (fun q => kt q p e s m args below meth c dC dI cI cW adr A X H locs ls Y) (fun q => kf q p e s m args below meth c dC dI cI cW adr A X H locs ls Y)
theorem ab_if_le {x : Int32} {off : Int} (tgt : Nat) (hd : decode M.2.1 pc = .ok (.ifCond .le off, 3)) (ht : ((pc : Nat) : Int) + off = (tgt : Int)) (kt : x ≤ 0 → ab_J l lay M d Q (tgt) (L) (S) (h)) (kf : ¬ (x ≤ 0) → ab_J l lay M d Q (pc + 3) (L) (S) (h)) : ab_J l lay M d Q (pc) (L) (ab_I x :: S) (h) := by
  intro p e s m args below meth c dC dI cI cW adr A X H locs ls Y
  exact lv_if_le X.1 X.2.1 hd ht (fun q => kt q p e s m args below meth c dC dI cI cW adr A X H locs ls Y) (fun q => kf q p e s m args below meth c dC dI cI cW adr A X H locs ls Y)
theorem ab_icmp_le {x y : Int32} {off : Int} (tgt : Nat) (hd : decode M.2.1 pc = .ok (.if_icmp .le off, 3)) (ht : ((pc : Nat) : Int) + off = (tgt : Int)) (kt : x ≤ y → ab_J l lay M d Q (tgt) (L) (S) (h)) (kf : ¬ (x ≤ y) → ab_J l lay M d Q (pc + 3) (L) (S) (h)) : ab_J l lay M d Q (pc) (L) (ab_I y :: ab_I x :: S) (h) := by
  intro p e s m args below meth c dC dI cI cW adr A X H locs ls Y
  exact lv_icmp_le X.1 X.2.1 hd ht (fun q => kt q p e s m args below meth c dC dI cI cW adr A X H locs ls Y) (fun q => kf q p e s m args below meth c dC dI cI cW adr A X H locs ls Y)
theorem ab_goto {off : Int} (tgt : Nat) (hd : decode M.2.1 pc = .ok (.goto off, 3)) (ht : ((pc : Nat) : Int) + off = (tgt : Int)) (k : ab_J l lay M d Q (tgt) (L) (S) (h)) : ab_J l lay M d Q (pc) (L) (S) (h) := by
  intro p e s m args below meth c dC dI cI cW adr A X H locs ls Y
  exact lv_goto X.1 X.2.1 hd ht (k p e s m args below meth c dC dI cI cW adr A X H locs ls Y)
theorem ab_tableOut {dflt lo hi : Int} {offs : Array Int} {len : Nat} {x : Int32} (tgt : Nat) (hd : decode M.2.1 pc = .ok (.tableswitch dflt lo hi offs, len)) (hr : x.toInt < lo ∨ hi < x.toInt) (ht : ((pc : Nat) : Int) + dflt = (tgt : Int)) (k : ab_J l lay M d Q (tgt) (L) (S) (h)) : ab_J l lay M d Q (pc) (L) (ab_I x :: S) (h) := by
  intro p e s m args below meth c dC dI cI cW adr A X H locs ls Y
  exact lv_tableOut X.1 X.2.1 hd hr ht (k p e s m args below meth c dC dI cI cW adr A X H locs ls Y)
theorem ab_tableIn {dflt lo hi : Int} {offs : Array Int} {len : Nat} {x : Int32} {off : Int} (tgt : Nat) (hd : decode M.2.1 pc = .ok (.tableswitch dflt lo hi offs, len)) (h1 : ¬ x.toInt < lo) (h2 : ¬ hi < x.toInt) (ho : offs[(x.toInt - lo).toNat]? = some off) (ht : ((pc : Nat) : Int) + off = (tgt : Int)) (k : ab_J l lay M d Q (tgt) (L) (S) (h)) : ab_J l lay M d Q (pc) (L) (ab_I x :: S) (h) := by
  intro p e s m args below meth c dC dI cI cW adr A X H locs ls Y
  exact lv_tableIn X.1 X.2.1 hd h1 h2 ho ht (k p e s m args below meth c dC dI cI cW adr A X H locs ls Y)
theorem ab_lookup {dflt : Int} {ps : Array (Int × Int)} {len : Nat} {x : Int32} {off : Int} (tgt : Nat) (hd : decode M.2.1 pc = .ok (.lookupswitch dflt ps, len)) (hp : (ps.toList.zip (ps.toList.drop 1)).all (fun (a, next) => a.1 < next.1) = true) (ho : Op.lookupswitch.offset ps.toList dflt x.toInt = off) (ht : ((pc : Nat) : Int) + off = (tgt : Int)) (k : ab_J l lay M d Q (tgt) (L) (S) (h)) : ab_J l lay M d Q (pc) (L) (ab_I x :: S) (h) := by
  intro p e s m args below meth c dC dI cI cW adr A X H locs ls Y
  exact lv_lookup X.1 X.2.1 hd hp ho ht (k p e s m args below meth c dC dI cI cW adr A X H locs ls Y)
theorem ab_geti {idx ci n i : Nat} {fl : List (Option Nat)} (hd : decode M.2.1 pc = .ok (.getfield idx, 3)) (hf : ab_F M.1.cls idx ci n) (he : lay[i]? = some (.inr (.inr (ci, fl)))) (hk : fl[n]? = some none) (k : ab_J l lay M d Q (pc + 3) (L) (ab_I (h i n) :: S) (h)) : ab_J l lay M d Q (pc) (L) (ab_R i :: S) (h) := by
  intro p e s m args below meth c dC dI cI cW adr A X H locs ls Y
  obtain ⟨C, T, N, ty0, hcl, hkN, hin, hty, hnm, hlink⟩ := hf
  exact va_get (D := (dC, dI)) (ci := ci) (v := .int (h i n)) X.1 X.2.1 X.2.2.2.2.2.1 hin X.2.2.2.2.1 X.2.2.2.2.2.2.2.1 Y.1 i (ab_w_at he) hcl n hkN (X.2.2.2.2.2.1 _ hlink) (fun _ h => h) (by rw [List.getElem?_mapIdx, hk]; rfl) hd (k p e s m args below meth c dC dI cI cW adr A X H locs ls Y)
theorem ab_getr {idx ci n i j : Nat} {fl : List (Option Nat)} (hd : decode M.2.1 pc = .ok (.getfield idx, 3)) (hf : ab_F M.1.cls idx ci n) (he : lay[i]? = some (.inr (.inr (ci, fl)))) (hk : fl[n]? = some (some j)) (k : ab_J l lay M d Q (pc + 3) (L) (ab_R j :: S) (h)) : ab_J l lay M d Q (pc) (L) (ab_R i :: S) (h) := by
  intro p e s m args below meth c dC dI cI cW adr A X H locs ls Y
  obtain ⟨C, T, N, ty0, hcl, hkN, hin, hty, hnm, hlink⟩ := hf
  exact va_get (D := (dC, dI)) (ci := ci) (v := .ref (adr j)) X.1 X.2.1 X.2.2.2.2.2.1 hin X.2.2.2.2.1 X.2.2.2.2.2.2.2.1 Y.1 i (ab_w_at he) hcl n hkN (X.2.2.2.2.2.1 _ hlink) (fun _ h => h) (by rw [List.getElem?_mapIdx, hk]; rfl) hd (k p e s m args below meth c dC dI cI cW adr A X H locs ls Y)
theorem ab_puti {idx ci n i : Nat} {x : Int32} {fl : List (Option Nat)} (hd : decode M.2.1 pc = .ok (.putfield idx, 3)) (hf : ab_Fw M.1.cls idx ci n) (he : lay[i]? = some (.inr (.inr (ci, fl)))) (hk : fl[n]? = some none) (k : ab_J l lay M d Q (pc + 3) (L) (S) (ab_up h i n x)) : ab_J l lay M d Q (pc) (L) (ab_I x :: ab_R i :: S) (h) := by
  intro p e s m args below meth c dC dI cI cW adr A X H locs ls Y
  obtain ⟨C, T, N, ty0, hcl, hkN, hin, hty, hnm, hlink, hfin, hdsc⟩ := hf
  have hl : n < (fl.mapIdx (ab_f adr (h i))).length := by rw [List.length_mapIdx]; exact (List.getElem?_eq_some_iff.mp hk).1
  refine va_put (D := (dC, dI)) (ci := ci) (v := .int x) (ty := .int) X.1 X.2.1 X.2.2.2.2.2.1 hin ty0 hty hnm X.2.2.2.2.1 X.2.2.2.2.2.2.2.1 Y.1 (X.2.2.2.2.2.2.2.2.1.to cI cW h) Y.2.1 i (ab_w_at he) hcl n hkN (X.2.2.2.2.2.1 _ hlink) (fun _ h => h) hfin hdsc rfl rfl hl hd (fun H1 locs1 hP1 _ hS1 => ?_)
  rw [ab_f_set hk] at hP1
  exact k p e s m args below meth c dC dI cI cW adr A X H1 locs1 ls ⟨by have h9 := hP1; rw [show (adr i, (Sum.inr (ci, fl.mapIdx (ab_f adr (upd (h i) n x))) : va_E)) = (adr i, ab_e cI cW adr (upd (h i) n x) (.inr (.inr (ci, fl)))) from rfl, ab_w_set he] at h9; exact h9, hS1, Y.2.2⟩
theorem ab_iald {n i : Nat} {x : Int32} (hd : decode M.2.1 pc = .ok (.iaload, 1)) (he : lay[i]? = some (.inl n)) (hin : vp_in x n) (k : ab_J l lay M d Q (pc + 1) (L) (ab_I (h i x.toNatClampNeg) :: S) (h)) : ab_J l lay M d Q (pc) (L) (ab_I x :: ab_R i :: S) (h) := by
  intro p e s m args below meth c dC dI cI cW adr A X H locs ls Y
  exact va_iald (D := (dC, dI)) X.1 X.2.1 X.2.2.2.2.2.2.2.1 Y.1 i 0 (ab_w_at he) rfl hin hd (k p e s m args below meth c dC dI cI cW adr A X H locs ls Y)
theorem ab_iast {n i : Nat} {x y : Int32} (hd : decode M.2.1 pc = .ok (.iastore, 1)) (he : lay[i]? = some (.inl n)) (hin : vp_in x n) (k : ab_J l lay M d Q (pc + 1) (L) (S) (ab_up h i x.toNatClampNeg y)) : ab_J l lay M d Q (pc) (L) (ab_I y :: ab_I x :: ab_R i :: S) (h) := by
  intro p e s m args below meth c dC dI cI cW adr A X H locs ls Y
  refine va_iast (D := (dC, dI)) X.1 X.2.1 X.2.2.2.2.2.2.2.1 Y.1 (X.2.2.2.2.2.2.2.2.1.to cI cW h) Y.2.1 i 0 (ab_w_at he) rfl hin hd (fun H1 locs1 hP1 _ hS1 => ?_)
  exact k p e s m args below meth c dC dI cI cW adr A X H1 locs1 ls ⟨by have h9 := hP1; rw [show (adr i, (Sum.inl (cI, n, .inl (upd (h i) x.toNatClampNeg y)) : va_E)) = (adr i, ab_e cI cW adr (upd (h i) x.toNatClampNeg y) (.inl n)) from rfl, ab_w_set he] at h9; exact h9, hS1, Y.2.2⟩
theorem ab_aald {i j : Nat} {js : List Nat} {x : Int32} (hd : decode M.2.1 pc = .ok (.aaload, 1)) (he : lay[i]? = some (.inr (.inl js))) (hj : js[x.toNatClampNeg]? = some j) (h0 : ¬ x < 0) (k : ab_J l lay M d Q (pc + 1) (L) (ab_R j :: S) (h)) : ab_J l lay M d Q (pc) (L) (ab_I x :: ab_R i :: S) (h) := by
  intro p e s m args below meth c dC dI cI cW adr A X H locs ls Y
  have hin : vp_in x js.length := fun q => q.elim h0 (fun q => absurd (List.getElem?_eq_some_iff.mp hj).1 (Nat.not_lt.mpr q))
  refine va_aldq (D := (dC, dI)) (C := RX2) X.1 X.2.1 X.2.2.2.2.2.2.2.1 Y.1 i 1 (ab_w_at he) rfl hin hd ?_
  rw [show va_rf ((js[x.toNatClampNeg]?).map adr) = .ref (adr j) by rw [hj]; rfl]
  exact k p e s m args below meth c dC dI cI cW adr A X H locs ls Y
end ABR
section ABE
variable {l : Launch} {lay : List ab_E} {M : ab_M} {d : Nat} {Q : Option ab_V → ab_H → Prop} {pc : Nat} {L : List (Nat × ab_V)} {h : ab_H}
theorem ab_end {dC : Nat → ClassId} {dI : Nat → Nat → Nat} {cI cW : ClassId} {adr : Nat → Nat} {A : Nat → Prop} {s : State} {H : Heap} {locs : List Loc} {args : Array Value} (hK : va_K (dC, dI) vwCl (ab_tys cI cW) s) (hP : va_P (dC, dI) vwCl (ab_w lay cI cW adr h) H) (hS : va_S A s.heap H locs) {v : Option ab_V} (hq : Q v h) : ∀ t : State, t.heap = H → s.WarmedH t.vm → ab_Qc lay dC dI cI cW adr A Q args s (.returned (v.map (ab_c adr))) t :=
  fun t ht hW => ⟨⟨v, h, rfl, hq, by rw [ht]; exact hP, va_K.moved hW.alike hK⟩, hS.F ht⟩
theorem ab_reti {x : Int32} (hd : decode M.2.1 pc = .ok (.ireturn, 1)) (hr : M.2.2.2 = some .int) (hq : Q (some (ab_I x)) h) : ab_J l lay M d Q pc L [ab_I x] h := by
  intro p e s m args below meth c dC dI cI cW adr A X H locs ls Y
  exact W.iret X.1 X.2.1 (X.2.2.1.trans hr) (ab_end (v := some (ab_I x)) X.2.2.2.2.2.2.2.1 Y.1 Y.2.1 hq) Y.2.1.2.2 hd X.2.2.2.2.2.2.1
theorem ab_retz {x : Int32} (hd : decode M.2.1 pc = .ok (.ireturn, 1)) (hr : M.2.2.2 = some .boolean) (hx : narrow .boolean (.int x) = .int x) (hq : Q (some (ab_I x)) h) : ab_J l lay M d Q pc L [ab_I x] h := by
  intro p e s m args below meth c dC dI cI cW adr A X H locs ls Y
  exact W.zret X.1 X.2.1 (X.2.2.1.trans hr) hx (ab_end (v := some (ab_I x)) X.2.2.2.2.2.2.2.1 Y.1 Y.2.1 hq) Y.2.1.2.2 hd X.2.2.2.2.2.2.1
theorem ab_retl {x : Int64} (hd : decode M.2.1 pc = .ok (.lreturn, 1)) (hr : M.2.2.2 = some .long) (hq : Q (some (ab_L x)) h) : ab_J l lay M d Q pc L [ab_L x] h := by
  intro p e s m args below meth c dC dI cI cW adr A X H locs ls Y
  exact W.lret X.1 X.2.1 (X.2.2.1.trans hr) (ab_end (v := some (ab_L x)) X.2.2.2.2.2.2.2.1 Y.1 Y.2.1 hq) Y.2.1.2.2 hd X.2.2.2.2.2.2.1
theorem ab_retv (hd : decode M.2.1 pc = .ok (.return_, 1)) (hr : M.2.2.2 = none) (hq : Q none h) : ab_J l lay M d Q pc L [] h := by
  intro p e s m args below meth c dC dI cI cW adr A X H locs ls Y
  exact W.vret X.1 X.2.1 (X.2.2.1.trans hr) (ab_end (v := none) X.2.2.2.2.2.2.2.1 Y.1 Y.2.1 hq) Y.2.1.2.2 hd X.2.2.2.2.2.2.1
end ABE
end
section
/-! calls within one world: the callee has the caller's whole world -/
section ABC
variable {l : Launch} {lay : List ab_E} {M : ab_M} {d : Nat} {Q : Option ab_V → ab_H → Prop} {pc : Nat} {L : List (Nat × ab_V)} {S : List ab_V} {h : ab_H}
theorem ab_ws_good {M' : ab_M} (hc : Cond.code M'.1 M'.2.1 M'.2.2.1 M'.2.2.2 ∈ ab_all) : GoodIn ab_all (ab_ws M') := fun w hw => by
  have hm : w ∈ ab_all := by
    rcases List.mem_cons.mp hw with e | h
    · rw [e]; exact hc
    · exact h
  exact ⟨hm, good_of_word (List.mem_filter.mp hm).2⟩
theorem ab_callB {s : State} {args : Array Value} {own : String} {idx n : Nat} {M' : ab_M} (hts : ∀ w ∈ ab_all, w.before args s = true) (hm : ab_MB own idx n M') : CallB (ab_rm (d + 1)) s args own idx M'.1 M'.2.1 M'.2.2.1 M'.2.2.2 (ab_ws M') (ab_rm d) 0 0 n :=
  callB_of n hts (ab_ws_good hm.2.2.2.2) rfl rfl rfl (hts _ hm.2.2.2.1) (hts _ hm.2.2.1) hm.1 ⟨Nat.le_refl _, by have := hm.2.1; show 8 + (M'.2.2.1 + 11) + 40 * d ≤ 40 * (d + 1); omega⟩
theorem ab_blind {dC : Nat → ClassId} {dI : Nat → Nat → Nat} {cI cW : ClassId} {adr : Nat → Nat} {sz : Nat} {av : List Value} : FrameBlind (va_Pc av (fun U => U.heap.size = sz ∧ va_P (dC, dI) vwCl (ab_w lay cI cW adr h) U.heap ∧ va_K (dC, dI) vwCl (ab_tys cI cW) U ∧ ab_D lay adr (fun _ => True))) :=
  fun a U g mk q => by
    obtain ⟨q0, q1, qP, qK, qD⟩ := q
    exact ⟨q0, q1, qP, va_K.moved (u := U) (U := U.calling g mk a) (Vm.Alike.refl U.vm) qK, qD⟩
/-- behind a call -/
theorem ab_back {p : Program} {e : Env} {s : State} {m : MethodId} {args : Array Value} {below : List Frame} {meth : Method} {c : Code} {dC : Nat → ClassId} {dI : Nat → Nat → Nat} {cI cW : ClassId} {adr : Nat → Nat} {A : Nat → Prop} {H : Heap} {locs : List Loc} {ls : Array Slot} {st0 : List Value} {av : Array Value} {Q' : Option ab_V → ab_H → Prop}
    (X : ab_Cx lay M p s m args meth c dC dI cI cW adr A) (Y : ab_Dy lay M.2.2.1 s dC dI cI cW adr A H locs ls L h)
    (hr : va_Run p l e (ab_rm (d + 1)) s m args below meth c H locs 0 0 0 0 (F0 m pc ls st0) (S.map (ab_c adr)) (ab_Qc lay dC dI cI cW adr (ab_A lay adr H.size) Q' av) (ab_A lay adr H.size))
    (kk : ∀ v h', Q' v h' → ab_J l lay M (d + 1) Q (pc + 3) L (v.toList ++ S) h') : W p l e (ab_rm (d + 1)) s m args below meth c H locs 0 0 (MQ below (ab_Qc lay dC dI cI cW adr A Q) args s 0 0 A) (F0 m pc ls st0) := by
  intro T hT XT
  obtain ⟨v, st₀, t, T', Lc, h0, X', hL, e1, e2, ⟨⟨v', h', hv, hq, hP1, hK1⟩, hz, hk⟩, st⟩ := hr T hT XT
  cases hv
  rw [h0] at hz hk
  have hAA : ∀ q, ab_A lay adr H.size q → A q := fun q hq => by
    rcases hq with ⟨i, hi, rfl⟩ | hq
    · exact X.2.2.2.2.2.2.2.2.1.2 i hi
    · exact X.2.2.2.2.2.2.2.2.2 q (Nat.le_trans Y.2.1.1 hq)
  have hS1 : va_S A s.heap T'.heap (locs ++ Lc) := ⟨Nat.le_trans Y.2.1.1 (by rw [e1]; exact hz), fun q h1 h2 => by rw [e1, hk q (Nat.lt_of_lt_of_le h1 Y.2.1.1) (fun z => h2 (hAA q z))]; exact Y.2.1.2.1 q h1 h2, fun q hq => by
      rcases List.mem_append.mp hq with h | h
      · exact Y.2.1.2.2 q h
      · exact hAA _ (hL q h)⟩
  obtain ⟨t2, a1, b1⟩ := kk v' h' hq p e s m args below meth c dC dI cI cW adr A X T'.heap (locs ++ Lc) ls ⟨by rw [e1]; exact hP1, hS1, Y.2.2⟩ T' rfl X'
  refine ⟨t2, st t2 ?_, b1⟩
  have e3 : (v'.map (ab_c adr)).toList ++ S.map (ab_c adr) = (v'.toList ++ S).map (ab_c adr) := by cases v' <;> rfl
  rw [show ({ F0 m pc ls st0 with pc := (F0 m pc ls st0).pc + 3, stack := (v'.map (ab_c adr)).toList ++ S.map (ab_c adr) } : JFrame) = F0 m (pc + 3) ls ((v'.toList ++ S).map (ab_c adr)) by rw [e3]]
  exact a1
theorem ab_catS (adr : Nat → Nat) (S : List ab_V) : ((S.map (ab_c adr)).map fun v => v.category).sum = (S.map ab_cat).sum := by
  rw [List.map_map]
  congr 1
  exact List.map_congr_left fun v _ => ab_cat_c adr v
theorem ab_callV {M' : ab_M} {idx ci i n : Nat} {fl : List (Option Nat)} {As : List ab_V} {Q' : Option ab_V → ab_H → Prop} (hd : decode M.2.1 pc = .ok (.invokevirtual idx, 3)) (hm : ab_MV M.1.cls idx ci n M') (he : lay[i]? = some (.inr (.inr (ci, fl)))) (hn : As.length = n) (hS : (S.map ab_cat).sum ≤ 8)
    (hc : ab_C l lay d M' (ab_R i :: As) h Q') (kk : ∀ v h', Q' v h' → ab_J l lay M (d + 1) Q (pc + 3) L (v.toList ++ S) h') : ab_J l lay M (d + 1) Q pc L (As.reverse ++ ab_R i :: S) h := by
  intro p e s m args below meth c dC dI cI cW adr A X H locs ls Y
  obtain ⟨hx, hb, hr, hml, hown, hts, hlk, hK, hD, hA⟩ := id X
  obtain ⟨hP, hSs, hl⟩ := id Y
  obtain ⟨hmB, ⟨q, hq1, hq2⟩, hins, hsel⟩ := hm
  have cw : CallW (ab_rm (d + 1)) s args M.1.cls M'.1.cls idx M'.1 M'.2.1 M'.2.2.1 M'.2.2.2 (ab_ws M') (ab_rm d) 0 0 n := ⟨ab_callB hts hmB, hts _ hins, hts _ hsel⟩
  refine ab_back X Y (va_runV (As := As.map (ab_c adr)) (rest := S.map (ab_c adr)) (b := adr i) ⟨hx, hb, hml, hown, hts⟩ (hc dC dI cI cW adr H.size) cw ⟨ab_blind, ?_, fun U hU hW => ⟨rfl, by rw [hU], by rw [hU]; exact hP, va_K.moved hW.alike hK, hD.1, fun _ _ => trivial⟩⟩ rfl (by rw [List.length_map]; exact hn) hl.1 ?_ (lv_room (by rw [ab_catS]; exact hS)) hd ⟨Nat.zero_le _, Nat.zero_le _⟩) kk
  · rw [← hq2]
    exact va_recv hK hP hq1 (ab_w_at he)
  · show (As.reverse ++ ab_R i :: S).map (ab_c adr) = _
    rw [List.map_append, List.map_reverse]
    rfl
theorem ab_callS {M' : ab_M} {idx n : Nat} {As : List ab_V} {Q' : Option ab_V → ab_H → Prop} (hd : decode M.2.1 pc = .ok (.invokestatic idx, 3)) (hm : ab_MS M.1.cls idx n M') (hn : As.length = n) (hS : (S.map ab_cat).sum ≤ 8)
    (hc : ab_C l lay d M' As h Q') (kk : ∀ v h', Q' v h' → ab_J l lay M (d + 1) Q (pc + 3) L (v.toList ++ S) h') : ab_J l lay M (d + 1) Q pc L (As.reverse ++ S) h := by
  intro p e s m args below meth c dC dI cI cW adr A X H locs ls Y
  obtain ⟨hx, hb, hr, hml, hown, hts, hlk, hK, hD, hA⟩ := id X
  obtain ⟨hP, hSs, hl⟩ := id Y
  obtain ⟨hmB, hstat⟩ := hm
  refine ab_back X Y (va_runS (As := As.map (ab_c adr)) (rest := S.map (ab_c adr)) ⟨hx, hb, hml, hown, hts⟩ (hc dC dI cI cW adr H.size) ⟨ab_callB hts hmB, hts _ hstat⟩ ⟨ab_blind, fun U hU hW => ⟨rfl, by rw [hU], by rw [hU]; exact hP, va_K.moved hW.alike hK, hD.1, fun _ _ => trivial⟩⟩ rfl (by rw [List.length_map]; exact hn) hl.1 ?_ (lv_room (by rw [ab_catS]; exact hS)) hd ⟨Nat.zero_le _, Nat.zero_le _⟩) kk
  show (As.reverse ++ S).map (ab_c adr) = _
  rw [List.map_append, List.map_reverse]
theorem ab_V0 {M' : ab_M} {idx ci i : Nat} {fl : List (Option Nat)} {Q' : Option ab_V → ab_H → Prop} (hd : decode M.2.1 pc = .ok (.invokevirtual idx, 3)) (hm : ab_MV M.1.cls idx ci 0 M') (he : lay[i]? = some (.inr (.inr (ci, fl)))) (hS : Nat.ble (S.map ab_cat).sum 8 = true)
    (hc : ab_C l lay d M' [ab_R i] h Q') (kk : ∀ v h', Q' v h' → ab_J l lay M (d + 1) Q (pc + 3) L (v.toList ++ S) h') : ab_J l lay M (d + 1) Q pc L (ab_R i :: S) h := ab_callV (As := []) hd hm he rfl (Nat.le_of_ble_eq_true hS) hc kk
theorem ab_V1 {M' : ab_M} {idx ci i : Nat} {fl : List (Option Nat)} {a1 : ab_V} {Q' : Option ab_V → ab_H → Prop} (hd : decode M.2.1 pc = .ok (.invokevirtual idx, 3)) (hm : ab_MV M.1.cls idx ci 1 M') (he : lay[i]? = some (.inr (.inr (ci, fl)))) (hS : Nat.ble (S.map ab_cat).sum 8 = true)
    (hc : ab_C l lay d M' [ab_R i, a1] h Q') (kk : ∀ v h', Q' v h' → ab_J l lay M (d + 1) Q (pc + 3) L (v.toList ++ S) h') : ab_J l lay M (d + 1) Q pc L (a1 :: ab_R i :: S) h := ab_callV (As := [a1]) hd hm he rfl (Nat.le_of_ble_eq_true hS) hc kk
theorem ab_V2 {M' : ab_M} {idx ci i : Nat} {fl : List (Option Nat)} {a1 a2 : ab_V} {Q' : Option ab_V → ab_H → Prop} (hd : decode M.2.1 pc = .ok (.invokevirtual idx, 3)) (hm : ab_MV M.1.cls idx ci 2 M') (he : lay[i]? = some (.inr (.inr (ci, fl)))) (hS : Nat.ble (S.map ab_cat).sum 8 = true)
    (hc : ab_C l lay d M' [ab_R i, a1, a2] h Q') (kk : ∀ v h', Q' v h' → ab_J l lay M (d + 1) Q (pc + 3) L (v.toList ++ S) h') : ab_J l lay M (d + 1) Q pc L (a2 :: a1 :: ab_R i :: S) h := ab_callV (As := [a1, a2]) hd hm he rfl (Nat.le_of_ble_eq_true hS) hc kk
theorem ab_V3 {M' : ab_M} {idx ci i : Nat} {fl : List (Option Nat)} {a1 a2 a3 : ab_V} {Q' : Option ab_V → ab_H → Prop} (hd : decode M.2.1 pc = .ok (.invokevirtual idx, 3)) (hm : ab_MV M.1.cls idx ci 3 M') (he : lay[i]? = some (.inr (.inr (ci, fl)))) (hS : Nat.ble (S.map ab_cat).sum 8 = true)
    (hc : ab_C l lay d M' [ab_R i, a1, a2, a3] h Q') (kk : ∀ v h', Q' v h' → ab_J l lay M (d + 1) Q (pc + 3) L (v.toList ++ S) h') : ab_J l lay M (d + 1) Q pc L (a3 :: a2 :: a1 :: ab_R i :: S) h := ab_callV (As := [a1, a2, a3]) hd hm he rfl (Nat.le_of_ble_eq_true hS) hc kk
theorem ab_S1 {M' : ab_M} {idx : Nat} {a1 : ab_V} {Q' : Option ab_V → ab_H → Prop} (hd : decode M.2.1 pc = .ok (.invokestatic idx, 3)) (hm : ab_MS M.1.cls idx 1 M') (hS : Nat.ble (S.map ab_cat).sum 8 = true)
    (hc : ab_C l lay d M' [a1] h Q') (kk : ∀ v h', Q' v h' → ab_J l lay M (d + 1) Q (pc + 3) L (v.toList ++ S) h') : ab_J l lay M (d + 1) Q pc L (a1 :: S) h := ab_callS (As := [a1]) hd hm rfl (Nat.le_of_ble_eq_true hS) hc kk
theorem ab_S2 {M' : ab_M} {idx : Nat} {a1 a2 : ab_V} {Q' : Option ab_V → ab_H → Prop} (hd : decode M.2.1 pc = .ok (.invokestatic idx, 3)) (hm : ab_MS M.1.cls idx 2 M') (hS : Nat.ble (S.map ab_cat).sum 8 = true)
    (hc : ab_C l lay d M' [a1, a2] h Q') (kk : ∀ v h', Q' v h' → ab_J l lay M (d + 1) Q (pc + 3) L (v.toList ++ S) h') : ab_J l lay M (d + 1) Q pc L (a2 :: a1 :: S) h := ab_callS (As := [a1, a2]) hd hm rfl (Nat.le_of_ble_eq_true hS) hc kk
theorem ab_S3 {M' : ab_M} {idx : Nat} {a1 a2 a3 : ab_V} {Q' : Option ab_V → ab_H → Prop} (hd : decode M.2.1 pc = .ok (.invokestatic idx, 3)) (hm : ab_MS M.1.cls idx 3 M') (hS : Nat.ble (S.map ab_cat).sum 8 = true)
    (hc : ab_C l lay d M' [a1, a2, a3] h Q') (kk : ∀ v h', Q' v h' → ab_J l lay M (d + 1) Q (pc + 3) L (v.toList ++ S) h') : ab_J l lay M (d + 1) Q pc L (a3 :: a2 :: a1 :: S) h := ab_callS (As := [a1, a2, a3]) hd hm rfl (Nat.le_of_ble_eq_true hS) hc kk
theorem ab_max {idx : Nat} {x y : Int32} (hd : decode M.2.1 pc = .ok (.invokestatic idx, 3)) (h1 : Cond.methodLink M.1.cls idx Lib.Math.max.name ∈ ab_all) (h2 : Cond.static Lib.Math.max.name ∈ ab_all) (h3 : Cond.initialized "java/lang/Math" ∈ ab_all) (h4 : Cond.code Lib.Math.max.name Lib.Math.max.code 2 (some .int) ∈ ab_all) (hS : Nat.ble (S.map ab_cat).sum 8 = true)
    (k : ab_J l lay M (d + 1) Q (pc + 3) L (ab_I (if x < y then y else x) :: S) h) : ab_J l lay M (d + 1) Q pc L (ab_I y :: ab_I x :: S) h := by
  intro p e s m args below meth c dC dI cI cW adr A X H locs ls Y
  obtain ⟨hx, hb, hr, hml, hown, hts, hlk, hK, hD, hA⟩ := id X
  have h8 := Nat.le_of_ble_eq_true hS
  exact va_mmax hx hb (hml.trans Y.2.2.1.symm) hown (hts _ h1) (hts _ h2) (hts _ h3) (hts _ h4) (Nat.succ_le_succ (Nat.zero_le d)) (by rw [ab_catS]; show _ ≤ 40 * (d + 1); omega) (Nat.zero_le _) (Nat.zero_le _) hd (k p e s m args below meth c dC dI cI cW adr A X H locs ls Y)
theorem ab_copy {idx i j n0 n1 : Nat} {sp dp n : Int32} (hd : decode M.2.1 pc = .ok (.invokestatic idx, 3)) (h1 : Cond.methodLink M.1.cls idx arraycopyName ∈ ab_all) (h2 : Cond.native arraycopyName ∈ ab_all) (h3 : Cond.static arraycopyName ∈ ab_all) (h4 : Cond.initialized "java/lang/System" ∈ ab_all) (hS : Nat.ble (S.map ab_cat).sum 8 = true)
    (hi : lay[i]? = some (.inl n0)) (hj : lay[j]? = some (.inl n1)) (g1 : ¬ sp < 0) (g2 : ¬ dp < 0) (g3 : ¬ n < 0) (g4 : sp.toNatClampNeg + n.toNatClampNeg ≤ n0) (g5 : dp.toNatClampNeg + n.toNatClampNeg ≤ n1)
    (k : ab_J l lay M (d + 1) Q (pc + 3) L S (ab_upA h j (va_cpy (h i) (h j) sp.toNatClampNeg dp.toNatClampNeg n.toNatClampNeg))) : ab_J l lay M (d + 1) Q pc L (ab_I n :: ab_I dp :: ab_R j :: ab_I sp :: ab_R i :: S) h := by
  intro p e s m args below meth c dC dI cI cW adr A X H locs ls Y
  obtain ⟨hx, hb, hr, hml, hown, hts, hlk, hK, hD, hA⟩ := id X
  have h8 := Nat.le_of_ble_eq_true hS
  refine va_copyi (D := (dC, dI)) hx hb (hml.trans Y.2.2.1.symm) hown (hts _ h1) (hts _ h2) (hts _ h3) (hts _ h4) hK Y.1 (hD.to cI cW h) Y.2.1 i j 0 0 (ab_w_at hi) (ab_w_at hj) rfl rfl rfl g1 g2 g3 g4 g5 (fun _ _ => rfl) (Nat.succ_le_succ (Nat.zero_le d)) ?_ hd (fun H1 locs1 hP1 _ hS1 => ?_)
  · rw [ab_catS]
    show _ + (nativeFrameWords "java/lang/System" "arraycopy" 5 + 11) ≤ 40 * (d + 1)
    have : nativeFrameWords "java/lang/System" "arraycopy" 5 ≤ 20 := by decide +kernel
    omega
  · have h9 := hP1
    rw [show (adr j, (Sum.inl (cI, n1, .inl (va_cpy (h i) (h j) sp.toNatClampNeg dp.toNatClampNeg n.toNatClampNeg)) : va_E)) = (adr j, ab_e cI cW adr (va_cpy (h i) (h j) sp.toNatClampNeg dp.toNatClampNeg n.toNatClampNeg) (.inl n1)) from rfl, ab_w_set hj] at h9
    exact k p e s m args below meth c dC dI cI cW adr A X H1 locs1 ls ⟨h9, hS1, Y.2.2⟩
end ABC
end
