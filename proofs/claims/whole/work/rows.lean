section
-- ===== PART A: goes FIRST, ahead of the names: the tables' words, and 'selects' of the private methods out of them =====
/-- a private method of a class that the tables say can be made, by its rows of tables_1 -/
def lw_okq (q : MethodName × Nat) : Prop := (q.1.cls ≠ "java/lang/invoke/MethodHandle" ∧ q.1.cls ≠ "java/lang/invoke/VarHandle") ∧ Cond.instantiable q.1.cls q.2 ∈ tables_1 ∧ Cond.privateMethod q.1 ∈ tables_1 ∧ Cond.instanceMethod q.1 ∈ tables_1
theorem lw_p0 : lw_okq (⟨"java/lang/Throwable", "fillInStackTrace", "(I)Ljava/lang/Throwable;"⟩, 6) := ⟨⟨by decide +kernel, by decide +kernel⟩, List.mem_of_getElem? (i := 260) (by decide +kernel), List.mem_of_getElem? (i := 258) (by decide +kernel), List.mem_of_getElem? (i := 259) (by decide +kernel)⟩
theorem lw_p1 : lw_okq (⟨"TagMachine", "isBusy", "()Z"⟩, 15) := ⟨⟨by decide +kernel, by decide +kernel⟩, List.mem_of_getElem? (i := 14) (by decide +kernel), List.mem_of_getElem? (i := 285) (by decide +kernel), List.mem_of_getElem? (i := 286) (by decide +kernel)⟩
theorem lw_p2 : lw_okq (⟨"TagMachine", "isInstruction", "(I)Z"⟩, 15) := ⟨⟨by decide +kernel, by decide +kernel⟩, List.mem_of_getElem? (i := 14) (by decide +kernel), List.mem_of_getElem? (i := 315) (by decide +kernel), List.mem_of_getElem? (i := 316) (by decide +kernel)⟩
theorem lw_p3 : lw_okq (⟨"TagMachine", "goOneCycle", "()V"⟩, 15) := ⟨⟨by decide +kernel, by decide +kernel⟩, List.mem_of_getElem? (i := 14) (by decide +kernel), List.mem_of_getElem? (i := 326) (by decide +kernel), List.mem_of_getElem? (i := 327) (by decide +kernel)⟩
theorem lw_p4 : lw_okq (⟨"TagMachine", "useBus", "()V"⟩, 15) := ⟨⟨by decide +kernel, by decide +kernel⟩, List.mem_of_getElem? (i := 14) (by decide +kernel), List.mem_of_getElem? (i := 330) (by decide +kernel), List.mem_of_getElem? (i := 331) (by decide +kernel)⟩
theorem lw_p5 : lw_okq (⟨"TagMachine", "firstLike", "(III)I"⟩, 15) := ⟨⟨by decide +kernel, by decide +kernel⟩, List.mem_of_getElem? (i := 14) (by decide +kernel), List.mem_of_getElem? (i := 334) (by decide +kernel), List.mem_of_getElem? (i := 335) (by decide +kernel)⟩
theorem lw_p6 : lw_okq (⟨"TagMachine", "send", "(I)V"⟩, 15) := ⟨⟨by decide +kernel, by decide +kernel⟩, List.mem_of_getElem? (i := 14) (by decide +kernel), List.mem_of_getElem? (i := 338) (by decide +kernel), List.mem_of_getElem? (i := 339) (by decide +kernel)⟩
theorem lw_p7 : lw_okq (⟨"TagMachine", "note", "(I)V"⟩, 15) := ⟨⟨by decide +kernel, by decide +kernel⟩, List.mem_of_getElem? (i := 14) (by decide +kernel), List.mem_of_getElem? (i := 355) (by decide +kernel), List.mem_of_getElem? (i := 356) (by decide +kernel)⟩
theorem lw_p8 : lw_okq (⟨"TagMachine", "work", "()V"⟩, 15) := ⟨⟨by decide +kernel, by decide +kernel⟩, List.mem_of_getElem? (i := 14) (by decide +kernel), List.mem_of_getElem? (i := 359) (by decide +kernel), List.mem_of_getElem? (i := 360) (by decide +kernel)⟩
theorem lw_p9 : lw_okq (⟨"TagMachine", "finishWork", "(LTagMachine$Unit;)V"⟩, 15) := ⟨⟨by decide +kernel, by decide +kernel⟩, List.mem_of_getElem? (i := 14) (by decide +kernel), List.mem_of_getElem? (i := 363) (by decide +kernel), List.mem_of_getElem? (i := 364) (by decide +kernel)⟩
theorem lw_p10 : lw_okq (⟨"TagMachine", "bankOf", "(LTagMachine$Unit;)I"⟩, 15) := ⟨⟨by decide +kernel, by decide +kernel⟩, List.mem_of_getElem? (i := 14) (by decide +kernel), List.mem_of_getElem? (i := 370) (by decide +kernel), List.mem_of_getElem? (i := 371) (by decide +kernel)⟩
theorem lw_p11 : lw_okq (⟨"TagMachine", "firstReady", "(II)I"⟩, 15) := ⟨⟨by decide +kernel, by decide +kernel⟩, List.mem_of_getElem? (i := 14) (by decide +kernel), List.mem_of_getElem? (i := 374) (by decide +kernel), List.mem_of_getElem? (i := 375) (by decide +kernel)⟩
theorem lw_p12 : lw_okq (⟨"TagMachine", "beginStation", "(I)V"⟩, 15) := ⟨⟨by decide +kernel, by decide +kernel⟩, List.mem_of_getElem? (i := 14) (by decide +kernel), List.mem_of_getElem? (i := 386) (by decide +kernel), List.mem_of_getElem? (i := 387) (by decide +kernel)⟩
theorem lw_p13 : lw_okq (⟨"TagMachine$Reckoner", "add", "(II)V"⟩, 2) := ⟨⟨by decide +kernel, by decide +kernel⟩, List.mem_of_getElem? (i := 118) (by decide +kernel), List.mem_of_getElem? (i := 394) (by decide +kernel), List.mem_of_getElem? (i := 395) (by decide +kernel)⟩
theorem lw_p14 : lw_okq (⟨"TagMachine$Reckoner", "finish", "(ZII)V"⟩, 2) := ⟨⟨by decide +kernel, by decide +kernel⟩, List.mem_of_getElem? (i := 118) (by decide +kernel), List.mem_of_getElem? (i := 417) (by decide +kernel), List.mem_of_getElem? (i := 418) (by decide +kernel)⟩
theorem lw_p15 : lw_okq (⟨"TagMachine$Reckoner", "multiply", "(II)V"⟩, 2) := ⟨⟨by decide +kernel, by decide +kernel⟩, List.mem_of_getElem? (i := 118) (by decide +kernel), List.mem_of_getElem? (i := 425) (by decide +kernel), List.mem_of_getElem? (i := 426) (by decide +kernel)⟩
def lw_privs_1 : List (MethodName × Nat) := [(⟨"java/lang/Throwable", "fillInStackTrace", "(I)Ljava/lang/Throwable;"⟩, 6), (⟨"TagMachine", "isBusy", "()Z"⟩, 15), (⟨"TagMachine", "isInstruction", "(I)Z"⟩, 15), (⟨"TagMachine", "goOneCycle", "()V"⟩, 15), (⟨"TagMachine", "useBus", "()V"⟩, 15), (⟨"TagMachine", "firstLike", "(III)I"⟩, 15), (⟨"TagMachine", "send", "(I)V"⟩, 15), (⟨"TagMachine", "note", "(I)V"⟩, 15), (⟨"TagMachine", "work", "()V"⟩, 15), (⟨"TagMachine", "finishWork", "(LTagMachine$Unit;)V"⟩, 15), (⟨"TagMachine", "bankOf", "(LTagMachine$Unit;)I"⟩, 15), (⟨"TagMachine", "firstReady", "(II)I"⟩, 15), (⟨"TagMachine", "beginStation", "(I)V"⟩, 15), (⟨"TagMachine$Reckoner", "add", "(II)V"⟩, 2), (⟨"TagMachine$Reckoner", "finish", "(ZII)V"⟩, 2), (⟨"TagMachine$Reckoner", "multiply", "(II)V"⟩, 2)]
theorem lw_r1 : ∀ q ∈ lw_privs_1, lw_okq q := List.forall_mem_cons.mpr ⟨lw_p0, List.forall_mem_cons.mpr ⟨lw_p1, List.forall_mem_cons.mpr ⟨lw_p2, List.forall_mem_cons.mpr ⟨lw_p3, List.forall_mem_cons.mpr ⟨lw_p4, List.forall_mem_cons.mpr ⟨lw_p5, List.forall_mem_cons.mpr ⟨lw_p6, List.forall_mem_cons.mpr ⟨lw_p7, List.forall_mem_cons.mpr ⟨lw_p8, List.forall_mem_cons.mpr ⟨lw_p9, List.forall_mem_cons.mpr ⟨lw_p10, List.forall_mem_cons.mpr ⟨lw_p11, List.forall_mem_cons.mpr ⟨lw_p12, List.forall_mem_cons.mpr ⟨lw_p13, List.forall_mem_cons.mpr ⟨lw_p14, List.forall_mem_cons.mpr ⟨lw_p15, fun _ h => absurd h List.not_mem_nil⟩⟩⟩⟩⟩⟩⟩⟩⟩⟩⟩⟩⟩⟩⟩⟩
theorem lw_p16 : lw_okq (⟨"TagMachine$Reckoner", "divide", "(II)V"⟩, 2) := ⟨⟨by decide +kernel, by decide +kernel⟩, List.mem_of_getElem? (i := 118) (by decide +kernel), List.mem_of_getElem? (i := 435) (by decide +kernel), List.mem_of_getElem? (i := 436) (by decide +kernel)⟩
theorem lw_p17 : lw_okq (⟨"TagMachine$Reckoner", "compare", "(II)V"⟩, 2) := ⟨⟨by decide +kernel, by decide +kernel⟩, List.mem_of_getElem? (i := 118) (by decide +kernel), List.mem_of_getElem? (i := 439) (by decide +kernel), List.mem_of_getElem? (i := 440) (by decide +kernel)⟩
theorem lw_p18 : lw_okq (⟨"TagMachine", "nextOfMultiplier", "()I"⟩, 15) := ⟨⟨by decide +kernel, by decide +kernel⟩, List.mem_of_getElem? (i := 14) (by decide +kernel), List.mem_of_getElem? (i := 450) (by decide +kernel), List.mem_of_getElem? (i := 451) (by decide +kernel)⟩
theorem lw_p19 : lw_okq (⟨"TagMachine", "beginStorage", "()V"⟩, 15) := ⟨⟨by decide +kernel, by decide +kernel⟩, List.mem_of_getElem? (i := 14) (by decide +kernel), List.mem_of_getElem? (i := 454) (by decide +kernel), List.mem_of_getElem? (i := 455) (by decide +kernel)⟩
theorem lw_p20 : lw_okq (⟨"TagMachine", "earliestAccess", "()I"⟩, 15) := ⟨⟨by decide +kernel, by decide +kernel⟩, List.mem_of_getElem? (i := 14) (by decide +kernel), List.mem_of_getElem? (i := 458) (by decide +kernel), List.mem_of_getElem? (i := 459) (by decide +kernel)⟩
theorem lw_p21 : lw_okq (⟨"TagMachine", "handOut", "()V"⟩, 15) := ⟨⟨by decide +kernel, by decide +kernel⟩, List.mem_of_getElem? (i := 14) (by decide +kernel), List.mem_of_getElem? (i := 462) (by decide +kernel), List.mem_of_getElem? (i := 463) (by decide +kernel)⟩
theorem lw_p22 : lw_okq (⟨"TagMachine", "handToBuffer", "(LTagMachine$Instruction;)Z"⟩, 15) := ⟨⟨by decide +kernel, by decide +kernel⟩, List.mem_of_getElem? (i := 14) (by decide +kernel), List.mem_of_getElem? (i := 466) (by decide +kernel), List.mem_of_getElem? (i := 467) (by decide +kernel)⟩
theorem lw_p23 : lw_okq (⟨"TagMachine", "isToBeStored", "(I)Z"⟩, 15) := ⟨⟨by decide +kernel, by decide +kernel⟩, List.mem_of_getElem? (i := 14) (by decide +kernel), List.mem_of_getElem? (i := 470) (by decide +kernel), List.mem_of_getElem? (i := 471) (by decide +kernel)⟩
theorem lw_p24 : lw_okq (⟨"TagMachine", "handToStation", "(LTagMachine$Instruction;)Z"⟩, 15) := ⟨⟨by decide +kernel, by decide +kernel⟩, List.mem_of_getElem? (i := 14) (by decide +kernel), List.mem_of_getElem? (i := 488) (by decide +kernel), List.mem_of_getElem? (i := 489) (by decide +kernel)⟩
theorem lw_p25 : lw_okq (⟨"TagMachine", "doAtOnce", "(LTagMachine$Instruction;)Z"⟩, 15) := ⟨⟨by decide +kernel, by decide +kernel⟩, List.mem_of_getElem? (i := 14) (by decide +kernel), List.mem_of_getElem? (i := 492) (by decide +kernel), List.mem_of_getElem? (i := 493) (by decide +kernel)⟩
theorem lw_p26 : lw_okq (⟨"TagMachine", "allFree", "()Z"⟩, 15) := ⟨⟨by decide +kernel, by decide +kernel⟩, List.mem_of_getElem? (i := 14) (by decide +kernel), List.mem_of_getElem? (i := 497) (by decide +kernel), List.mem_of_getElem? (i := 498) (by decide +kernel)⟩
theorem lw_p27 : lw_okq (⟨"TagMachineModel", "result", "(III)I"⟩, 30) := ⟨⟨by decide +kernel, by decide +kernel⟩, List.mem_of_getElem? (i := 533) (by decide +kernel), List.mem_of_getElem? (i := 638) (by decide +kernel), List.mem_of_getElem? (i := 639) (by decide +kernel)⟩
theorem lw_p28 : lw_okq (⟨"TagMachineModel", "sum", "(II)I"⟩, 30) := ⟨⟨by decide +kernel, by decide +kernel⟩, List.mem_of_getElem? (i := 533) (by decide +kernel), List.mem_of_getElem? (i := 642) (by decide +kernel), List.mem_of_getElem? (i := 643) (by decide +kernel)⟩
theorem lw_p29 : lw_okq (⟨"TagMachineModel", "align", "(II)I"⟩, 30) := ⟨⟨by decide +kernel, by decide +kernel⟩, List.mem_of_getElem? (i := 533) (by decide +kernel), List.mem_of_getElem? (i := 646) (by decide +kernel), List.mem_of_getElem? (i := 647) (by decide +kernel)⟩
theorem lw_p30 : lw_okq (⟨"TagMachineModel", "finish", "(ZIJ)I"⟩, 30) := ⟨⟨by decide +kernel, by decide +kernel⟩, List.mem_of_getElem? (i := 533) (by decide +kernel), List.mem_of_getElem? (i := 662) (by decide +kernel), List.mem_of_getElem? (i := 663) (by decide +kernel)⟩
theorem lw_p31 : lw_okq (⟨"TagMachineModel", "product", "(II)I"⟩, 30) := ⟨⟨by decide +kernel, by decide +kernel⟩, List.mem_of_getElem? (i := 533) (by decide +kernel), List.mem_of_getElem? (i := 672) (by decide +kernel), List.mem_of_getElem? (i := 673) (by decide +kernel)⟩
def lw_privs_2 : List (MethodName × Nat) := [(⟨"TagMachine$Reckoner", "divide", "(II)V"⟩, 2), (⟨"TagMachine$Reckoner", "compare", "(II)V"⟩, 2), (⟨"TagMachine", "nextOfMultiplier", "()I"⟩, 15), (⟨"TagMachine", "beginStorage", "()V"⟩, 15), (⟨"TagMachine", "earliestAccess", "()I"⟩, 15), (⟨"TagMachine", "handOut", "()V"⟩, 15), (⟨"TagMachine", "handToBuffer", "(LTagMachine$Instruction;)Z"⟩, 15), (⟨"TagMachine", "isToBeStored", "(I)Z"⟩, 15), (⟨"TagMachine", "handToStation", "(LTagMachine$Instruction;)Z"⟩, 15), (⟨"TagMachine", "doAtOnce", "(LTagMachine$Instruction;)Z"⟩, 15), (⟨"TagMachine", "allFree", "()Z"⟩, 15), (⟨"TagMachineModel", "result", "(III)I"⟩, 30), (⟨"TagMachineModel", "sum", "(II)I"⟩, 30), (⟨"TagMachineModel", "align", "(II)I"⟩, 30), (⟨"TagMachineModel", "finish", "(ZIJ)I"⟩, 30), (⟨"TagMachineModel", "product", "(II)I"⟩, 30)]
theorem lw_r2 : ∀ q ∈ lw_privs_2, lw_okq q := List.forall_mem_cons.mpr ⟨lw_p16, List.forall_mem_cons.mpr ⟨lw_p17, List.forall_mem_cons.mpr ⟨lw_p18, List.forall_mem_cons.mpr ⟨lw_p19, List.forall_mem_cons.mpr ⟨lw_p20, List.forall_mem_cons.mpr ⟨lw_p21, List.forall_mem_cons.mpr ⟨lw_p22, List.forall_mem_cons.mpr ⟨lw_p23, List.forall_mem_cons.mpr ⟨lw_p24, List.forall_mem_cons.mpr ⟨lw_p25, List.forall_mem_cons.mpr ⟨lw_p26, List.forall_mem_cons.mpr ⟨lw_p27, List.forall_mem_cons.mpr ⟨lw_p28, List.forall_mem_cons.mpr ⟨lw_p29, List.forall_mem_cons.mpr ⟨lw_p30, List.forall_mem_cons.mpr ⟨lw_p31, fun _ h => absurd h List.not_mem_nil⟩⟩⟩⟩⟩⟩⟩⟩⟩⟩⟩⟩⟩⟩⟩⟩
theorem lw_p32 : lw_okq (⟨"TagMachineModel", "quotient", "(II)I"⟩, 30) := ⟨⟨by decide +kernel, by decide +kernel⟩, List.mem_of_getElem? (i := 533) (by decide +kernel), List.mem_of_getElem? (i := 683) (by decide +kernel), List.mem_of_getElem? (i := 684) (by decide +kernel)⟩
theorem lw_p33 : lw_okq (⟨"TagMachineModel", "compared", "(II)I"⟩, 30) := ⟨⟨by decide +kernel, by decide +kernel⟩, List.mem_of_getElem? (i := 533) (by decide +kernel), List.mem_of_getElem? (i := 687) (by decide +kernel), List.mem_of_getElem? (i := 688) (by decide +kernel)⟩
theorem lw_p34 : lw_okq (⟨"TagMachineModel", "goes", "()Z"⟩, 30) := ⟨⟨by decide +kernel, by decide +kernel⟩, List.mem_of_getElem? (i := 533) (by decide +kernel), List.mem_of_getElem? (i := 702) (by decide +kernel), List.mem_of_getElem? (i := 703) (by decide +kernel)⟩
theorem lw_p35 : lw_okq (⟨"TagMachineModel", "cycle", "()V"⟩, 30) := ⟨⟨by decide +kernel, by decide +kernel⟩, List.mem_of_getElem? (i := 533) (by decide +kernel), List.mem_of_getElem? (i := 725) (by decide +kernel), List.mem_of_getElem? (i := 726) (by decide +kernel)⟩
theorem lw_p36 : lw_okq (⟨"TagMachineModel", "bus", "()V"⟩, 30) := ⟨⟨by decide +kernel, by decide +kernel⟩, List.mem_of_getElem? (i := 533) (by decide +kernel), List.mem_of_getElem? (i := 729) (by decide +kernel), List.mem_of_getElem? (i := 730) (by decide +kernel)⟩
theorem lw_p37 : lw_okq (⟨"TagMachineModel", "work", "()V"⟩, 30) := ⟨⟨by decide +kernel, by decide +kernel⟩, List.mem_of_getElem? (i := 533) (by decide +kernel), List.mem_of_getElem? (i := 736) (by decide +kernel), List.mem_of_getElem? (i := 737) (by decide +kernel)⟩
theorem lw_p38 : lw_okq (⟨"TagMachineModel", "ends", "(I)V"⟩, 30) := ⟨⟨by decide +kernel, by decide +kernel⟩, List.mem_of_getElem? (i := 533) (by decide +kernel), List.mem_of_getElem? (i := 740) (by decide +kernel), List.mem_of_getElem? (i := 741) (by decide +kernel)⟩
theorem lw_p39 : lw_okq (⟨"TagMachineModel", "begin", "()V"⟩, 30) := ⟨⟨by decide +kernel, by decide +kernel⟩, List.mem_of_getElem? (i := 533) (by decide +kernel), List.mem_of_getElem? (i := 744) (by decide +kernel), List.mem_of_getElem? (i := 745) (by decide +kernel)⟩
theorem lw_p40 : lw_okq (⟨"TagMachineModel", "ready", "(I)Z"⟩, 30) := ⟨⟨by decide +kernel, by decide +kernel⟩, List.mem_of_getElem? (i := 533) (by decide +kernel), List.mem_of_getElem? (i := 748) (by decide +kernel), List.mem_of_getElem? (i := 749) (by decide +kernel)⟩
theorem lw_p41 : lw_okq (⟨"TagMachineModel", "begins", "(II)V"⟩, 30) := ⟨⟨by decide +kernel, by decide +kernel⟩, List.mem_of_getElem? (i := 533) (by decide +kernel), List.mem_of_getElem? (i := 752) (by decide +kernel), List.mem_of_getElem? (i := 753) (by decide +kernel)⟩
theorem lw_p42 : lw_okq (⟨"TagMachineModel", "handOut", "()V"⟩, 30) := ⟨⟨by decide +kernel, by decide +kernel⟩, List.mem_of_getElem? (i := 533) (by decide +kernel), List.mem_of_getElem? (i := 756) (by decide +kernel), List.mem_of_getElem? (i := 757) (by decide +kernel)⟩
theorem lw_p43 : lw_okq (⟨"TagMachineModel", "storage", "(I)Z"⟩, 30) := ⟨⟨by decide +kernel, by decide +kernel⟩, List.mem_of_getElem? (i := 533) (by decide +kernel), List.mem_of_getElem? (i := 760) (by decide +kernel), List.mem_of_getElem? (i := 761) (by decide +kernel)⟩
theorem lw_p44 : lw_okq (⟨"TagMachineModel", "free", "(II)I"⟩, 30) := ⟨⟨by decide +kernel, by decide +kernel⟩, List.mem_of_getElem? (i := 533) (by decide +kernel), List.mem_of_getElem? (i := 764) (by decide +kernel), List.mem_of_getElem? (i := 765) (by decide +kernel)⟩
theorem lw_p45 : lw_okq (⟨"TagMachineModel", "storing", "(I)Z"⟩, 30) := ⟨⟨by decide +kernel, by decide +kernel⟩, List.mem_of_getElem? (i := 533) (by decide +kernel), List.mem_of_getElem? (i := 768) (by decide +kernel), List.mem_of_getElem? (i := 769) (by decide +kernel)⟩
theorem lw_p46 : lw_okq (⟨"TagMachineModel", "take", "(IIII)V"⟩, 30) := ⟨⟨by decide +kernel, by decide +kernel⟩, List.mem_of_getElem? (i := 533) (by decide +kernel), List.mem_of_getElem? (i := 772) (by decide +kernel), List.mem_of_getElem? (i := 773) (by decide +kernel)⟩
theorem lw_p47 : lw_okq (⟨"TagMachineModel", "reckoned", "(I)Z"⟩, 30) := ⟨⟨by decide +kernel, by decide +kernel⟩, List.mem_of_getElem? (i := 533) (by decide +kernel), List.mem_of_getElem? (i := 776) (by decide +kernel), List.mem_of_getElem? (i := 777) (by decide +kernel)⟩
def lw_privs_3 : List (MethodName × Nat) := [(⟨"TagMachineModel", "quotient", "(II)I"⟩, 30), (⟨"TagMachineModel", "compared", "(II)I"⟩, 30), (⟨"TagMachineModel", "goes", "()Z"⟩, 30), (⟨"TagMachineModel", "cycle", "()V"⟩, 30), (⟨"TagMachineModel", "bus", "()V"⟩, 30), (⟨"TagMachineModel", "work", "()V"⟩, 30), (⟨"TagMachineModel", "ends", "(I)V"⟩, 30), (⟨"TagMachineModel", "begin", "()V"⟩, 30), (⟨"TagMachineModel", "ready", "(I)Z"⟩, 30), (⟨"TagMachineModel", "begins", "(II)V"⟩, 30), (⟨"TagMachineModel", "handOut", "()V"⟩, 30), (⟨"TagMachineModel", "storage", "(I)Z"⟩, 30), (⟨"TagMachineModel", "free", "(II)I"⟩, 30), (⟨"TagMachineModel", "storing", "(I)Z"⟩, 30), (⟨"TagMachineModel", "take", "(IIII)V"⟩, 30), (⟨"TagMachineModel", "reckoned", "(I)Z"⟩, 30)]
theorem lw_r3 : ∀ q ∈ lw_privs_3, lw_okq q := List.forall_mem_cons.mpr ⟨lw_p32, List.forall_mem_cons.mpr ⟨lw_p33, List.forall_mem_cons.mpr ⟨lw_p34, List.forall_mem_cons.mpr ⟨lw_p35, List.forall_mem_cons.mpr ⟨lw_p36, List.forall_mem_cons.mpr ⟨lw_p37, List.forall_mem_cons.mpr ⟨lw_p38, List.forall_mem_cons.mpr ⟨lw_p39, List.forall_mem_cons.mpr ⟨lw_p40, List.forall_mem_cons.mpr ⟨lw_p41, List.forall_mem_cons.mpr ⟨lw_p42, List.forall_mem_cons.mpr ⟨lw_p43, List.forall_mem_cons.mpr ⟨lw_p44, List.forall_mem_cons.mpr ⟨lw_p45, List.forall_mem_cons.mpr ⟨lw_p46, List.forall_mem_cons.mpr ⟨lw_p47, fun _ h => absurd h List.not_mem_nil⟩⟩⟩⟩⟩⟩⟩⟩⟩⟩⟩⟩⟩⟩⟩⟩
def lw_privs : List (MethodName × Nat) := lw_privs_1 ++ (lw_privs_2 ++ (lw_privs_3))
def lw_tbl : List Cond := k2_sels lw_privs ++ tables_1
theorem lw_privs_ok : ∀ q ∈ lw_privs, lw_okq q := by
  show ∀ q ∈ lw_privs_1 ++ (lw_privs_2 ++ (lw_privs_3)), lw_okq q
  exact List.forall_mem_append.mpr ⟨lw_r1, List.forall_mem_append.mpr ⟨lw_r2, lw_r3⟩⟩
end
section
-- names of classes, fields, methods (written by program)
def nR_INS : String := "TagMachine$Instruction"
def nT_INS : u_T := fun k => match k with
  | 0 => ("TagMachine$Instruction", "op", "I", false)
  | 1 => ("TagMachine$Instruction", "\x72", "I", false)
  | 2 => ("TagMachine$Instruction", "s", "I", false)
  | 3 => ("TagMachine$Instruction", "b", "I", false)
  | _ => ("TagMachine$Instruction", "n", "I", false)
def nY_INS : Nat → FieldType := fun k => match k with
  | 0 => .int
  | 1 => .int
  | 2 => .int
  | 3 => .int
  | _ => .int
theorem nM_INS : ∀ a, a < 5 → ∀ b, b < 5 → a ≠ b → (nT_INS a).2.1 ≠ (nT_INS b).2.1 := by decide +kernel
theorem nK_INS : ∀ k, k < 5 → parseFieldDescriptor (nT_INS k).2.2.1 = some (nY_INS k) := by decide +kernel
def nR_OPD : String := "TagMachine$Operand"
def nT_OPD : u_T := fun k => match k with
  | 0 => ("TagMachine$Operand", "value", "I", false)
  | _ => ("TagMachine$Operand", "awaited", "I", false)
def nY_OPD : Nat → FieldType := fun k => match k with
  | 0 => .int
  | _ => .int
theorem nM_OPD : ∀ a, a < 2 → ∀ b, b < 2 → a ≠ b → (nT_OPD a).2.1 ≠ (nT_OPD b).2.1 := by decide +kernel
theorem nK_OPD : ∀ k, k < 2 → parseFieldDescriptor (nT_OPD k).2.2.1 = some (nY_OPD k) := by decide +kernel
def nR_REC : String := "TagMachine$Reckoner"
def nT_REC : u_T := fun k => match k with
  | 0 => ("TagMachine$Reckoner", "result", "I", false)
  | _ => ("TagMachine$Reckoner", "raised", "I", false)
def nY_REC : Nat → FieldType := fun k => match k with
  | 0 => .int
  | _ => .int
theorem nM_REC : ∀ a, a < 2 → ∀ b, b < 2 → a ≠ b → (nT_REC a).2.1 ≠ (nT_REC b).2.1 := by decide +kernel
theorem nK_REC : ∀ k, k < 2 → parseFieldDescriptor (nT_REC k).2.2.1 = some (nY_REC k) := by decide +kernel
def nR_UNI : String := "TagMachine$Unit"
def nT_UNI : u_T := fun k => match k with
  | 0 => ("TagMachine$Unit", "first", "LTagMachine$Operand;", true)
  | 1 => ("TagMachine$Unit", "second", "LTagMachine$Operand;", true)
  | 2 => ("TagMachine$Unit", "state", "I", false)
  | 3 => ("TagMachine$Unit", "op", "I", false)
  | 4 => ("TagMachine$Unit", "address", "I", false)
  | 5 => ("TagMachine$Unit", "order", "I", false)
  | 6 => ("TagMachine$Unit", "toGo", "I", false)
  | 7 => ("TagMachine$Unit", "result", "I", false)
  | _ => ("TagMachine$Unit", "raised", "I", false)
def nY_UNI : Nat → FieldType := fun k => match k with
  | 0 => .object "TagMachine$Operand"
  | 1 => .object "TagMachine$Operand"
  | 2 => .int
  | 3 => .int
  | 4 => .int
  | 5 => .int
  | 6 => .int
  | 7 => .int
  | _ => .int
theorem nM_UNI : ∀ a, a < 9 → ∀ b, b < 9 → a ≠ b → (nT_UNI a).2.1 ≠ (nT_UNI b).2.1 := by decide +kernel
theorem nK_UNI : ∀ k, k < 9 → parseFieldDescriptor (nT_UNI k).2.2.1 = some (nY_UNI k) := by decide +kernel
def nR_TM : String := "TagMachine"
def nT_TM : u_T := fun k => match k with
  | 0 => ("TagMachine", "banks", "I", true)
  | 1 => ("TagMachine", "latency", "I", true)
  | 2 => ("TagMachine", "program", "[LTagMachine$Instruction;", true)
  | 3 => ("TagMachine", "registers", "[LTagMachine$Operand;", true)
  | 4 => ("TagMachine", "integers", "[I", true)
  | 5 => ("TagMachine", "words", "[I", true)
  | 6 => ("TagMachine", "units", "[LTagMachine$Unit;", true)
  | 7 => ("TagMachine", "bankInUse", "[Z", true)
  | 8 => ("TagMachine", "reckoner", "LTagMachine$Reckoner;", true)
  | 9 => ("TagMachine", "instructions", "I", false)
  | 10 => ("TagMachine", "mode", "I", false)
  | 11 => ("TagMachine", "next", "I", false)
  | 12 => ("TagMachine", "noted", "I", false)
  | 13 => ("TagMachine", "cycles", "I", false)
  | _ => ("TagMachine", "handedOut", "I", false)
def nY_TM : Nat → FieldType := fun k => match k with
  | 0 => .int
  | 1 => .int
  | 2 => .array (.object "TagMachine$Instruction")
  | 3 => .array (.object "TagMachine$Operand")
  | 4 => .array .int
  | 5 => .array .int
  | 6 => .array (.object "TagMachine$Unit")
  | 7 => .array .boolean
  | 8 => .object "TagMachine$Reckoner"
  | 9 => .int
  | 10 => .int
  | 11 => .int
  | 12 => .int
  | 13 => .int
  | _ => .int
theorem nM_TM : ∀ a, a < 15 → ∀ b, b < 15 → a ≠ b → (nT_TM a).2.1 ≠ (nT_TM b).2.1 := by decide +kernel
theorem nK_TM : ∀ k, k < 15 → parseFieldDescriptor (nT_TM k).2.2.1 = some (nY_TM k) := by decide +kernel
def nR_MOD : String := "TagMachineModel"
def nT_MOD : u_T := fun k => match k with
  | 0 => ("TagMachineModel", "banks", "I", true)
  | 1 => ("TagMachineModel", "latency", "I", true)
  | 2 => ("TagMachineModel", "threw", "I", false)
  | 3 => ("TagMachineModel", "many", "I", false)
  | 4 => ("TagMachineModel", "op", "[I", true)
  | 5 => ("TagMachineModel", "rs", "[I", true)
  | 6 => ("TagMachineModel", "ss", "[I", true)
  | 7 => ("TagMachineModel", "bs", "[I", true)
  | 8 => ("TagMachineModel", "ns", "[I", true)
  | 9 => ("TagMachineModel", "state", "I", false)
  | 10 => ("TagMachineModel", "next", "I", false)
  | 11 => ("TagMachineModel", "noted", "I", false)
  | 12 => ("TagMachineModel", "cycles", "I", false)
  | 13 => ("TagMachineModel", "handed", "I", false)
  | 14 => ("TagMachineModel", "value", "[I", true)
  | 15 => ("TagMachineModel", "waits", "[I", true)
  | 16 => ("TagMachineModel", "general", "[I", true)
  | 17 => ("TagMachineModel", "words", "[I", true)
  | 18 => ("TagMachineModel", "place", "[I", true)
  | 19 => ("TagMachineModel", "what", "[I", true)
  | 20 => ("TagMachineModel", "left", "[I", true)
  | 21 => ("TagMachineModel", "gives", "[I", true)
  | 22 => ("TagMachineModel", "notes", "[I", true)
  | 23 => ("TagMachineModel", "operand", "[I", true)
  | 24 => ("TagMachineModel", "tag", "[I", true)
  | 25 => ("TagMachineModel", "where", "[I", true)
  | 26 => ("TagMachineModel", "order", "[I", true)
  | 27 => ("TagMachineModel", "taken", "[Z", true)
  | 28 => ("TagMachineModel", "exception", "I", false)
  | _ => ("TagMachineModel", "signed", "J", false)
def nY_MOD : Nat → FieldType := fun k => match k with
  | 0 => .int
  | 1 => .int
  | 2 => .int
  | 3 => .int
  | 4 => .array .int
  | 5 => .array .int
  | 6 => .array .int
  | 7 => .array .int
  | 8 => .array .int
  | 9 => .int
  | 10 => .int
  | 11 => .int
  | 12 => .int
  | 13 => .int
  | 14 => .array .int
  | 15 => .array .int
  | 16 => .array .int
  | 17 => .array .int
  | 18 => .array .int
  | 19 => .array .int
  | 20 => .array .int
  | 21 => .array .int
  | 22 => .array .int
  | 23 => .array .int
  | 24 => .array .int
  | 25 => .array .int
  | 26 => .array .int
  | 27 => .array .boolean
  | 28 => .int
  | _ => .long
theorem nM_MOD : ∀ a, a < 30 → ∀ b, b < 30 → a ≠ b → (nT_MOD a).2.1 ≠ (nT_MOD b).2.1 := by decide +kernel
theorem nK_MOD : ∀ k, k < 30 → parseFieldDescriptor (nT_MOD k).2.2.1 = some (nY_MOD k) := by decide +kernel
def nR_LAW : String := "TagMachineLaw"
abbrev vwCl : List vw_C := [(nR_INS, nT_INS, 5), (nR_OPD, nT_OPD, 2), (nR_REC, nT_REC, 2), (nR_UNI, nT_UNI, 9), (nR_TM, nT_TM, 15), (nR_MOD, nT_MOD, 30)]
abbrev nC_TM_init : ByteArray := prog_1_method_1_code
def nN_TM_init : MethodName := ⟨nR_TM, "<init>", "(II)V"⟩
abbrev nC_TM_put : ByteArray := prog_1_method_2_code
def nN_TM_put : MethodName := ⟨nR_TM, "put", "(IIIII)I"⟩
abbrev nC_TM_start : ByteArray := prog_1_method_3_code
def nN_TM_start : MethodName := ⟨nR_TM, "start", "(I)Z"⟩
abbrev nC_TM_run : ByteArray := prog_1_method_4_code
def nN_TM_run : MethodName := ⟨nR_TM, "run", "(I)I"⟩
abbrev nC_TM_set : ByteArray := prog_1_method_5_code
def nN_TM_set : MethodName := ⟨nR_TM, "set", "(II)Z"⟩
abbrev nC_TM_store : ByteArray := prog_1_method_6_code
def nN_TM_store : MethodName := ⟨nR_TM, "store", "(II)Z"⟩
abbrev nC_TM_reckon : ByteArray := prog_1_method_7_code
def nN_TM_reckon : MethodName := ⟨nR_TM, "reckon", "(III)I"⟩
abbrev nC_TM_exceptions : ByteArray := prog_1_method_8_code
def nN_TM_exceptions : MethodName := ⟨nR_TM, "exceptions", "(III)I"⟩
abbrev nC_TM_floating : ByteArray := prog_1_method_9_code
def nN_TM_floating : MethodName := ⟨nR_TM, "floating", "(I)I"⟩
abbrev nC_TM_general : ByteArray := prog_1_method_10_code
def nN_TM_general : MethodName := ⟨nR_TM, "general", "(I)I"⟩
abbrev nC_TM_word : ByteArray := prog_1_method_11_code
def nN_TM_word : MethodName := ⟨nR_TM, "word", "(I)I"⟩
abbrev nC_TM_tag : ByteArray := prog_1_method_12_code
def nN_TM_tag : MethodName := ⟨nR_TM, "tag", "(I)I"⟩
abbrev nC_TM_place : ByteArray := prog_1_method_13_code
def nN_TM_place : MethodName := ⟨nR_TM, "place", "(I)I"⟩
abbrev nC_TM_about : ByteArray := prog_1_method_14_code
def nN_TM_about : MethodName := ⟨nR_TM, "about", "(I)I"⟩
abbrev nC_TM_isRegister : ByteArray := prog_1_method_15_code
def nN_TM_isRegister : MethodName := ⟨nR_TM, "isRegister", "(I)Z"⟩
abbrev nC_TM_isPlace : ByteArray := prog_1_method_16_code
def nN_TM_isPlace : MethodName := ⟨nR_TM, "isPlace", "(I)Z"⟩
abbrev nC_TM_usesStorage : ByteArray := prog_1_method_17_code
def nN_TM_usesStorage : MethodName := ⟨nR_TM, "usesStorage", "(I)Z"⟩
abbrev nC_TM_isInstruction : ByteArray := prog_1_method_18_code
def nN_TM_isInstruction : MethodName := ⟨nR_TM, "isInstruction", "(I)Z"⟩
abbrev nC_TM_isBusy : ByteArray := prog_1_method_19_code
def nN_TM_isBusy : MethodName := ⟨nR_TM, "isBusy", "()Z"⟩
abbrev nC_TM_goOneCycle : ByteArray := prog_1_method_20_code
def nN_TM_goOneCycle : MethodName := ⟨nR_TM, "goOneCycle", "()V"⟩
abbrev nC_TM_note : ByteArray := prog_1_method_21_code
def nN_TM_note : MethodName := ⟨nR_TM, "note", "(I)V"⟩
abbrev nC_TM_allFree : ByteArray := prog_1_method_22_code
def nN_TM_allFree : MethodName := ⟨nR_TM, "allFree", "()Z"⟩
abbrev nC_TM_firstLike : ByteArray := prog_1_method_23_code
def nN_TM_firstLike : MethodName := ⟨nR_TM, "firstLike", "(III)I"⟩
abbrev nC_TM_firstReady : ByteArray := prog_1_method_24_code
def nN_TM_firstReady : MethodName := ⟨nR_TM, "firstReady", "(II)I"⟩
abbrev nC_TM_useBus : ByteArray := prog_1_method_25_code
def nN_TM_useBus : MethodName := ⟨nR_TM, "useBus", "()V"⟩
abbrev nC_TM_send : ByteArray := prog_1_method_26_code
def nN_TM_send : MethodName := ⟨nR_TM, "send", "(I)V"⟩
abbrev nC_TM_work : ByteArray := prog_1_method_27_code
def nN_TM_work : MethodName := ⟨nR_TM, "work", "()V"⟩
abbrev nC_TM_finishWork : ByteArray := prog_1_method_28_code
def nN_TM_finishWork : MethodName := ⟨nR_TM, "finishWork", "(LTagMachine$Unit;)V"⟩
abbrev nC_TM_bankOf : ByteArray := prog_1_method_29_code
def nN_TM_bankOf : MethodName := ⟨nR_TM, "bankOf", "(LTagMachine$Unit;)I"⟩
abbrev nC_TM_nextOfMultiplier : ByteArray := prog_1_method_30_code
def nN_TM_nextOfMultiplier : MethodName := ⟨nR_TM, "nextOfMultiplier", "()I"⟩
abbrev nC_TM_beginStation : ByteArray := prog_1_method_31_code
def nN_TM_beginStation : MethodName := ⟨nR_TM, "beginStation", "(I)V"⟩
abbrev nC_TM_cyclesFor : ByteArray := prog_1_method_32_code
def nN_TM_cyclesFor : MethodName := ⟨nR_TM, "cyclesFor", "(I)I"⟩
abbrev nC_TM_beginStorage : ByteArray := prog_1_method_33_code
def nN_TM_beginStorage : MethodName := ⟨nR_TM, "beginStorage", "()V"⟩
abbrev nC_TM_earliestAccess : ByteArray := prog_1_method_34_code
def nN_TM_earliestAccess : MethodName := ⟨nR_TM, "earliestAccess", "()I"⟩
abbrev nC_TM_handOut : ByteArray := prog_1_method_35_code
def nN_TM_handOut : MethodName := ⟨nR_TM, "handOut", "()V"⟩
abbrev nC_TM_handToBuffer : ByteArray := prog_1_method_36_code
def nN_TM_handToBuffer : MethodName := ⟨nR_TM, "handToBuffer", "(LTagMachine$Instruction;)Z"⟩
abbrev nC_TM_isToBeStored : ByteArray := prog_1_method_37_code
def nN_TM_isToBeStored : MethodName := ⟨nR_TM, "isToBeStored", "(I)Z"⟩
abbrev nC_TM_handToStation : ByteArray := prog_1_method_38_code
def nN_TM_handToStation : MethodName := ⟨nR_TM, "handToStation", "(LTagMachine$Instruction;)Z"⟩
abbrev nC_TM_doAtOnce : ByteArray := prog_1_method_39_code
def nN_TM_doAtOnce : MethodName := ⟨nR_TM, "doAtOnce", "(LTagMachine$Instruction;)Z"⟩
abbrev nC_MOD_init : ByteArray := prog_7_method_1_code
def nN_MOD_init : MethodName := ⟨nR_MOD, "<init>", "(II)V"⟩
abbrev nC_MOD_thrown : ByteArray := prog_7_method_2_code
def nN_MOD_thrown : MethodName := ⟨nR_MOD, "thrown", "()I"⟩
abbrev nC_MOD_minus : ByteArray := prog_7_method_3_code
def nN_MOD_minus : MethodName := ⟨nR_MOD, "minus", "(I)Z"⟩
abbrev nC_MOD_charOf : ByteArray := prog_7_method_4_code
def nN_MOD_charOf : MethodName := ⟨nR_MOD, "charOf", "(I)I"⟩
abbrev nC_MOD_partOf : ByteArray := prog_7_method_5_code
def nN_MOD_partOf : MethodName := ⟨nR_MOD, "partOf", "(I)J"⟩
abbrev nC_MOD_finish : ByteArray := prog_7_method_6_code
def nN_MOD_finish : MethodName := ⟨nR_MOD, "finish", "(ZIJ)I"⟩
abbrev nC_MOD_align : ByteArray := prog_7_method_7_code
def nN_MOD_align : MethodName := ⟨nR_MOD, "align", "(II)I"⟩
abbrev nC_MOD_sum : ByteArray := prog_7_method_8_code
def nN_MOD_sum : MethodName := ⟨nR_MOD, "sum", "(II)I"⟩
abbrev nC_MOD_other : ByteArray := prog_7_method_9_code
def nN_MOD_other : MethodName := ⟨nR_MOD, "other", "(I)I"⟩
abbrev nC_MOD_compared : ByteArray := prog_7_method_10_code
def nN_MOD_compared : MethodName := ⟨nR_MOD, "compared", "(II)I"⟩
abbrev nC_MOD_short0 : ByteArray := prog_7_method_11_code
def nN_MOD_short0 : MethodName := ⟨nR_MOD, "short0", "(I)I"⟩
abbrev nC_MOD_normal : ByteArray := prog_7_method_12_code
def nN_MOD_normal : MethodName := ⟨nR_MOD, "normal", "(I)J"⟩
abbrev nC_MOD_product : ByteArray := prog_7_method_13_code
def nN_MOD_product : MethodName := ⟨nR_MOD, "product", "(II)I"⟩
abbrev nC_MOD_quotient : ByteArray := prog_7_method_14_code
def nN_MOD_quotient : MethodName := ⟨nR_MOD, "quotient", "(II)I"⟩
abbrev nC_MOD_result : ByteArray := prog_7_method_15_code
def nN_MOD_result : MethodName := ⟨nR_MOD, "result", "(III)I"⟩
abbrev nC_MOD_reckon : ByteArray := prog_7_method_16_code
def nN_MOD_reckon : MethodName := ⟨nR_MOD, "reckon", "(III)I"⟩
abbrev nC_MOD_exceptions : ByteArray := prog_7_method_17_code
def nN_MOD_exceptions : MethodName := ⟨nR_MOD, "exceptions", "(III)I"⟩
abbrev nC_MOD_isRegister : ByteArray := prog_7_method_18_code
def nN_MOD_isRegister : MethodName := ⟨nR_MOD, "isRegister", "(I)Z"⟩
abbrev nC_MOD_goes : ByteArray := prog_7_method_19_code
def nN_MOD_goes : MethodName := ⟨nR_MOD, "goes", "()Z"⟩
abbrev nC_MOD_put : ByteArray := prog_7_method_20_code
def nN_MOD_put : MethodName := ⟨nR_MOD, "put", "(IIIII)I"⟩
abbrev nC_MOD_start : ByteArray := prog_7_method_21_code
def nN_MOD_start : MethodName := ⟨nR_MOD, "start", "(I)Z"⟩
abbrev nC_MOD_set : ByteArray := prog_7_method_22_code
def nN_MOD_set : MethodName := ⟨nR_MOD, "set", "(II)Z"⟩
abbrev nC_MOD_isPlace : ByteArray := prog_7_method_23_code
def nN_MOD_isPlace : MethodName := ⟨nR_MOD, "isPlace", "(I)Z"⟩
abbrev nC_MOD_store : ByteArray := prog_7_method_24_code
def nN_MOD_store : MethodName := ⟨nR_MOD, "store", "(II)Z"⟩
abbrev nC_MOD_turnOf : ByteArray := prog_7_method_25_code
def nN_MOD_turnOf : MethodName := ⟨nR_MOD, "turnOf", "(I)I"⟩
abbrev nC_MOD_bus : ByteArray := prog_7_method_26_code
def nN_MOD_bus : MethodName := ⟨nR_MOD, "bus", "()V"⟩
abbrev nC_MOD_work : ByteArray := prog_7_method_27_code
def nN_MOD_work : MethodName := ⟨nR_MOD, "work", "()V"⟩
abbrev nC_MOD_ends : ByteArray := prog_7_method_28_code
def nN_MOD_ends : MethodName := ⟨nR_MOD, "ends", "(I)V"⟩
abbrev nC_MOD_ready : ByteArray := prog_7_method_29_code
def nN_MOD_ready : MethodName := ⟨nR_MOD, "ready", "(I)Z"⟩
abbrev nC_MOD_begins : ByteArray := prog_7_method_30_code
def nN_MOD_begins : MethodName := ⟨nR_MOD, "begins", "(II)V"⟩
abbrev nC_MOD_begin : ByteArray := prog_7_method_31_code
def nN_MOD_begin : MethodName := ⟨nR_MOD, "begin", "()V"⟩
abbrev nC_MOD_free : ByteArray := prog_7_method_32_code
def nN_MOD_free : MethodName := ⟨nR_MOD, "free", "(II)I"⟩
abbrev nC_MOD_storing : ByteArray := prog_7_method_33_code
def nN_MOD_storing : MethodName := ⟨nR_MOD, "storing", "(I)Z"⟩
abbrev nC_MOD_take : ByteArray := prog_7_method_34_code
def nN_MOD_take : MethodName := ⟨nR_MOD, "take", "(IIII)V"⟩
abbrev nC_MOD_storage : ByteArray := prog_7_method_35_code
def nN_MOD_storage : MethodName := ⟨nR_MOD, "storage", "(I)Z"⟩
abbrev nC_MOD_reckoned : ByteArray := prog_7_method_36_code
def nN_MOD_reckoned : MethodName := ⟨nR_MOD, "reckoned", "(I)Z"⟩
abbrev nC_MOD_handOut : ByteArray := prog_7_method_37_code
def nN_MOD_handOut : MethodName := ⟨nR_MOD, "handOut", "()V"⟩
abbrev nC_MOD_cycle : ByteArray := prog_7_method_38_code
def nN_MOD_cycle : MethodName := ⟨nR_MOD, "cycle", "()V"⟩
abbrev nC_MOD_run : ByteArray := prog_7_method_39_code
def nN_MOD_run : MethodName := ⟨nR_MOD, "run", "(I)I"⟩
abbrev nC_MOD_floating : ByteArray := prog_7_method_40_code
def nN_MOD_floating : MethodName := ⟨nR_MOD, "floating", "(I)I"⟩
abbrev nC_MOD_general : ByteArray := prog_7_method_41_code
def nN_MOD_general : MethodName := ⟨nR_MOD, "general", "(I)I"⟩
abbrev nC_MOD_word : ByteArray := prog_7_method_42_code
def nN_MOD_word : MethodName := ⟨nR_MOD, "word", "(I)I"⟩
abbrev nC_MOD_tag : ByteArray := prog_7_method_43_code
def nN_MOD_tag : MethodName := ⟨nR_MOD, "tag", "(I)I"⟩
abbrev nC_MOD_place : ByteArray := prog_7_method_44_code
def nN_MOD_place : MethodName := ⟨nR_MOD, "place", "(I)I"⟩
abbrev nC_MOD_about : ByteArray := prog_7_method_45_code
def nN_MOD_about : MethodName := ⟨nR_MOD, "about", "(I)I"⟩
abbrev nC_INS_init : ByteArray := prog_2_method_1_code
def nN_INS_init : MethodName := ⟨nR_INS, "<init>", "()V"⟩
abbrev nC_INS_become : ByteArray := prog_2_method_2_code
def nN_INS_become : MethodName := ⟨nR_INS, "become", "(IIIII)V"⟩
abbrev nC_OPD_init : ByteArray := prog_3_method_1_code
def nN_OPD_init : MethodName := ⟨nR_OPD, "<init>", "()V"⟩
abbrev nC_OPD_isAwaited : ByteArray := prog_3_method_2_code
def nN_OPD_isAwaited : MethodName := ⟨nR_OPD, "isAwaited", "()Z"⟩
abbrev nC_OPD_haveValue : ByteArray := prog_3_method_3_code
def nN_OPD_haveValue : MethodName := ⟨nR_OPD, "haveValue", "(I)V"⟩
abbrev nC_OPD_waitFor : ByteArray := prog_3_method_4_code
def nN_OPD_waitFor : MethodName := ⟨nR_OPD, "waitFor", "(I)V"⟩
abbrev nC_OPD_copy : ByteArray := prog_3_method_5_code
def nN_OPD_copy : MethodName := ⟨nR_OPD, "copy", "(LTagMachine$Operand;)V"⟩
abbrev nC_OPD_hear : ByteArray := prog_3_method_6_code
def nN_OPD_hear : MethodName := ⟨nR_OPD, "hear", "(II)V"⟩
abbrev nC_REC_init : ByteArray := prog_4_method_1_code
def nN_REC_init : MethodName := ⟨nR_REC, "<init>", "()V"⟩
abbrev nC_REC_knows : ByteArray := prog_4_method_2_code
def nN_REC_knows : MethodName := ⟨nR_REC, "knows", "(I)Z"⟩
abbrev nC_REC_workOut : ByteArray := prog_4_method_3_code
def nN_REC_workOut : MethodName := ⟨nR_REC, "workOut", "(III)V"⟩
abbrev nC_REC_add : ByteArray := prog_4_method_4_code
def nN_REC_add : MethodName := ⟨nR_REC, "add", "(II)V"⟩
abbrev nC_REC_compare : ByteArray := prog_4_method_5_code
def nN_REC_compare : MethodName := ⟨nR_REC, "compare", "(II)V"⟩
abbrev nC_REC_multiply : ByteArray := prog_4_method_6_code
def nN_REC_multiply : MethodName := ⟨nR_REC, "multiply", "(II)V"⟩
abbrev nC_REC_divide : ByteArray := prog_4_method_7_code
def nN_REC_divide : MethodName := ⟨nR_REC, "divide", "(II)V"⟩
abbrev nC_REC_finish : ByteArray := prog_4_method_8_code
def nN_REC_finish : MethodName := ⟨nR_REC, "finish", "(ZII)V"⟩
abbrev nC_REC_fraction : ByteArray := prog_4_method_9_code
def nN_REC_fraction : MethodName := ⟨nR_REC, "fraction", "(I)I"⟩
abbrev nC_REC_characteristic : ByteArray := prog_4_method_10_code
def nN_REC_characteristic : MethodName := ⟨nR_REC, "characteristic", "(I)I"⟩
abbrev nC_REC_greaterCharacteristic : ByteArray := prog_4_method_11_code
def nN_REC_greaterCharacteristic : MethodName := ⟨nR_REC, "greaterCharacteristic", "(II)I"⟩
abbrev nC_REC_alignedSum : ByteArray := prog_4_method_12_code
def nN_REC_alignedSum : MethodName := ⟨nR_REC, "alignedSum", "(II)I"⟩
abbrev nC_REC_aligned : ByteArray := prog_4_method_13_code
def nN_REC_aligned : MethodName := ⟨nR_REC, "aligned", "(II)I"⟩
abbrev nC_REC_normalFraction : ByteArray := prog_4_method_14_code
def nN_REC_normalFraction : MethodName := ⟨nR_REC, "normalFraction", "(I)I"⟩
abbrev nC_REC_normalCharacteristic : ByteArray := prog_4_method_15_code
def nN_REC_normalCharacteristic : MethodName := ⟨nR_REC, "normalCharacteristic", "(I)I"⟩
abbrev nC_REC_leadingZeros : ByteArray := prog_4_method_16_code
def nN_REC_leadingZeros : MethodName := ⟨nR_REC, "leadingZeros", "(II)I"⟩
abbrev nC_UNI_init : ByteArray := prog_5_method_1_code
def nN_UNI_init : MethodName := ⟨nR_UNI, "<init>", "()V"⟩
abbrev nC_UNI_isReady : ByteArray := prog_5_method_2_code
def nN_UNI_isReady : MethodName := ⟨nR_UNI, "isReady", "()Z"⟩
abbrev nC_UNI_claim : ByteArray := prog_5_method_3_code
def nN_UNI_claim : MethodName := ⟨nR_UNI, "claim", "(III)V"⟩
abbrev nC_UNI_begin : ByteArray := prog_5_method_4_code
def nN_UNI_begin : MethodName := ⟨nR_UNI, "begin", "(III)V"⟩
abbrev nC_UNI_hear : ByteArray := prog_5_method_5_code
def nN_UNI_hear : MethodName := ⟨nR_UNI, "hear", "(II)V"⟩
abbrev nC_LAW_cell : ByteArray := method_2_code
def nN_LAW_cell : MethodName := ⟨nR_LAW, "cell", "([II)I"⟩
abbrev nC_LAW_put : ByteArray := method_3_code
def nN_LAW_put : MethodName := ⟨nR_LAW, "put", "(LTagMachine;IIIII[J)I"⟩
abbrev nC_LAW_start : ByteArray := method_4_code
def nN_LAW_start : MethodName := ⟨nR_LAW, "start", "(LTagMachine;I[J)I"⟩
abbrev nC_LAW_run : ByteArray := method_5_code
def nN_LAW_run : MethodName := ⟨nR_LAW, "run", "(LTagMachine;I[J)I"⟩
abbrev nC_LAW_set : ByteArray := method_6_code
def nN_LAW_set : MethodName := ⟨nR_LAW, "set", "(LTagMachine;II[J)I"⟩
abbrev nC_LAW_store : ByteArray := method_7_code
def nN_LAW_store : MethodName := ⟨nR_LAW, "store", "(LTagMachine;II[J)I"⟩
abbrev nC_LAW_reckon : ByteArray := method_8_code
def nN_LAW_reckon : MethodName := ⟨nR_LAW, "reckon", "(LTagMachine;III[J)I"⟩
abbrev nC_LAW_exceptions : ByteArray := method_9_code
def nN_LAW_exceptions : MethodName := ⟨nR_LAW, "exceptions", "(LTagMachine;III[J)I"⟩
abbrev nC_LAW_law : ByteArray := code
def nN_LAW_law : MethodName := ⟨nR_LAW, "law", "([I)Z"⟩
end
section
-- decode rows (written by program)
theorem nD_INS_init_0 : decode nC_INS_init 0 = .ok (.aload_n 0, 1) := by decide +kernel
theorem nD_INS_init_1 : decode nC_INS_init 1 = .ok (.invokespecial 1, 3) := by decide +kernel
theorem nD_INS_init_4 : decode nC_INS_init 4 = .ok (.return_, 1) := by decide +kernel
theorem nD_INS_become_0 : decode nC_INS_become 0 = .ok (.aload_n 0, 1) := by decide +kernel
theorem nD_INS_become_1 : decode nC_INS_become 1 = .ok (.iload_n 1, 1) := by decide +kernel
theorem nD_INS_become_2 : decode nC_INS_become 2 = .ok (.putfield 7, 3) := by decide +kernel
theorem nD_INS_become_5 : decode nC_INS_become 5 = .ok (.aload_n 0, 1) := by decide +kernel
theorem nD_INS_become_6 : decode nC_INS_become 6 = .ok (.iload_n 2, 1) := by decide +kernel
theorem nD_INS_become_7 : decode nC_INS_become 7 = .ok (.putfield 13, 3) := by decide +kernel
theorem nD_INS_become_10 : decode nC_INS_become 10 = .ok (.aload_n 0, 1) := by decide +kernel
theorem nD_INS_become_11 : decode nC_INS_become 11 = .ok (.iload_n 3, 1) := by decide +kernel
theorem nD_INS_become_12 : decode nC_INS_become 12 = .ok (.putfield 16, 3) := by decide +kernel
theorem nD_INS_become_15 : decode nC_INS_become 15 = .ok (.aload_n 0, 1) := by decide +kernel
theorem nD_INS_become_16 : decode nC_INS_become 16 = .ok (.iload 4, 2) := by decide +kernel
theorem nD_INS_become_18 : decode nC_INS_become 18 = .ok (.putfield 19, 3) := by decide +kernel
theorem nD_INS_become_21 : decode nC_INS_become 21 = .ok (.aload_n 0, 1) := by decide +kernel
theorem nD_INS_become_22 : decode nC_INS_become 22 = .ok (.iload 5, 2) := by decide +kernel
theorem nD_INS_become_24 : decode nC_INS_become 24 = .ok (.putfield 22, 3) := by decide +kernel
theorem nD_INS_become_27 : decode nC_INS_become 27 = .ok (.return_, 1) := by decide +kernel
theorem nD_OPD_init_0 : decode nC_OPD_init 0 = .ok (.aload_n 0, 1) := by decide +kernel
theorem nD_OPD_init_1 : decode nC_OPD_init 1 = .ok (.invokespecial 1, 3) := by decide +kernel
theorem nD_OPD_init_4 : decode nC_OPD_init 4 = .ok (.return_, 1) := by decide +kernel
theorem nD_OPD_isAwaited_0 : decode nC_OPD_isAwaited 0 = .ok (.aload_n 0, 1) := by decide +kernel
theorem nD_OPD_isAwaited_1 : decode nC_OPD_isAwaited 1 = .ok (.getfield 7, 3) := by decide +kernel
theorem nD_OPD_isAwaited_4 : decode nC_OPD_isAwaited 4 = .ok (.ifCond .eq 7, 3) := by decide +kernel
theorem nD_OPD_isAwaited_7 : decode nC_OPD_isAwaited 7 = .ok (.iconst 1, 1) := by decide +kernel
theorem nD_OPD_isAwaited_8 : decode nC_OPD_isAwaited 8 = .ok (.goto 4, 3) := by decide +kernel
theorem nD_OPD_isAwaited_11 : decode nC_OPD_isAwaited 11 = .ok (.iconst 0, 1) := by decide +kernel
theorem nD_OPD_isAwaited_12 : decode nC_OPD_isAwaited 12 = .ok (.ireturn, 1) := by decide +kernel
theorem nD_OPD_haveValue_0 : decode nC_OPD_haveValue 0 = .ok (.aload_n 0, 1) := by decide +kernel
theorem nD_OPD_haveValue_1 : decode nC_OPD_haveValue 1 = .ok (.iload_n 1, 1) := by decide +kernel
theorem nD_OPD_haveValue_2 : decode nC_OPD_haveValue 2 = .ok (.putfield 13, 3) := by decide +kernel
theorem nD_OPD_haveValue_5 : decode nC_OPD_haveValue 5 = .ok (.aload_n 0, 1) := by decide +kernel
theorem nD_OPD_haveValue_6 : decode nC_OPD_haveValue 6 = .ok (.iconst 0, 1) := by decide +kernel
theorem nD_OPD_haveValue_7 : decode nC_OPD_haveValue 7 = .ok (.putfield 7, 3) := by decide +kernel
theorem nD_OPD_haveValue_10 : decode nC_OPD_haveValue 10 = .ok (.return_, 1) := by decide +kernel
theorem nD_OPD_waitFor_0 : decode nC_OPD_waitFor 0 = .ok (.aload_n 0, 1) := by decide +kernel
theorem nD_OPD_waitFor_1 : decode nC_OPD_waitFor 1 = .ok (.iload_n 1, 1) := by decide +kernel
theorem nD_OPD_waitFor_2 : decode nC_OPD_waitFor 2 = .ok (.putfield 7, 3) := by decide +kernel
theorem nD_OPD_waitFor_5 : decode nC_OPD_waitFor 5 = .ok (.return_, 1) := by decide +kernel
theorem nD_OPD_copy_0 : decode nC_OPD_copy 0 = .ok (.aload_n 1, 1) := by decide +kernel
theorem nD_OPD_copy_1 : decode nC_OPD_copy 1 = .ok (.invokevirtual 16, 3) := by decide +kernel
theorem nD_OPD_copy_4 : decode nC_OPD_copy 4 = .ok (.ifCond .eq 14, 3) := by decide +kernel
theorem nD_OPD_copy_7 : decode nC_OPD_copy 7 = .ok (.aload_n 0, 1) := by decide +kernel
theorem nD_OPD_copy_8 : decode nC_OPD_copy 8 = .ok (.aload_n 1, 1) := by decide +kernel
theorem nD_OPD_copy_9 : decode nC_OPD_copy 9 = .ok (.getfield 7, 3) := by decide +kernel
theorem nD_OPD_copy_12 : decode nC_OPD_copy 12 = .ok (.invokevirtual 20, 3) := by decide +kernel
theorem nD_OPD_copy_15 : decode nC_OPD_copy 15 = .ok (.goto 11, 3) := by decide +kernel
theorem nD_OPD_copy_18 : decode nC_OPD_copy 18 = .ok (.aload_n 0, 1) := by decide +kernel
theorem nD_OPD_copy_19 : decode nC_OPD_copy 19 = .ok (.aload_n 1, 1) := by decide +kernel
theorem nD_OPD_copy_20 : decode nC_OPD_copy 20 = .ok (.getfield 13, 3) := by decide +kernel
theorem nD_OPD_copy_23 : decode nC_OPD_copy 23 = .ok (.invokevirtual 24, 3) := by decide +kernel
theorem nD_OPD_copy_26 : decode nC_OPD_copy 26 = .ok (.return_, 1) := by decide +kernel
theorem nD_OPD_hear_0 : decode nC_OPD_hear 0 = .ok (.aload_n 0, 1) := by decide +kernel
theorem nD_OPD_hear_1 : decode nC_OPD_hear 1 = .ok (.getfield 7, 3) := by decide +kernel
theorem nD_OPD_hear_4 : decode nC_OPD_hear 4 = .ok (.iload_n 1, 1) := by decide +kernel
theorem nD_OPD_hear_5 : decode nC_OPD_hear 5 = .ok (.if_icmp .ne 8, 3) := by decide +kernel
theorem nD_OPD_hear_8 : decode nC_OPD_hear 8 = .ok (.aload_n 0, 1) := by decide +kernel
theorem nD_OPD_hear_9 : decode nC_OPD_hear 9 = .ok (.iload_n 2, 1) := by decide +kernel
theorem nD_OPD_hear_10 : decode nC_OPD_hear 10 = .ok (.invokevirtual 24, 3) := by decide +kernel
theorem nD_OPD_hear_13 : decode nC_OPD_hear 13 = .ok (.return_, 1) := by decide +kernel
theorem nD_REC_init_0 : decode nC_REC_init 0 = .ok (.aload_n 0, 1) := by decide +kernel
theorem nD_REC_init_1 : decode nC_REC_init 1 = .ok (.invokespecial 1, 3) := by decide +kernel
theorem nD_REC_init_4 : decode nC_REC_init 4 = .ok (.return_, 1) := by decide +kernel
theorem nD_REC_knows_0 : decode nC_REC_knows 0 = .ok (.iload_n 0, 1) := by decide +kernel
theorem nD_REC_knows_1 : decode nC_REC_knows 1 = .ok (.ifCond .lt 12, 3) := by decide +kernel
theorem nD_REC_knows_4 : decode nC_REC_knows 4 = .ok (.iload_n 0, 1) := by decide +kernel
theorem nD_REC_knows_5 : decode nC_REC_knows 5 = .ok (.iconst 4, 1) := by decide +kernel
theorem nD_REC_knows_6 : decode nC_REC_knows 6 = .ok (.if_icmp .gt 7, 3) := by decide +kernel
theorem nD_REC_knows_9 : decode nC_REC_knows 9 = .ok (.iconst 1, 1) := by decide +kernel
theorem nD_REC_knows_10 : decode nC_REC_knows 10 = .ok (.goto 4, 3) := by decide +kernel
theorem nD_REC_knows_13 : decode nC_REC_knows 13 = .ok (.iconst 0, 1) := by decide +kernel
theorem nD_REC_knows_14 : decode nC_REC_knows 14 = .ok (.ireturn, 1) := by decide +kernel
theorem nD_REC_workOut_0 : decode nC_REC_workOut 0 = .ok (.aload_n 0, 1) := by decide +kernel
theorem nD_REC_workOut_1 : decode nC_REC_workOut 1 = .ok (.iconst 0, 1) := by decide +kernel
theorem nD_REC_workOut_2 : decode nC_REC_workOut 2 = .ok (.putfield 9, 3) := by decide +kernel
theorem nD_REC_workOut_5 : decode nC_REC_workOut 5 = .ok (.iload_n 1, 1) := by decide +kernel
theorem nD_REC_workOut_6 : decode nC_REC_workOut 6 = .ok (.tableswitch 69 0 3 #[30, 39, 51, 60], 30) := by decide +kernel
theorem nD_REC_workOut_36 : decode nC_REC_workOut 36 = .ok (.aload_n 0, 1) := by decide +kernel
theorem nD_REC_workOut_37 : decode nC_REC_workOut 37 = .ok (.iload_n 2, 1) := by decide +kernel
theorem nD_REC_workOut_38 : decode nC_REC_workOut 38 = .ok (.iload_n 3, 1) := by decide +kernel
theorem nD_REC_workOut_39 : decode nC_REC_workOut 39 = .ok (.invokevirtual 13, 3) := by decide +kernel
theorem nD_REC_workOut_42 : decode nC_REC_workOut 42 = .ok (.goto 39, 3) := by decide +kernel
theorem nD_REC_workOut_45 : decode nC_REC_workOut 45 = .ok (.aload_n 0, 1) := by decide +kernel
theorem nD_REC_workOut_46 : decode nC_REC_workOut 46 = .ok (.iload_n 2, 1) := by decide +kernel
theorem nD_REC_workOut_47 : decode nC_REC_workOut 47 = .ok (.iload_n 3, 1) := by decide +kernel
theorem nD_REC_workOut_48 : decode nC_REC_workOut 48 = .ok (.ldc 17, 2) := by decide +kernel
theorem nD_REC_workOut_50 : decode nC_REC_workOut 50 = .ok (.ixor, 1) := by decide +kernel
theorem nD_REC_workOut_51 : decode nC_REC_workOut 51 = .ok (.invokevirtual 13, 3) := by decide +kernel
theorem nD_REC_workOut_54 : decode nC_REC_workOut 54 = .ok (.goto 27, 3) := by decide +kernel
theorem nD_REC_workOut_57 : decode nC_REC_workOut 57 = .ok (.aload_n 0, 1) := by decide +kernel
theorem nD_REC_workOut_58 : decode nC_REC_workOut 58 = .ok (.iload_n 2, 1) := by decide +kernel
theorem nD_REC_workOut_59 : decode nC_REC_workOut 59 = .ok (.iload_n 3, 1) := by decide +kernel
theorem nD_REC_workOut_60 : decode nC_REC_workOut 60 = .ok (.invokevirtual 18, 3) := by decide +kernel
theorem nD_REC_workOut_63 : decode nC_REC_workOut 63 = .ok (.goto 18, 3) := by decide +kernel
theorem nD_REC_workOut_66 : decode nC_REC_workOut 66 = .ok (.aload_n 0, 1) := by decide +kernel
theorem nD_REC_workOut_67 : decode nC_REC_workOut 67 = .ok (.iload_n 2, 1) := by decide +kernel
theorem nD_REC_workOut_68 : decode nC_REC_workOut 68 = .ok (.iload_n 3, 1) := by decide +kernel
theorem nD_REC_workOut_69 : decode nC_REC_workOut 69 = .ok (.invokevirtual 21, 3) := by decide +kernel
theorem nD_REC_workOut_72 : decode nC_REC_workOut 72 = .ok (.goto 9, 3) := by decide +kernel
theorem nD_REC_workOut_75 : decode nC_REC_workOut 75 = .ok (.aload_n 0, 1) := by decide +kernel
theorem nD_REC_workOut_76 : decode nC_REC_workOut 76 = .ok (.iload_n 2, 1) := by decide +kernel
theorem nD_REC_workOut_77 : decode nC_REC_workOut 77 = .ok (.iload_n 3, 1) := by decide +kernel
theorem nD_REC_workOut_78 : decode nC_REC_workOut 78 = .ok (.invokevirtual 24, 3) := by decide +kernel
theorem nD_REC_workOut_81 : decode nC_REC_workOut 81 = .ok (.return_, 1) := by decide +kernel
theorem nD_REC_add_0 : decode nC_REC_add 0 = .ok (.iload_n 1, 1) := by decide +kernel
theorem nD_REC_add_1 : decode nC_REC_add 1 = .ok (.iload_n 2, 1) := by decide +kernel
theorem nD_REC_add_2 : decode nC_REC_add 2 = .ok (.invokestatic 27, 3) := by decide +kernel
theorem nD_REC_add_5 : decode nC_REC_add 5 = .ok (.istore_n 3, 1) := by decide +kernel
theorem nD_REC_add_6 : decode nC_REC_add 6 = .ok (.iload_n 3, 1) := by decide +kernel
theorem nD_REC_add_7 : decode nC_REC_add 7 = .ok (.ifCond .ge 8, 3) := by decide +kernel
theorem nD_REC_add_10 : decode nC_REC_add 10 = .ok (.iload_n 3, 1) := by decide +kernel
theorem nD_REC_add_11 : decode nC_REC_add 11 = .ok (.ineg, 1) := by decide +kernel
theorem nD_REC_add_12 : decode nC_REC_add 12 = .ok (.goto 4, 3) := by decide +kernel
theorem nD_REC_add_15 : decode nC_REC_add 15 = .ok (.iload_n 3, 1) := by decide +kernel
theorem nD_REC_add_16 : decode nC_REC_add 16 = .ok (.istore 4, 2) := by decide +kernel
theorem nD_REC_add_18 : decode nC_REC_add 18 = .ok (.iload_n 1, 1) := by decide +kernel
theorem nD_REC_add_19 : decode nC_REC_add 19 = .ok (.iload_n 2, 1) := by decide +kernel
theorem nD_REC_add_20 : decode nC_REC_add 20 = .ok (.invokestatic 31, 3) := by decide +kernel
theorem nD_REC_add_23 : decode nC_REC_add 23 = .ok (.istore 5, 2) := by decide +kernel
theorem nD_REC_add_25 : decode nC_REC_add 25 = .ok (.iload 4, 2) := by decide +kernel
theorem nD_REC_add_27 : decode nC_REC_add 27 = .ok (.ldc 34, 2) := by decide +kernel
theorem nD_REC_add_29 : decode nC_REC_add 29 = .ok (.if_icmp .lt 12, 3) := by decide +kernel
theorem nD_REC_add_32 : decode nC_REC_add 32 = .ok (.iload 4, 2) := by decide +kernel
theorem nD_REC_add_34 : decode nC_REC_add 34 = .ok (.iconst 4, 1) := by decide +kernel
theorem nD_REC_add_35 : decode nC_REC_add 35 = .ok (.ishr, 1) := by decide +kernel
theorem nD_REC_add_36 : decode nC_REC_add 36 = .ok (.istore 4, 2) := by decide +kernel
theorem nD_REC_add_38 : decode nC_REC_add 38 = .ok (.iinc 5 1, 3) := by decide +kernel
theorem nD_REC_add_41 : decode nC_REC_add 41 = .ok (.aload_n 0, 1) := by decide +kernel
theorem nD_REC_add_42 : decode nC_REC_add 42 = .ok (.iload_n 3, 1) := by decide +kernel
theorem nD_REC_add_43 : decode nC_REC_add 43 = .ok (.ifCond .ge 7, 3) := by decide +kernel
theorem nD_REC_add_46 : decode nC_REC_add 46 = .ok (.iconst 1, 1) := by decide +kernel
theorem nD_REC_add_47 : decode nC_REC_add 47 = .ok (.goto 4, 3) := by decide +kernel
theorem nD_REC_add_50 : decode nC_REC_add 50 = .ok (.iconst 0, 1) := by decide +kernel
theorem nD_REC_add_51 : decode nC_REC_add 51 = .ok (.iload 5, 2) := by decide +kernel
theorem nD_REC_add_53 : decode nC_REC_add 53 = .ok (.iload 4, 2) := by decide +kernel
theorem nD_REC_add_55 : decode nC_REC_add 55 = .ok (.invokevirtual 35, 3) := by decide +kernel
theorem nD_REC_add_58 : decode nC_REC_add 58 = .ok (.return_, 1) := by decide +kernel
theorem nD_REC_compare_0 : decode nC_REC_compare 0 = .ok (.iload_n 1, 1) := by decide +kernel
theorem nD_REC_compare_1 : decode nC_REC_compare 1 = .ok (.iload_n 2, 1) := by decide +kernel
theorem nD_REC_compare_2 : decode nC_REC_compare 2 = .ok (.ldc 17, 2) := by decide +kernel
theorem nD_REC_compare_4 : decode nC_REC_compare 4 = .ok (.ixor, 1) := by decide +kernel
theorem nD_REC_compare_5 : decode nC_REC_compare 5 = .ok (.invokestatic 27, 3) := by decide +kernel
theorem nD_REC_compare_8 : decode nC_REC_compare 8 = .ok (.istore_n 3, 1) := by decide +kernel
theorem nD_REC_compare_9 : decode nC_REC_compare 9 = .ok (.iload_n 3, 1) := by decide +kernel
theorem nD_REC_compare_10 : decode nC_REC_compare 10 = .ok (.ifCond .ne 11, 3) := by decide +kernel
theorem nD_REC_compare_13 : decode nC_REC_compare 13 = .ok (.aload_n 0, 1) := by decide +kernel
theorem nD_REC_compare_14 : decode nC_REC_compare 14 = .ok (.iconst 0, 1) := by decide +kernel
theorem nD_REC_compare_15 : decode nC_REC_compare 15 = .ok (.putfield 39, 3) := by decide +kernel
theorem nD_REC_compare_18 : decode nC_REC_compare 18 = .ok (.goto 16, 3) := by decide +kernel
theorem nD_REC_compare_21 : decode nC_REC_compare 21 = .ok (.aload_n 0, 1) := by decide +kernel
theorem nD_REC_compare_22 : decode nC_REC_compare 22 = .ok (.iload_n 3, 1) := by decide +kernel
theorem nD_REC_compare_23 : decode nC_REC_compare 23 = .ok (.ifCond .ge 7, 3) := by decide +kernel
theorem nD_REC_compare_26 : decode nC_REC_compare 26 = .ok (.iconst 1, 1) := by decide +kernel
theorem nD_REC_compare_27 : decode nC_REC_compare 27 = .ok (.goto 4, 3) := by decide +kernel
theorem nD_REC_compare_30 : decode nC_REC_compare 30 = .ok (.iconst 2, 1) := by decide +kernel
theorem nD_REC_compare_31 : decode nC_REC_compare 31 = .ok (.putfield 39, 3) := by decide +kernel
theorem nD_REC_compare_34 : decode nC_REC_compare 34 = .ok (.return_, 1) := by decide +kernel
theorem nD_REC_multiply_0 : decode nC_REC_multiply 0 = .ok (.iload_n 1, 1) := by decide +kernel
theorem nD_REC_multiply_1 : decode nC_REC_multiply 1 = .ok (.invokestatic 42, 3) := by decide +kernel
theorem nD_REC_multiply_4 : decode nC_REC_multiply 4 = .ok (.ifCond .eq 10, 3) := by decide +kernel
theorem nD_REC_multiply_7 : decode nC_REC_multiply 7 = .ok (.iload_n 2, 1) := by decide +kernel
theorem nD_REC_multiply_8 : decode nC_REC_multiply 8 = .ok (.invokestatic 42, 3) := by decide +kernel
theorem nD_REC_multiply_11 : decode nC_REC_multiply 11 = .ok (.ifCond .ne 9, 3) := by decide +kernel
theorem nD_REC_multiply_14 : decode nC_REC_multiply 14 = .ok (.aload_n 0, 1) := by decide +kernel
theorem nD_REC_multiply_15 : decode nC_REC_multiply 15 = .ok (.iconst 0, 1) := by decide +kernel
theorem nD_REC_multiply_16 : decode nC_REC_multiply 16 = .ok (.putfield 39, 3) := by decide +kernel
theorem nD_REC_multiply_19 : decode nC_REC_multiply 19 = .ok (.return_, 1) := by decide +kernel
theorem nD_REC_multiply_20 : decode nC_REC_multiply 20 = .ok (.iload_n 1, 1) := by decide +kernel
theorem nD_REC_multiply_21 : decode nC_REC_multiply 21 = .ok (.invokestatic 46, 3) := by decide +kernel
theorem nD_REC_multiply_24 : decode nC_REC_multiply 24 = .ok (.i2l, 1) := by decide +kernel
theorem nD_REC_multiply_25 : decode nC_REC_multiply 25 = .ok (.iload_n 2, 1) := by decide +kernel
theorem nD_REC_multiply_26 : decode nC_REC_multiply 26 = .ok (.invokestatic 46, 3) := by decide +kernel
theorem nD_REC_multiply_29 : decode nC_REC_multiply 29 = .ok (.i2l, 1) := by decide +kernel
theorem nD_REC_multiply_30 : decode nC_REC_multiply 30 = .ok (.lmul, 1) := by decide +kernel
theorem nD_REC_multiply_31 : decode nC_REC_multiply 31 = .ok (.bipush 20, 2) := by decide +kernel
theorem nD_REC_multiply_33 : decode nC_REC_multiply 33 = .ok (.lshr, 1) := by decide +kernel
theorem nD_REC_multiply_34 : decode nC_REC_multiply 34 = .ok (.lstore_n 3, 1) := by decide +kernel
theorem nD_REC_multiply_35 : decode nC_REC_multiply 35 = .ok (.aload_n 0, 1) := by decide +kernel
theorem nD_REC_multiply_36 : decode nC_REC_multiply 36 = .ok (.iload_n 1, 1) := by decide +kernel
theorem nD_REC_multiply_37 : decode nC_REC_multiply 37 = .ok (.iload_n 2, 1) := by decide +kernel
theorem nD_REC_multiply_38 : decode nC_REC_multiply 38 = .ok (.ixor, 1) := by decide +kernel
theorem nD_REC_multiply_39 : decode nC_REC_multiply 39 = .ok (.ifCond .ge 7, 3) := by decide +kernel
theorem nD_REC_multiply_42 : decode nC_REC_multiply 42 = .ok (.iconst 1, 1) := by decide +kernel
theorem nD_REC_multiply_43 : decode nC_REC_multiply 43 = .ok (.goto 4, 3) := by decide +kernel
theorem nD_REC_multiply_46 : decode nC_REC_multiply 46 = .ok (.iconst 0, 1) := by decide +kernel
theorem nD_REC_multiply_47 : decode nC_REC_multiply 47 = .ok (.iload_n 1, 1) := by decide +kernel
theorem nD_REC_multiply_48 : decode nC_REC_multiply 48 = .ok (.invokestatic 49, 3) := by decide +kernel
theorem nD_REC_multiply_51 : decode nC_REC_multiply 51 = .ok (.iload_n 2, 1) := by decide +kernel
theorem nD_REC_multiply_52 : decode nC_REC_multiply 52 = .ok (.invokestatic 49, 3) := by decide +kernel
theorem nD_REC_multiply_55 : decode nC_REC_multiply 55 = .ok (.iadd, 1) := by decide +kernel
theorem nD_REC_multiply_56 : decode nC_REC_multiply 56 = .ok (.bipush 64, 2) := by decide +kernel
theorem nD_REC_multiply_58 : decode nC_REC_multiply 58 = .ok (.isub, 1) := by decide +kernel
theorem nD_REC_multiply_59 : decode nC_REC_multiply 59 = .ok (.lload_n 3, 1) := by decide +kernel
theorem nD_REC_multiply_60 : decode nC_REC_multiply 60 = .ok (.l2i, 1) := by decide +kernel
theorem nD_REC_multiply_61 : decode nC_REC_multiply 61 = .ok (.invokevirtual 35, 3) := by decide +kernel
theorem nD_REC_multiply_64 : decode nC_REC_multiply 64 = .ok (.return_, 1) := by decide +kernel
theorem nD_REC_divide_0 : decode nC_REC_divide 0 = .ok (.iload_n 2, 1) := by decide +kernel
theorem nD_REC_divide_1 : decode nC_REC_divide 1 = .ok (.invokestatic 46, 3) := by decide +kernel
theorem nD_REC_divide_4 : decode nC_REC_divide 4 = .ok (.istore_n 3, 1) := by decide +kernel
theorem nD_REC_divide_5 : decode nC_REC_divide 5 = .ok (.iload_n 3, 1) := by decide +kernel
theorem nD_REC_divide_6 : decode nC_REC_divide 6 = .ok (.ifCond .ne 14, 3) := by decide +kernel
theorem nD_REC_divide_9 : decode nC_REC_divide 9 = .ok (.aload_n 0, 1) := by decide +kernel
theorem nD_REC_divide_10 : decode nC_REC_divide 10 = .ok (.iconst 4, 1) := by decide +kernel
theorem nD_REC_divide_11 : decode nC_REC_divide 11 = .ok (.putfield 9, 3) := by decide +kernel
theorem nD_REC_divide_14 : decode nC_REC_divide 14 = .ok (.aload_n 0, 1) := by decide +kernel
theorem nD_REC_divide_15 : decode nC_REC_divide 15 = .ok (.iload_n 1, 1) := by decide +kernel
theorem nD_REC_divide_16 : decode nC_REC_divide 16 = .ok (.putfield 39, 3) := by decide +kernel
theorem nD_REC_divide_19 : decode nC_REC_divide 19 = .ok (.return_, 1) := by decide +kernel
theorem nD_REC_divide_20 : decode nC_REC_divide 20 = .ok (.iload_n 1, 1) := by decide +kernel
theorem nD_REC_divide_21 : decode nC_REC_divide 21 = .ok (.invokestatic 46, 3) := by decide +kernel
theorem nD_REC_divide_24 : decode nC_REC_divide 24 = .ok (.i2l, 1) := by decide +kernel
theorem nD_REC_divide_25 : decode nC_REC_divide 25 = .ok (.bipush 24, 2) := by decide +kernel
theorem nD_REC_divide_27 : decode nC_REC_divide 27 = .ok (.lshl, 1) := by decide +kernel
theorem nD_REC_divide_28 : decode nC_REC_divide 28 = .ok (.iload_n 3, 1) := by decide +kernel
theorem nD_REC_divide_29 : decode nC_REC_divide 29 = .ok (.i2l, 1) := by decide +kernel
theorem nD_REC_divide_30 : decode nC_REC_divide 30 = .ok (.ldiv, 1) := by decide +kernel
theorem nD_REC_divide_31 : decode nC_REC_divide 31 = .ok (.lstore 4, 2) := by decide +kernel
theorem nD_REC_divide_33 : decode nC_REC_divide 33 = .ok (.aload_n 0, 1) := by decide +kernel
theorem nD_REC_divide_34 : decode nC_REC_divide 34 = .ok (.iload_n 1, 1) := by decide +kernel
theorem nD_REC_divide_35 : decode nC_REC_divide 35 = .ok (.iload_n 2, 1) := by decide +kernel
theorem nD_REC_divide_36 : decode nC_REC_divide 36 = .ok (.ixor, 1) := by decide +kernel
theorem nD_REC_divide_37 : decode nC_REC_divide 37 = .ok (.ifCond .ge 7, 3) := by decide +kernel
theorem nD_REC_divide_40 : decode nC_REC_divide 40 = .ok (.iconst 1, 1) := by decide +kernel
theorem nD_REC_divide_41 : decode nC_REC_divide 41 = .ok (.goto 4, 3) := by decide +kernel
theorem nD_REC_divide_44 : decode nC_REC_divide 44 = .ok (.iconst 0, 1) := by decide +kernel
theorem nD_REC_divide_45 : decode nC_REC_divide 45 = .ok (.iload_n 1, 1) := by decide +kernel
theorem nD_REC_divide_46 : decode nC_REC_divide 46 = .ok (.invokestatic 49, 3) := by decide +kernel
theorem nD_REC_divide_49 : decode nC_REC_divide 49 = .ok (.iload_n 2, 1) := by decide +kernel
theorem nD_REC_divide_50 : decode nC_REC_divide 50 = .ok (.invokestatic 49, 3) := by decide +kernel
theorem nD_REC_divide_53 : decode nC_REC_divide 53 = .ok (.isub, 1) := by decide +kernel
theorem nD_REC_divide_54 : decode nC_REC_divide 54 = .ok (.bipush 65, 2) := by decide +kernel
theorem nD_REC_divide_56 : decode nC_REC_divide 56 = .ok (.iadd, 1) := by decide +kernel
theorem nD_REC_divide_57 : decode nC_REC_divide 57 = .ok (.lload 4, 2) := by decide +kernel
theorem nD_REC_divide_59 : decode nC_REC_divide 59 = .ok (.l2i, 1) := by decide +kernel
theorem nD_REC_divide_60 : decode nC_REC_divide 60 = .ok (.invokevirtual 35, 3) := by decide +kernel
theorem nD_REC_divide_63 : decode nC_REC_divide 63 = .ok (.return_, 1) := by decide +kernel
theorem nD_REC_finish_0 : decode nC_REC_finish 0 = .ok (.aload_n 0, 1) := by decide +kernel
theorem nD_REC_finish_1 : decode nC_REC_finish 1 = .ok (.iconst 0, 1) := by decide +kernel
theorem nD_REC_finish_2 : decode nC_REC_finish 2 = .ok (.putfield 39, 3) := by decide +kernel
theorem nD_REC_finish_5 : decode nC_REC_finish 5 = .ok (.iload_n 3, 1) := by decide +kernel
theorem nD_REC_finish_6 : decode nC_REC_finish 6 = .ok (.ifCond .ne 4, 3) := by decide +kernel
theorem nD_REC_finish_9 : decode nC_REC_finish 9 = .ok (.return_, 1) := by decide +kernel
theorem nD_REC_finish_10 : decode nC_REC_finish 10 = .ok (.iload_n 3, 1) := by decide +kernel
theorem nD_REC_finish_11 : decode nC_REC_finish 11 = .ok (.bipush 7, 2) := by decide +kernel
theorem nD_REC_finish_13 : decode nC_REC_finish 13 = .ok (.invokestatic 52, 3) := by decide +kernel
theorem nD_REC_finish_16 : decode nC_REC_finish 16 = .ok (.istore 4, 2) := by decide +kernel
theorem nD_REC_finish_18 : decode nC_REC_finish 18 = .ok (.iload_n 3, 1) := by decide +kernel
theorem nD_REC_finish_19 : decode nC_REC_finish 19 = .ok (.iconst 4, 1) := by decide +kernel
theorem nD_REC_finish_20 : decode nC_REC_finish 20 = .ok (.iload 4, 2) := by decide +kernel
theorem nD_REC_finish_22 : decode nC_REC_finish 22 = .ok (.imul, 1) := by decide +kernel
theorem nD_REC_finish_23 : decode nC_REC_finish 23 = .ok (.ishl, 1) := by decide +kernel
theorem nD_REC_finish_24 : decode nC_REC_finish 24 = .ok (.iconst 4, 1) := by decide +kernel
theorem nD_REC_finish_25 : decode nC_REC_finish 25 = .ok (.ishr, 1) := by decide +kernel
theorem nD_REC_finish_26 : decode nC_REC_finish 26 = .ok (.istore 5, 2) := by decide +kernel
theorem nD_REC_finish_28 : decode nC_REC_finish 28 = .ok (.iload_n 2, 1) := by decide +kernel
theorem nD_REC_finish_29 : decode nC_REC_finish 29 = .ok (.iload 4, 2) := by decide +kernel
theorem nD_REC_finish_31 : decode nC_REC_finish 31 = .ok (.isub, 1) := by decide +kernel
theorem nD_REC_finish_32 : decode nC_REC_finish 32 = .ok (.istore 6, 2) := by decide +kernel
theorem nD_REC_finish_34 : decode nC_REC_finish 34 = .ok (.iload 6, 2) := by decide +kernel
theorem nD_REC_finish_36 : decode nC_REC_finish 36 = .ok (.ifCond .ge 9, 3) := by decide +kernel
theorem nD_REC_finish_39 : decode nC_REC_finish 39 = .ok (.aload_n 0, 1) := by decide +kernel
theorem nD_REC_finish_40 : decode nC_REC_finish 40 = .ok (.iconst 2, 1) := by decide +kernel
theorem nD_REC_finish_41 : decode nC_REC_finish 41 = .ok (.putfield 9, 3) := by decide +kernel
theorem nD_REC_finish_44 : decode nC_REC_finish 44 = .ok (.return_, 1) := by decide +kernel
theorem nD_REC_finish_45 : decode nC_REC_finish 45 = .ok (.iload 6, 2) := by decide +kernel
theorem nD_REC_finish_47 : decode nC_REC_finish 47 = .ok (.bipush 127, 2) := by decide +kernel
theorem nD_REC_finish_49 : decode nC_REC_finish 49 = .ok (.if_icmp .le 11, 3) := by decide +kernel
theorem nD_REC_finish_52 : decode nC_REC_finish 52 = .ok (.aload_n 0, 1) := by decide +kernel
theorem nD_REC_finish_53 : decode nC_REC_finish 53 = .ok (.iconst 1, 1) := by decide +kernel
theorem nD_REC_finish_54 : decode nC_REC_finish 54 = .ok (.putfield 9, 3) := by decide +kernel
theorem nD_REC_finish_57 : decode nC_REC_finish 57 = .ok (.iinc 6 (-128), 3) := by decide +kernel
theorem nD_REC_finish_60 : decode nC_REC_finish 60 = .ok (.aload_n 0, 1) := by decide +kernel
theorem nD_REC_finish_61 : decode nC_REC_finish 61 = .ok (.iload_n 1, 1) := by decide +kernel
theorem nD_REC_finish_62 : decode nC_REC_finish 62 = .ok (.ifCond .eq 8, 3) := by decide +kernel
theorem nD_REC_finish_65 : decode nC_REC_finish 65 = .ok (.ldc 17, 2) := by decide +kernel
theorem nD_REC_finish_67 : decode nC_REC_finish 67 = .ok (.goto 4, 3) := by decide +kernel
theorem nD_REC_finish_70 : decode nC_REC_finish 70 = .ok (.iconst 0, 1) := by decide +kernel
theorem nD_REC_finish_71 : decode nC_REC_finish 71 = .ok (.iload 6, 2) := by decide +kernel
theorem nD_REC_finish_73 : decode nC_REC_finish 73 = .ok (.bipush 24, 2) := by decide +kernel
theorem nD_REC_finish_75 : decode nC_REC_finish 75 = .ok (.ishl, 1) := by decide +kernel
theorem nD_REC_finish_76 : decode nC_REC_finish 76 = .ok (.ior, 1) := by decide +kernel
theorem nD_REC_finish_77 : decode nC_REC_finish 77 = .ok (.iload 5, 2) := by decide +kernel
theorem nD_REC_finish_79 : decode nC_REC_finish 79 = .ok (.ior, 1) := by decide +kernel
theorem nD_REC_finish_80 : decode nC_REC_finish 80 = .ok (.putfield 39, 3) := by decide +kernel
theorem nD_REC_finish_83 : decode nC_REC_finish 83 = .ok (.return_, 1) := by decide +kernel
theorem nD_REC_fraction_0 : decode nC_REC_fraction 0 = .ok (.iload_n 0, 1) := by decide +kernel
theorem nD_REC_fraction_1 : decode nC_REC_fraction 1 = .ok (.ldc 55, 2) := by decide +kernel
theorem nD_REC_fraction_3 : decode nC_REC_fraction 3 = .ok (.iand, 1) := by decide +kernel
theorem nD_REC_fraction_4 : decode nC_REC_fraction 4 = .ok (.ireturn, 1) := by decide +kernel
theorem nD_REC_characteristic_0 : decode nC_REC_characteristic 0 = .ok (.iload_n 0, 1) := by decide +kernel
theorem nD_REC_characteristic_1 : decode nC_REC_characteristic 1 = .ok (.bipush 24, 2) := by decide +kernel
theorem nD_REC_characteristic_3 : decode nC_REC_characteristic 3 = .ok (.ishr, 1) := by decide +kernel
theorem nD_REC_characteristic_4 : decode nC_REC_characteristic 4 = .ok (.bipush 127, 2) := by decide +kernel
theorem nD_REC_characteristic_6 : decode nC_REC_characteristic 6 = .ok (.iand, 1) := by decide +kernel
theorem nD_REC_characteristic_7 : decode nC_REC_characteristic 7 = .ok (.ireturn, 1) := by decide +kernel
theorem nD_REC_greaterCharacteristic_0 : decode nC_REC_greaterCharacteristic 0 = .ok (.iload_n 0, 1) := by decide +kernel
theorem nD_REC_greaterCharacteristic_1 : decode nC_REC_greaterCharacteristic 1 = .ok (.invokestatic 56, 3) := by decide +kernel
theorem nD_REC_greaterCharacteristic_4 : decode nC_REC_greaterCharacteristic 4 = .ok (.iload_n 1, 1) := by decide +kernel
theorem nD_REC_greaterCharacteristic_5 : decode nC_REC_greaterCharacteristic 5 = .ok (.invokestatic 56, 3) := by decide +kernel
theorem nD_REC_greaterCharacteristic_8 : decode nC_REC_greaterCharacteristic 8 = .ok (.invokestatic 59, 3) := by decide +kernel
theorem nD_REC_greaterCharacteristic_11 : decode nC_REC_greaterCharacteristic 11 = .ok (.ireturn, 1) := by decide +kernel
theorem nD_REC_alignedSum_0 : decode nC_REC_alignedSum 0 = .ok (.iload_n 0, 1) := by decide +kernel
theorem nD_REC_alignedSum_1 : decode nC_REC_alignedSum 1 = .ok (.invokestatic 56, 3) := by decide +kernel
theorem nD_REC_alignedSum_4 : decode nC_REC_alignedSum 4 = .ok (.iload_n 1, 1) := by decide +kernel
theorem nD_REC_alignedSum_5 : decode nC_REC_alignedSum 5 = .ok (.invokestatic 56, 3) := by decide +kernel
theorem nD_REC_alignedSum_8 : decode nC_REC_alignedSum 8 = .ok (.isub, 1) := by decide +kernel
theorem nD_REC_alignedSum_9 : decode nC_REC_alignedSum 9 = .ok (.istore_n 2, 1) := by decide +kernel
theorem nD_REC_alignedSum_10 : decode nC_REC_alignedSum 10 = .ok (.iload_n 0, 1) := by decide +kernel
theorem nD_REC_alignedSum_11 : decode nC_REC_alignedSum 11 = .ok (.iload_n 2, 1) := by decide +kernel
theorem nD_REC_alignedSum_12 : decode nC_REC_alignedSum 12 = .ok (.ineg, 1) := by decide +kernel
theorem nD_REC_alignedSum_13 : decode nC_REC_alignedSum 13 = .ok (.invokestatic 64, 3) := by decide +kernel
theorem nD_REC_alignedSum_16 : decode nC_REC_alignedSum 16 = .ok (.iload_n 1, 1) := by decide +kernel
theorem nD_REC_alignedSum_17 : decode nC_REC_alignedSum 17 = .ok (.iload_n 2, 1) := by decide +kernel
theorem nD_REC_alignedSum_18 : decode nC_REC_alignedSum 18 = .ok (.invokestatic 64, 3) := by decide +kernel
theorem nD_REC_alignedSum_21 : decode nC_REC_alignedSum 21 = .ok (.iadd, 1) := by decide +kernel
theorem nD_REC_alignedSum_22 : decode nC_REC_alignedSum 22 = .ok (.ireturn, 1) := by decide +kernel
theorem nD_REC_aligned_0 : decode nC_REC_aligned 0 = .ok (.iconst 0, 1) := by decide +kernel
theorem nD_REC_aligned_1 : decode nC_REC_aligned 1 = .ok (.bipush 7, 2) := by decide +kernel
theorem nD_REC_aligned_3 : decode nC_REC_aligned 3 = .ok (.iload_n 1, 1) := by decide +kernel
theorem nD_REC_aligned_4 : decode nC_REC_aligned 4 = .ok (.invokestatic 67, 3) := by decide +kernel
theorem nD_REC_aligned_7 : decode nC_REC_aligned 7 = .ok (.invokestatic 59, 3) := by decide +kernel
theorem nD_REC_aligned_10 : decode nC_REC_aligned 10 = .ok (.istore_n 2, 1) := by decide +kernel
theorem nD_REC_aligned_11 : decode nC_REC_aligned 11 = .ok (.bipush 16, 2) := by decide +kernel
theorem nD_REC_aligned_13 : decode nC_REC_aligned 13 = .ok (.iload_n 0, 1) := by decide +kernel
theorem nD_REC_aligned_14 : decode nC_REC_aligned 14 = .ok (.invokestatic 42, 3) := by decide +kernel
theorem nD_REC_aligned_17 : decode nC_REC_aligned 17 = .ok (.imul, 1) := by decide +kernel
theorem nD_REC_aligned_18 : decode nC_REC_aligned 18 = .ok (.iconst 4, 1) := by decide +kernel
theorem nD_REC_aligned_19 : decode nC_REC_aligned 19 = .ok (.iload_n 2, 1) := by decide +kernel
theorem nD_REC_aligned_20 : decode nC_REC_aligned 20 = .ok (.imul, 1) := by decide +kernel
theorem nD_REC_aligned_21 : decode nC_REC_aligned 21 = .ok (.ishr, 1) := by decide +kernel
theorem nD_REC_aligned_22 : decode nC_REC_aligned 22 = .ok (.istore_n 3, 1) := by decide +kernel
theorem nD_REC_aligned_23 : decode nC_REC_aligned 23 = .ok (.iload_n 0, 1) := by decide +kernel
theorem nD_REC_aligned_24 : decode nC_REC_aligned 24 = .ok (.ifCond .ge 8, 3) := by decide +kernel
theorem nD_REC_aligned_27 : decode nC_REC_aligned 27 = .ok (.iload_n 3, 1) := by decide +kernel
theorem nD_REC_aligned_28 : decode nC_REC_aligned 28 = .ok (.ineg, 1) := by decide +kernel
theorem nD_REC_aligned_29 : decode nC_REC_aligned 29 = .ok (.goto 4, 3) := by decide +kernel
theorem nD_REC_aligned_32 : decode nC_REC_aligned 32 = .ok (.iload_n 3, 1) := by decide +kernel
theorem nD_REC_aligned_33 : decode nC_REC_aligned 33 = .ok (.ireturn, 1) := by decide +kernel
theorem nD_REC_normalFraction_0 : decode nC_REC_normalFraction 0 = .ok (.iload_n 0, 1) := by decide +kernel
theorem nD_REC_normalFraction_1 : decode nC_REC_normalFraction 1 = .ok (.invokestatic 42, 3) := by decide +kernel
theorem nD_REC_normalFraction_4 : decode nC_REC_normalFraction 4 = .ok (.istore_n 1, 1) := by decide +kernel
theorem nD_REC_normalFraction_5 : decode nC_REC_normalFraction 5 = .ok (.iload_n 1, 1) := by decide +kernel
theorem nD_REC_normalFraction_6 : decode nC_REC_normalFraction 6 = .ok (.iconst 4, 1) := by decide +kernel
theorem nD_REC_normalFraction_7 : decode nC_REC_normalFraction 7 = .ok (.iload_n 1, 1) := by decide +kernel
theorem nD_REC_normalFraction_8 : decode nC_REC_normalFraction 8 = .ok (.bipush 6, 2) := by decide +kernel
theorem nD_REC_normalFraction_10 : decode nC_REC_normalFraction 10 = .ok (.invokestatic 52, 3) := by decide +kernel
theorem nD_REC_normalFraction_13 : decode nC_REC_normalFraction 13 = .ok (.imul, 1) := by decide +kernel
theorem nD_REC_normalFraction_14 : decode nC_REC_normalFraction 14 = .ok (.ishl, 1) := by decide +kernel
theorem nD_REC_normalFraction_15 : decode nC_REC_normalFraction 15 = .ok (.ireturn, 1) := by decide +kernel
theorem nD_REC_normalCharacteristic_0 : decode nC_REC_normalCharacteristic 0 = .ok (.iload_n 0, 1) := by decide +kernel
theorem nD_REC_normalCharacteristic_1 : decode nC_REC_normalCharacteristic 1 = .ok (.invokestatic 56, 3) := by decide +kernel
theorem nD_REC_normalCharacteristic_4 : decode nC_REC_normalCharacteristic 4 = .ok (.iload_n 0, 1) := by decide +kernel
theorem nD_REC_normalCharacteristic_5 : decode nC_REC_normalCharacteristic 5 = .ok (.invokestatic 42, 3) := by decide +kernel
theorem nD_REC_normalCharacteristic_8 : decode nC_REC_normalCharacteristic 8 = .ok (.bipush 6, 2) := by decide +kernel
theorem nD_REC_normalCharacteristic_10 : decode nC_REC_normalCharacteristic 10 = .ok (.invokestatic 52, 3) := by decide +kernel
theorem nD_REC_normalCharacteristic_13 : decode nC_REC_normalCharacteristic 13 = .ok (.isub, 1) := by decide +kernel
theorem nD_REC_normalCharacteristic_14 : decode nC_REC_normalCharacteristic 14 = .ok (.ireturn, 1) := by decide +kernel
theorem nD_REC_leadingZeros_0 : decode nC_REC_leadingZeros 0 = .ok (.iconst 0, 1) := by decide +kernel
theorem nD_REC_leadingZeros_1 : decode nC_REC_leadingZeros 1 = .ok (.istore_n 2, 1) := by decide +kernel
theorem nD_REC_leadingZeros_2 : decode nC_REC_leadingZeros 2 = .ok (.iload_n 2, 1) := by decide +kernel
theorem nD_REC_leadingZeros_3 : decode nC_REC_leadingZeros 3 = .ok (.iload_n 1, 1) := by decide +kernel
theorem nD_REC_leadingZeros_4 : decode nC_REC_leadingZeros 4 = .ok (.if_icmp .ge 21, 3) := by decide +kernel
theorem nD_REC_leadingZeros_7 : decode nC_REC_leadingZeros 7 = .ok (.iload_n 0, 1) := by decide +kernel
theorem nD_REC_leadingZeros_8 : decode nC_REC_leadingZeros 8 = .ok (.iconst 4, 1) := by decide +kernel
theorem nD_REC_leadingZeros_9 : decode nC_REC_leadingZeros 9 = .ok (.iload_n 1, 1) := by decide +kernel
theorem nD_REC_leadingZeros_10 : decode nC_REC_leadingZeros 10 = .ok (.iconst 1, 1) := by decide +kernel
theorem nD_REC_leadingZeros_11 : decode nC_REC_leadingZeros 11 = .ok (.isub, 1) := by decide +kernel
theorem nD_REC_leadingZeros_12 : decode nC_REC_leadingZeros 12 = .ok (.iload_n 2, 1) := by decide +kernel
theorem nD_REC_leadingZeros_13 : decode nC_REC_leadingZeros 13 = .ok (.isub, 1) := by decide +kernel
theorem nD_REC_leadingZeros_14 : decode nC_REC_leadingZeros 14 = .ok (.imul, 1) := by decide +kernel
theorem nD_REC_leadingZeros_15 : decode nC_REC_leadingZeros 15 = .ok (.ishr, 1) := by decide +kernel
theorem nD_REC_leadingZeros_16 : decode nC_REC_leadingZeros 16 = .ok (.ifCond .ne 9, 3) := by decide +kernel
theorem nD_REC_leadingZeros_19 : decode nC_REC_leadingZeros 19 = .ok (.iinc 2 1, 3) := by decide +kernel
theorem nD_REC_leadingZeros_22 : decode nC_REC_leadingZeros 22 = .ok (.goto (-20), 3) := by decide +kernel
theorem nD_REC_leadingZeros_25 : decode nC_REC_leadingZeros 25 = .ok (.iload_n 2, 1) := by decide +kernel
theorem nD_REC_leadingZeros_26 : decode nC_REC_leadingZeros 26 = .ok (.ireturn, 1) := by decide +kernel
theorem nD_UNI_init_0 : decode nC_UNI_init 0 = .ok (.aload_n 0, 1) := by decide +kernel
theorem nD_UNI_init_1 : decode nC_UNI_init 1 = .ok (.invokespecial 3, 3) := by decide +kernel
theorem nD_UNI_init_4 : decode nC_UNI_init 4 = .ok (.aload_n 0, 1) := by decide +kernel
theorem nD_UNI_init_5 : decode nC_UNI_init 5 = .ok (.new 9, 3) := by decide +kernel
theorem nD_UNI_init_8 : decode nC_UNI_init 8 = .ok (.dup, 1) := by decide +kernel
theorem nD_UNI_init_9 : decode nC_UNI_init 9 = .ok (.invokespecial 11, 3) := by decide +kernel
theorem nD_UNI_init_12 : decode nC_UNI_init 12 = .ok (.putfield 12, 3) := by decide +kernel
theorem nD_UNI_init_15 : decode nC_UNI_init 15 = .ok (.aload_n 0, 1) := by decide +kernel
theorem nD_UNI_init_16 : decode nC_UNI_init 16 = .ok (.new 9, 3) := by decide +kernel
theorem nD_UNI_init_19 : decode nC_UNI_init 19 = .ok (.dup, 1) := by decide +kernel
theorem nD_UNI_init_20 : decode nC_UNI_init 20 = .ok (.invokespecial 11, 3) := by decide +kernel
theorem nD_UNI_init_23 : decode nC_UNI_init 23 = .ok (.putfield 18, 3) := by decide +kernel
theorem nD_UNI_init_26 : decode nC_UNI_init 26 = .ok (.return_, 1) := by decide +kernel
theorem nD_UNI_isReady_0 : decode nC_UNI_isReady 0 = .ok (.aload_n 0, 1) := by decide +kernel
theorem nD_UNI_isReady_1 : decode nC_UNI_isReady 1 = .ok (.getfield 21, 3) := by decide +kernel
theorem nD_UNI_isReady_4 : decode nC_UNI_isReady 4 = .ok (.iconst 1, 1) := by decide +kernel
theorem nD_UNI_isReady_5 : decode nC_UNI_isReady 5 = .ok (.if_icmp .ne 27, 3) := by decide +kernel
theorem nD_UNI_isReady_8 : decode nC_UNI_isReady 8 = .ok (.aload_n 0, 1) := by decide +kernel
theorem nD_UNI_isReady_9 : decode nC_UNI_isReady 9 = .ok (.getfield 12, 3) := by decide +kernel
theorem nD_UNI_isReady_12 : decode nC_UNI_isReady 12 = .ok (.invokevirtual 25, 3) := by decide +kernel
theorem nD_UNI_isReady_15 : decode nC_UNI_isReady 15 = .ok (.ifCond .ne 17, 3) := by decide +kernel
theorem nD_UNI_isReady_18 : decode nC_UNI_isReady 18 = .ok (.aload_n 0, 1) := by decide +kernel
theorem nD_UNI_isReady_19 : decode nC_UNI_isReady 19 = .ok (.getfield 18, 3) := by decide +kernel
theorem nD_UNI_isReady_22 : decode nC_UNI_isReady 22 = .ok (.invokevirtual 25, 3) := by decide +kernel
theorem nD_UNI_isReady_25 : decode nC_UNI_isReady 25 = .ok (.ifCond .ne 7, 3) := by decide +kernel
theorem nD_UNI_isReady_28 : decode nC_UNI_isReady 28 = .ok (.iconst 1, 1) := by decide +kernel
theorem nD_UNI_isReady_29 : decode nC_UNI_isReady 29 = .ok (.goto 4, 3) := by decide +kernel
theorem nD_UNI_isReady_32 : decode nC_UNI_isReady 32 = .ok (.iconst 0, 1) := by decide +kernel
theorem nD_UNI_isReady_33 : decode nC_UNI_isReady 33 = .ok (.ireturn, 1) := by decide +kernel
theorem nD_UNI_claim_0 : decode nC_UNI_claim 0 = .ok (.aload_n 0, 1) := by decide +kernel
theorem nD_UNI_claim_1 : decode nC_UNI_claim 1 = .ok (.iconst 1, 1) := by decide +kernel
theorem nD_UNI_claim_2 : decode nC_UNI_claim 2 = .ok (.putfield 21, 3) := by decide +kernel
theorem nD_UNI_claim_5 : decode nC_UNI_claim 5 = .ok (.aload_n 0, 1) := by decide +kernel
theorem nD_UNI_claim_6 : decode nC_UNI_claim 6 = .ok (.iload_n 1, 1) := by decide +kernel
theorem nD_UNI_claim_7 : decode nC_UNI_claim 7 = .ok (.putfield 29, 3) := by decide +kernel
theorem nD_UNI_claim_10 : decode nC_UNI_claim 10 = .ok (.aload_n 0, 1) := by decide +kernel
theorem nD_UNI_claim_11 : decode nC_UNI_claim 11 = .ok (.iload_n 2, 1) := by decide +kernel
theorem nD_UNI_claim_12 : decode nC_UNI_claim 12 = .ok (.putfield 32, 3) := by decide +kernel
theorem nD_UNI_claim_15 : decode nC_UNI_claim 15 = .ok (.aload_n 0, 1) := by decide +kernel
theorem nD_UNI_claim_16 : decode nC_UNI_claim 16 = .ok (.iload_n 3, 1) := by decide +kernel
theorem nD_UNI_claim_17 : decode nC_UNI_claim 17 = .ok (.putfield 35, 3) := by decide +kernel
theorem nD_UNI_claim_20 : decode nC_UNI_claim 20 = .ok (.return_, 1) := by decide +kernel
theorem nD_UNI_begin_0 : decode nC_UNI_begin 0 = .ok (.aload_n 0, 1) := by decide +kernel
theorem nD_UNI_begin_1 : decode nC_UNI_begin 1 = .ok (.iconst 2, 1) := by decide +kernel
theorem nD_UNI_begin_2 : decode nC_UNI_begin 2 = .ok (.putfield 21, 3) := by decide +kernel
theorem nD_UNI_begin_5 : decode nC_UNI_begin 5 = .ok (.aload_n 0, 1) := by decide +kernel
theorem nD_UNI_begin_6 : decode nC_UNI_begin 6 = .ok (.iload_n 1, 1) := by decide +kernel
theorem nD_UNI_begin_7 : decode nC_UNI_begin 7 = .ok (.putfield 38, 3) := by decide +kernel
theorem nD_UNI_begin_10 : decode nC_UNI_begin 10 = .ok (.aload_n 0, 1) := by decide +kernel
theorem nD_UNI_begin_11 : decode nC_UNI_begin 11 = .ok (.iload_n 2, 1) := by decide +kernel
theorem nD_UNI_begin_12 : decode nC_UNI_begin 12 = .ok (.putfield 41, 3) := by decide +kernel
theorem nD_UNI_begin_15 : decode nC_UNI_begin 15 = .ok (.aload_n 0, 1) := by decide +kernel
theorem nD_UNI_begin_16 : decode nC_UNI_begin 16 = .ok (.iload_n 3, 1) := by decide +kernel
theorem nD_UNI_begin_17 : decode nC_UNI_begin 17 = .ok (.putfield 44, 3) := by decide +kernel
theorem nD_UNI_begin_20 : decode nC_UNI_begin 20 = .ok (.return_, 1) := by decide +kernel
theorem nD_UNI_hear_0 : decode nC_UNI_hear 0 = .ok (.aload_n 0, 1) := by decide +kernel
theorem nD_UNI_hear_1 : decode nC_UNI_hear 1 = .ok (.getfield 12, 3) := by decide +kernel
theorem nD_UNI_hear_4 : decode nC_UNI_hear 4 = .ok (.iload_n 1, 1) := by decide +kernel
theorem nD_UNI_hear_5 : decode nC_UNI_hear 5 = .ok (.iload_n 2, 1) := by decide +kernel
theorem nD_UNI_hear_6 : decode nC_UNI_hear 6 = .ok (.invokevirtual 47, 3) := by decide +kernel
theorem nD_UNI_hear_9 : decode nC_UNI_hear 9 = .ok (.aload_n 0, 1) := by decide +kernel
theorem nD_UNI_hear_10 : decode nC_UNI_hear 10 = .ok (.getfield 18, 3) := by decide +kernel
theorem nD_UNI_hear_13 : decode nC_UNI_hear 13 = .ok (.iload_n 1, 1) := by decide +kernel
theorem nD_UNI_hear_14 : decode nC_UNI_hear 14 = .ok (.iload_n 2, 1) := by decide +kernel
theorem nD_UNI_hear_15 : decode nC_UNI_hear 15 = .ok (.invokevirtual 47, 3) := by decide +kernel
theorem nD_UNI_hear_18 : decode nC_UNI_hear 18 = .ok (.return_, 1) := by decide +kernel
end
section
/-! the uniform world: one table of ints for both classes, one list of cells -/
abbrev sg_T : Type := Nat → Nat → Int32
def sg_up (σ : sg_T) (r c : Nat) (v : Int32) : sg_T := fun a b => if a = r ∧ b = c then v else σ a b
/-- tables of the classes, array classes, addresses -/
abbrev cx_T : Type := va_G × (Nat → ClassId) × (Nat → Nat)
def wl_W (ad : Nat → Nat) (n : Nat) (E : Nat → va_E) : va_W := (List.range n).map (fun i => (ad i, E i))
theorem wl_get {ad : Nat → Nat} {n : Nat} {E : Nat → va_E} {k : Nat} (h : k < n) : (wl_W ad n E)[k]? = some (ad k, E k) := by
  simp [wl_W, List.getElem?_map, List.getElem?_range, h]
theorem wl_none {ad : Nat → Nat} {n : Nat} {E : Nat → va_E} {k : Nat} (h : ¬ k < n) : (wl_W ad n E)[k]? = none := by
  rw [List.getElem?_eq_none_iff]
  simp [wl_W]
  omega
theorem wl_len {ad : Nat → Nat} {n : Nat} {E : Nat → va_E} : (wl_W ad n E).length = n := by simp [wl_W]
theorem wl_set {ad : Nat → Nat} {n : Nat} {E : Nat → va_E} {k : Nat} {e : va_E} (h : k < n) : (wl_W ad n E).set k (ad k, e) = wl_W ad n (va_up E k e) := by
  apply List.ext_getElem?
  intro j
  by_cases hj : j = k
  · subst hj
    rw [List.getElem?_set_self (by rw [wl_len]; exact h), wl_get h, va_up_self]
  · rw [List.getElem?_set_ne (Ne.symm hj)]
    by_cases hn : j < n
    · rw [wl_get hn, wl_get hn, va_up_ne _ _ hj]
    · rw [wl_none hn, wl_none hn]
/-- the cells of a world, and all that come from sz on -/
def wl_S (ad : Nat → Nat) (n sz : Nat) : Nat → Prop := fun q => (∃ k, k < n ∧ q = ad k) ∨ sz ≤ q
theorem wl_in {ad : Nat → Nat} {n sz : Nat} {E : Nat → va_E} {k : Nat} {q : Nat × va_E} (h : (wl_W ad n E)[k]? = some q) : wl_S ad n sz q.1 := by
  by_cases hn : k < n
  · rw [wl_get hn] at h
    cases h
    exact Or.inl ⟨k, hn, rfl⟩
  · rw [wl_none hn] at h
    cases h
theorem wl_self {ad : Nat → Nat} {n sz : Nat} {E : Nat → va_E} {A : Nat → Prop} (h : va_D A (wl_W ad n E)) : va_D (wl_S ad n sz) (wl_W ad n E) := ⟨h.1, fun _ _ hk => wl_in hk⟩
theorem wl_mono {ad : Nat → Nat} {n sz sz' : Nat} (h : sz' ≤ sz) {q : Nat} (hq : wl_S ad n sz q) : wl_S ad n sz' q := by
  rcases hq with h1 | h1
  · exact Or.inl h1
  · exact Or.inr (Nat.le_trans h h1)
/-- guards and sequences in partial functions -/
def gt_d {α : Type} (b : Bool) (k : Option α) : Option α := if b = true then k else none
theorem gt_of {α : Type} {b : Bool} {k : Option α} {z : α} (h : gt_d b k = some z) : b = true ∧ k = some z := by
  unfold gt_d at h
  by_cases hb : b = true
  · rw [if_pos hb] at h
    exact ⟨hb, h⟩
  · rw [if_neg hb] at h
    cases h
theorem bd_of {α β : Type} {o : Option α} {k : α → Option β} {z : β} (h : o.bind k = some z) : ∃ a, o = some a ∧ k a = some z := by
  cases o with
  | none => cases h
  | some a => exact ⟨a, rfl, h⟩
abbrev tn_I (i : Int32) : Nat := i.toNatClampNeg
def ib_I (i : Int32) (n : Nat) : Bool := !(decide (i < 0)) && decide (i.toNatClampNeg < n)
theorem ib_in {i : Int32} {n : Nat} (h : ib_I i n = true) : vp_in i n := by
  unfold ib_I at h
  simp only [Bool.and_eq_true, Bool.not_eq_true', decide_eq_false_iff_not, decide_eq_true_eq] at h
  intro q
  rcases q with q | q
  · exact h.1 q
  · omega
theorem ib_lt {i : Int32} {n : Nat} (h : ib_I i n = true) : tn_I i < n := by
  unfold ib_I at h
  simp only [Bool.and_eq_true, Bool.not_eq_true', decide_eq_false_iff_not, decide_eq_true_eq] at h
  exact h.2
theorem nb_01 {v : Int32} (h : decide (v = 0 ∨ v = 1) = true) : narrow .boolean (.int v) = .int v := by
  rcases of_decide_eq_true h with rfl | rfl <;> rfl
theorem sg_eq (σ : sg_T) (r c : Nat) (v : Int32) : sg_up σ r c v r c = v := by simp [sg_up]
theorem sg_ne {σ : sg_T} {r c a b : Nat} {v : Int32} (h : ¬ (a = r ∧ b = c)) : sg_up σ r c v a b = σ a b := by simp [sg_up, h]
/-- the room of a call of depth d that makes nothing -/
def rm_D (d : Nat) : Room := { frames := d, cells := 0, slots := 0, locals := 40 * d }
def ee_T (x : cx_T) (σ : sg_T) : List Value := [.int (σ 0 0), .int (σ 0 1), .ref (x.2.2 1), .ref (x.2.2 2), .ref (x.2.2 3), .ref (x.2.2 4), .ref (x.2.2 5), .ref (x.2.2 6), .ref (x.2.2 7), .int (σ 0 2), .int (σ 0 3), .int (σ 0 4), .int (σ 0 5), .int (σ 0 6), .int (σ 0 7)]
def ee_R (x : cx_T) (σ : sg_T) : List Value := [.int (σ 20 0), .int (σ 20 1)]
def ee_D (x : cx_T) (σ : sg_T) : List Value := [.int (σ 30 0), .int (σ 30 1), .int (σ 30 9), .int (σ 30 2), .ref (x.2.2 83), .ref (x.2.2 84), .ref (x.2.2 85), .ref (x.2.2 86), .ref (x.2.2 87), .int (σ 30 3), .int (σ 30 4), .int (σ 30 5), .int (σ 30 6), .int (σ 30 7), .ref (x.2.2 88), .ref (x.2.2 89), .ref (x.2.2 90), .ref (x.2.2 91), .ref (x.2.2 92), .ref (x.2.2 93), .ref (x.2.2 94), .ref (x.2.2 95), .ref (x.2.2 96), .ref (x.2.2 97), .ref (x.2.2 98), .ref (x.2.2 99), .ref (x.2.2 100), .ref (x.2.2 101), .int (σ 30 8), .long (σ 50 0).toInt64]
def ee_I (x : cx_T) (σ : sg_T) (i : Nat) : List Value := [.int (σ 1 i), .int (σ 2 i), .int (σ 3 i), .int (σ 4 i), .int (σ 5 i)]
def ee_O (x : cx_T) (σ : sg_T) (i : Nat) : List Value := [.int (σ 6 i), .int (σ 7 i)]
def ee_U (x : cx_T) (σ : sg_T) (i : Nat) : List Value := [.ref (x.2.2 (38 + (5 + 2 * i))), .ref (x.2.2 (38 + (6 + 2 * i))), .int (σ 12 i), .int (σ 13 i), .int (σ 17 i), .int (σ 18 i), .int (σ 14 i), .int (σ 15 i), .int (σ 16 i)]
def e0_L (x : cx_T) (σ : sg_T) : List va_E := [.inr (4, ee_T x σ), .inl (x.2.1 2, 30, .inr (.inr (.inr (.inr (fun i => some (x.2.2 (8 + i))))))), .inl (x.2.1 3, 5, .inr (.inr (.inr (.inr (fun i => some (x.2.2 (38 + i))))))), .inl (x.2.1 0, 4, .inl (σ 10)), .inl (x.2.1 0, 32, .inl (σ 11)), .inl (x.2.1 4, 13, .inr (.inr (.inr (.inr (fun i => some (x.2.2 (69 + i))))))), .inl (x.2.1 1, 8, .inl (σ 19)), .inr (2, ee_R x σ)]
def em_L (x : cx_T) (σ : sg_T) : List va_E := [.inr (5, ee_D x σ), .inl (x.2.1 0, 30, .inl (σ 31)), .inl (x.2.1 0, 30, .inl (σ 32)), .inl (x.2.1 0, 30, .inl (σ 33)), .inl (x.2.1 0, 30, .inl (σ 34)), .inl (x.2.1 0, 30, .inl (σ 35)), .inl (x.2.1 0, 5, .inl (σ 36)), .inl (x.2.1 0, 5, .inl (σ 37)), .inl (x.2.1 0, 4, .inl (σ 38)), .inl (x.2.1 0, 32, .inl (σ 39)), .inl (x.2.1 0, 13, .inl (σ 40)), .inl (x.2.1 0, 13, .inl (σ 41)), .inl (x.2.1 0, 13, .inl (σ 42)), .inl (x.2.1 0, 13, .inl (σ 43)), .inl (x.2.1 0, 13, .inl (σ 44)), .inl (x.2.1 0, 26, .inl (σ 45)), .inl (x.2.1 0, 26, .inl (σ 46)), .inl (x.2.1 0, 13, .inl (σ 47)), .inl (x.2.1 0, 13, .inl (σ 48)), .inl (x.2.1 1, 8, .inl (σ 49)), .inl (x.2.1 5, 1, .inr (.inl (fun j => if j = 0 then (σ 51 0).toInt64 else 0)))]
def ee_A (x : cx_T) (σ : sg_T) (k : Nat) : va_E := if k < 8 then (e0_L x σ).getD k (.inr (0, [])) else if k < 38 then .inr (0, ee_I x σ (k - 8)) else if k < 69 then .inr (1, ee_O x σ (k - 38)) else if k < 82 then .inr (3, ee_U x σ (k - 69)) else (em_L x σ).getD (k - 82) (.inr (0, []))
abbrev tt_A (x : cx_T) : List (ClassId × FieldType) := [(x.2.1 0, .int), (x.2.1 1, .boolean), (x.2.1 2, .object "TagMachine$Instruction"), (x.2.1 3, .object "TagMachine$Operand"), (x.2.1 4, .object "TagMachine$Unit"), (x.2.1 5, .long)]
theorem sg_row {σ : sg_T} {r c a : Nat} {v : Int32} (h : a ≠ r) : sg_up σ r c v a = σ a := by
  funext b
  simp [sg_up, h]
theorem gd_set {l : List va_E} {j k : Nat} {e d : va_E} (h : k ≠ j) : (l.set j e).getD k d = l.getD k d := by
  rw [List.getD_eq_getElem?_getD, List.getD_eq_getElem?_getD, List.getElem?_set_ne (Ne.symm h)]
theorem gd_self {l : List va_E} {j : Nat} {e d : va_E} (h : j < l.length) : (l.set j e).getD j d = e := by
  rw [List.getD_eq_getElem?_getD, List.getElem?_set_self h]
  rfl
theorem ee_ins {x : cx_T} {σ : sg_T} {i : Nat} (h : i < 30) : ee_A x σ (8 + i) = .inr (0, ee_I x σ i) := by
  unfold ee_A
  rw [if_neg (by omega), if_pos (by omega), Nat.add_sub_cancel_left]
theorem ee_opd {x : cx_T} {σ : sg_T} {i : Nat} (h : i < 31) : ee_A x σ (38 + i) = .inr (1, ee_O x σ i) := by
  unfold ee_A
  rw [if_neg (by omega), if_neg (by omega), if_pos (by omega), Nat.add_sub_cancel_left]
theorem ee_uni {x : cx_T} {σ : sg_T} {i : Nat} (h : i < 13) : ee_A x σ (69 + i) = .inr (3, ee_U x σ i) := by
  unfold ee_A
  rw [if_neg (by omega), if_neg (by omega), if_neg (by omega), if_pos (by omega), Nat.add_sub_cancel_left]
theorem eu_0 {x : cx_T} {σ σ' : sg_T} {j : Nat} {e : va_E} (hj : j < 8) (hL : e0_L x σ' = (e0_L x σ).set j e) (hI : ∀ i, ee_I x σ' i = ee_I x σ i) (hO : ∀ i, ee_O x σ' i = ee_O x σ i) (hU : ∀ i, ee_U x σ' i = ee_U x σ i) (hM : em_L x σ' = em_L x σ) : va_up (ee_A x σ) j e = ee_A x σ' := by
  funext k
  by_cases hk : k = j
  · subst hk
    rw [va_up_self]
    unfold ee_A
    rw [if_pos hj, hL, gd_self (by simpa [e0_L] using hj)]
  · rw [va_up_ne _ _ hk]
    unfold ee_A
    by_cases q1 : k < 8
    · rw [if_pos q1, if_pos q1]
      rw [hL, gd_set hk]
    · rw [if_neg q1, if_neg q1]
      by_cases q2 : k < 38
      · rw [if_pos q2, if_pos q2]
        rw [hI]
      · rw [if_neg q2, if_neg q2]
        by_cases q3 : k < 69
        · rw [if_pos q3, if_pos q3]
          rw [hO]
        · rw [if_neg q3, if_neg q3]
          by_cases q4 : k < 82
          · rw [if_pos q4, if_pos q4]
            rw [hU]
          · rw [if_neg q4, if_neg q4]
            rw [hM]
theorem eu_I {x : cx_T} {σ σ' : sg_T} {j : Nat} {e : va_E} (hj : j < 30) (he : e = .inr (0, ee_I x σ' j)) (hL : ∀ i, i ≠ j → ee_I x σ' i = ee_I x σ i) (h0 : e0_L x σ' = e0_L x σ) (hO : ∀ i, ee_O x σ' i = ee_O x σ i) (hU : ∀ i, ee_U x σ' i = ee_U x σ i) (hM : em_L x σ' = em_L x σ) : va_up (ee_A x σ) (8 + j) e = ee_A x σ' := by
  funext k
  by_cases hk : k = (8 + j)
  · subst hk
    rw [va_up_self]
    rw [ee_ins hj, he]
  · rw [va_up_ne _ _ hk]
    unfold ee_A
    by_cases q1 : k < 8
    · rw [if_pos q1, if_pos q1]
      rw [h0]
    · rw [if_neg q1, if_neg q1]
      by_cases q2 : k < 38
      · rw [if_pos q2, if_pos q2]
        rw [hL _ (by omega)]
      · rw [if_neg q2, if_neg q2]
        by_cases q3 : k < 69
        · rw [if_pos q3, if_pos q3]
          rw [hO]
        · rw [if_neg q3, if_neg q3]
          by_cases q4 : k < 82
          · rw [if_pos q4, if_pos q4]
            rw [hU]
          · rw [if_neg q4, if_neg q4]
            rw [hM]
theorem eu_O {x : cx_T} {σ σ' : sg_T} {j : Nat} {e : va_E} (hj : j < 31) (he : e = .inr (1, ee_O x σ' j)) (hL : ∀ i, i ≠ j → ee_O x σ' i = ee_O x σ i) (h0 : e0_L x σ' = e0_L x σ) (hI : ∀ i, ee_I x σ' i = ee_I x σ i) (hU : ∀ i, ee_U x σ' i = ee_U x σ i) (hM : em_L x σ' = em_L x σ) : va_up (ee_A x σ) (38 + j) e = ee_A x σ' := by
  funext k
  by_cases hk : k = (38 + j)
  · subst hk
    rw [va_up_self]
    rw [ee_opd hj, he]
  · rw [va_up_ne _ _ hk]
    unfold ee_A
    by_cases q1 : k < 8
    · rw [if_pos q1, if_pos q1]
      rw [h0]
    · rw [if_neg q1, if_neg q1]
      by_cases q2 : k < 38
      · rw [if_pos q2, if_pos q2]
        rw [hI]
      · rw [if_neg q2, if_neg q2]
        by_cases q3 : k < 69
        · rw [if_pos q3, if_pos q3]
          rw [hL _ (by omega)]
        · rw [if_neg q3, if_neg q3]
          by_cases q4 : k < 82
          · rw [if_pos q4, if_pos q4]
            rw [hU]
          · rw [if_neg q4, if_neg q4]
            rw [hM]
theorem eu_U {x : cx_T} {σ σ' : sg_T} {j : Nat} {e : va_E} (hj : j < 13) (he : e = .inr (3, ee_U x σ' j)) (hL : ∀ i, i ≠ j → ee_U x σ' i = ee_U x σ i) (h0 : e0_L x σ' = e0_L x σ) (hI : ∀ i, ee_I x σ' i = ee_I x σ i) (hO : ∀ i, ee_O x σ' i = ee_O x σ i) (hM : em_L x σ' = em_L x σ) : va_up (ee_A x σ) (69 + j) e = ee_A x σ' := by
  funext k
  by_cases hk : k = (69 + j)
  · subst hk
    rw [va_up_self]
    rw [ee_uni hj, he]
  · rw [va_up_ne _ _ hk]
    unfold ee_A
    by_cases q1 : k < 8
    · rw [if_pos q1, if_pos q1]
      rw [h0]
    · rw [if_neg q1, if_neg q1]
      by_cases q2 : k < 38
      · rw [if_pos q2, if_pos q2]
        rw [hI]
      · rw [if_neg q2, if_neg q2]
        by_cases q3 : k < 69
        · rw [if_pos q3, if_pos q3]
          rw [hO]
        · rw [if_neg q3, if_neg q3]
          by_cases q4 : k < 82
          · rw [if_pos q4, if_pos q4]
            rw [hL _ (by omega)]
          · rw [if_neg q4, if_neg q4]
            rw [hM]
theorem eu_M {x : cx_T} {σ σ' : sg_T} {j : Nat} {e : va_E} (hj : j < 21) (hL : em_L x σ' = (em_L x σ).set j e) (h0 : e0_L x σ' = e0_L x σ) (hI : ∀ i, ee_I x σ' i = ee_I x σ i) (hO : ∀ i, ee_O x σ' i = ee_O x σ i) (hU : ∀ i, ee_U x σ' i = ee_U x σ i) : va_up (ee_A x σ) (82 + j) e = ee_A x σ' := by
  funext k
  by_cases hk : k = (82 + j)
  · subst hk
    rw [va_up_self]
    unfold ee_A
    rw [if_neg (by omega), if_neg (by omega), if_neg (by omega), if_neg (by omega), Nat.add_sub_cancel_left, hL, gd_self (by simpa [em_L] using hj)]
  · rw [va_up_ne _ _ hk]
    unfold ee_A
    by_cases q1 : k < 8
    · rw [if_pos q1, if_pos q1]
      rw [h0]
    · rw [if_neg q1, if_neg q1]
      by_cases q2 : k < 38
      · rw [if_pos q2, if_pos q2]
        rw [hI]
      · rw [if_neg q2, if_neg q2]
        by_cases q3 : k < 69
        · rw [if_pos q3, if_pos q3]
          rw [hO]
        · rw [if_neg q3, if_neg q3]
          by_cases q4 : k < 82
          · rw [if_pos q4, if_pos q4]
            rw [hU]
          · rw [if_neg q4, if_neg q4]
            rw [hL, gd_set (by omega)]
/-- the good words of the tables, for every contract -/
def lw_ws : List Cond := lw_tbl.filter goodWord
theorem lw_good : GoodIn lw_ws lw_ws := fun w h => ⟨h, good_of_word (List.mem_filter.mp h).2⟩
theorem lw_m {w : Cond} {i : Nat} (h : lw_tbl[i]? = some w) (g : goodWord w = true) : w ∈ lw_ws := List.mem_filter.mpr ⟨List.mem_of_getElem? h, g⟩
theorem gs_V {own C : String} {idx : Nat} {y : MethodName} {b : ByteArray} {n : Nat} {ret : Option FieldType} (h1 : Cond.methodLink own idx y ∈ lw_ws) (h2 : Cond.instanceMethod y ∈ lw_ws) (h3 : Cond.selects C y y ∈ lw_ws) (h4 : Cond.initialized C ∈ lw_ws) (h5 : Cond.code y b n ret ∈ lw_ws) : GoodIn lw_ws (wsV own idx C y (.code y b n ret :: lw_ws)) := by
  intro w hw
  unfold wsV at hw
  simp only [List.cons_append, List.nil_append, List.mem_cons] at hw
  rcases hw with rfl | rfl | rfl | rfl | rfl | hw
  · exact lw_good _ h1
  · exact lw_good _ h2
  · exact lw_good _ h3
  · exact lw_good _ h4
  · exact lw_good _ h5
  · exact lw_good _ hw
theorem gs_S {own : String} {idx : Nat} {y : MethodName} {b : ByteArray} {n : Nat} {ret : Option FieldType} (h1 : Cond.methodLink own idx y ∈ lw_ws) (h2 : Cond.static y ∈ lw_ws) (h4 : Cond.initialized y.cls ∈ lw_ws) (h5 : Cond.code y b n ret ∈ lw_ws) : GoodIn lw_ws (va_wsS own idx y (.code y b n ret :: lw_ws)) := by
  intro w hw
  unfold va_wsS at hw
  simp only [List.cons_append, List.nil_append, List.mem_cons] at hw
  rcases hw with rfl | rfl | rfl | rfl | hw
  · exact lw_good _ h1
  · exact lw_good _ h2
  · exact lw_good _ h4
  · exact lw_good _ h5
  · exact lw_good _ hw
/-! contracts over the uniform world; entry, return and calls -/
def ww_W (x : cx_T) (σ : sg_T) : va_W := wl_W x.2.2 103 (ee_A x σ)
abbrev ct_A (x : cx_T) (sz : Nat) : Nat → Prop := wl_S x.2.2 103 sz
def ww_P (x : cx_T) (s : State) (H : Heap) (locs : List Loc) (σ : sg_T) : Prop := va_P x.1 vwCl (ww_W x σ) H ∧ va_D (ct_A x s.heap.size) (ww_W x σ) ∧ va_K x.1 vwCl (tt_A x) s ∧ va_S (ct_A x s.heap.size) s.heap H locs
abbrev ct_Pc (x : cx_T) (σ : sg_T) (av : List Value) (sz : Nat) : Array Value → State → Prop := va_Pc av (fun U => U.heap.size = sz ∧ va_P x.1 vwCl (ww_W x σ) U.heap ∧ va_K x.1 vwCl (tt_A x) U ∧ va_D (fun _ => True) (ww_W x σ))
abbrev ct_B (x : cx_T) (A : Nat → Prop) (σ : sg_T) (t : State) : Prop := va_P x.1 vwCl (ww_W x σ) t.heap ∧ va_K x.1 vwCl (tt_A x) t ∧ va_D A (ww_W x σ)
abbrev fx_F (p : Program) (s : State) (m : MethodId) (args : Array Value) (meth : Method) (c : Code) (b : ByteArray) (n : Nat) (ret : Option FieldType) (own : String) : Prop :=
  p.tables.exec = Jvm.exec ∧ c.code = b ∧ c.maxLocals = n ∧ meth.sig.returnType = ret ∧ meth.locks = false ∧ s.vm.findClass own = some m.cls ∧ ∀ w ∈ lw_ws, w.before args s = true
def ct_i (l : Launch) (y : MethodName) (b : ByteArray) (n : Nat) (ret : Option FieldType) (d : Nat) (x : cx_T) (av : List Value) (σ : sg_T) (r : Int32) (σ' : sg_T) : Prop :=
  ∀ sz, Met l y (.code y b n ret :: lw_ws) (rm_D d) (ct_Pc x σ av sz) (va_Qi (fun a u => a = r ∧ u = σ') (ct_B x (ct_A x sz)) (ct_A x sz)) 0 0 (ct_A x sz)
def ct_l (l : Launch) (y : MethodName) (b : ByteArray) (n : Nat) (d : Nat) (x : cx_T) (av : List Value) (σ : sg_T) (r : Int64) (σ' : sg_T) : Prop :=
  ∀ sz, Met l y (.code y b n (some .long) :: lw_ws) (rm_D d) (ct_Pc x σ av sz) (va_Ql (fun a u => a = r ∧ u = σ') (ct_B x (ct_A x sz)) (ct_A x sz)) 0 0 (ct_A x sz)
def ct_v (l : Launch) (y : MethodName) (b : ByteArray) (n : Nat) (d : Nat) (x : cx_T) (av : List Value) (σ : sg_T) (σ' : sg_T) : Prop :=
  ∀ sz, Met l y (.code y b n none :: lw_ws) (rm_D d) (ct_Pc x σ av sz) (va_Qv (fun u => u = σ') (ct_B x (ct_A x sz)) (ct_A x sz)) 0 0 (ct_A x sz)
abbrev qi_Q (x : cx_T) (s : State) (below : List Frame) (args : Array Value) (r : Int32) (σ' : sg_T) : State → Prop := MQ below (va_Qi (fun a u => a = r ∧ u = σ') (ct_B x (ct_A x s.heap.size)) (ct_A x s.heap.size)) args s 0 0 (ct_A x s.heap.size)
abbrev ql_Q (x : cx_T) (s : State) (below : List Frame) (args : Array Value) (r : Int64) (σ' : sg_T) : State → Prop := MQ below (va_Ql (fun a u => a = r ∧ u = σ') (ct_B x (ct_A x s.heap.size)) (ct_A x s.heap.size)) args s 0 0 (ct_A x s.heap.size)
abbrev qv_Q (x : cx_T) (s : State) (below : List Frame) (args : Array Value) (σ' : sg_T) : State → Prop := MQ below (va_Qv (fun u => u = σ') (ct_B x (ct_A x s.heap.size)) (ct_A x s.heap.size)) args s 0 0 (ct_A x s.heap.size)
theorem ct_bl {x : cx_T} {σ : sg_T} {av : List Value} {sz : Nat} : FrameBlind (ct_Pc x σ av sz) := fun a U g mk q => by
  obtain ⟨q0, q1, qP, qK, qD⟩ := q
  exact ⟨q0, q1, qP, va_K.moved (u := U) (U := U.calling g mk a) (Vm.Alike.refl U.vm) qK, qD⟩
section EN
variable {l : Launch} {y : MethodName} {b : ByteArray} {n d : Nat} {ret : Option FieldType} {x : cx_T} {av : List Value} {σ σ' : sg_T} {own : String}
theorem en_i {r : Int32} (hy : plainName y.cls = true) (hlen : (lg_sl av).length ≤ n) (ho : y.cls = own)
    (body : ∀ (p : Program) (e : Env) (s : State) (m : MethodId) (below : List Frame) (meth : Method) (c : Code) (ls : Array Slot), fx_F p s m av.toArray meth c b n ret own → ww_P x s s.heap [] σ → lv_has ls n (lv_args 0 av) →
      W p l e (rm_D d) s m av.toArray below meth c s.heap [] 0 0 (qi_Q x s below av.toArray r σ') (F0 m 0 ls [])) : ct_i l y b n ret d x av σ r σ' := by
  intro sz
  refine Met.ofW (cc := b) (maxL := n) (ret := ret) hy rfl ?_
  intro p e s m args below meth c s₁ B hml hv
  obtain ⟨rfl, hsz, hP, hK, hD0⟩ := hv
  subst hsz
  have hts := atoms_spec (ws := .code y b n ret :: lw_ws) B.pre
  rw [lg_entry_eq]
  exact body p e s m below meth c _ ⟨B.exec, B.bytes, hml, B.returns, B.notSynchronized, ho ▸ findClass_of_methodNamed B.named, fun w h => hts w (List.mem_cons_of_mem _ h)⟩ ⟨hP, wl_self hD0, hK, va_S.rf⟩ (lv_entry av hlen)
theorem en_l {r : Int64} (hy : plainName y.cls = true) (hlen : (lg_sl av).length ≤ n) (ho : y.cls = own)
    (body : ∀ (p : Program) (e : Env) (s : State) (m : MethodId) (below : List Frame) (meth : Method) (c : Code) (ls : Array Slot), fx_F p s m av.toArray meth c b n (some .long) own → ww_P x s s.heap [] σ → lv_has ls n (lv_args 0 av) →
      W p l e (rm_D d) s m av.toArray below meth c s.heap [] 0 0 (ql_Q x s below av.toArray r σ') (F0 m 0 ls [])) : ct_l l y b n d x av σ r σ' := by
  intro sz
  refine Met.ofW (cc := b) (maxL := n) (ret := (some .long)) hy rfl ?_
  intro p e s m args below meth c s₁ B hml hv
  obtain ⟨rfl, hsz, hP, hK, hD0⟩ := hv
  subst hsz
  have hts := atoms_spec (ws := .code y b n (some .long) :: lw_ws) B.pre
  rw [lg_entry_eq]
  exact body p e s m below meth c _ ⟨B.exec, B.bytes, hml, B.returns, B.notSynchronized, ho ▸ findClass_of_methodNamed B.named, fun w h => hts w (List.mem_cons_of_mem _ h)⟩ ⟨hP, wl_self hD0, hK, va_S.rf⟩ (lv_entry av hlen)
theorem en_v (hy : plainName y.cls = true) (hlen : (lg_sl av).length ≤ n) (ho : y.cls = own)
    (body : ∀ (p : Program) (e : Env) (s : State) (m : MethodId) (below : List Frame) (meth : Method) (c : Code) (ls : Array Slot), fx_F p s m av.toArray meth c b n none own → ww_P x s s.heap [] σ → lv_has ls n (lv_args 0 av) →
      W p l e (rm_D d) s m av.toArray below meth c s.heap [] 0 0 (qv_Q x s below av.toArray σ') (F0 m 0 ls [])) : ct_v l y b n d x av σ σ' := by
  intro sz
  refine Met.ofW (cc := b) (maxL := n) (ret := none) hy rfl ?_
  intro p e s m args below meth c s₁ B hml hv
  obtain ⟨rfl, hsz, hP, hK, hD0⟩ := hv
  subst hsz
  have hts := atoms_spec (ws := .code y b n none :: lw_ws) B.pre
  rw [lg_entry_eq]
  exact body p e s m below meth c _ ⟨B.exec, B.bytes, hml, B.returns, B.notSynchronized, ho ▸ findClass_of_methodNamed B.named, fun w h => hts w (List.mem_cons_of_mem _ h)⟩ ⟨hP, wl_self hD0, hK, va_S.rf⟩ (lv_entry av hlen)
end EN
section RT
variable {p : Program} {l : Launch} {e : Env} {R : Room} {s : State} {m : MethodId} {args : Array Value} {below : List Frame} {meth : Method} {c : Code} {H : Heap} {locs : List Loc} {Q : State → Prop} {x : cx_T} {σ σ' : sg_T} {b : ByteArray} {n : Nat} {ret : Option FieldType} {own : String} {pc : Nat} {ls : Array Slot} {rest : List Value}
theorem rt_i {ty : FieldType} (F : fx_F p s m args meth c b n (some ty) own) (hw : ww_P x s H locs σ) {v : Int32} (hn : narrow ty (.int v) = .int v) (hdg : decode b pc = .ok (.ireturn, 1)) {z : Int32 × sg_T} (hf : some (v, σ) = some z) :
    W p l e R s m args below meth c H locs 0 0 (qi_Q x s below args z.1 z.2) (F0 m pc ls [.int v]) := by
  cases hf
  obtain ⟨hx, hb, hml, hr, hlk, hown, hT⟩ := F
  obtain ⟨hP, hD, hK, hS⟩ := hw
  exact W.zret hx hb hr hn (fun t ht hW => ⟨⟨v, σ, rfl, ⟨rfl, rfl⟩, by rw [ht]; exact hP, va_K.moved hW.alike hK, hD⟩, hS.F ht⟩) hS.2.2 hdg hlk
theorem rt_l (F : fx_F p s m args meth c b n (some .long) own) (hw : ww_P x s H locs σ) {v : Int64} (hdg : decode b pc = .ok (.lreturn, 1)) {z : Int64 × sg_T} (hf : some (v, σ) = some z) :
    W p l e R s m args below meth c H locs 0 0 (ql_Q x s below args z.1 z.2) (F0 m pc ls [.long v]) := by
  cases hf
  obtain ⟨hx, hb, hml, hr, hlk, hown, hT⟩ := F
  obtain ⟨hP, hD, hK, hS⟩ := hw
  exact W.lret hx hb hr (fun t ht hW => ⟨⟨v, σ, rfl, ⟨rfl, rfl⟩, by rw [ht]; exact hP, va_K.moved hW.alike hK, hD⟩, hS.F ht⟩) hS.2.2 hdg hlk
theorem rt_v (F : fx_F p s m args meth c b n none own) (hw : ww_P x s H locs σ) (hdg : decode b pc = .ok (.return_, 1)) {z : sg_T} (hf : some σ = some z) :
    W p l e R s m args below meth c H locs 0 0 (qv_Q x s below args z) (F0 m pc ls []) := by
  cases hf
  obtain ⟨hx, hb, hml, hr, hlk, hown, hT⟩ := F
  obtain ⟨hP, hD, hK, hS⟩ := hw
  exact W.vret hx hb hr (fun t ht hW => ⟨⟨σ, rfl, rfl, by rw [ht]; exact hP, va_K.moved hW.alike hK, hD⟩, hS.F ht⟩) hS.2.2 hdg hlk
/-- the cell k is an object of the class C, whatever the table -/
def rc_C (x : cx_T) (k : Nat) (C : String) : Prop := ∀ σ : sg_T, ∃ (ci : Nat) (fs : List Value) (q : vw_C), (ww_W x σ)[k]? = some (x.2.2 k, .inr (ci, fs)) ∧ vwCl[ci]? = some q ∧ q.1 = C
variable {y : MethodName} {b' : ByteArray} {n' d d' k index : Nat} {ret' : Option FieldType} {As : List Value} {st0 : List Value} {lv : List (Nat × Value)}
theorem cl_vi {r : Int32} (F : fx_F p s m args meth c b n ret own) (hw : ww_P x s H locs σ) (hM : ct_i l y b' n' ret' d x (.ref (x.2.2 k) :: As) σ r σ') (hrc : rc_C x k y.cls) (hG : GoodIn lw_ws (wsV own index y.cls y (.code y b' n' ret' :: lw_ws)))
    (hd : y.cls ≠ "java/lang/invoke/MethodHandle" ∧ y.cls ≠ "java/lang/invoke/VarHandle" ∧ (parseMethodDescriptor y.desc).map (fun d => d.parameters.length) = some As.length) (hN : n' ≤ 21 ∧ d + 1 ≤ d') (hl : lv_has ls n lv) (hst : st0 = As.reverse ++ .ref (x.2.2 k) :: rest) (hrest : (rest.map fun v => v.category).sum ≤ 8)
    (hdg : decode b pc = .ok (.invokevirtual index, 3)) (kk : ∀ (H1 : Heap) (locs1 : List Loc), ww_P x s H1 locs1 σ' → W p l e (rm_D d') s m args below meth c H1 locs1 0 0 Q (F0 m (pc + 3) ls (.int r :: rest))) :
    W p l e (rm_D d') s m args below meth c H locs 0 0 Q (F0 m pc ls st0) := by
  obtain ⟨hx, hb, hml, hr, hlk, hown, hT⟩ := F
  obtain ⟨hP, hD, hK, hS⟩ := hw
  obtain ⟨ci, fs, q, he, hc, hq⟩ := hrc σ
  have hrecv := va_recv hK hP hc he
  rw [hq] at hrecv
  refine va_calli (va_runV (C := y.cls) (As := As) (rest := rest) ⟨hx, hb, hml, hown, hT⟩ (hM H.size) (cwV As.length hT hG rfl rfl rfl ⟨rfl, hd⟩ ⟨hN.2, by simp only [rm_D]; omega⟩) ⟨ct_bl, hrecv, fun U hU hW => ⟨rfl, by rw [hU], by rw [hU]; exact hP, va_K.moved hW.alike hK, hD.weaken (fun _ _ _ _ => trivial)⟩⟩ rfl rfl hl.1 hst (lv_room hrest) hdg ⟨Nat.zero_le _, Nat.zero_le _⟩) hS (fun q _ h => wl_mono hS.1 h) (fun q h => wl_mono hS.1 h) (fun r' u t H1 locs1 ht hvm hp hB hz1 hk1 hS1 => ?_)
  obtain ⟨rfl, rfl⟩ := hp
  obtain ⟨hP1, hK1, hD1⟩ := hB
  rw [ht] at hP1
  exact kk H1 locs1 ⟨hP1, hD1.weaken (fun _ _ _ h => wl_mono hS.1 h), hK, hS1⟩
theorem cl_vl {r : Int64} (F : fx_F p s m args meth c b n ret own) (hw : ww_P x s H locs σ) (hM : ct_l l y b' n' d x (.ref (x.2.2 k) :: As) σ r σ') (hrc : rc_C x k y.cls) (hG : GoodIn lw_ws (wsV own index y.cls y (.code y b' n' (some .long) :: lw_ws)))
    (hd : y.cls ≠ "java/lang/invoke/MethodHandle" ∧ y.cls ≠ "java/lang/invoke/VarHandle" ∧ (parseMethodDescriptor y.desc).map (fun d => d.parameters.length) = some As.length) (hN : n' ≤ 21 ∧ d + 1 ≤ d') (hl : lv_has ls n lv) (hst : st0 = As.reverse ++ .ref (x.2.2 k) :: rest) (hrest : (rest.map fun v => v.category).sum ≤ 8)
    (hdg : decode b pc = .ok (.invokevirtual index, 3)) (kk : ∀ (H1 : Heap) (locs1 : List Loc), ww_P x s H1 locs1 σ' → W p l e (rm_D d') s m args below meth c H1 locs1 0 0 Q (F0 m (pc + 3) ls (.long r :: rest))) :
    W p l e (rm_D d') s m args below meth c H locs 0 0 Q (F0 m pc ls st0) := by
  obtain ⟨hx, hb, hml, hr, hlk, hown, hT⟩ := F
  obtain ⟨hP, hD, hK, hS⟩ := hw
  obtain ⟨ci, fs, q, he, hc, hq⟩ := hrc σ
  have hrecv := va_recv hK hP hc he
  rw [hq] at hrecv
  refine va_calll (va_runV (C := y.cls) (As := As) (rest := rest) ⟨hx, hb, hml, hown, hT⟩ (hM H.size) (cwV As.length hT hG rfl rfl rfl ⟨rfl, hd⟩ ⟨hN.2, by simp only [rm_D]; omega⟩) ⟨ct_bl, hrecv, fun U hU hW => ⟨rfl, by rw [hU], by rw [hU]; exact hP, va_K.moved hW.alike hK, hD.weaken (fun _ _ _ _ => trivial)⟩⟩ rfl rfl hl.1 hst (lv_room hrest) hdg ⟨Nat.zero_le _, Nat.zero_le _⟩) hS (fun q _ h => wl_mono hS.1 h) (fun q h => wl_mono hS.1 h) (fun r' u t H1 locs1 ht hvm hp hB hz1 hk1 hS1 => ?_)
  obtain ⟨rfl, rfl⟩ := hp
  obtain ⟨hP1, hK1, hD1⟩ := hB
  rw [ht] at hP1
  exact kk H1 locs1 ⟨hP1, hD1.weaken (fun _ _ _ h => wl_mono hS.1 h), hK, hS1⟩
theorem cl_vv (F : fx_F p s m args meth c b n ret own) (hw : ww_P x s H locs σ) (hM : ct_v l y b' n' d x (.ref (x.2.2 k) :: As) σ σ') (hrc : rc_C x k y.cls) (hG : GoodIn lw_ws (wsV own index y.cls y (.code y b' n' none :: lw_ws)))
    (hd : y.cls ≠ "java/lang/invoke/MethodHandle" ∧ y.cls ≠ "java/lang/invoke/VarHandle" ∧ (parseMethodDescriptor y.desc).map (fun d => d.parameters.length) = some As.length) (hN : n' ≤ 21 ∧ d + 1 ≤ d') (hl : lv_has ls n lv) (hst : st0 = As.reverse ++ .ref (x.2.2 k) :: rest) (hrest : (rest.map fun v => v.category).sum ≤ 8)
    (hdg : decode b pc = .ok (.invokevirtual index, 3)) (kk : ∀ (H1 : Heap) (locs1 : List Loc), ww_P x s H1 locs1 σ' → W p l e (rm_D d') s m args below meth c H1 locs1 0 0 Q (F0 m (pc + 3) ls rest)) :
    W p l e (rm_D d') s m args below meth c H locs 0 0 Q (F0 m pc ls st0) := by
  obtain ⟨hx, hb, hml, hr, hlk, hown, hT⟩ := F
  obtain ⟨hP, hD, hK, hS⟩ := hw
  obtain ⟨ci, fs, q, he, hc, hq⟩ := hrc σ
  have hrecv := va_recv hK hP hc he
  rw [hq] at hrecv
  refine va_callv (va_runV (C := y.cls) (As := As) (rest := rest) ⟨hx, hb, hml, hown, hT⟩ (hM H.size) (cwV As.length hT hG rfl rfl rfl ⟨rfl, hd⟩ ⟨hN.2, by simp only [rm_D]; omega⟩) ⟨ct_bl, hrecv, fun U hU hW => ⟨rfl, by rw [hU], by rw [hU]; exact hP, va_K.moved hW.alike hK, hD.weaken (fun _ _ _ _ => trivial)⟩⟩ rfl rfl hl.1 hst (lv_room hrest) hdg ⟨Nat.zero_le _, Nat.zero_le _⟩) hS (fun q _ h => wl_mono hS.1 h) (fun q h => wl_mono hS.1 h) (fun u t H1 locs1 ht hvm hp hB hz1 hk1 hS1 => ?_)
  subst hp
  obtain ⟨hP1, hK1, hD1⟩ := hB
  rw [ht] at hP1
  exact kk H1 locs1 ⟨hP1, hD1.weaken (fun _ _ _ h => wl_mono hS.1 h), hK, hS1⟩
theorem cl_cs {b9 : ByteArray} {ret9 : Option FieldType} (hT : ∀ w ∈ lw_ws, w.before args s = true) (hG : GoodIn lw_ws (va_wsS own index y (.code y b9 n' ret9 :: lw_ws))) (hd : y.cls ≠ "java/lang/invoke/MethodHandle" ∧ y.cls ≠ "java/lang/invoke/VarHandle" ∧ (parseMethodDescriptor y.desc).map (fun d => d.parameters.length) = some As.length) (hN : n' ≤ 21 ∧ d + 1 ≤ d') :
    CallB (rm_D d') s args own index y b9 n' ret9 (.code y b9 n' ret9 :: lw_ws) (rm_D d) 0 0 As.length ∧ (Cond.static y).before args s = true := by
  have ok : ∀ w ∈ va_wsS own index y (.code y b9 n' ret9 :: lw_ws), w.before args s = true := fun w h => hT w (hG w h).1
  exact ⟨callB_of As.length hT (fun w h => hG w (by unfold va_wsS; exact List.mem_append_right _ h)) rfl rfl rfl (ok _ (by simp [va_wsS])) (ok _ (by simp [va_wsS])) hd ⟨hN.2, by simp only [rm_D]; omega⟩, ok _ (by simp [va_wsS])⟩
theorem cl_si {r : Int32} (F : fx_F p s m args meth c b n ret own) (hw : ww_P x s H locs σ) (hM : ct_i l y b' n' ret' d x As σ r σ') (hG : GoodIn lw_ws (va_wsS own index y (.code y b' n' ret' :: lw_ws)))
    (hd : y.cls ≠ "java/lang/invoke/MethodHandle" ∧ y.cls ≠ "java/lang/invoke/VarHandle" ∧ (parseMethodDescriptor y.desc).map (fun d => d.parameters.length) = some As.length) (hN : n' ≤ 21 ∧ d + 1 ≤ d') (hl : lv_has ls n lv) (hst : st0 = As.reverse ++ rest) (hrest : (rest.map fun v => v.category).sum ≤ 8)
    (hdg : decode b pc = .ok (.invokestatic index, 3)) (kk : ∀ (H1 : Heap) (locs1 : List Loc), ww_P x s H1 locs1 σ' → W p l e (rm_D d') s m args below meth c H1 locs1 0 0 Q (F0 m (pc + 3) ls (.int r :: rest))) :
    W p l e (rm_D d') s m args below meth c H locs 0 0 Q (F0 m pc ls st0) := by
  obtain ⟨hx, hb, hml, hr, hlk, hown, hT⟩ := F
  obtain ⟨hP, hD, hK, hS⟩ := hw
  refine va_calli (va_runS (As := As) (rest := rest) ⟨hx, hb, hml, hown, hT⟩ (hM H.size) (cl_cs hT hG hd hN) ⟨ct_bl, fun U hU hW => ⟨rfl, by rw [hU], by rw [hU]; exact hP, va_K.moved hW.alike hK, hD.weaken (fun _ _ _ _ => trivial)⟩⟩ rfl rfl hl.1 hst (lv_room hrest) hdg ⟨Nat.zero_le _, Nat.zero_le _⟩) hS (fun q _ h => wl_mono hS.1 h) (fun q h => wl_mono hS.1 h) (fun r' u t H1 locs1 ht hvm hp hB hz1 hk1 hS1 => ?_)
  obtain ⟨rfl, rfl⟩ := hp
  obtain ⟨hP1, hK1, hD1⟩ := hB
  rw [ht] at hP1
  exact kk H1 locs1 ⟨hP1, hD1.weaken (fun _ _ _ h => wl_mono hS.1 h), hK, hS1⟩
theorem cl_sl {r : Int64} (F : fx_F p s m args meth c b n ret own) (hw : ww_P x s H locs σ) (hM : ct_l l y b' n' d x As σ r σ') (hG : GoodIn lw_ws (va_wsS own index y (.code y b' n' (some .long) :: lw_ws)))
    (hd : y.cls ≠ "java/lang/invoke/MethodHandle" ∧ y.cls ≠ "java/lang/invoke/VarHandle" ∧ (parseMethodDescriptor y.desc).map (fun d => d.parameters.length) = some As.length) (hN : n' ≤ 21 ∧ d + 1 ≤ d') (hl : lv_has ls n lv) (hst : st0 = As.reverse ++ rest) (hrest : (rest.map fun v => v.category).sum ≤ 8)
    (hdg : decode b pc = .ok (.invokestatic index, 3)) (kk : ∀ (H1 : Heap) (locs1 : List Loc), ww_P x s H1 locs1 σ' → W p l e (rm_D d') s m args below meth c H1 locs1 0 0 Q (F0 m (pc + 3) ls (.long r :: rest))) :
    W p l e (rm_D d') s m args below meth c H locs 0 0 Q (F0 m pc ls st0) := by
  obtain ⟨hx, hb, hml, hr, hlk, hown, hT⟩ := F
  obtain ⟨hP, hD, hK, hS⟩ := hw
  refine va_calll (va_runS (As := As) (rest := rest) ⟨hx, hb, hml, hown, hT⟩ (hM H.size) (cl_cs hT hG hd hN) ⟨ct_bl, fun U hU hW => ⟨rfl, by rw [hU], by rw [hU]; exact hP, va_K.moved hW.alike hK, hD.weaken (fun _ _ _ _ => trivial)⟩⟩ rfl rfl hl.1 hst (lv_room hrest) hdg ⟨Nat.zero_le _, Nat.zero_le _⟩) hS (fun q _ h => wl_mono hS.1 h) (fun q h => wl_mono hS.1 h) (fun r' u t H1 locs1 ht hvm hp hB hz1 hk1 hS1 => ?_)
  obtain ⟨rfl, rfl⟩ := hp
  obtain ⟨hP1, hK1, hD1⟩ := hB
  rw [ht] at hP1
  exact kk H1 locs1 ⟨hP1, hD1.weaken (fun _ _ _ h => wl_mono hS.1 h), hK, hS1⟩
/-- a switch's case; an int that is none of them -/
theorem sw_in {cells slots : Nat} {cc : ByteArray} (kc : Int32) (hexec : p.tables.exec = Jvm.exec) (hb : c.code = cc) {dflt lo hi : Int} {offs : Array Int} {len : Nat} {w : Int32} {off : Int} {tgt : Nat} (hdg : decode cc pc = .ok (.tableswitch dflt lo hi offs, len)) (h : w = kc) (h1 : ¬ kc.toInt < lo) (h2 : ¬ hi < kc.toInt) (ho : offs[(kc.toInt - lo).toNat]? = some off) (ht : (pc : Int) + off = (tgt : Int))
    (k : W p l e R s m args below meth c H locs cells slots Q (F0 m tgt ls rest)) : W p l e R s m args below meth c H locs cells slots Q (F0 m pc ls (.int w :: rest)) := by
  subst h
  exact lv_tableIn hexec hb hdg h1 h2 ho ht k
theorem sw_lk {cells slots : Nat} {cc : ByteArray} (kc : Int32) (hexec : p.tables.exec = Jvm.exec) (hb : c.code = cc) {dflt : Int} {ps : Array (Int × Int)} {len : Nat} {w : Int32} {off : Int} {tgt : Nat} (hdg : decode cc pc = .ok (.lookupswitch dflt ps, len)) (h : w = kc) (hp : (ps.toList.zip (ps.toList.drop 1)).all (fun (a, next) => a.1 < next.1) = true) (ho : Op.lookupswitch.offset ps.toList dflt kc.toInt = off) (ht : (pc : Int) + off = (tgt : Int))
    (k : W p l e R s m args below meth c H locs cells slots Q (F0 m tgt ls rest)) : W p l e R s m args below meth c H locs cells slots Q (F0 m pc ls (.int w :: rest)) := by
  subst h
  exact lv_lookup hexec hb hdg hp ho ht k
end RT
theorem it_ne {a b : Int32} (h : ¬ a = b) : ¬ a.toInt = b.toInt := fun q => h (Int32.toInt_inj.mp q)
theorem ic_p1 (v : Int32) : v + Int32.ofInt 1 = v + 1 := by rw [show Int32.ofInt 1 = (1 : Int32) by decide]
theorem ic_m1 (v : Int32) : v + Int32.ofInt (-1) = v + (-1) := by rw [show Int32.ofInt (-1) = (-1 : Int32) by decide]
theorem ic_p6 (v : Int32) : v + Int32.ofInt 6 = v + 6 := by rw [show Int32.ofInt 6 = (6 : Int32) by decide]
end
section
-- words (written by program)
theorem wm_2 : Cond.selects nR_TM nN_TM_isInstruction nN_TM_isInstruction ∈ lw_ws := lw_m (i := 2) (by decide +kernel) (by decide +kernel)
theorem wm_4 : Cond.selects nR_TM nN_TM_useBus nN_TM_useBus ∈ lw_ws := lw_m (i := 4) (by decide +kernel) (by decide +kernel)
theorem wm_5 : Cond.selects nR_TM nN_TM_firstLike nN_TM_firstLike ∈ lw_ws := lw_m (i := 5) (by decide +kernel) (by decide +kernel)
theorem wm_6 : Cond.selects nR_TM nN_TM_send nN_TM_send ∈ lw_ws := lw_m (i := 6) (by decide +kernel) (by decide +kernel)
theorem wm_7 : Cond.selects nR_TM nN_TM_note nN_TM_note ∈ lw_ws := lw_m (i := 7) (by decide +kernel) (by decide +kernel)
theorem wm_8 : Cond.selects nR_TM nN_TM_work nN_TM_work ∈ lw_ws := lw_m (i := 8) (by decide +kernel) (by decide +kernel)
theorem wm_9 : Cond.selects nR_TM nN_TM_finishWork nN_TM_finishWork ∈ lw_ws := lw_m (i := 9) (by decide +kernel) (by decide +kernel)
theorem wm_10 : Cond.selects nR_TM nN_TM_bankOf nN_TM_bankOf ∈ lw_ws := lw_m (i := 10) (by decide +kernel) (by decide +kernel)
theorem wm_11 : Cond.selects nR_TM nN_TM_firstReady nN_TM_firstReady ∈ lw_ws := lw_m (i := 11) (by decide +kernel) (by decide +kernel)
theorem wm_12 : Cond.selects nR_TM nN_TM_beginStation nN_TM_beginStation ∈ lw_ws := lw_m (i := 12) (by decide +kernel) (by decide +kernel)
theorem wm_13 : Cond.selects nR_REC nN_REC_add nN_REC_add ∈ lw_ws := lw_m (i := 13) (by decide +kernel) (by decide +kernel)
theorem wm_14 : Cond.selects nR_REC nN_REC_finish nN_REC_finish ∈ lw_ws := lw_m (i := 14) (by decide +kernel) (by decide +kernel)
theorem wm_15 : Cond.selects nR_REC nN_REC_multiply nN_REC_multiply ∈ lw_ws := lw_m (i := 15) (by decide +kernel) (by decide +kernel)
theorem wm_16 : Cond.selects nR_REC nN_REC_divide nN_REC_divide ∈ lw_ws := lw_m (i := 16) (by decide +kernel) (by decide +kernel)
theorem wm_17 : Cond.selects nR_REC nN_REC_compare nN_REC_compare ∈ lw_ws := lw_m (i := 17) (by decide +kernel) (by decide +kernel)
theorem wm_18 : Cond.selects nR_TM nN_TM_nextOfMultiplier nN_TM_nextOfMultiplier ∈ lw_ws := lw_m (i := 18) (by decide +kernel) (by decide +kernel)
theorem wm_19 : Cond.selects nR_TM nN_TM_beginStorage nN_TM_beginStorage ∈ lw_ws := lw_m (i := 19) (by decide +kernel) (by decide +kernel)
theorem wm_20 : Cond.selects nR_TM nN_TM_earliestAccess nN_TM_earliestAccess ∈ lw_ws := lw_m (i := 20) (by decide +kernel) (by decide +kernel)
theorem wm_21 : Cond.selects nR_TM nN_TM_handOut nN_TM_handOut ∈ lw_ws := lw_m (i := 21) (by decide +kernel) (by decide +kernel)
theorem wm_22 : Cond.selects nR_TM nN_TM_handToBuffer nN_TM_handToBuffer ∈ lw_ws := lw_m (i := 22) (by decide +kernel) (by decide +kernel)
theorem wm_23 : Cond.selects nR_TM nN_TM_isToBeStored nN_TM_isToBeStored ∈ lw_ws := lw_m (i := 23) (by decide +kernel) (by decide +kernel)
theorem wm_24 : Cond.selects nR_TM nN_TM_handToStation nN_TM_handToStation ∈ lw_ws := lw_m (i := 24) (by decide +kernel) (by decide +kernel)
theorem wm_25 : Cond.selects nR_TM nN_TM_doAtOnce nN_TM_doAtOnce ∈ lw_ws := lw_m (i := 25) (by decide +kernel) (by decide +kernel)
theorem wm_26 : Cond.selects nR_TM nN_TM_allFree nN_TM_allFree ∈ lw_ws := lw_m (i := 26) (by decide +kernel) (by decide +kernel)
theorem wm_27 : Cond.selects nR_MOD nN_MOD_result nN_MOD_result ∈ lw_ws := lw_m (i := 27) (by decide +kernel) (by decide +kernel)
theorem wm_28 : Cond.selects nR_MOD nN_MOD_sum nN_MOD_sum ∈ lw_ws := lw_m (i := 28) (by decide +kernel) (by decide +kernel)
theorem wm_29 : Cond.selects nR_MOD nN_MOD_align nN_MOD_align ∈ lw_ws := lw_m (i := 29) (by decide +kernel) (by decide +kernel)
theorem wm_30 : Cond.selects nR_MOD nN_MOD_finish nN_MOD_finish ∈ lw_ws := lw_m (i := 30) (by decide +kernel) (by decide +kernel)
theorem wm_31 : Cond.selects nR_MOD nN_MOD_product nN_MOD_product ∈ lw_ws := lw_m (i := 31) (by decide +kernel) (by decide +kernel)
theorem wm_32 : Cond.selects nR_MOD nN_MOD_quotient nN_MOD_quotient ∈ lw_ws := lw_m (i := 32) (by decide +kernel) (by decide +kernel)
theorem wm_33 : Cond.selects nR_MOD nN_MOD_compared nN_MOD_compared ∈ lw_ws := lw_m (i := 33) (by decide +kernel) (by decide +kernel)
theorem wm_34 : Cond.selects nR_MOD nN_MOD_goes nN_MOD_goes ∈ lw_ws := lw_m (i := 34) (by decide +kernel) (by decide +kernel)
theorem wm_35 : Cond.selects nR_MOD nN_MOD_cycle nN_MOD_cycle ∈ lw_ws := lw_m (i := 35) (by decide +kernel) (by decide +kernel)
theorem wm_36 : Cond.selects nR_MOD nN_MOD_bus nN_MOD_bus ∈ lw_ws := lw_m (i := 36) (by decide +kernel) (by decide +kernel)
theorem wm_37 : Cond.selects nR_MOD nN_MOD_work nN_MOD_work ∈ lw_ws := lw_m (i := 37) (by decide +kernel) (by decide +kernel)
theorem wm_38 : Cond.selects nR_MOD nN_MOD_ends nN_MOD_ends ∈ lw_ws := lw_m (i := 38) (by decide +kernel) (by decide +kernel)
theorem wm_39 : Cond.selects nR_MOD nN_MOD_begin nN_MOD_begin ∈ lw_ws := lw_m (i := 39) (by decide +kernel) (by decide +kernel)
theorem wm_40 : Cond.selects nR_MOD nN_MOD_ready nN_MOD_ready ∈ lw_ws := lw_m (i := 40) (by decide +kernel) (by decide +kernel)
theorem wm_41 : Cond.selects nR_MOD nN_MOD_begins nN_MOD_begins ∈ lw_ws := lw_m (i := 41) (by decide +kernel) (by decide +kernel)
theorem wm_42 : Cond.selects nR_MOD nN_MOD_handOut nN_MOD_handOut ∈ lw_ws := lw_m (i := 42) (by decide +kernel) (by decide +kernel)
theorem wm_43 : Cond.selects nR_MOD nN_MOD_storage nN_MOD_storage ∈ lw_ws := lw_m (i := 43) (by decide +kernel) (by decide +kernel)
theorem wm_44 : Cond.selects nR_MOD nN_MOD_free nN_MOD_free ∈ lw_ws := lw_m (i := 44) (by decide +kernel) (by decide +kernel)
theorem wm_45 : Cond.selects nR_MOD nN_MOD_storing nN_MOD_storing ∈ lw_ws := lw_m (i := 45) (by decide +kernel) (by decide +kernel)
theorem wm_46 : Cond.selects nR_MOD nN_MOD_take nN_MOD_take ∈ lw_ws := lw_m (i := 46) (by decide +kernel) (by decide +kernel)
theorem wm_47 : Cond.selects nR_MOD nN_MOD_reckoned nN_MOD_reckoned ∈ lw_ws := lw_m (i := 47) (by decide +kernel) (by decide +kernel)
theorem wm_49 : Cond.initialized nR_TM ∈ lw_ws := lw_m (i := 49) (by decide +kernel) (by decide +kernel)
theorem wm_52 : Cond.initialized nR_OPD ∈ lw_ws := lw_m (i := 52) (by decide +kernel) (by decide +kernel)
theorem wm_53 : Cond.initialized nR_UNI ∈ lw_ws := lw_m (i := 53) (by decide +kernel) (by decide +kernel)
theorem wm_54 : Cond.initialized nR_REC ∈ lw_ws := lw_m (i := 54) (by decide +kernel) (by decide +kernel)
theorem wm_55 : Cond.initialized nR_MOD ∈ lw_ws := lw_m (i := 55) (by decide +kernel) (by decide +kernel)
theorem wm_82 : Cond.fieldLink nR_INS 7 nR_INS "op" "I" ∈ lw_ws := lw_m (i := 82) (by decide +kernel) (by decide +kernel)
theorem wm_83 : Cond.fieldLink nR_TM 220 nR_INS "op" "I" ∈ lw_ws := lw_m (i := 83) (by decide +kernel) (by decide +kernel)
theorem wm_84 : Cond.fieldLink nR_INS 13 nR_INS "\x72" "I" ∈ lw_ws := lw_m (i := 84) (by decide +kernel) (by decide +kernel)
theorem wm_85 : Cond.fieldLink nR_TM 243 nR_INS "\x72" "I" ∈ lw_ws := lw_m (i := 85) (by decide +kernel) (by decide +kernel)
theorem wm_86 : Cond.fieldLink nR_INS 16 nR_INS "s" "I" ∈ lw_ws := lw_m (i := 86) (by decide +kernel) (by decide +kernel)
theorem wm_87 : Cond.fieldLink nR_TM 253 nR_INS "s" "I" ∈ lw_ws := lw_m (i := 87) (by decide +kernel) (by decide +kernel)
theorem wm_88 : Cond.fieldLink nR_INS 19 nR_INS "b" "I" ∈ lw_ws := lw_m (i := 88) (by decide +kernel) (by decide +kernel)
theorem wm_89 : Cond.fieldLink nR_TM 231 nR_INS "b" "I" ∈ lw_ws := lw_m (i := 89) (by decide +kernel) (by decide +kernel)
theorem wm_90 : Cond.fieldLink nR_INS 22 nR_INS "n" "I" ∈ lw_ws := lw_m (i := 90) (by decide +kernel) (by decide +kernel)
theorem wm_91 : Cond.fieldLink nR_TM 234 nR_INS "n" "I" ∈ lw_ws := lw_m (i := 91) (by decide +kernel) (by decide +kernel)
theorem wm_110 : Cond.fieldLink nR_OPD 13 nR_OPD "value" "I" ∈ lw_ws := lw_m (i := 110) (by decide +kernel) (by decide +kernel)
theorem wm_111 : Cond.fieldLink nR_TM 120 nR_OPD "value" "I" ∈ lw_ws := lw_m (i := 111) (by decide +kernel) (by decide +kernel)
theorem wm_112 : Cond.fieldLink nR_OPD 7 nR_OPD "awaited" "I" ∈ lw_ws := lw_m (i := 112) (by decide +kernel) (by decide +kernel)
theorem wm_113 : Cond.fieldLink nR_TM 123 nR_OPD "awaited" "I" ∈ lw_ws := lw_m (i := 113) (by decide +kernel) (by decide +kernel)
theorem wm_128 : Cond.fieldLink nR_UNI 12 nR_UNI "first" "LTagMachine$Operand;" ∈ lw_ws := lw_m (i := 128) (by decide +kernel) (by decide +kernel)
theorem wm_129 : Cond.fieldLink nR_TM 200 nR_UNI "first" "LTagMachine$Operand;" ∈ lw_ws := lw_m (i := 129) (by decide +kernel) (by decide +kernel)
theorem wm_130 : Cond.fieldLink nR_UNI 18 nR_UNI "second" "LTagMachine$Operand;" ∈ lw_ws := lw_m (i := 130) (by decide +kernel) (by decide +kernel)
theorem wm_131 : Cond.fieldLink nR_TM 204 nR_UNI "second" "LTagMachine$Operand;" ∈ lw_ws := lw_m (i := 131) (by decide +kernel) (by decide +kernel)
theorem wm_132 : Cond.fieldLink nR_UNI 21 nR_UNI "state" "I" ∈ lw_ws := lw_m (i := 132) (by decide +kernel) (by decide +kernel)
theorem wm_133 : Cond.fieldLink nR_TM 126 nR_UNI "state" "I" ∈ lw_ws := lw_m (i := 133) (by decide +kernel) (by decide +kernel)
theorem wm_134 : Cond.fieldLink nR_UNI 29 nR_UNI "op" "I" ∈ lw_ws := lw_m (i := 134) (by decide +kernel) (by decide +kernel)
theorem wm_135 : Cond.fieldLink nR_TM 187 nR_UNI "op" "I" ∈ lw_ws := lw_m (i := 135) (by decide +kernel) (by decide +kernel)
theorem wm_136 : Cond.fieldLink nR_UNI 32 nR_UNI "address" "I" ∈ lw_ws := lw_m (i := 136) (by decide +kernel) (by decide +kernel)
theorem wm_137 : Cond.fieldLink nR_TM 197 nR_UNI "address" "I" ∈ lw_ws := lw_m (i := 137) (by decide +kernel) (by decide +kernel)
theorem wm_138 : Cond.fieldLink nR_UNI 35 nR_UNI "order" "I" ∈ lw_ws := lw_m (i := 138) (by decide +kernel) (by decide +kernel)
theorem wm_139 : Cond.fieldLink nR_TM 217 nR_UNI "order" "I" ∈ lw_ws := lw_m (i := 139) (by decide +kernel) (by decide +kernel)
theorem wm_140 : Cond.fieldLink nR_UNI 38 nR_UNI "toGo" "I" ∈ lw_ws := lw_m (i := 140) (by decide +kernel) (by decide +kernel)
theorem wm_141 : Cond.fieldLink nR_TM 180 nR_UNI "toGo" "I" ∈ lw_ws := lw_m (i := 141) (by decide +kernel) (by decide +kernel)
theorem wm_142 : Cond.fieldLink nR_UNI 41 nR_UNI "result" "I" ∈ lw_ws := lw_m (i := 142) (by decide +kernel) (by decide +kernel)
theorem wm_143 : Cond.fieldLink nR_TM 170 nR_UNI "result" "I" ∈ lw_ws := lw_m (i := 143) (by decide +kernel) (by decide +kernel)
theorem wm_144 : Cond.fieldLink nR_UNI 44 nR_UNI "raised" "I" ∈ lw_ws := lw_m (i := 144) (by decide +kernel) (by decide +kernel)
theorem wm_145 : Cond.fieldLink nR_TM 176 nR_UNI "raised" "I" ∈ lw_ws := lw_m (i := 145) (by decide +kernel) (by decide +kernel)
theorem wm_171 : Cond.fieldLink nR_REC 39 nR_REC "result" "I" ∈ lw_ws := lw_m (i := 171) (by decide +kernel) (by decide +kernel)
theorem wm_172 : Cond.fieldLink nR_TM 114 nR_REC "result" "I" ∈ lw_ws := lw_m (i := 172) (by decide +kernel) (by decide +kernel)
theorem wm_173 : Cond.fieldLink nR_REC 9 nR_REC "raised" "I" ∈ lw_ws := lw_m (i := 173) (by decide +kernel) (by decide +kernel)
theorem wm_174 : Cond.fieldLink nR_TM 117 nR_REC "raised" "I" ∈ lw_ws := lw_m (i := 174) (by decide +kernel) (by decide +kernel)
theorem wm_182 : Cond.fieldLink nR_TM 18 nR_TM "banks" "I" ∈ lw_ws := lw_m (i := 182) (by decide +kernel) (by decide +kernel)
theorem wm_183 : Cond.fieldLink nR_TM 22 nR_TM "latency" "I" ∈ lw_ws := lw_m (i := 183) (by decide +kernel) (by decide +kernel)
theorem wm_184 : Cond.fieldLink nR_TM 27 nR_TM "program" "[LTagMachine$Instruction;" ∈ lw_ws := lw_m (i := 184) (by decide +kernel) (by decide +kernel)
theorem wm_185 : Cond.fieldLink nR_TM 34 nR_TM "registers" "[LTagMachine$Operand;" ∈ lw_ws := lw_m (i := 185) (by decide +kernel) (by decide +kernel)
theorem wm_186 : Cond.fieldLink nR_TM 46 nR_TM "integers" "[I" ∈ lw_ws := lw_m (i := 186) (by decide +kernel) (by decide +kernel)
theorem wm_187 : Cond.fieldLink nR_TM 50 nR_TM "words" "[I" ∈ lw_ws := lw_m (i := 187) (by decide +kernel) (by decide +kernel)
theorem wm_188 : Cond.fieldLink nR_TM 41 nR_TM "units" "[LTagMachine$Unit;" ∈ lw_ws := lw_m (i := 188) (by decide +kernel) (by decide +kernel)
theorem wm_189 : Cond.fieldLink nR_TM 53 nR_TM "bankInUse" "[Z" ∈ lw_ws := lw_m (i := 189) (by decide +kernel) (by decide +kernel)
theorem wm_190 : Cond.fieldLink nR_TM 60 nR_TM "reckoner" "LTagMachine$Reckoner;" ∈ lw_ws := lw_m (i := 190) (by decide +kernel) (by decide +kernel)
theorem wm_191 : Cond.fieldLink nR_TM 74 nR_TM "instructions" "I" ∈ lw_ws := lw_m (i := 191) (by decide +kernel) (by decide +kernel)
theorem wm_192 : Cond.fieldLink nR_TM 64 nR_TM "mode" "I" ∈ lw_ws := lw_m (i := 192) (by decide +kernel) (by decide +kernel)
theorem wm_193 : Cond.fieldLink nR_TM 91 nR_TM "next" "I" ∈ lw_ws := lw_m (i := 193) (by decide +kernel) (by decide +kernel)
theorem wm_194 : Cond.fieldLink nR_TM 94 nR_TM "noted" "I" ∈ lw_ws := lw_m (i := 194) (by decide +kernel) (by decide +kernel)
theorem wm_195 : Cond.fieldLink nR_TM 129 nR_TM "cycles" "I" ∈ lw_ws := lw_m (i := 195) (by decide +kernel) (by decide +kernel)
theorem wm_196 : Cond.fieldLink nR_TM 132 nR_TM "handedOut" "I" ∈ lw_ws := lw_m (i := 196) (by decide +kernel) (by decide +kernel)
theorem wm_232 : Cond.methodLink nR_TM 67 nN_TM_isRegister ∈ lw_ws := lw_m (i := 232) (by decide +kernel) (by decide +kernel)
theorem wm_233 : Cond.static nN_TM_isRegister ∈ lw_ws := lw_m (i := 233) (by decide +kernel) (by decide +kernel)
set_option maxRecDepth 100000 in
theorem wm_234 : Cond.code nN_TM_isRegister nC_TM_isRegister 1 (some .boolean) ∈ lw_ws := lw_m (i := 234) rfl (by decide +kernel)
theorem wm_243 : Cond.methodLink nR_TM 104 nN_TM_isPlace ∈ lw_ws := lw_m (i := 243) (by decide +kernel) (by decide +kernel)
theorem wm_244 : Cond.static nN_TM_isPlace ∈ lw_ws := lw_m (i := 244) (by decide +kernel) (by decide +kernel)
set_option maxRecDepth 100000 in
theorem wm_245 : Cond.code nN_TM_isPlace nC_TM_isPlace 1 (some .boolean) ∈ lw_ws := lw_m (i := 245) rfl (by decide +kernel)
theorem wm_362 : Cond.methodLink nR_TM 88 nN_TM_isInstruction ∈ lw_ws := lw_m (i := 362) (by decide +kernel) (by decide +kernel)
theorem wm_364 : Cond.instanceMethod nN_TM_isInstruction ∈ lw_ws := lw_m (i := 364) (by decide +kernel) (by decide +kernel)
set_option maxRecDepth 100000 in
theorem wm_365 : Cond.code nN_TM_isInstruction nC_TM_isInstruction 2 (some .boolean) ∈ lw_ws := lw_m (i := 365) rfl (by decide +kernel)
theorem wm_377 : Cond.methodLink nR_TM 135 nN_TM_useBus ∈ lw_ws := lw_m (i := 377) (by decide +kernel) (by decide +kernel)
theorem wm_379 : Cond.instanceMethod nN_TM_useBus ∈ lw_ws := lw_m (i := 379) (by decide +kernel) (by decide +kernel)
set_option maxRecDepth 100000 in
theorem wm_380 : Cond.code nN_TM_useBus nC_TM_useBus 2 none ∈ lw_ws := lw_m (i := 380) rfl (by decide +kernel)
theorem wm_381 : Cond.methodLink nR_TM 163 nN_TM_firstLike ∈ lw_ws := lw_m (i := 381) (by decide +kernel) (by decide +kernel)
theorem wm_383 : Cond.instanceMethod nN_TM_firstLike ∈ lw_ws := lw_m (i := 383) (by decide +kernel) (by decide +kernel)
set_option maxRecDepth 100000 in
theorem wm_384 : Cond.code nN_TM_firstLike nC_TM_firstLike 5 (some .int) ∈ lw_ws := lw_m (i := 384) rfl (by decide +kernel)
theorem wm_385 : Cond.methodLink nR_TM 167 nN_TM_send ∈ lw_ws := lw_m (i := 385) (by decide +kernel) (by decide +kernel)
theorem wm_387 : Cond.instanceMethod nN_TM_send ∈ lw_ws := lw_m (i := 387) (by decide +kernel) (by decide +kernel)
set_option maxRecDepth 100000 in
theorem wm_388 : Cond.code nN_TM_send nC_TM_send 4 none ∈ lw_ws := lw_m (i := 388) rfl (by decide +kernel)
theorem wm_389 : Cond.methodLink nR_TM 171 nN_UNI_hear ∈ lw_ws := lw_m (i := 389) (by decide +kernel) (by decide +kernel)
theorem wm_390 : Cond.instanceMethod nN_UNI_hear ∈ lw_ws := lw_m (i := 390) (by decide +kernel) (by decide +kernel)
theorem wm_391 : Cond.selects nR_UNI nN_UNI_hear nN_UNI_hear ∈ lw_ws := lw_m (i := 391) (by decide +kernel) (by decide +kernel)
set_option maxRecDepth 100000 in
theorem wm_392 : Cond.code nN_UNI_hear nC_UNI_hear 3 none ∈ lw_ws := lw_m (i := 392) rfl (by decide +kernel)
theorem wm_393 : Cond.methodLink nR_UNI 47 nN_OPD_hear ∈ lw_ws := lw_m (i := 393) (by decide +kernel) (by decide +kernel)
theorem wm_394 : Cond.instanceMethod nN_OPD_hear ∈ lw_ws := lw_m (i := 394) (by decide +kernel) (by decide +kernel)
theorem wm_395 : Cond.selects nR_OPD nN_OPD_hear nN_OPD_hear ∈ lw_ws := lw_m (i := 395) (by decide +kernel) (by decide +kernel)
set_option maxRecDepth 100000 in
theorem wm_396 : Cond.code nN_OPD_hear nC_OPD_hear 3 none ∈ lw_ws := lw_m (i := 396) rfl (by decide +kernel)
theorem wm_397 : Cond.methodLink nR_OPD 24 nN_OPD_haveValue ∈ lw_ws := lw_m (i := 397) (by decide +kernel) (by decide +kernel)
theorem wm_398 : Cond.instanceMethod nN_OPD_haveValue ∈ lw_ws := lw_m (i := 398) (by decide +kernel) (by decide +kernel)
theorem wm_399 : Cond.selects nR_OPD nN_OPD_haveValue nN_OPD_haveValue ∈ lw_ws := lw_m (i := 399) (by decide +kernel) (by decide +kernel)
set_option maxRecDepth 100000 in
theorem wm_400 : Cond.code nN_OPD_haveValue nC_OPD_haveValue 2 none ∈ lw_ws := lw_m (i := 400) rfl (by decide +kernel)
theorem wm_401 : Cond.methodLink nR_TM 175 nN_OPD_hear ∈ lw_ws := lw_m (i := 401) (by decide +kernel) (by decide +kernel)
theorem wm_402 : Cond.methodLink nR_TM 177 nN_TM_note ∈ lw_ws := lw_m (i := 402) (by decide +kernel) (by decide +kernel)
theorem wm_404 : Cond.instanceMethod nN_TM_note ∈ lw_ws := lw_m (i := 404) (by decide +kernel) (by decide +kernel)
set_option maxRecDepth 100000 in
theorem wm_405 : Cond.code nN_TM_note nC_TM_note 2 none ∈ lw_ws := lw_m (i := 405) rfl (by decide +kernel)
theorem wm_406 : Cond.methodLink nR_TM 138 nN_TM_work ∈ lw_ws := lw_m (i := 406) (by decide +kernel) (by decide +kernel)
theorem wm_408 : Cond.instanceMethod nN_TM_work ∈ lw_ws := lw_m (i := 408) (by decide +kernel) (by decide +kernel)
set_option maxRecDepth 100000 in
theorem wm_409 : Cond.code nN_TM_work nC_TM_work 3 none ∈ lw_ws := lw_m (i := 409) rfl (by decide +kernel)
theorem wm_410 : Cond.methodLink nR_TM 183 nN_TM_finishWork ∈ lw_ws := lw_m (i := 410) (by decide +kernel) (by decide +kernel)
theorem wm_412 : Cond.instanceMethod nN_TM_finishWork ∈ lw_ws := lw_m (i := 412) (by decide +kernel) (by decide +kernel)
set_option maxRecDepth 100000 in
theorem wm_413 : Cond.code nN_TM_finishWork nC_TM_finishWork 2 none ∈ lw_ws := lw_m (i := 413) rfl (by decide +kernel)
theorem wm_414 : Cond.methodLink nR_TM 190 nN_TM_usesStorage ∈ lw_ws := lw_m (i := 414) (by decide +kernel) (by decide +kernel)
theorem wm_415 : Cond.static nN_TM_usesStorage ∈ lw_ws := lw_m (i := 415) (by decide +kernel) (by decide +kernel)
set_option maxRecDepth 100000 in
theorem wm_416 : Cond.code nN_TM_usesStorage nC_TM_usesStorage 1 (some .boolean) ∈ lw_ws := lw_m (i := 416) rfl (by decide +kernel)
theorem wm_417 : Cond.methodLink nR_TM 193 nN_TM_bankOf ∈ lw_ws := lw_m (i := 417) (by decide +kernel) (by decide +kernel)
theorem wm_419 : Cond.instanceMethod nN_TM_bankOf ∈ lw_ws := lw_m (i := 419) (by decide +kernel) (by decide +kernel)
set_option maxRecDepth 100000 in
theorem wm_420 : Cond.code nN_TM_bankOf nC_TM_bankOf 2 (some .int) ∈ lw_ws := lw_m (i := 420) rfl (by decide +kernel)
theorem wm_421 : Cond.methodLink nR_TM 141 nN_TM_firstReady ∈ lw_ws := lw_m (i := 421) (by decide +kernel) (by decide +kernel)
theorem wm_423 : Cond.instanceMethod nN_TM_firstReady ∈ lw_ws := lw_m (i := 423) (by decide +kernel) (by decide +kernel)
set_option maxRecDepth 100000 in
theorem wm_424 : Cond.code nN_TM_firstReady nC_TM_firstReady 4 (some .int) ∈ lw_ws := lw_m (i := 424) rfl (by decide +kernel)
theorem wm_425 : Cond.methodLink nR_TM 160 nN_UNI_isReady ∈ lw_ws := lw_m (i := 425) (by decide +kernel) (by decide +kernel)
theorem wm_426 : Cond.instanceMethod nN_UNI_isReady ∈ lw_ws := lw_m (i := 426) (by decide +kernel) (by decide +kernel)
theorem wm_427 : Cond.selects nR_UNI nN_UNI_isReady nN_UNI_isReady ∈ lw_ws := lw_m (i := 427) (by decide +kernel) (by decide +kernel)
set_option maxRecDepth 100000 in
theorem wm_428 : Cond.code nN_UNI_isReady nC_UNI_isReady 1 (some .boolean) ∈ lw_ws := lw_m (i := 428) rfl (by decide +kernel)
theorem wm_429 : Cond.methodLink nR_UNI 25 nN_OPD_isAwaited ∈ lw_ws := lw_m (i := 429) (by decide +kernel) (by decide +kernel)
theorem wm_430 : Cond.instanceMethod nN_OPD_isAwaited ∈ lw_ws := lw_m (i := 430) (by decide +kernel) (by decide +kernel)
theorem wm_431 : Cond.selects nR_OPD nN_OPD_isAwaited nN_OPD_isAwaited ∈ lw_ws := lw_m (i := 431) (by decide +kernel) (by decide +kernel)
set_option maxRecDepth 100000 in
theorem wm_432 : Cond.code nN_OPD_isAwaited nC_OPD_isAwaited 1 (some .boolean) ∈ lw_ws := lw_m (i := 432) rfl (by decide +kernel)
theorem wm_433 : Cond.methodLink nR_TM 144 nN_TM_beginStation ∈ lw_ws := lw_m (i := 433) (by decide +kernel) (by decide +kernel)
theorem wm_435 : Cond.instanceMethod nN_TM_beginStation ∈ lw_ws := lw_m (i := 435) (by decide +kernel) (by decide +kernel)
set_option maxRecDepth 100000 in
theorem wm_436 : Cond.code nN_TM_beginStation nC_TM_beginStation 3 none ∈ lw_ws := lw_m (i := 436) rfl (by decide +kernel)
theorem wm_437 : Cond.methodLink nR_TM 110 nN_REC_workOut ∈ lw_ws := lw_m (i := 437) (by decide +kernel) (by decide +kernel)
theorem wm_438 : Cond.instanceMethod nN_REC_workOut ∈ lw_ws := lw_m (i := 438) (by decide +kernel) (by decide +kernel)
theorem wm_439 : Cond.selects nR_REC nN_REC_workOut nN_REC_workOut ∈ lw_ws := lw_m (i := 439) (by decide +kernel) (by decide +kernel)
set_option maxRecDepth 100000 in
theorem wm_440 : Cond.code nN_REC_workOut nC_REC_workOut 4 none ∈ lw_ws := lw_m (i := 440) rfl (by decide +kernel)
theorem wm_441 : Cond.methodLink nR_REC 13 nN_REC_add ∈ lw_ws := lw_m (i := 441) (by decide +kernel) (by decide +kernel)
theorem wm_443 : Cond.instanceMethod nN_REC_add ∈ lw_ws := lw_m (i := 443) (by decide +kernel) (by decide +kernel)
set_option maxRecDepth 100000 in
theorem wm_444 : Cond.code nN_REC_add nC_REC_add 6 none ∈ lw_ws := lw_m (i := 444) rfl (by decide +kernel)
theorem wm_445 : Cond.methodLink nR_REC 27 nN_REC_alignedSum ∈ lw_ws := lw_m (i := 445) (by decide +kernel) (by decide +kernel)
theorem wm_446 : Cond.static nN_REC_alignedSum ∈ lw_ws := lw_m (i := 446) (by decide +kernel) (by decide +kernel)
set_option maxRecDepth 100000 in
theorem wm_447 : Cond.code nN_REC_alignedSum nC_REC_alignedSum 3 (some .int) ∈ lw_ws := lw_m (i := 447) rfl (by decide +kernel)
theorem wm_448 : Cond.methodLink nR_REC 56 nN_REC_characteristic ∈ lw_ws := lw_m (i := 448) (by decide +kernel) (by decide +kernel)
theorem wm_449 : Cond.static nN_REC_characteristic ∈ lw_ws := lw_m (i := 449) (by decide +kernel) (by decide +kernel)
set_option maxRecDepth 100000 in
theorem wm_450 : Cond.code nN_REC_characteristic nC_REC_characteristic 1 (some .int) ∈ lw_ws := lw_m (i := 450) rfl (by decide +kernel)
theorem wm_451 : Cond.methodLink nR_REC 64 nN_REC_aligned ∈ lw_ws := lw_m (i := 451) (by decide +kernel) (by decide +kernel)
theorem wm_452 : Cond.static nN_REC_aligned ∈ lw_ws := lw_m (i := 452) (by decide +kernel) (by decide +kernel)
set_option maxRecDepth 100000 in
theorem wm_453 : Cond.code nN_REC_aligned nC_REC_aligned 4 (some .int) ∈ lw_ws := lw_m (i := 453) rfl (by decide +kernel)
theorem wm_456 : Cond.methodLink nR_REC 42 nN_REC_fraction ∈ lw_ws := lw_m (i := 456) (by decide +kernel) (by decide +kernel)
theorem wm_457 : Cond.static nN_REC_fraction ∈ lw_ws := lw_m (i := 457) (by decide +kernel) (by decide +kernel)
set_option maxRecDepth 100000 in
theorem wm_458 : Cond.code nN_REC_fraction nC_REC_fraction 1 (some .int) ∈ lw_ws := lw_m (i := 458) rfl (by decide +kernel)
theorem wm_459 : Cond.constant nR_REC 55 16777215 ∈ lw_ws := lw_m (i := 459) (by decide +kernel) (by decide +kernel)
theorem wm_460 : Cond.methodLink nR_REC 31 nN_REC_greaterCharacteristic ∈ lw_ws := lw_m (i := 460) (by decide +kernel) (by decide +kernel)
theorem wm_461 : Cond.static nN_REC_greaterCharacteristic ∈ lw_ws := lw_m (i := 461) (by decide +kernel) (by decide +kernel)
set_option maxRecDepth 100000 in
theorem wm_462 : Cond.code nN_REC_greaterCharacteristic nC_REC_greaterCharacteristic 2 (some .int) ∈ lw_ws := lw_m (i := 462) rfl (by decide +kernel)
theorem wm_463 : Cond.constant nR_REC 34 268435456 ∈ lw_ws := lw_m (i := 463) (by decide +kernel) (by decide +kernel)
theorem wm_464 : Cond.methodLink nR_REC 35 nN_REC_finish ∈ lw_ws := lw_m (i := 464) (by decide +kernel) (by decide +kernel)
theorem wm_466 : Cond.instanceMethod nN_REC_finish ∈ lw_ws := lw_m (i := 466) (by decide +kernel) (by decide +kernel)
set_option maxRecDepth 100000 in
theorem wm_467 : Cond.code nN_REC_finish nC_REC_finish 7 none ∈ lw_ws := lw_m (i := 467) rfl (by decide +kernel)
theorem wm_468 : Cond.methodLink nR_REC 52 nN_REC_leadingZeros ∈ lw_ws := lw_m (i := 468) (by decide +kernel) (by decide +kernel)
theorem wm_469 : Cond.static nN_REC_leadingZeros ∈ lw_ws := lw_m (i := 469) (by decide +kernel) (by decide +kernel)
set_option maxRecDepth 100000 in
theorem wm_470 : Cond.code nN_REC_leadingZeros nC_REC_leadingZeros 3 (some .int) ∈ lw_ws := lw_m (i := 470) rfl (by decide +kernel)
theorem wm_471 : Cond.constant nR_REC 17 (-2147483648) ∈ lw_ws := lw_m (i := 471) (by decide +kernel) (by decide +kernel)
theorem wm_472 : Cond.methodLink nR_REC 18 nN_REC_multiply ∈ lw_ws := lw_m (i := 472) (by decide +kernel) (by decide +kernel)
theorem wm_474 : Cond.instanceMethod nN_REC_multiply ∈ lw_ws := lw_m (i := 474) (by decide +kernel) (by decide +kernel)
set_option maxRecDepth 100000 in
theorem wm_475 : Cond.code nN_REC_multiply nC_REC_multiply 5 none ∈ lw_ws := lw_m (i := 475) rfl (by decide +kernel)
theorem wm_476 : Cond.methodLink nR_REC 46 nN_REC_normalFraction ∈ lw_ws := lw_m (i := 476) (by decide +kernel) (by decide +kernel)
theorem wm_477 : Cond.static nN_REC_normalFraction ∈ lw_ws := lw_m (i := 477) (by decide +kernel) (by decide +kernel)
set_option maxRecDepth 100000 in
theorem wm_478 : Cond.code nN_REC_normalFraction nC_REC_normalFraction 2 (some .int) ∈ lw_ws := lw_m (i := 478) rfl (by decide +kernel)
theorem wm_479 : Cond.methodLink nR_REC 49 nN_REC_normalCharacteristic ∈ lw_ws := lw_m (i := 479) (by decide +kernel) (by decide +kernel)
theorem wm_480 : Cond.static nN_REC_normalCharacteristic ∈ lw_ws := lw_m (i := 480) (by decide +kernel) (by decide +kernel)
set_option maxRecDepth 100000 in
theorem wm_481 : Cond.code nN_REC_normalCharacteristic nC_REC_normalCharacteristic 1 (some .int) ∈ lw_ws := lw_m (i := 481) rfl (by decide +kernel)
theorem wm_482 : Cond.methodLink nR_REC 21 nN_REC_divide ∈ lw_ws := lw_m (i := 482) (by decide +kernel) (by decide +kernel)
theorem wm_484 : Cond.instanceMethod nN_REC_divide ∈ lw_ws := lw_m (i := 484) (by decide +kernel) (by decide +kernel)
set_option maxRecDepth 100000 in
theorem wm_485 : Cond.code nN_REC_divide nC_REC_divide 6 none ∈ lw_ws := lw_m (i := 485) rfl (by decide +kernel)
theorem wm_486 : Cond.methodLink nR_REC 24 nN_REC_compare ∈ lw_ws := lw_m (i := 486) (by decide +kernel) (by decide +kernel)
theorem wm_488 : Cond.instanceMethod nN_REC_compare ∈ lw_ws := lw_m (i := 488) (by decide +kernel) (by decide +kernel)
set_option maxRecDepth 100000 in
theorem wm_489 : Cond.code nN_REC_compare nC_REC_compare 4 none ∈ lw_ws := lw_m (i := 489) rfl (by decide +kernel)
theorem wm_490 : Cond.methodLink nR_TM 207 nN_TM_cyclesFor ∈ lw_ws := lw_m (i := 490) (by decide +kernel) (by decide +kernel)
theorem wm_491 : Cond.static nN_TM_cyclesFor ∈ lw_ws := lw_m (i := 491) (by decide +kernel) (by decide +kernel)
set_option maxRecDepth 100000 in
theorem wm_492 : Cond.code nN_TM_cyclesFor nC_TM_cyclesFor 1 (some .int) ∈ lw_ws := lw_m (i := 492) rfl (by decide +kernel)
theorem wm_493 : Cond.methodLink nR_TM 211 nN_UNI_begin ∈ lw_ws := lw_m (i := 493) (by decide +kernel) (by decide +kernel)
theorem wm_494 : Cond.instanceMethod nN_UNI_begin ∈ lw_ws := lw_m (i := 494) (by decide +kernel) (by decide +kernel)
theorem wm_495 : Cond.selects nR_UNI nN_UNI_begin nN_UNI_begin ∈ lw_ws := lw_m (i := 495) (by decide +kernel) (by decide +kernel)
set_option maxRecDepth 100000 in
theorem wm_496 : Cond.code nN_UNI_begin nC_UNI_begin 4 none ∈ lw_ws := lw_m (i := 496) rfl (by decide +kernel)
theorem wm_497 : Cond.methodLink nR_TM 147 nN_TM_nextOfMultiplier ∈ lw_ws := lw_m (i := 497) (by decide +kernel) (by decide +kernel)
theorem wm_499 : Cond.instanceMethod nN_TM_nextOfMultiplier ∈ lw_ws := lw_m (i := 499) (by decide +kernel) (by decide +kernel)
set_option maxRecDepth 100000 in
theorem wm_500 : Cond.code nN_TM_nextOfMultiplier nC_TM_nextOfMultiplier 2 (some .int) ∈ lw_ws := lw_m (i := 500) rfl (by decide +kernel)
theorem wm_501 : Cond.methodLink nR_TM 151 nN_TM_beginStorage ∈ lw_ws := lw_m (i := 501) (by decide +kernel) (by decide +kernel)
theorem wm_503 : Cond.instanceMethod nN_TM_beginStorage ∈ lw_ws := lw_m (i := 503) (by decide +kernel) (by decide +kernel)
set_option maxRecDepth 100000 in
theorem wm_504 : Cond.code nN_TM_beginStorage nC_TM_beginStorage 3 none ∈ lw_ws := lw_m (i := 504) rfl (by decide +kernel)
theorem wm_505 : Cond.methodLink nR_TM 214 nN_TM_earliestAccess ∈ lw_ws := lw_m (i := 505) (by decide +kernel) (by decide +kernel)
theorem wm_507 : Cond.instanceMethod nN_TM_earliestAccess ∈ lw_ws := lw_m (i := 507) (by decide +kernel) (by decide +kernel)
set_option maxRecDepth 100000 in
theorem wm_508 : Cond.code nN_TM_earliestAccess nC_TM_earliestAccess 4 (some .int) ∈ lw_ws := lw_m (i := 508) rfl (by decide +kernel)
theorem wm_509 : Cond.methodLink nR_TM 154 nN_TM_handOut ∈ lw_ws := lw_m (i := 509) (by decide +kernel) (by decide +kernel)
theorem wm_511 : Cond.instanceMethod nN_TM_handOut ∈ lw_ws := lw_m (i := 511) (by decide +kernel) (by decide +kernel)
set_option maxRecDepth 100000 in
theorem wm_512 : Cond.code nN_TM_handOut nC_TM_handOut 3 none ∈ lw_ws := lw_m (i := 512) rfl (by decide +kernel)
theorem wm_513 : Cond.methodLink nR_TM 221 nN_TM_handToBuffer ∈ lw_ws := lw_m (i := 513) (by decide +kernel) (by decide +kernel)
theorem wm_515 : Cond.instanceMethod nN_TM_handToBuffer ∈ lw_ws := lw_m (i := 515) (by decide +kernel) (by decide +kernel)
set_option maxRecDepth 100000 in
theorem wm_516 : Cond.code nN_TM_handToBuffer nC_TM_handToBuffer 4 (some .boolean) ∈ lw_ws := lw_m (i := 516) rfl (by decide +kernel)
theorem wm_517 : Cond.methodLink nR_TM 237 nN_TM_isToBeStored ∈ lw_ws := lw_m (i := 517) (by decide +kernel) (by decide +kernel)
theorem wm_519 : Cond.instanceMethod nN_TM_isToBeStored ∈ lw_ws := lw_m (i := 519) (by decide +kernel) (by decide +kernel)
set_option maxRecDepth 100000 in
theorem wm_520 : Cond.code nN_TM_isToBeStored nC_TM_isToBeStored 3 (some .boolean) ∈ lw_ws := lw_m (i := 520) rfl (by decide +kernel)
theorem wm_521 : Cond.methodLink nR_TM 240 nN_UNI_claim ∈ lw_ws := lw_m (i := 521) (by decide +kernel) (by decide +kernel)
theorem wm_522 : Cond.instanceMethod nN_UNI_claim ∈ lw_ws := lw_m (i := 522) (by decide +kernel) (by decide +kernel)
theorem wm_523 : Cond.selects nR_UNI nN_UNI_claim nN_UNI_claim ∈ lw_ws := lw_m (i := 523) (by decide +kernel) (by decide +kernel)
set_option maxRecDepth 100000 in
theorem wm_524 : Cond.code nN_UNI_claim nC_UNI_claim 4 none ∈ lw_ws := lw_m (i := 524) rfl (by decide +kernel)
theorem wm_525 : Cond.methodLink nR_TM 246 nN_OPD_waitFor ∈ lw_ws := lw_m (i := 525) (by decide +kernel) (by decide +kernel)
theorem wm_526 : Cond.instanceMethod nN_OPD_waitFor ∈ lw_ws := lw_m (i := 526) (by decide +kernel) (by decide +kernel)
theorem wm_527 : Cond.selects nR_OPD nN_OPD_waitFor nN_OPD_waitFor ∈ lw_ws := lw_m (i := 527) (by decide +kernel) (by decide +kernel)
set_option maxRecDepth 100000 in
theorem wm_528 : Cond.code nN_OPD_waitFor nC_OPD_waitFor 2 none ∈ lw_ws := lw_m (i := 528) rfl (by decide +kernel)
theorem wm_529 : Cond.methodLink nR_TM 249 nN_OPD_copy ∈ lw_ws := lw_m (i := 529) (by decide +kernel) (by decide +kernel)
theorem wm_530 : Cond.instanceMethod nN_OPD_copy ∈ lw_ws := lw_m (i := 530) (by decide +kernel) (by decide +kernel)
theorem wm_531 : Cond.selects nR_OPD nN_OPD_copy nN_OPD_copy ∈ lw_ws := lw_m (i := 531) (by decide +kernel) (by decide +kernel)
set_option maxRecDepth 100000 in
theorem wm_532 : Cond.code nN_OPD_copy nC_OPD_copy 2 none ∈ lw_ws := lw_m (i := 532) rfl (by decide +kernel)
theorem wm_533 : Cond.methodLink nR_OPD 16 nN_OPD_isAwaited ∈ lw_ws := lw_m (i := 533) (by decide +kernel) (by decide +kernel)
theorem wm_534 : Cond.methodLink nR_OPD 20 nN_OPD_waitFor ∈ lw_ws := lw_m (i := 534) (by decide +kernel) (by decide +kernel)
theorem wm_535 : Cond.methodLink nR_TM 225 nN_TM_handToStation ∈ lw_ws := lw_m (i := 535) (by decide +kernel) (by decide +kernel)
theorem wm_537 : Cond.instanceMethod nN_TM_handToStation ∈ lw_ws := lw_m (i := 537) (by decide +kernel) (by decide +kernel)
set_option maxRecDepth 100000 in
theorem wm_538 : Cond.code nN_TM_handToStation nC_TM_handToStation 3 (some .boolean) ∈ lw_ws := lw_m (i := 538) rfl (by decide +kernel)
theorem wm_539 : Cond.methodLink nR_TM 228 nN_TM_doAtOnce ∈ lw_ws := lw_m (i := 539) (by decide +kernel) (by decide +kernel)
theorem wm_541 : Cond.instanceMethod nN_TM_doAtOnce ∈ lw_ws := lw_m (i := 541) (by decide +kernel) (by decide +kernel)
set_option maxRecDepth 100000 in
theorem wm_542 : Cond.code nN_TM_doAtOnce nC_TM_doAtOnce 3 (some .boolean) ∈ lw_ws := lw_m (i := 542) rfl (by decide +kernel)
theorem wm_543 : Cond.methodLink nR_TM 256 nN_OPD_isAwaited ∈ lw_ws := lw_m (i := 543) (by decide +kernel) (by decide +kernel)
theorem wm_544 : Cond.methodLink nR_TM 157 nN_TM_allFree ∈ lw_ws := lw_m (i := 544) (by decide +kernel) (by decide +kernel)
theorem wm_546 : Cond.instanceMethod nN_TM_allFree ∈ lw_ws := lw_m (i := 546) (by decide +kernel) (by decide +kernel)
set_option maxRecDepth 100000 in
theorem wm_547 : Cond.code nN_TM_allFree nC_TM_allFree 2 (some .boolean) ∈ lw_ws := lw_m (i := 547) rfl (by decide +kernel)
theorem wm_586 : Cond.fieldLink nR_MOD 72 nR_MOD "banks" "I" ∈ lw_ws := lw_m (i := 586) (by decide +kernel) (by decide +kernel)
theorem wm_587 : Cond.fieldLink nR_MOD 75 nR_MOD "latency" "I" ∈ lw_ws := lw_m (i := 587) (by decide +kernel) (by decide +kernel)
theorem wm_588 : Cond.fieldLink nR_MOD 78 nR_MOD "threw" "I" ∈ lw_ws := lw_m (i := 588) (by decide +kernel) (by decide +kernel)
theorem wm_589 : Cond.fieldLink nR_MOD 148 nR_MOD "many" "I" ∈ lw_ws := lw_m (i := 589) (by decide +kernel) (by decide +kernel)
theorem wm_590 : Cond.fieldLink nR_MOD 7 nR_MOD "op" "[I" ∈ lw_ws := lw_m (i := 590) (by decide +kernel) (by decide +kernel)
theorem wm_591 : Cond.fieldLink nR_MOD 13 nR_MOD "rs" "[I" ∈ lw_ws := lw_m (i := 591) (by decide +kernel) (by decide +kernel)
theorem wm_592 : Cond.fieldLink nR_MOD 16 nR_MOD "ss" "[I" ∈ lw_ws := lw_m (i := 592) (by decide +kernel) (by decide +kernel)
theorem wm_593 : Cond.fieldLink nR_MOD 19 nR_MOD "bs" "[I" ∈ lw_ws := lw_m (i := 593) (by decide +kernel) (by decide +kernel)
theorem wm_594 : Cond.fieldLink nR_MOD 22 nR_MOD "ns" "[I" ∈ lw_ws := lw_m (i := 594) (by decide +kernel) (by decide +kernel)
theorem wm_595 : Cond.fieldLink nR_MOD 25 nR_MOD "state" "I" ∈ lw_ws := lw_m (i := 595) (by decide +kernel) (by decide +kernel)
theorem wm_596 : Cond.fieldLink nR_MOD 155 nR_MOD "next" "I" ∈ lw_ws := lw_m (i := 596) (by decide +kernel) (by decide +kernel)
theorem wm_597 : Cond.fieldLink nR_MOD 158 nR_MOD "noted" "I" ∈ lw_ws := lw_m (i := 597) (by decide +kernel) (by decide +kernel)
theorem wm_598 : Cond.fieldLink nR_MOD 197 nR_MOD "cycles" "I" ∈ lw_ws := lw_m (i := 598) (by decide +kernel) (by decide +kernel)
theorem wm_599 : Cond.fieldLink nR_MOD 178 nR_MOD "handed" "I" ∈ lw_ws := lw_m (i := 599) (by decide +kernel) (by decide +kernel)
theorem wm_600 : Cond.fieldLink nR_MOD 29 nR_MOD "value" "[I" ∈ lw_ws := lw_m (i := 600) (by decide +kernel) (by decide +kernel)
theorem wm_601 : Cond.fieldLink nR_MOD 32 nR_MOD "waits" "[I" ∈ lw_ws := lw_m (i := 601) (by decide +kernel) (by decide +kernel)
theorem wm_602 : Cond.fieldLink nR_MOD 35 nR_MOD "general" "[I" ∈ lw_ws := lw_m (i := 602) (by decide +kernel) (by decide +kernel)
theorem wm_603 : Cond.fieldLink nR_MOD 38 nR_MOD "words" "[I" ∈ lw_ws := lw_m (i := 603) (by decide +kernel) (by decide +kernel)
theorem wm_604 : Cond.fieldLink nR_MOD 41 nR_MOD "place" "[I" ∈ lw_ws := lw_m (i := 604) (by decide +kernel) (by decide +kernel)
theorem wm_605 : Cond.fieldLink nR_MOD 44 nR_MOD "what" "[I" ∈ lw_ws := lw_m (i := 605) (by decide +kernel) (by decide +kernel)
theorem wm_606 : Cond.fieldLink nR_MOD 47 nR_MOD "left" "[I" ∈ lw_ws := lw_m (i := 606) (by decide +kernel) (by decide +kernel)
theorem wm_607 : Cond.fieldLink nR_MOD 50 nR_MOD "gives" "[I" ∈ lw_ws := lw_m (i := 607) (by decide +kernel) (by decide +kernel)
theorem wm_608 : Cond.fieldLink nR_MOD 53 nR_MOD "notes" "[I" ∈ lw_ws := lw_m (i := 608) (by decide +kernel) (by decide +kernel)
theorem wm_609 : Cond.fieldLink nR_MOD 56 nR_MOD "operand" "[I" ∈ lw_ws := lw_m (i := 609) (by decide +kernel) (by decide +kernel)
theorem wm_610 : Cond.fieldLink nR_MOD 59 nR_MOD "tag" "[I" ∈ lw_ws := lw_m (i := 610) (by decide +kernel) (by decide +kernel)
theorem wm_611 : Cond.fieldLink nR_MOD 62 nR_MOD "where" "[I" ∈ lw_ws := lw_m (i := 611) (by decide +kernel) (by decide +kernel)
theorem wm_612 : Cond.fieldLink nR_MOD 65 nR_MOD "order" "[I" ∈ lw_ws := lw_m (i := 612) (by decide +kernel) (by decide +kernel)
theorem wm_613 : Cond.fieldLink nR_MOD 68 nR_MOD "taken" "[Z" ∈ lw_ws := lw_m (i := 613) (by decide +kernel) (by decide +kernel)
theorem wm_614 : Cond.fieldLink nR_MOD 86 nR_MOD "exception" "I" ∈ lw_ws := lw_m (i := 614) (by decide +kernel) (by decide +kernel)
theorem wm_615 : Cond.fieldLink nR_MOD 103 nR_MOD "signed" "J" ∈ lw_ws := lw_m (i := 615) (by decide +kernel) (by decide +kernel)
theorem wm_685 : Cond.methodLink nR_MOD 141 nN_MOD_result ∈ lw_ws := lw_m (i := 685) (by decide +kernel) (by decide +kernel)
theorem wm_687 : Cond.instanceMethod nN_MOD_result ∈ lw_ws := lw_m (i := 687) (by decide +kernel) (by decide +kernel)
set_option maxRecDepth 100000 in
theorem wm_688 : Cond.code nN_MOD_result nC_MOD_result 4 (some .int) ∈ lw_ws := lw_m (i := 688) rfl (by decide +kernel)
theorem wm_689 : Cond.methodLink nR_MOD 129 nN_MOD_sum ∈ lw_ws := lw_m (i := 689) (by decide +kernel) (by decide +kernel)
theorem wm_691 : Cond.instanceMethod nN_MOD_sum ∈ lw_ws := lw_m (i := 691) (by decide +kernel) (by decide +kernel)
set_option maxRecDepth 100000 in
theorem wm_692 : Cond.code nN_MOD_sum nC_MOD_sum 7 (some .int) ∈ lw_ws := lw_m (i := 692) rfl (by decide +kernel)
theorem wm_693 : Cond.methodLink nR_MOD 107 nN_MOD_align ∈ lw_ws := lw_m (i := 693) (by decide +kernel) (by decide +kernel)
theorem wm_695 : Cond.instanceMethod nN_MOD_align ∈ lw_ws := lw_m (i := 695) (by decide +kernel) (by decide +kernel)
set_option maxRecDepth 100000 in
theorem wm_696 : Cond.code nN_MOD_align nC_MOD_align 11 (some .int) ∈ lw_ws := lw_m (i := 696) rfl (by decide +kernel)
theorem wm_697 : Cond.methodLink nR_MOD 91 nN_MOD_charOf ∈ lw_ws := lw_m (i := 697) (by decide +kernel) (by decide +kernel)
theorem wm_698 : Cond.static nN_MOD_charOf ∈ lw_ws := lw_m (i := 698) (by decide +kernel) (by decide +kernel)
set_option maxRecDepth 100000 in
theorem wm_699 : Cond.code nN_MOD_charOf nC_MOD_charOf 1 (some .int) ∈ lw_ws := lw_m (i := 699) rfl (by decide +kernel)
theorem wm_700 : Cond.constantLong nR_MOD 84 16 ∈ lw_ws := lw_m (i := 700) (by decide +kernel) (by decide +kernel)
theorem wm_701 : Cond.methodLink nR_MOD 95 nN_MOD_partOf ∈ lw_ws := lw_m (i := 701) (by decide +kernel) (by decide +kernel)
theorem wm_702 : Cond.static nN_MOD_partOf ∈ lw_ws := lw_m (i := 702) (by decide +kernel) (by decide +kernel)
set_option maxRecDepth 100000 in
theorem wm_703 : Cond.code nN_MOD_partOf nC_MOD_partOf 1 (some .long) ∈ lw_ws := lw_m (i := 703) rfl (by decide +kernel)
theorem wm_704 : Cond.constant nR_MOD 81 16777215 ∈ lw_ws := lw_m (i := 704) (by decide +kernel) (by decide +kernel)
theorem wm_705 : Cond.methodLink nR_MOD 99 nN_MOD_minus ∈ lw_ws := lw_m (i := 705) (by decide +kernel) (by decide +kernel)
theorem wm_706 : Cond.static nN_MOD_minus ∈ lw_ws := lw_m (i := 706) (by decide +kernel) (by decide +kernel)
set_option maxRecDepth 100000 in
theorem wm_707 : Cond.code nN_MOD_minus nC_MOD_minus 1 (some .boolean) ∈ lw_ws := lw_m (i := 707) rfl (by decide +kernel)
theorem wm_708 : Cond.constantLong nR_MOD 111 268435456 ∈ lw_ws := lw_m (i := 708) (by decide +kernel) (by decide +kernel)
theorem wm_709 : Cond.methodLink nR_MOD 113 nN_MOD_finish ∈ lw_ws := lw_m (i := 709) (by decide +kernel) (by decide +kernel)
theorem wm_711 : Cond.instanceMethod nN_MOD_finish ∈ lw_ws := lw_m (i := 711) (by decide +kernel) (by decide +kernel)
set_option maxRecDepth 100000 in
theorem wm_712 : Cond.code nN_MOD_finish nC_MOD_finish 10 (some .int) ∈ lw_ws := lw_m (i := 712) rfl (by decide +kernel)
theorem wm_713 : Cond.constantLong nR_MOD 82 16777216 ∈ lw_ws := lw_m (i := 713) (by decide +kernel) (by decide +kernel)
theorem wm_714 : Cond.constantLong nR_MOD 89 2147483648 ∈ lw_ws := lw_m (i := 714) (by decide +kernel) (by decide +kernel)
theorem wm_715 : Cond.methodLink nR_MOD 118 nN_MOD_other ∈ lw_ws := lw_m (i := 715) (by decide +kernel) (by decide +kernel)
theorem wm_716 : Cond.static nN_MOD_other ∈ lw_ws := lw_m (i := 716) (by decide +kernel) (by decide +kernel)
set_option maxRecDepth 100000 in
theorem wm_717 : Cond.code nN_MOD_other nC_MOD_other 1 (some .int) ∈ lw_ws := lw_m (i := 717) rfl (by decide +kernel)
theorem wm_718 : Cond.constant nR_MOD 117 (-2147483648) ∈ lw_ws := lw_m (i := 718) (by decide +kernel) (by decide +kernel)
theorem wm_719 : Cond.methodLink nR_MOD 132 nN_MOD_product ∈ lw_ws := lw_m (i := 719) (by decide +kernel) (by decide +kernel)
theorem wm_721 : Cond.instanceMethod nN_MOD_product ∈ lw_ws := lw_m (i := 721) (by decide +kernel) (by decide +kernel)
set_option maxRecDepth 100000 in
theorem wm_722 : Cond.code nN_MOD_product nC_MOD_product 6 (some .int) ∈ lw_ws := lw_m (i := 722) rfl (by decide +kernel)
theorem wm_723 : Cond.methodLink nR_MOD 123 nN_MOD_short0 ∈ lw_ws := lw_m (i := 723) (by decide +kernel) (by decide +kernel)
theorem wm_724 : Cond.static nN_MOD_short0 ∈ lw_ws := lw_m (i := 724) (by decide +kernel) (by decide +kernel)
set_option maxRecDepth 100000 in
theorem wm_725 : Cond.code nN_MOD_short0 nC_MOD_short0 4 (some .int) ∈ lw_ws := lw_m (i := 725) rfl (by decide +kernel)
theorem wm_726 : Cond.constantLong nR_MOD 121 1048576 ∈ lw_ws := lw_m (i := 726) (by decide +kernel) (by decide +kernel)
theorem wm_727 : Cond.methodLink nR_MOD 126 nN_MOD_normal ∈ lw_ws := lw_m (i := 727) (by decide +kernel) (by decide +kernel)
theorem wm_728 : Cond.static nN_MOD_normal ∈ lw_ws := lw_m (i := 728) (by decide +kernel) (by decide +kernel)
set_option maxRecDepth 100000 in
theorem wm_729 : Cond.code nN_MOD_normal nC_MOD_normal 5 (some .long) ∈ lw_ws := lw_m (i := 729) rfl (by decide +kernel)
theorem wm_730 : Cond.methodLink nR_MOD 135 nN_MOD_quotient ∈ lw_ws := lw_m (i := 730) (by decide +kernel) (by decide +kernel)
theorem wm_732 : Cond.instanceMethod nN_MOD_quotient ∈ lw_ws := lw_m (i := 732) (by decide +kernel) (by decide +kernel)
set_option maxRecDepth 100000 in
theorem wm_733 : Cond.code nN_MOD_quotient nC_MOD_quotient 6 (some .int) ∈ lw_ws := lw_m (i := 733) rfl (by decide +kernel)
theorem wm_734 : Cond.methodLink nR_MOD 138 nN_MOD_compared ∈ lw_ws := lw_m (i := 734) (by decide +kernel) (by decide +kernel)
theorem wm_736 : Cond.instanceMethod nN_MOD_compared ∈ lw_ws := lw_m (i := 736) (by decide +kernel) (by decide +kernel)
set_option maxRecDepth 100000 in
theorem wm_737 : Cond.code nN_MOD_compared nC_MOD_compared 3 (some .int) ∈ lw_ws := lw_m (i := 737) rfl (by decide +kernel)
theorem wm_746 : Cond.methodLink nR_MOD 145 nN_MOD_isRegister ∈ lw_ws := lw_m (i := 746) (by decide +kernel) (by decide +kernel)
theorem wm_747 : Cond.static nN_MOD_isRegister ∈ lw_ws := lw_m (i := 747) (by decide +kernel) (by decide +kernel)
set_option maxRecDepth 100000 in
theorem wm_748 : Cond.code nN_MOD_isRegister nC_MOD_isRegister 1 (some .boolean) ∈ lw_ws := lw_m (i := 748) rfl (by decide +kernel)
theorem wm_749 : Cond.methodLink nR_MOD 151 nN_MOD_goes ∈ lw_ws := lw_m (i := 749) (by decide +kernel) (by decide +kernel)
theorem wm_751 : Cond.instanceMethod nN_MOD_goes ∈ lw_ws := lw_m (i := 751) (by decide +kernel) (by decide +kernel)
set_option maxRecDepth 100000 in
theorem wm_752 : Cond.code nN_MOD_goes nC_MOD_goes 1 (some .boolean) ∈ lw_ws := lw_m (i := 752) rfl (by decide +kernel)
theorem wm_765 : Cond.methodLink nR_MOD 161 nN_MOD_isPlace ∈ lw_ws := lw_m (i := 765) (by decide +kernel) (by decide +kernel)
theorem wm_766 : Cond.static nN_MOD_isPlace ∈ lw_ws := lw_m (i := 766) (by decide +kernel) (by decide +kernel)
set_option maxRecDepth 100000 in
theorem wm_767 : Cond.code nN_MOD_isPlace nC_MOD_isPlace 1 (some .boolean) ∈ lw_ws := lw_m (i := 767) rfl (by decide +kernel)
theorem wm_772 : Cond.methodLink nR_MOD 212 nN_MOD_cycle ∈ lw_ws := lw_m (i := 772) (by decide +kernel) (by decide +kernel)
theorem wm_774 : Cond.instanceMethod nN_MOD_cycle ∈ lw_ws := lw_m (i := 774) (by decide +kernel) (by decide +kernel)
set_option maxRecDepth 100000 in
theorem wm_775 : Cond.code nN_MOD_cycle nC_MOD_cycle 3 none ∈ lw_ws := lw_m (i := 775) rfl (by decide +kernel)
theorem wm_776 : Cond.methodLink nR_MOD 200 nN_MOD_bus ∈ lw_ws := lw_m (i := 776) (by decide +kernel) (by decide +kernel)
theorem wm_778 : Cond.instanceMethod nN_MOD_bus ∈ lw_ws := lw_m (i := 778) (by decide +kernel) (by decide +kernel)
set_option maxRecDepth 100000 in
theorem wm_779 : Cond.code nN_MOD_bus nC_MOD_bus 4 none ∈ lw_ws := lw_m (i := 779) rfl (by decide +kernel)
theorem wm_780 : Cond.methodLink nR_MOD 164 nN_MOD_turnOf ∈ lw_ws := lw_m (i := 780) (by decide +kernel) (by decide +kernel)
theorem wm_781 : Cond.static nN_MOD_turnOf ∈ lw_ws := lw_m (i := 781) (by decide +kernel) (by decide +kernel)
set_option maxRecDepth 100000 in
theorem wm_782 : Cond.code nN_MOD_turnOf nC_MOD_turnOf 1 (some .int) ∈ lw_ws := lw_m (i := 782) rfl (by decide +kernel)
theorem wm_783 : Cond.methodLink nR_MOD 203 nN_MOD_work ∈ lw_ws := lw_m (i := 783) (by decide +kernel) (by decide +kernel)
theorem wm_785 : Cond.instanceMethod nN_MOD_work ∈ lw_ws := lw_m (i := 785) (by decide +kernel) (by decide +kernel)
set_option maxRecDepth 100000 in
theorem wm_786 : Cond.code nN_MOD_work nC_MOD_work 2 none ∈ lw_ws := lw_m (i := 786) rfl (by decide +kernel)
theorem wm_787 : Cond.methodLink nR_MOD 167 nN_MOD_ends ∈ lw_ws := lw_m (i := 787) (by decide +kernel) (by decide +kernel)
theorem wm_789 : Cond.instanceMethod nN_MOD_ends ∈ lw_ws := lw_m (i := 789) (by decide +kernel) (by decide +kernel)
set_option maxRecDepth 100000 in
theorem wm_790 : Cond.code nN_MOD_ends nC_MOD_ends 2 none ∈ lw_ws := lw_m (i := 790) rfl (by decide +kernel)
theorem wm_791 : Cond.methodLink nR_MOD 206 nN_MOD_begin ∈ lw_ws := lw_m (i := 791) (by decide +kernel) (by decide +kernel)
theorem wm_793 : Cond.instanceMethod nN_MOD_begin ∈ lw_ws := lw_m (i := 793) (by decide +kernel) (by decide +kernel)
set_option maxRecDepth 100000 in
theorem wm_794 : Cond.code nN_MOD_begin nC_MOD_begin 6 none ∈ lw_ws := lw_m (i := 794) rfl (by decide +kernel)
theorem wm_795 : Cond.methodLink nR_MOD 171 nN_MOD_ready ∈ lw_ws := lw_m (i := 795) (by decide +kernel) (by decide +kernel)
theorem wm_797 : Cond.instanceMethod nN_MOD_ready ∈ lw_ws := lw_m (i := 797) (by decide +kernel) (by decide +kernel)
set_option maxRecDepth 100000 in
theorem wm_798 : Cond.code nN_MOD_ready nC_MOD_ready 2 (some .boolean) ∈ lw_ws := lw_m (i := 798) rfl (by decide +kernel)
theorem wm_799 : Cond.methodLink nR_MOD 174 nN_MOD_begins ∈ lw_ws := lw_m (i := 799) (by decide +kernel) (by decide +kernel)
theorem wm_801 : Cond.instanceMethod nN_MOD_begins ∈ lw_ws := lw_m (i := 801) (by decide +kernel) (by decide +kernel)
set_option maxRecDepth 100000 in
theorem wm_802 : Cond.code nN_MOD_begins nC_MOD_begins 6 none ∈ lw_ws := lw_m (i := 802) rfl (by decide +kernel)
theorem wm_803 : Cond.methodLink nR_MOD 209 nN_MOD_handOut ∈ lw_ws := lw_m (i := 803) (by decide +kernel) (by decide +kernel)
theorem wm_805 : Cond.instanceMethod nN_MOD_handOut ∈ lw_ws := lw_m (i := 805) (by decide +kernel) (by decide +kernel)
set_option maxRecDepth 100000 in
theorem wm_806 : Cond.code nN_MOD_handOut nC_MOD_handOut 5 none ∈ lw_ws := lw_m (i := 806) rfl (by decide +kernel)
theorem wm_807 : Cond.methodLink nR_MOD 191 nN_MOD_storage ∈ lw_ws := lw_m (i := 807) (by decide +kernel) (by decide +kernel)
theorem wm_809 : Cond.instanceMethod nN_MOD_storage ∈ lw_ws := lw_m (i := 809) (by decide +kernel) (by decide +kernel)
set_option maxRecDepth 100000 in
theorem wm_810 : Cond.code nN_MOD_storage nC_MOD_storage 4 (some .boolean) ∈ lw_ws := lw_m (i := 810) rfl (by decide +kernel)
theorem wm_811 : Cond.methodLink nR_MOD 181 nN_MOD_free ∈ lw_ws := lw_m (i := 811) (by decide +kernel) (by decide +kernel)
theorem wm_813 : Cond.instanceMethod nN_MOD_free ∈ lw_ws := lw_m (i := 813) (by decide +kernel) (by decide +kernel)
set_option maxRecDepth 100000 in
theorem wm_814 : Cond.code nN_MOD_free nC_MOD_free 5 (some .int) ∈ lw_ws := lw_m (i := 814) rfl (by decide +kernel)
theorem wm_815 : Cond.methodLink nR_MOD 184 nN_MOD_storing ∈ lw_ws := lw_m (i := 815) (by decide +kernel) (by decide +kernel)
theorem wm_817 : Cond.instanceMethod nN_MOD_storing ∈ lw_ws := lw_m (i := 817) (by decide +kernel) (by decide +kernel)
set_option maxRecDepth 100000 in
theorem wm_818 : Cond.code nN_MOD_storing nC_MOD_storing 4 (some .boolean) ∈ lw_ws := lw_m (i := 818) rfl (by decide +kernel)
theorem wm_819 : Cond.methodLink nR_MOD 187 nN_MOD_take ∈ lw_ws := lw_m (i := 819) (by decide +kernel) (by decide +kernel)
theorem wm_821 : Cond.instanceMethod nN_MOD_take ∈ lw_ws := lw_m (i := 821) (by decide +kernel) (by decide +kernel)
set_option maxRecDepth 100000 in
theorem wm_822 : Cond.code nN_MOD_take nC_MOD_take 5 none ∈ lw_ws := lw_m (i := 822) rfl (by decide +kernel)
theorem wm_823 : Cond.methodLink nR_MOD 194 nN_MOD_reckoned ∈ lw_ws := lw_m (i := 823) (by decide +kernel) (by decide +kernel)
theorem wm_825 : Cond.instanceMethod nN_MOD_reckoned ∈ lw_ws := lw_m (i := 825) (by decide +kernel) (by decide +kernel)
set_option maxRecDepth 100000 in
theorem wm_826 : Cond.code nN_MOD_reckoned nC_MOD_reckoned 4 (some .boolean) ∈ lw_ws := lw_m (i := 826) rfl (by decide +kernel)
theorem in_INS : ∀ w ∈ u_ws nR_INS nT_INS 5, w ∈ lw_ws := fun w hw => by
  have hw : w ∈ [Cond.lays nR_INS "TagMachine$Instruction" "op" "I", Cond.lays nR_INS "TagMachine$Instruction" "\x72" "I", Cond.lays nR_INS "TagMachine$Instruction" "s" "I", Cond.lays nR_INS "TagMachine$Instruction" "b" "I", Cond.lays nR_INS "TagMachine$Instruction" "n" "I"] := hw
  simp only [List.mem_cons, List.not_mem_nil, or_false] at hw
  rcases hw with rfl | rfl | rfl | rfl | rfl
  · exact lw_m (i := 92) (by decide +kernel) (by decide +kernel)
  · exact lw_m (i := 94) (by decide +kernel) (by decide +kernel)
  · exact lw_m (i := 96) (by decide +kernel) (by decide +kernel)
  · exact lw_m (i := 98) (by decide +kernel) (by decide +kernel)
  · exact lw_m (i := 100) (by decide +kernel) (by decide +kernel)
theorem in_OPD : ∀ w ∈ u_ws nR_OPD nT_OPD 2, w ∈ lw_ws := fun w hw => by
  have hw : w ∈ [Cond.lays nR_OPD "TagMachine$Operand" "value" "I", Cond.lays nR_OPD "TagMachine$Operand" "awaited" "I"] := hw
  simp only [List.mem_cons, List.not_mem_nil, or_false] at hw
  rcases hw with rfl | rfl
  · exact lw_m (i := 114) (by decide +kernel) (by decide +kernel)
  · exact lw_m (i := 116) (by decide +kernel) (by decide +kernel)
theorem in_REC : ∀ w ∈ u_ws nR_REC nT_REC 2, w ∈ lw_ws := fun w hw => by
  have hw : w ∈ [Cond.lays nR_REC "TagMachine$Reckoner" "result" "I", Cond.lays nR_REC "TagMachine$Reckoner" "raised" "I"] := hw
  simp only [List.mem_cons, List.not_mem_nil, or_false] at hw
  rcases hw with rfl | rfl
  · exact lw_m (i := 175) (by decide +kernel) (by decide +kernel)
  · exact lw_m (i := 177) (by decide +kernel) (by decide +kernel)
theorem in_UNI : ∀ w ∈ u_ws nR_UNI nT_UNI 9, w ∈ lw_ws := fun w hw => by
  have hw : w ∈ [Cond.laysFinal nR_UNI "TagMachine$Unit" "first" "LTagMachine$Operand;", Cond.laysFinal nR_UNI "TagMachine$Unit" "second" "LTagMachine$Operand;", Cond.lays nR_UNI "TagMachine$Unit" "state" "I", Cond.lays nR_UNI "TagMachine$Unit" "op" "I", Cond.lays nR_UNI "TagMachine$Unit" "address" "I", Cond.lays nR_UNI "TagMachine$Unit" "order" "I", Cond.lays nR_UNI "TagMachine$Unit" "toGo" "I", Cond.lays nR_UNI "TagMachine$Unit" "result" "I", Cond.lays nR_UNI "TagMachine$Unit" "raised" "I"] := hw
  simp only [List.mem_cons, List.not_mem_nil, or_false] at hw
  rcases hw with rfl | rfl | rfl | rfl | rfl | rfl | rfl | rfl | rfl
  · exact lw_m (i := 146) (by decide +kernel) (by decide +kernel)
  · exact lw_m (i := 148) (by decide +kernel) (by decide +kernel)
  · exact lw_m (i := 150) (by decide +kernel) (by decide +kernel)
  · exact lw_m (i := 152) (by decide +kernel) (by decide +kernel)
  · exact lw_m (i := 154) (by decide +kernel) (by decide +kernel)
  · exact lw_m (i := 156) (by decide +kernel) (by decide +kernel)
  · exact lw_m (i := 158) (by decide +kernel) (by decide +kernel)
  · exact lw_m (i := 160) (by decide +kernel) (by decide +kernel)
  · exact lw_m (i := 162) (by decide +kernel) (by decide +kernel)
theorem in_TM : ∀ w ∈ u_ws nR_TM nT_TM 15, w ∈ lw_ws := fun w hw => by
  have hw : w ∈ [Cond.laysFinal nR_TM "TagMachine" "banks" "I", Cond.laysFinal nR_TM "TagMachine" "latency" "I", Cond.laysFinal nR_TM "TagMachine" "program" "[LTagMachine$Instruction;", Cond.laysFinal nR_TM "TagMachine" "registers" "[LTagMachine$Operand;", Cond.laysFinal nR_TM "TagMachine" "integers" "[I", Cond.laysFinal nR_TM "TagMachine" "words" "[I", Cond.laysFinal nR_TM "TagMachine" "units" "[LTagMachine$Unit;", Cond.laysFinal nR_TM "TagMachine" "bankInUse" "[Z", Cond.laysFinal nR_TM "TagMachine" "reckoner" "LTagMachine$Reckoner;", Cond.lays nR_TM "TagMachine" "instructions" "I", Cond.lays nR_TM "TagMachine" "mode" "I", Cond.lays nR_TM "TagMachine" "next" "I", Cond.lays nR_TM "TagMachine" "noted" "I", Cond.lays nR_TM "TagMachine" "cycles" "I", Cond.lays nR_TM "TagMachine" "handedOut" "I"] := hw
  simp only [List.mem_cons, List.not_mem_nil, or_false] at hw
  rcases hw with rfl | rfl | rfl | rfl | rfl | rfl | rfl | rfl | rfl | rfl | rfl | rfl | rfl | rfl | rfl
  · exact lw_m (i := 197) (by decide +kernel) (by decide +kernel)
  · exact lw_m (i := 199) (by decide +kernel) (by decide +kernel)
  · exact lw_m (i := 201) (by decide +kernel) (by decide +kernel)
  · exact lw_m (i := 203) (by decide +kernel) (by decide +kernel)
  · exact lw_m (i := 205) (by decide +kernel) (by decide +kernel)
  · exact lw_m (i := 207) (by decide +kernel) (by decide +kernel)
  · exact lw_m (i := 209) (by decide +kernel) (by decide +kernel)
  · exact lw_m (i := 211) (by decide +kernel) (by decide +kernel)
  · exact lw_m (i := 213) (by decide +kernel) (by decide +kernel)
  · exact lw_m (i := 215) (by decide +kernel) (by decide +kernel)
  · exact lw_m (i := 217) (by decide +kernel) (by decide +kernel)
  · exact lw_m (i := 219) (by decide +kernel) (by decide +kernel)
  · exact lw_m (i := 221) (by decide +kernel) (by decide +kernel)
  · exact lw_m (i := 223) (by decide +kernel) (by decide +kernel)
  · exact lw_m (i := 225) (by decide +kernel) (by decide +kernel)
theorem in_MOD : ∀ w ∈ u_ws nR_MOD nT_MOD 30, w ∈ lw_ws := fun w hw => by
  have hw : w ∈ [Cond.laysFinal nR_MOD "TagMachineModel" "banks" "I", Cond.laysFinal nR_MOD "TagMachineModel" "latency" "I", Cond.lays nR_MOD "TagMachineModel" "threw" "I", Cond.lays nR_MOD "TagMachineModel" "many" "I", Cond.laysFinal nR_MOD "TagMachineModel" "op" "[I", Cond.laysFinal nR_MOD "TagMachineModel" "rs" "[I", Cond.laysFinal nR_MOD "TagMachineModel" "ss" "[I", Cond.laysFinal nR_MOD "TagMachineModel" "bs" "[I", Cond.laysFinal nR_MOD "TagMachineModel" "ns" "[I", Cond.lays nR_MOD "TagMachineModel" "state" "I", Cond.lays nR_MOD "TagMachineModel" "next" "I", Cond.lays nR_MOD "TagMachineModel" "noted" "I", Cond.lays nR_MOD "TagMachineModel" "cycles" "I", Cond.lays nR_MOD "TagMachineModel" "handed" "I", Cond.laysFinal nR_MOD "TagMachineModel" "value" "[I", Cond.laysFinal nR_MOD "TagMachineModel" "waits" "[I", Cond.laysFinal nR_MOD "TagMachineModel" "general" "[I", Cond.laysFinal nR_MOD "TagMachineModel" "words" "[I", Cond.laysFinal nR_MOD "TagMachineModel" "place" "[I", Cond.laysFinal nR_MOD "TagMachineModel" "what" "[I", Cond.laysFinal nR_MOD "TagMachineModel" "left" "[I", Cond.laysFinal nR_MOD "TagMachineModel" "gives" "[I", Cond.laysFinal nR_MOD "TagMachineModel" "notes" "[I", Cond.laysFinal nR_MOD "TagMachineModel" "operand" "[I", Cond.laysFinal nR_MOD "TagMachineModel" "tag" "[I", Cond.laysFinal nR_MOD "TagMachineModel" "where" "[I", Cond.laysFinal nR_MOD "TagMachineModel" "order" "[I", Cond.laysFinal nR_MOD "TagMachineModel" "taken" "[Z", Cond.lays nR_MOD "TagMachineModel" "exception" "I", Cond.lays nR_MOD "TagMachineModel" "signed" "J"] := hw
  simp only [List.mem_cons, List.not_mem_nil, or_false] at hw
  rcases hw with rfl | rfl | rfl | rfl | rfl | rfl | rfl | rfl | rfl | rfl | rfl | rfl | rfl | rfl | rfl | rfl | rfl | rfl | rfl | rfl | rfl | rfl | rfl | rfl | rfl | rfl | rfl | rfl | rfl | rfl
  · exact lw_m (i := 616) (by decide +kernel) (by decide +kernel)
  · exact lw_m (i := 618) (by decide +kernel) (by decide +kernel)
  · exact lw_m (i := 620) (by decide +kernel) (by decide +kernel)
  · exact lw_m (i := 622) (by decide +kernel) (by decide +kernel)
  · exact lw_m (i := 624) (by decide +kernel) (by decide +kernel)
  · exact lw_m (i := 626) (by decide +kernel) (by decide +kernel)
  · exact lw_m (i := 628) (by decide +kernel) (by decide +kernel)
  · exact lw_m (i := 630) (by decide +kernel) (by decide +kernel)
  · exact lw_m (i := 632) (by decide +kernel) (by decide +kernel)
  · exact lw_m (i := 634) (by decide +kernel) (by decide +kernel)
  · exact lw_m (i := 636) (by decide +kernel) (by decide +kernel)
  · exact lw_m (i := 638) (by decide +kernel) (by decide +kernel)
  · exact lw_m (i := 640) (by decide +kernel) (by decide +kernel)
  · exact lw_m (i := 642) (by decide +kernel) (by decide +kernel)
  · exact lw_m (i := 644) (by decide +kernel) (by decide +kernel)
  · exact lw_m (i := 646) (by decide +kernel) (by decide +kernel)
  · exact lw_m (i := 648) (by decide +kernel) (by decide +kernel)
  · exact lw_m (i := 650) (by decide +kernel) (by decide +kernel)
  · exact lw_m (i := 652) (by decide +kernel) (by decide +kernel)
  · exact lw_m (i := 654) (by decide +kernel) (by decide +kernel)
  · exact lw_m (i := 656) (by decide +kernel) (by decide +kernel)
  · exact lw_m (i := 658) (by decide +kernel) (by decide +kernel)
  · exact lw_m (i := 660) (by decide +kernel) (by decide +kernel)
  · exact lw_m (i := 662) (by decide +kernel) (by decide +kernel)
  · exact lw_m (i := 664) (by decide +kernel) (by decide +kernel)
  · exact lw_m (i := 666) (by decide +kernel) (by decide +kernel)
  · exact lw_m (i := 668) (by decide +kernel) (by decide +kernel)
  · exact lw_m (i := 670) (by decide +kernel) (by decide +kernel)
  · exact lw_m (i := 672) (by decide +kernel) (by decide +kernel)
  · exact lw_m (i := 674) (by decide +kernel) (by decide +kernel)
theorem wc_MOD_107 : GoodIn lw_ws (wsV nR_MOD 107 (nN_MOD_align).cls nN_MOD_align (.code nN_MOD_align nC_MOD_align 11 (some .int) :: lw_ws)) := gs_V wm_693 wm_695 wm_29 wm_55 wm_696
theorem wc_MOD_113 : GoodIn lw_ws (wsV nR_MOD 113 (nN_MOD_finish).cls nN_MOD_finish (.code nN_MOD_finish nC_MOD_finish 10 (some .int) :: lw_ws)) := gs_V wm_709 wm_711 wm_30 wm_55 wm_712
theorem wc_MOD_118 : GoodIn lw_ws (va_wsS nR_MOD 118 nN_MOD_other (.code nN_MOD_other nC_MOD_other 1 (some .int) :: lw_ws)) := gs_S wm_715 wm_716 wm_55 wm_717
theorem wc_MOD_123 : GoodIn lw_ws (va_wsS nR_MOD 123 nN_MOD_short0 (.code nN_MOD_short0 nC_MOD_short0 4 (some .int) :: lw_ws)) := gs_S wm_723 wm_724 wm_55 wm_725
theorem wc_MOD_126 : GoodIn lw_ws (va_wsS nR_MOD 126 nN_MOD_normal (.code nN_MOD_normal nC_MOD_normal 5 (some .long) :: lw_ws)) := gs_S wm_727 wm_728 wm_55 wm_729
theorem wc_MOD_129 : GoodIn lw_ws (wsV nR_MOD 129 (nN_MOD_sum).cls nN_MOD_sum (.code nN_MOD_sum nC_MOD_sum 7 (some .int) :: lw_ws)) := gs_V wm_689 wm_691 wm_28 wm_55 wm_692
theorem wc_MOD_132 : GoodIn lw_ws (wsV nR_MOD 132 (nN_MOD_product).cls nN_MOD_product (.code nN_MOD_product nC_MOD_product 6 (some .int) :: lw_ws)) := gs_V wm_719 wm_721 wm_31 wm_55 wm_722
theorem wc_MOD_135 : GoodIn lw_ws (wsV nR_MOD 135 (nN_MOD_quotient).cls nN_MOD_quotient (.code nN_MOD_quotient nC_MOD_quotient 6 (some .int) :: lw_ws)) := gs_V wm_730 wm_732 wm_32 wm_55 wm_733
theorem wc_MOD_138 : GoodIn lw_ws (wsV nR_MOD 138 (nN_MOD_compared).cls nN_MOD_compared (.code nN_MOD_compared nC_MOD_compared 3 (some .int) :: lw_ws)) := gs_V wm_734 wm_736 wm_33 wm_55 wm_737
theorem wc_MOD_141 : GoodIn lw_ws (wsV nR_MOD 141 (nN_MOD_result).cls nN_MOD_result (.code nN_MOD_result nC_MOD_result 4 (some .int) :: lw_ws)) := gs_V wm_685 wm_687 wm_27 wm_55 wm_688
theorem wc_MOD_145 : GoodIn lw_ws (va_wsS nR_MOD 145 nN_MOD_isRegister (.code nN_MOD_isRegister nC_MOD_isRegister 1 (some .boolean) :: lw_ws)) := gs_S wm_746 wm_747 wm_55 wm_748
theorem wc_MOD_151 : GoodIn lw_ws (wsV nR_MOD 151 (nN_MOD_goes).cls nN_MOD_goes (.code nN_MOD_goes nC_MOD_goes 1 (some .boolean) :: lw_ws)) := gs_V wm_749 wm_751 wm_34 wm_55 wm_752
theorem wc_MOD_161 : GoodIn lw_ws (va_wsS nR_MOD 161 nN_MOD_isPlace (.code nN_MOD_isPlace nC_MOD_isPlace 1 (some .boolean) :: lw_ws)) := gs_S wm_765 wm_766 wm_55 wm_767
theorem wc_MOD_164 : GoodIn lw_ws (va_wsS nR_MOD 164 nN_MOD_turnOf (.code nN_MOD_turnOf nC_MOD_turnOf 1 (some .int) :: lw_ws)) := gs_S wm_780 wm_781 wm_55 wm_782
theorem wc_MOD_167 : GoodIn lw_ws (wsV nR_MOD 167 (nN_MOD_ends).cls nN_MOD_ends (.code nN_MOD_ends nC_MOD_ends 2 none :: lw_ws)) := gs_V wm_787 wm_789 wm_38 wm_55 wm_790
theorem wc_MOD_171 : GoodIn lw_ws (wsV nR_MOD 171 (nN_MOD_ready).cls nN_MOD_ready (.code nN_MOD_ready nC_MOD_ready 2 (some .boolean) :: lw_ws)) := gs_V wm_795 wm_797 wm_40 wm_55 wm_798
theorem wc_MOD_174 : GoodIn lw_ws (wsV nR_MOD 174 (nN_MOD_begins).cls nN_MOD_begins (.code nN_MOD_begins nC_MOD_begins 6 none :: lw_ws)) := gs_V wm_799 wm_801 wm_41 wm_55 wm_802
theorem wc_MOD_181 : GoodIn lw_ws (wsV nR_MOD 181 (nN_MOD_free).cls nN_MOD_free (.code nN_MOD_free nC_MOD_free 5 (some .int) :: lw_ws)) := gs_V wm_811 wm_813 wm_44 wm_55 wm_814
theorem wc_MOD_184 : GoodIn lw_ws (wsV nR_MOD 184 (nN_MOD_storing).cls nN_MOD_storing (.code nN_MOD_storing nC_MOD_storing 4 (some .boolean) :: lw_ws)) := gs_V wm_815 wm_817 wm_45 wm_55 wm_818
theorem wc_MOD_187 : GoodIn lw_ws (wsV nR_MOD 187 (nN_MOD_take).cls nN_MOD_take (.code nN_MOD_take nC_MOD_take 5 none :: lw_ws)) := gs_V wm_819 wm_821 wm_46 wm_55 wm_822
theorem wc_MOD_191 : GoodIn lw_ws (wsV nR_MOD 191 (nN_MOD_storage).cls nN_MOD_storage (.code nN_MOD_storage nC_MOD_storage 4 (some .boolean) :: lw_ws)) := gs_V wm_807 wm_809 wm_43 wm_55 wm_810
theorem wc_MOD_194 : GoodIn lw_ws (wsV nR_MOD 194 (nN_MOD_reckoned).cls nN_MOD_reckoned (.code nN_MOD_reckoned nC_MOD_reckoned 4 (some .boolean) :: lw_ws)) := gs_V wm_823 wm_825 wm_47 wm_55 wm_826
theorem wc_MOD_200 : GoodIn lw_ws (wsV nR_MOD 200 (nN_MOD_bus).cls nN_MOD_bus (.code nN_MOD_bus nC_MOD_bus 4 none :: lw_ws)) := gs_V wm_776 wm_778 wm_36 wm_55 wm_779
theorem wc_MOD_203 : GoodIn lw_ws (wsV nR_MOD 203 (nN_MOD_work).cls nN_MOD_work (.code nN_MOD_work nC_MOD_work 2 none :: lw_ws)) := gs_V wm_783 wm_785 wm_37 wm_55 wm_786
theorem wc_MOD_206 : GoodIn lw_ws (wsV nR_MOD 206 (nN_MOD_begin).cls nN_MOD_begin (.code nN_MOD_begin nC_MOD_begin 6 none :: lw_ws)) := gs_V wm_791 wm_793 wm_39 wm_55 wm_794
theorem wc_MOD_209 : GoodIn lw_ws (wsV nR_MOD 209 (nN_MOD_handOut).cls nN_MOD_handOut (.code nN_MOD_handOut nC_MOD_handOut 5 none :: lw_ws)) := gs_V wm_803 wm_805 wm_42 wm_55 wm_806
theorem wc_MOD_212 : GoodIn lw_ws (wsV nR_MOD 212 (nN_MOD_cycle).cls nN_MOD_cycle (.code nN_MOD_cycle nC_MOD_cycle 3 none :: lw_ws)) := gs_V wm_772 wm_774 wm_35 wm_55 wm_775
theorem wc_MOD_91 : GoodIn lw_ws (va_wsS nR_MOD 91 nN_MOD_charOf (.code nN_MOD_charOf nC_MOD_charOf 1 (some .int) :: lw_ws)) := gs_S wm_697 wm_698 wm_55 wm_699
theorem wc_MOD_95 : GoodIn lw_ws (va_wsS nR_MOD 95 nN_MOD_partOf (.code nN_MOD_partOf nC_MOD_partOf 1 (some .long) :: lw_ws)) := gs_S wm_701 wm_702 wm_55 wm_703
theorem wc_MOD_99 : GoodIn lw_ws (va_wsS nR_MOD 99 nN_MOD_minus (.code nN_MOD_minus nC_MOD_minus 1 (some .boolean) :: lw_ws)) := gs_S wm_705 wm_706 wm_55 wm_707
theorem wc_OPD_16 : GoodIn lw_ws (wsV nR_OPD 16 (nN_OPD_isAwaited).cls nN_OPD_isAwaited (.code nN_OPD_isAwaited nC_OPD_isAwaited 1 (some .boolean) :: lw_ws)) := gs_V wm_533 wm_430 wm_431 wm_52 wm_432
theorem wc_OPD_20 : GoodIn lw_ws (wsV nR_OPD 20 (nN_OPD_waitFor).cls nN_OPD_waitFor (.code nN_OPD_waitFor nC_OPD_waitFor 2 none :: lw_ws)) := gs_V wm_534 wm_526 wm_527 wm_52 wm_528
theorem wc_OPD_24 : GoodIn lw_ws (wsV nR_OPD 24 (nN_OPD_haveValue).cls nN_OPD_haveValue (.code nN_OPD_haveValue nC_OPD_haveValue 2 none :: lw_ws)) := gs_V wm_397 wm_398 wm_399 wm_52 wm_400
theorem wc_REC_13 : GoodIn lw_ws (wsV nR_REC 13 (nN_REC_add).cls nN_REC_add (.code nN_REC_add nC_REC_add 6 none :: lw_ws)) := gs_V wm_441 wm_443 wm_13 wm_54 wm_444
theorem wc_REC_18 : GoodIn lw_ws (wsV nR_REC 18 (nN_REC_multiply).cls nN_REC_multiply (.code nN_REC_multiply nC_REC_multiply 5 none :: lw_ws)) := gs_V wm_472 wm_474 wm_15 wm_54 wm_475
theorem wc_REC_21 : GoodIn lw_ws (wsV nR_REC 21 (nN_REC_divide).cls nN_REC_divide (.code nN_REC_divide nC_REC_divide 6 none :: lw_ws)) := gs_V wm_482 wm_484 wm_16 wm_54 wm_485
theorem wc_REC_24 : GoodIn lw_ws (wsV nR_REC 24 (nN_REC_compare).cls nN_REC_compare (.code nN_REC_compare nC_REC_compare 4 none :: lw_ws)) := gs_V wm_486 wm_488 wm_17 wm_54 wm_489
theorem wc_REC_27 : GoodIn lw_ws (va_wsS nR_REC 27 nN_REC_alignedSum (.code nN_REC_alignedSum nC_REC_alignedSum 3 (some .int) :: lw_ws)) := gs_S wm_445 wm_446 wm_54 wm_447
theorem wc_REC_31 : GoodIn lw_ws (va_wsS nR_REC 31 nN_REC_greaterCharacteristic (.code nN_REC_greaterCharacteristic nC_REC_greaterCharacteristic 2 (some .int) :: lw_ws)) := gs_S wm_460 wm_461 wm_54 wm_462
theorem wc_REC_35 : GoodIn lw_ws (wsV nR_REC 35 (nN_REC_finish).cls nN_REC_finish (.code nN_REC_finish nC_REC_finish 7 none :: lw_ws)) := gs_V wm_464 wm_466 wm_14 wm_54 wm_467
theorem wc_REC_42 : GoodIn lw_ws (va_wsS nR_REC 42 nN_REC_fraction (.code nN_REC_fraction nC_REC_fraction 1 (some .int) :: lw_ws)) := gs_S wm_456 wm_457 wm_54 wm_458
theorem wc_REC_46 : GoodIn lw_ws (va_wsS nR_REC 46 nN_REC_normalFraction (.code nN_REC_normalFraction nC_REC_normalFraction 2 (some .int) :: lw_ws)) := gs_S wm_476 wm_477 wm_54 wm_478
theorem wc_REC_49 : GoodIn lw_ws (va_wsS nR_REC 49 nN_REC_normalCharacteristic (.code nN_REC_normalCharacteristic nC_REC_normalCharacteristic 1 (some .int) :: lw_ws)) := gs_S wm_479 wm_480 wm_54 wm_481
theorem wc_REC_52 : GoodIn lw_ws (va_wsS nR_REC 52 nN_REC_leadingZeros (.code nN_REC_leadingZeros nC_REC_leadingZeros 3 (some .int) :: lw_ws)) := gs_S wm_468 wm_469 wm_54 wm_470
theorem wc_REC_56 : GoodIn lw_ws (va_wsS nR_REC 56 nN_REC_characteristic (.code nN_REC_characteristic nC_REC_characteristic 1 (some .int) :: lw_ws)) := gs_S wm_448 wm_449 wm_54 wm_450
theorem wc_REC_64 : GoodIn lw_ws (va_wsS nR_REC 64 nN_REC_aligned (.code nN_REC_aligned nC_REC_aligned 4 (some .int) :: lw_ws)) := gs_S wm_451 wm_452 wm_54 wm_453
theorem wc_TM_104 : GoodIn lw_ws (va_wsS nR_TM 104 nN_TM_isPlace (.code nN_TM_isPlace nC_TM_isPlace 1 (some .boolean) :: lw_ws)) := gs_S wm_243 wm_244 wm_49 wm_245
theorem wc_TM_110 : GoodIn lw_ws (wsV nR_TM 110 (nN_REC_workOut).cls nN_REC_workOut (.code nN_REC_workOut nC_REC_workOut 4 none :: lw_ws)) := gs_V wm_437 wm_438 wm_439 wm_54 wm_440
theorem wc_TM_135 : GoodIn lw_ws (wsV nR_TM 135 (nN_TM_useBus).cls nN_TM_useBus (.code nN_TM_useBus nC_TM_useBus 2 none :: lw_ws)) := gs_V wm_377 wm_379 wm_4 wm_49 wm_380
theorem wc_TM_138 : GoodIn lw_ws (wsV nR_TM 138 (nN_TM_work).cls nN_TM_work (.code nN_TM_work nC_TM_work 3 none :: lw_ws)) := gs_V wm_406 wm_408 wm_8 wm_49 wm_409
theorem wc_TM_141 : GoodIn lw_ws (wsV nR_TM 141 (nN_TM_firstReady).cls nN_TM_firstReady (.code nN_TM_firstReady nC_TM_firstReady 4 (some .int) :: lw_ws)) := gs_V wm_421 wm_423 wm_11 wm_49 wm_424
theorem wc_TM_144 : GoodIn lw_ws (wsV nR_TM 144 (nN_TM_beginStation).cls nN_TM_beginStation (.code nN_TM_beginStation nC_TM_beginStation 3 none :: lw_ws)) := gs_V wm_433 wm_435 wm_12 wm_49 wm_436
theorem wc_TM_147 : GoodIn lw_ws (wsV nR_TM 147 (nN_TM_nextOfMultiplier).cls nN_TM_nextOfMultiplier (.code nN_TM_nextOfMultiplier nC_TM_nextOfMultiplier 2 (some .int) :: lw_ws)) := gs_V wm_497 wm_499 wm_18 wm_49 wm_500
theorem wc_TM_151 : GoodIn lw_ws (wsV nR_TM 151 (nN_TM_beginStorage).cls nN_TM_beginStorage (.code nN_TM_beginStorage nC_TM_beginStorage 3 none :: lw_ws)) := gs_V wm_501 wm_503 wm_19 wm_49 wm_504
theorem wc_TM_154 : GoodIn lw_ws (wsV nR_TM 154 (nN_TM_handOut).cls nN_TM_handOut (.code nN_TM_handOut nC_TM_handOut 3 none :: lw_ws)) := gs_V wm_509 wm_511 wm_21 wm_49 wm_512
theorem wc_TM_157 : GoodIn lw_ws (wsV nR_TM 157 (nN_TM_allFree).cls nN_TM_allFree (.code nN_TM_allFree nC_TM_allFree 2 (some .boolean) :: lw_ws)) := gs_V wm_544 wm_546 wm_26 wm_49 wm_547
theorem wc_TM_160 : GoodIn lw_ws (wsV nR_TM 160 (nN_UNI_isReady).cls nN_UNI_isReady (.code nN_UNI_isReady nC_UNI_isReady 1 (some .boolean) :: lw_ws)) := gs_V wm_425 wm_426 wm_427 wm_53 wm_428
theorem wc_TM_163 : GoodIn lw_ws (wsV nR_TM 163 (nN_TM_firstLike).cls nN_TM_firstLike (.code nN_TM_firstLike nC_TM_firstLike 5 (some .int) :: lw_ws)) := gs_V wm_381 wm_383 wm_5 wm_49 wm_384
theorem wc_TM_167 : GoodIn lw_ws (wsV nR_TM 167 (nN_TM_send).cls nN_TM_send (.code nN_TM_send nC_TM_send 4 none :: lw_ws)) := gs_V wm_385 wm_387 wm_6 wm_49 wm_388
theorem wc_TM_171 : GoodIn lw_ws (wsV nR_TM 171 (nN_UNI_hear).cls nN_UNI_hear (.code nN_UNI_hear nC_UNI_hear 3 none :: lw_ws)) := gs_V wm_389 wm_390 wm_391 wm_53 wm_392
theorem wc_TM_175 : GoodIn lw_ws (wsV nR_TM 175 (nN_OPD_hear).cls nN_OPD_hear (.code nN_OPD_hear nC_OPD_hear 3 none :: lw_ws)) := gs_V wm_401 wm_394 wm_395 wm_52 wm_396
theorem wc_TM_177 : GoodIn lw_ws (wsV nR_TM 177 (nN_TM_note).cls nN_TM_note (.code nN_TM_note nC_TM_note 2 none :: lw_ws)) := gs_V wm_402 wm_404 wm_7 wm_49 wm_405
theorem wc_TM_183 : GoodIn lw_ws (wsV nR_TM 183 (nN_TM_finishWork).cls nN_TM_finishWork (.code nN_TM_finishWork nC_TM_finishWork 2 none :: lw_ws)) := gs_V wm_410 wm_412 wm_9 wm_49 wm_413
theorem wc_TM_190 : GoodIn lw_ws (va_wsS nR_TM 190 nN_TM_usesStorage (.code nN_TM_usesStorage nC_TM_usesStorage 1 (some .boolean) :: lw_ws)) := gs_S wm_414 wm_415 wm_49 wm_416
theorem wc_TM_193 : GoodIn lw_ws (wsV nR_TM 193 (nN_TM_bankOf).cls nN_TM_bankOf (.code nN_TM_bankOf nC_TM_bankOf 2 (some .int) :: lw_ws)) := gs_V wm_417 wm_419 wm_10 wm_49 wm_420
theorem wc_TM_207 : GoodIn lw_ws (va_wsS nR_TM 207 nN_TM_cyclesFor (.code nN_TM_cyclesFor nC_TM_cyclesFor 1 (some .int) :: lw_ws)) := gs_S wm_490 wm_491 wm_49 wm_492
theorem wc_TM_211 : GoodIn lw_ws (wsV nR_TM 211 (nN_UNI_begin).cls nN_UNI_begin (.code nN_UNI_begin nC_UNI_begin 4 none :: lw_ws)) := gs_V wm_493 wm_494 wm_495 wm_53 wm_496
theorem wc_TM_214 : GoodIn lw_ws (wsV nR_TM 214 (nN_TM_earliestAccess).cls nN_TM_earliestAccess (.code nN_TM_earliestAccess nC_TM_earliestAccess 4 (some .int) :: lw_ws)) := gs_V wm_505 wm_507 wm_20 wm_49 wm_508
theorem wc_TM_221 : GoodIn lw_ws (wsV nR_TM 221 (nN_TM_handToBuffer).cls nN_TM_handToBuffer (.code nN_TM_handToBuffer nC_TM_handToBuffer 4 (some .boolean) :: lw_ws)) := gs_V wm_513 wm_515 wm_22 wm_49 wm_516
theorem wc_TM_225 : GoodIn lw_ws (wsV nR_TM 225 (nN_TM_handToStation).cls nN_TM_handToStation (.code nN_TM_handToStation nC_TM_handToStation 3 (some .boolean) :: lw_ws)) := gs_V wm_535 wm_537 wm_24 wm_49 wm_538
theorem wc_TM_228 : GoodIn lw_ws (wsV nR_TM 228 (nN_TM_doAtOnce).cls nN_TM_doAtOnce (.code nN_TM_doAtOnce nC_TM_doAtOnce 3 (some .boolean) :: lw_ws)) := gs_V wm_539 wm_541 wm_25 wm_49 wm_542
theorem wc_TM_237 : GoodIn lw_ws (wsV nR_TM 237 (nN_TM_isToBeStored).cls nN_TM_isToBeStored (.code nN_TM_isToBeStored nC_TM_isToBeStored 3 (some .boolean) :: lw_ws)) := gs_V wm_517 wm_519 wm_23 wm_49 wm_520
theorem wc_TM_240 : GoodIn lw_ws (wsV nR_TM 240 (nN_UNI_claim).cls nN_UNI_claim (.code nN_UNI_claim nC_UNI_claim 4 none :: lw_ws)) := gs_V wm_521 wm_522 wm_523 wm_53 wm_524
theorem wc_TM_246 : GoodIn lw_ws (wsV nR_TM 246 (nN_OPD_waitFor).cls nN_OPD_waitFor (.code nN_OPD_waitFor nC_OPD_waitFor 2 none :: lw_ws)) := gs_V wm_525 wm_526 wm_527 wm_52 wm_528
theorem wc_TM_249 : GoodIn lw_ws (wsV nR_TM 249 (nN_OPD_copy).cls nN_OPD_copy (.code nN_OPD_copy nC_OPD_copy 2 none :: lw_ws)) := gs_V wm_529 wm_530 wm_531 wm_52 wm_532
theorem wc_TM_256 : GoodIn lw_ws (wsV nR_TM 256 (nN_OPD_isAwaited).cls nN_OPD_isAwaited (.code nN_OPD_isAwaited nC_OPD_isAwaited 1 (some .boolean) :: lw_ws)) := gs_V wm_543 wm_430 wm_431 wm_52 wm_432
theorem wc_TM_67 : GoodIn lw_ws (va_wsS nR_TM 67 nN_TM_isRegister (.code nN_TM_isRegister nC_TM_isRegister 1 (some .boolean) :: lw_ws)) := gs_S wm_232 wm_233 wm_49 wm_234
theorem wc_TM_88 : GoodIn lw_ws (wsV nR_TM 88 (nN_TM_isInstruction).cls nN_TM_isInstruction (.code nN_TM_isInstruction nC_TM_isInstruction 2 (some .boolean) :: lw_ws)) := gs_V wm_362 wm_364 wm_2 wm_49 wm_365
theorem wc_UNI_25 : GoodIn lw_ws (wsV nR_UNI 25 (nN_OPD_isAwaited).cls nN_OPD_isAwaited (.code nN_OPD_isAwaited nC_OPD_isAwaited 1 (some .boolean) :: lw_ws)) := gs_V wm_429 wm_430 wm_431 wm_52 wm_432
theorem wc_UNI_47 : GoodIn lw_ws (wsV nR_UNI 47 (nN_OPD_hear).cls nN_OPD_hear (.code nN_OPD_hear nC_OPD_hear 3 none :: lw_ws)) := gs_V wm_393 wm_394 wm_395 wm_52 wm_396
end
section
theorem gt_TM {x : cx_T} {σ : sg_T} : (ww_W x σ)[0]? = some (x.2.2 0, .inr (4, ee_T x σ)) := wl_get (by decide)
theorem rc_TM {x : cx_T} : rc_C x 0 nR_TM := fun _ => ⟨_, _, _, gt_TM, rfl, rfl⟩
theorem gt_REC {x : cx_T} {σ : sg_T} : (ww_W x σ)[7]? = some (x.2.2 7, .inr (2, ee_R x σ)) := wl_get (by decide)
theorem rc_REC {x : cx_T} : rc_C x 7 nR_REC := fun _ => ⟨_, _, _, gt_REC, rfl, rfl⟩
theorem gt_MOD {x : cx_T} {σ : sg_T} : (ww_W x σ)[82]? = some (x.2.2 82, .inr (5, ee_D x σ)) := wl_get (by decide)
theorem rc_MOD {x : cx_T} : rc_C x 82 nR_MOD := fun _ => ⟨_, _, _, gt_MOD, rfl, rfl⟩
theorem gt_INS {x : cx_T} {σ : sg_T} {i : Nat} (h : i < 30) : (ww_W x σ)[8 + i]? = some (x.2.2 (8 + i), .inr (0, ee_I x σ i)) := by
  rw [← ee_ins h]
  exact wl_get (by omega)
theorem rc_INS {x : cx_T} {i : Nat} (h : i < 30) : rc_C x (8 + i) nR_INS := fun _ => ⟨_, _, _, gt_INS h, rfl, rfl⟩
theorem gt_OPD {x : cx_T} {σ : sg_T} {i : Nat} (h : i < 31) : (ww_W x σ)[38 + i]? = some (x.2.2 (38 + i), .inr (1, ee_O x σ i)) := by
  rw [← ee_opd h]
  exact wl_get (by omega)
theorem rc_OPD {x : cx_T} {i : Nat} (h : i < 31) : rc_C x (38 + i) nR_OPD := fun _ => ⟨_, _, _, gt_OPD h, rfl, rfl⟩
theorem gt_UNI {x : cx_T} {σ : sg_T} {i : Nat} (h : i < 13) : (ww_W x σ)[69 + i]? = some (x.2.2 (69 + i), .inr (3, ee_U x σ i)) := by
  rw [← ee_uni h]
  exact wl_get (by omega)
theorem rc_UNI {x : cx_T} {i : Nat} (h : i < 13) : rc_C x (69 + i) nR_UNI := fun _ => ⟨_, _, _, gt_UNI h, rfl, rfl⟩
theorem gt_program {x : cx_T} {σ : sg_T} : (ww_W x σ)[1]? = some (x.2.2 1, .inl (x.2.1 2, 30, .inr (.inr (.inr (.inr (fun i => some (x.2.2 (8 + i)))))))) := wl_get (by decide)
theorem gt_registers {x : cx_T} {σ : sg_T} : (ww_W x σ)[2]? = some (x.2.2 2, .inl (x.2.1 3, 5, .inr (.inr (.inr (.inr (fun i => some (x.2.2 (38 + i)))))))) := wl_get (by decide)
theorem gt_integers {x : cx_T} {σ : sg_T} : (ww_W x σ)[3]? = some (x.2.2 3, .inl (x.2.1 0, 4, .inl (σ 10))) := wl_get (by decide)
theorem gt_words {x : cx_T} {σ : sg_T} : (ww_W x σ)[4]? = some (x.2.2 4, .inl (x.2.1 0, 32, .inl (σ 11))) := wl_get (by decide)
theorem gt_units {x : cx_T} {σ : sg_T} : (ww_W x σ)[5]? = some (x.2.2 5, .inl (x.2.1 4, 13, .inr (.inr (.inr (.inr (fun i => some (x.2.2 (69 + i)))))))) := wl_get (by decide)
theorem gt_bankInUse {x : cx_T} {σ : sg_T} : (ww_W x σ)[6]? = some (x.2.2 6, .inl (x.2.1 1, 8, .inl (σ 19))) := wl_get (by decide)
theorem gt_m_op {x : cx_T} {σ : sg_T} : (ww_W x σ)[83]? = some (x.2.2 83, .inl (x.2.1 0, 30, .inl (σ 31))) := wl_get (by decide)
theorem gt_m_rs {x : cx_T} {σ : sg_T} : (ww_W x σ)[84]? = some (x.2.2 84, .inl (x.2.1 0, 30, .inl (σ 32))) := wl_get (by decide)
theorem gt_m_ss {x : cx_T} {σ : sg_T} : (ww_W x σ)[85]? = some (x.2.2 85, .inl (x.2.1 0, 30, .inl (σ 33))) := wl_get (by decide)
theorem gt_m_bs {x : cx_T} {σ : sg_T} : (ww_W x σ)[86]? = some (x.2.2 86, .inl (x.2.1 0, 30, .inl (σ 34))) := wl_get (by decide)
theorem gt_m_ns {x : cx_T} {σ : sg_T} : (ww_W x σ)[87]? = some (x.2.2 87, .inl (x.2.1 0, 30, .inl (σ 35))) := wl_get (by decide)
theorem gt_m_value {x : cx_T} {σ : sg_T} : (ww_W x σ)[88]? = some (x.2.2 88, .inl (x.2.1 0, 5, .inl (σ 36))) := wl_get (by decide)
theorem gt_m_waits {x : cx_T} {σ : sg_T} : (ww_W x σ)[89]? = some (x.2.2 89, .inl (x.2.1 0, 5, .inl (σ 37))) := wl_get (by decide)
theorem gt_m_general {x : cx_T} {σ : sg_T} : (ww_W x σ)[90]? = some (x.2.2 90, .inl (x.2.1 0, 4, .inl (σ 38))) := wl_get (by decide)
theorem gt_m_words {x : cx_T} {σ : sg_T} : (ww_W x σ)[91]? = some (x.2.2 91, .inl (x.2.1 0, 32, .inl (σ 39))) := wl_get (by decide)
theorem gt_m_place {x : cx_T} {σ : sg_T} : (ww_W x σ)[92]? = some (x.2.2 92, .inl (x.2.1 0, 13, .inl (σ 40))) := wl_get (by decide)
theorem gt_m_what {x : cx_T} {σ : sg_T} : (ww_W x σ)[93]? = some (x.2.2 93, .inl (x.2.1 0, 13, .inl (σ 41))) := wl_get (by decide)
theorem gt_m_left {x : cx_T} {σ : sg_T} : (ww_W x σ)[94]? = some (x.2.2 94, .inl (x.2.1 0, 13, .inl (σ 42))) := wl_get (by decide)
theorem gt_m_gives {x : cx_T} {σ : sg_T} : (ww_W x σ)[95]? = some (x.2.2 95, .inl (x.2.1 0, 13, .inl (σ 43))) := wl_get (by decide)
theorem gt_m_notes {x : cx_T} {σ : sg_T} : (ww_W x σ)[96]? = some (x.2.2 96, .inl (x.2.1 0, 13, .inl (σ 44))) := wl_get (by decide)
theorem gt_m_operand {x : cx_T} {σ : sg_T} : (ww_W x σ)[97]? = some (x.2.2 97, .inl (x.2.1 0, 26, .inl (σ 45))) := wl_get (by decide)
theorem gt_m_tag {x : cx_T} {σ : sg_T} : (ww_W x σ)[98]? = some (x.2.2 98, .inl (x.2.1 0, 26, .inl (σ 46))) := wl_get (by decide)
theorem gt_m_where {x : cx_T} {σ : sg_T} : (ww_W x σ)[99]? = some (x.2.2 99, .inl (x.2.1 0, 13, .inl (σ 47))) := wl_get (by decide)
theorem gt_m_order {x : cx_T} {σ : sg_T} : (ww_W x σ)[100]? = some (x.2.2 100, .inl (x.2.1 0, 13, .inl (σ 48))) := wl_get (by decide)
theorem gt_m_taken {x : cx_T} {σ : sg_T} : (ww_W x σ)[101]? = some (x.2.2 101, .inl (x.2.1 1, 8, .inl (σ 49))) := wl_get (by decide)
theorem gt_out {x : cx_T} {σ : sg_T} : (ww_W x σ)[102]? = some (x.2.2 102, .inl (x.2.1 5, 1, .inr (.inl (fun j => if j = 0 then (σ 51 0).toInt64 else 0)))) := wl_get (by decide)
theorem st_TM_instructions {x : cx_T} {σ : sg_T} (v : Int32) : (ww_W x σ).set 0 (x.2.2 0, .inr (4, (ee_T x σ).set 9 (.int v))) = ww_W x (sg_up σ 0 2 v) := by
  unfold ww_W
  rw [wl_set (by decide)]
  exact congrArg _ (eu_0 (j := 0) (by decide) (by simp [e0_L, ee_T, ee_R, sg_up, sg_row]) (fun i => by simp [ee_I, sg_row]) (fun i => by simp [ee_O, sg_row]) (fun i => by simp [ee_U, sg_row]) (by simp [em_L, ee_D, sg_row]))
theorem st_TM_mode {x : cx_T} {σ : sg_T} (v : Int32) : (ww_W x σ).set 0 (x.2.2 0, .inr (4, (ee_T x σ).set 10 (.int v))) = ww_W x (sg_up σ 0 3 v) := by
  unfold ww_W
  rw [wl_set (by decide)]
  exact congrArg _ (eu_0 (j := 0) (by decide) (by simp [e0_L, ee_T, ee_R, sg_up, sg_row]) (fun i => by simp [ee_I, sg_row]) (fun i => by simp [ee_O, sg_row]) (fun i => by simp [ee_U, sg_row]) (by simp [em_L, ee_D, sg_row]))
theorem st_TM_next {x : cx_T} {σ : sg_T} (v : Int32) : (ww_W x σ).set 0 (x.2.2 0, .inr (4, (ee_T x σ).set 11 (.int v))) = ww_W x (sg_up σ 0 4 v) := by
  unfold ww_W
  rw [wl_set (by decide)]
  exact congrArg _ (eu_0 (j := 0) (by decide) (by simp [e0_L, ee_T, ee_R, sg_up, sg_row]) (fun i => by simp [ee_I, sg_row]) (fun i => by simp [ee_O, sg_row]) (fun i => by simp [ee_U, sg_row]) (by simp [em_L, ee_D, sg_row]))
theorem st_TM_noted {x : cx_T} {σ : sg_T} (v : Int32) : (ww_W x σ).set 0 (x.2.2 0, .inr (4, (ee_T x σ).set 12 (.int v))) = ww_W x (sg_up σ 0 5 v) := by
  unfold ww_W
  rw [wl_set (by decide)]
  exact congrArg _ (eu_0 (j := 0) (by decide) (by simp [e0_L, ee_T, ee_R, sg_up, sg_row]) (fun i => by simp [ee_I, sg_row]) (fun i => by simp [ee_O, sg_row]) (fun i => by simp [ee_U, sg_row]) (by simp [em_L, ee_D, sg_row]))
theorem st_TM_cycles {x : cx_T} {σ : sg_T} (v : Int32) : (ww_W x σ).set 0 (x.2.2 0, .inr (4, (ee_T x σ).set 13 (.int v))) = ww_W x (sg_up σ 0 6 v) := by
  unfold ww_W
  rw [wl_set (by decide)]
  exact congrArg _ (eu_0 (j := 0) (by decide) (by simp [e0_L, ee_T, ee_R, sg_up, sg_row]) (fun i => by simp [ee_I, sg_row]) (fun i => by simp [ee_O, sg_row]) (fun i => by simp [ee_U, sg_row]) (by simp [em_L, ee_D, sg_row]))
theorem st_TM_handedOut {x : cx_T} {σ : sg_T} (v : Int32) : (ww_W x σ).set 0 (x.2.2 0, .inr (4, (ee_T x σ).set 14 (.int v))) = ww_W x (sg_up σ 0 7 v) := by
  unfold ww_W
  rw [wl_set (by decide)]
  exact congrArg _ (eu_0 (j := 0) (by decide) (by simp [e0_L, ee_T, ee_R, sg_up, sg_row]) (fun i => by simp [ee_I, sg_row]) (fun i => by simp [ee_O, sg_row]) (fun i => by simp [ee_U, sg_row]) (by simp [em_L, ee_D, sg_row]))
theorem st_REC_result {x : cx_T} {σ : sg_T} (v : Int32) : (ww_W x σ).set 7 (x.2.2 7, .inr (2, (ee_R x σ).set 0 (.int v))) = ww_W x (sg_up σ 20 0 v) := by
  unfold ww_W
  rw [wl_set (by decide)]
  exact congrArg _ (eu_0 (j := 7) (by decide) (by simp [e0_L, ee_T, ee_R, sg_up, sg_row]) (fun i => by simp [ee_I, sg_row]) (fun i => by simp [ee_O, sg_row]) (fun i => by simp [ee_U, sg_row]) (by simp [em_L, ee_D, sg_row]))
theorem st_REC_raised {x : cx_T} {σ : sg_T} (v : Int32) : (ww_W x σ).set 7 (x.2.2 7, .inr (2, (ee_R x σ).set 1 (.int v))) = ww_W x (sg_up σ 20 1 v) := by
  unfold ww_W
  rw [wl_set (by decide)]
  exact congrArg _ (eu_0 (j := 7) (by decide) (by simp [e0_L, ee_T, ee_R, sg_up, sg_row]) (fun i => by simp [ee_I, sg_row]) (fun i => by simp [ee_O, sg_row]) (fun i => by simp [ee_U, sg_row]) (by simp [em_L, ee_D, sg_row]))
theorem st_MOD_threw {x : cx_T} {σ : sg_T} (v : Int32) : (ww_W x σ).set 82 (x.2.2 82, .inr (5, (ee_D x σ).set 2 (.int v))) = ww_W x (sg_up σ 30 9 v) := by
  unfold ww_W
  rw [wl_set (by decide)]
  exact congrArg _ (eu_M (j := 0) (by decide) (by simp [em_L, ee_D, sg_up, sg_row]) (by simp [e0_L, ee_T, ee_R, sg_row]) (fun i => by simp [ee_I, sg_row]) (fun i => by simp [ee_O, sg_row]) (fun i => by simp [ee_U, sg_row]))
theorem st_MOD_many {x : cx_T} {σ : sg_T} (v : Int32) : (ww_W x σ).set 82 (x.2.2 82, .inr (5, (ee_D x σ).set 3 (.int v))) = ww_W x (sg_up σ 30 2 v) := by
  unfold ww_W
  rw [wl_set (by decide)]
  exact congrArg _ (eu_M (j := 0) (by decide) (by simp [em_L, ee_D, sg_up, sg_row]) (by simp [e0_L, ee_T, ee_R, sg_row]) (fun i => by simp [ee_I, sg_row]) (fun i => by simp [ee_O, sg_row]) (fun i => by simp [ee_U, sg_row]))
theorem st_MOD_state {x : cx_T} {σ : sg_T} (v : Int32) : (ww_W x σ).set 82 (x.2.2 82, .inr (5, (ee_D x σ).set 9 (.int v))) = ww_W x (sg_up σ 30 3 v) := by
  unfold ww_W
  rw [wl_set (by decide)]
  exact congrArg _ (eu_M (j := 0) (by decide) (by simp [em_L, ee_D, sg_up, sg_row]) (by simp [e0_L, ee_T, ee_R, sg_row]) (fun i => by simp [ee_I, sg_row]) (fun i => by simp [ee_O, sg_row]) (fun i => by simp [ee_U, sg_row]))
theorem st_MOD_next {x : cx_T} {σ : sg_T} (v : Int32) : (ww_W x σ).set 82 (x.2.2 82, .inr (5, (ee_D x σ).set 10 (.int v))) = ww_W x (sg_up σ 30 4 v) := by
  unfold ww_W
  rw [wl_set (by decide)]
  exact congrArg _ (eu_M (j := 0) (by decide) (by simp [em_L, ee_D, sg_up, sg_row]) (by simp [e0_L, ee_T, ee_R, sg_row]) (fun i => by simp [ee_I, sg_row]) (fun i => by simp [ee_O, sg_row]) (fun i => by simp [ee_U, sg_row]))
theorem st_MOD_noted {x : cx_T} {σ : sg_T} (v : Int32) : (ww_W x σ).set 82 (x.2.2 82, .inr (5, (ee_D x σ).set 11 (.int v))) = ww_W x (sg_up σ 30 5 v) := by
  unfold ww_W
  rw [wl_set (by decide)]
  exact congrArg _ (eu_M (j := 0) (by decide) (by simp [em_L, ee_D, sg_up, sg_row]) (by simp [e0_L, ee_T, ee_R, sg_row]) (fun i => by simp [ee_I, sg_row]) (fun i => by simp [ee_O, sg_row]) (fun i => by simp [ee_U, sg_row]))
theorem st_MOD_cycles {x : cx_T} {σ : sg_T} (v : Int32) : (ww_W x σ).set 82 (x.2.2 82, .inr (5, (ee_D x σ).set 12 (.int v))) = ww_W x (sg_up σ 30 6 v) := by
  unfold ww_W
  rw [wl_set (by decide)]
  exact congrArg _ (eu_M (j := 0) (by decide) (by simp [em_L, ee_D, sg_up, sg_row]) (by simp [e0_L, ee_T, ee_R, sg_row]) (fun i => by simp [ee_I, sg_row]) (fun i => by simp [ee_O, sg_row]) (fun i => by simp [ee_U, sg_row]))
theorem st_MOD_handed {x : cx_T} {σ : sg_T} (v : Int32) : (ww_W x σ).set 82 (x.2.2 82, .inr (5, (ee_D x σ).set 13 (.int v))) = ww_W x (sg_up σ 30 7 v) := by
  unfold ww_W
  rw [wl_set (by decide)]
  exact congrArg _ (eu_M (j := 0) (by decide) (by simp [em_L, ee_D, sg_up, sg_row]) (by simp [e0_L, ee_T, ee_R, sg_row]) (fun i => by simp [ee_I, sg_row]) (fun i => by simp [ee_O, sg_row]) (fun i => by simp [ee_U, sg_row]))
theorem st_MOD_exception {x : cx_T} {σ : sg_T} (v : Int32) : (ww_W x σ).set 82 (x.2.2 82, .inr (5, (ee_D x σ).set 28 (.int v))) = ww_W x (sg_up σ 30 8 v) := by
  unfold ww_W
  rw [wl_set (by decide)]
  exact congrArg _ (eu_M (j := 0) (by decide) (by simp [em_L, ee_D, sg_up, sg_row]) (by simp [e0_L, ee_T, ee_R, sg_row]) (fun i => by simp [ee_I, sg_row]) (fun i => by simp [ee_O, sg_row]) (fun i => by simp [ee_U, sg_row]))
theorem st_MOD_signed {x : cx_T} {σ : sg_T} (v : Int64) (h : v.toInt32.toInt64 = v) : (ww_W x σ).set 82 (x.2.2 82, .inr (5, (ee_D x σ).set 29 (.long v))) = ww_W x (sg_up σ 50 0 v.toInt32) := by
  unfold ww_W
  rw [wl_set (by decide)]
  exact congrArg _ (eu_M (j := 0) (by decide) (by simp [em_L, ee_D, sg_up, sg_row, h]) (by simp [e0_L, ee_T, ee_R, sg_row]) (fun i => by simp [ee_I, sg_row]) (fun i => by simp [ee_O, sg_row]) (fun i => by simp [ee_U, sg_row]))
theorem st_INS_op {x : cx_T} {σ : sg_T} {i : Nat} (hi : i < 30) (v : Int32) : (ww_W x σ).set (8 + i) (x.2.2 (8 + i), .inr (0, (ee_I x σ i).set 0 (.int v))) = ww_W x (sg_up σ 1 i v) := by
  unfold ww_W
  rw [wl_set (by omega)]
  exact congrArg _ (eu_I (j := i) hi (by simp [ee_I, sg_up]) (fun j hj => by simp [ee_I, sg_up, hj]) (by simp [e0_L, ee_T, ee_R, sg_row]) (fun i => by simp [ee_O, sg_row]) (fun i => by simp [ee_U, sg_row]) (by simp [em_L, ee_D, sg_row]))
theorem st_INS_r {x : cx_T} {σ : sg_T} {i : Nat} (hi : i < 30) (v : Int32) : (ww_W x σ).set (8 + i) (x.2.2 (8 + i), .inr (0, (ee_I x σ i).set 1 (.int v))) = ww_W x (sg_up σ 2 i v) := by
  unfold ww_W
  rw [wl_set (by omega)]
  exact congrArg _ (eu_I (j := i) hi (by simp [ee_I, sg_up]) (fun j hj => by simp [ee_I, sg_up, hj]) (by simp [e0_L, ee_T, ee_R, sg_row]) (fun i => by simp [ee_O, sg_row]) (fun i => by simp [ee_U, sg_row]) (by simp [em_L, ee_D, sg_row]))
theorem st_INS_s {x : cx_T} {σ : sg_T} {i : Nat} (hi : i < 30) (v : Int32) : (ww_W x σ).set (8 + i) (x.2.2 (8 + i), .inr (0, (ee_I x σ i).set 2 (.int v))) = ww_W x (sg_up σ 3 i v) := by
  unfold ww_W
  rw [wl_set (by omega)]
  exact congrArg _ (eu_I (j := i) hi (by simp [ee_I, sg_up]) (fun j hj => by simp [ee_I, sg_up, hj]) (by simp [e0_L, ee_T, ee_R, sg_row]) (fun i => by simp [ee_O, sg_row]) (fun i => by simp [ee_U, sg_row]) (by simp [em_L, ee_D, sg_row]))
theorem st_INS_b {x : cx_T} {σ : sg_T} {i : Nat} (hi : i < 30) (v : Int32) : (ww_W x σ).set (8 + i) (x.2.2 (8 + i), .inr (0, (ee_I x σ i).set 3 (.int v))) = ww_W x (sg_up σ 4 i v) := by
  unfold ww_W
  rw [wl_set (by omega)]
  exact congrArg _ (eu_I (j := i) hi (by simp [ee_I, sg_up]) (fun j hj => by simp [ee_I, sg_up, hj]) (by simp [e0_L, ee_T, ee_R, sg_row]) (fun i => by simp [ee_O, sg_row]) (fun i => by simp [ee_U, sg_row]) (by simp [em_L, ee_D, sg_row]))
theorem st_INS_n {x : cx_T} {σ : sg_T} {i : Nat} (hi : i < 30) (v : Int32) : (ww_W x σ).set (8 + i) (x.2.2 (8 + i), .inr (0, (ee_I x σ i).set 4 (.int v))) = ww_W x (sg_up σ 5 i v) := by
  unfold ww_W
  rw [wl_set (by omega)]
  exact congrArg _ (eu_I (j := i) hi (by simp [ee_I, sg_up]) (fun j hj => by simp [ee_I, sg_up, hj]) (by simp [e0_L, ee_T, ee_R, sg_row]) (fun i => by simp [ee_O, sg_row]) (fun i => by simp [ee_U, sg_row]) (by simp [em_L, ee_D, sg_row]))
theorem st_OPD_value {x : cx_T} {σ : sg_T} {i : Nat} (hi : i < 31) (v : Int32) : (ww_W x σ).set (38 + i) (x.2.2 (38 + i), .inr (1, (ee_O x σ i).set 0 (.int v))) = ww_W x (sg_up σ 6 i v) := by
  unfold ww_W
  rw [wl_set (by omega)]
  exact congrArg _ (eu_O (j := i) hi (by simp [ee_O, sg_up]) (fun j hj => by simp [ee_O, sg_up, hj]) (by simp [e0_L, ee_T, ee_R, sg_row]) (fun i => by simp [ee_I, sg_row]) (fun i => by simp [ee_U, sg_row]) (by simp [em_L, ee_D, sg_row]))
theorem st_OPD_awaited {x : cx_T} {σ : sg_T} {i : Nat} (hi : i < 31) (v : Int32) : (ww_W x σ).set (38 + i) (x.2.2 (38 + i), .inr (1, (ee_O x σ i).set 1 (.int v))) = ww_W x (sg_up σ 7 i v) := by
  unfold ww_W
  rw [wl_set (by omega)]
  exact congrArg _ (eu_O (j := i) hi (by simp [ee_O, sg_up]) (fun j hj => by simp [ee_O, sg_up, hj]) (by simp [e0_L, ee_T, ee_R, sg_row]) (fun i => by simp [ee_I, sg_row]) (fun i => by simp [ee_U, sg_row]) (by simp [em_L, ee_D, sg_row]))
theorem st_UNI_state {x : cx_T} {σ : sg_T} {i : Nat} (hi : i < 13) (v : Int32) : (ww_W x σ).set (69 + i) (x.2.2 (69 + i), .inr (3, (ee_U x σ i).set 2 (.int v))) = ww_W x (sg_up σ 12 i v) := by
  unfold ww_W
  rw [wl_set (by omega)]
  exact congrArg _ (eu_U (j := i) hi (by simp [ee_U, sg_up]) (fun j hj => by simp [ee_U, sg_up, hj]) (by simp [e0_L, ee_T, ee_R, sg_row]) (fun i => by simp [ee_I, sg_row]) (fun i => by simp [ee_O, sg_row]) (by simp [em_L, ee_D, sg_row]))
theorem st_UNI_op {x : cx_T} {σ : sg_T} {i : Nat} (hi : i < 13) (v : Int32) : (ww_W x σ).set (69 + i) (x.2.2 (69 + i), .inr (3, (ee_U x σ i).set 3 (.int v))) = ww_W x (sg_up σ 13 i v) := by
  unfold ww_W
  rw [wl_set (by omega)]
  exact congrArg _ (eu_U (j := i) hi (by simp [ee_U, sg_up]) (fun j hj => by simp [ee_U, sg_up, hj]) (by simp [e0_L, ee_T, ee_R, sg_row]) (fun i => by simp [ee_I, sg_row]) (fun i => by simp [ee_O, sg_row]) (by simp [em_L, ee_D, sg_row]))
theorem st_UNI_address {x : cx_T} {σ : sg_T} {i : Nat} (hi : i < 13) (v : Int32) : (ww_W x σ).set (69 + i) (x.2.2 (69 + i), .inr (3, (ee_U x σ i).set 4 (.int v))) = ww_W x (sg_up σ 17 i v) := by
  unfold ww_W
  rw [wl_set (by omega)]
  exact congrArg _ (eu_U (j := i) hi (by simp [ee_U, sg_up]) (fun j hj => by simp [ee_U, sg_up, hj]) (by simp [e0_L, ee_T, ee_R, sg_row]) (fun i => by simp [ee_I, sg_row]) (fun i => by simp [ee_O, sg_row]) (by simp [em_L, ee_D, sg_row]))
theorem st_UNI_order {x : cx_T} {σ : sg_T} {i : Nat} (hi : i < 13) (v : Int32) : (ww_W x σ).set (69 + i) (x.2.2 (69 + i), .inr (3, (ee_U x σ i).set 5 (.int v))) = ww_W x (sg_up σ 18 i v) := by
  unfold ww_W
  rw [wl_set (by omega)]
  exact congrArg _ (eu_U (j := i) hi (by simp [ee_U, sg_up]) (fun j hj => by simp [ee_U, sg_up, hj]) (by simp [e0_L, ee_T, ee_R, sg_row]) (fun i => by simp [ee_I, sg_row]) (fun i => by simp [ee_O, sg_row]) (by simp [em_L, ee_D, sg_row]))
theorem st_UNI_toGo {x : cx_T} {σ : sg_T} {i : Nat} (hi : i < 13) (v : Int32) : (ww_W x σ).set (69 + i) (x.2.2 (69 + i), .inr (3, (ee_U x σ i).set 6 (.int v))) = ww_W x (sg_up σ 14 i v) := by
  unfold ww_W
  rw [wl_set (by omega)]
  exact congrArg _ (eu_U (j := i) hi (by simp [ee_U, sg_up]) (fun j hj => by simp [ee_U, sg_up, hj]) (by simp [e0_L, ee_T, ee_R, sg_row]) (fun i => by simp [ee_I, sg_row]) (fun i => by simp [ee_O, sg_row]) (by simp [em_L, ee_D, sg_row]))
theorem st_UNI_result {x : cx_T} {σ : sg_T} {i : Nat} (hi : i < 13) (v : Int32) : (ww_W x σ).set (69 + i) (x.2.2 (69 + i), .inr (3, (ee_U x σ i).set 7 (.int v))) = ww_W x (sg_up σ 15 i v) := by
  unfold ww_W
  rw [wl_set (by omega)]
  exact congrArg _ (eu_U (j := i) hi (by simp [ee_U, sg_up]) (fun j hj => by simp [ee_U, sg_up, hj]) (by simp [e0_L, ee_T, ee_R, sg_row]) (fun i => by simp [ee_I, sg_row]) (fun i => by simp [ee_O, sg_row]) (by simp [em_L, ee_D, sg_row]))
theorem st_UNI_raised {x : cx_T} {σ : sg_T} {i : Nat} (hi : i < 13) (v : Int32) : (ww_W x σ).set (69 + i) (x.2.2 (69 + i), .inr (3, (ee_U x σ i).set 8 (.int v))) = ww_W x (sg_up σ 16 i v) := by
  unfold ww_W
  rw [wl_set (by omega)]
  exact congrArg _ (eu_U (j := i) hi (by simp [ee_U, sg_up]) (fun j hj => by simp [ee_U, sg_up, hj]) (by simp [e0_L, ee_T, ee_R, sg_row]) (fun i => by simp [ee_I, sg_row]) (fun i => by simp [ee_O, sg_row]) (by simp [em_L, ee_D, sg_row]))
theorem st_integers {x : cx_T} {σ : sg_T} (i : Nat) (v : Int32) : (ww_W x σ).set 3 (x.2.2 3, .inl (x.2.1 0, 4, .inl (upd (σ 10) i v))) = ww_W x (sg_up σ 10 i v) := by
  unfold ww_W
  rw [wl_set (by decide)]
  have q : sg_up σ 10 i v 10 = upd (σ 10) i v := by
    funext a
    simp [sg_up, upd]
  exact congrArg _ (eu_0 (j := 3) (by decide) (by simp [e0_L, ee_T, ee_R, sg_row, q]) (fun i => by simp [ee_I, sg_row]) (fun i => by simp [ee_O, sg_row]) (fun i => by simp [ee_U, sg_row]) (by simp [em_L, ee_D, sg_row]))
theorem st_words {x : cx_T} {σ : sg_T} (i : Nat) (v : Int32) : (ww_W x σ).set 4 (x.2.2 4, .inl (x.2.1 0, 32, .inl (upd (σ 11) i v))) = ww_W x (sg_up σ 11 i v) := by
  unfold ww_W
  rw [wl_set (by decide)]
  have q : sg_up σ 11 i v 11 = upd (σ 11) i v := by
    funext a
    simp [sg_up, upd]
  exact congrArg _ (eu_0 (j := 4) (by decide) (by simp [e0_L, ee_T, ee_R, sg_row, q]) (fun i => by simp [ee_I, sg_row]) (fun i => by simp [ee_O, sg_row]) (fun i => by simp [ee_U, sg_row]) (by simp [em_L, ee_D, sg_row]))
theorem st_bankInUse {x : cx_T} {σ : sg_T} (i : Nat) (v : Int32) : (ww_W x σ).set 6 (x.2.2 6, .inl (x.2.1 1, 8, .inl (upd (σ 19) i v))) = ww_W x (sg_up σ 19 i v) := by
  unfold ww_W
  rw [wl_set (by decide)]
  have q : sg_up σ 19 i v 19 = upd (σ 19) i v := by
    funext a
    simp [sg_up, upd]
  exact congrArg _ (eu_0 (j := 6) (by decide) (by simp [e0_L, ee_T, ee_R, sg_row, q]) (fun i => by simp [ee_I, sg_row]) (fun i => by simp [ee_O, sg_row]) (fun i => by simp [ee_U, sg_row]) (by simp [em_L, ee_D, sg_row]))
theorem st_m_op {x : cx_T} {σ : sg_T} (i : Nat) (v : Int32) : (ww_W x σ).set 83 (x.2.2 83, .inl (x.2.1 0, 30, .inl (upd (σ 31) i v))) = ww_W x (sg_up σ 31 i v) := by
  unfold ww_W
  rw [wl_set (by decide)]
  have q : sg_up σ 31 i v 31 = upd (σ 31) i v := by
    funext a
    simp [sg_up, upd]
  exact congrArg _ (eu_M (j := 1) (by decide) (by simp [em_L, ee_D, sg_row, q]) (by simp [e0_L, ee_T, ee_R, sg_row]) (fun i => by simp [ee_I, sg_row]) (fun i => by simp [ee_O, sg_row]) (fun i => by simp [ee_U, sg_row]))
theorem st_m_rs {x : cx_T} {σ : sg_T} (i : Nat) (v : Int32) : (ww_W x σ).set 84 (x.2.2 84, .inl (x.2.1 0, 30, .inl (upd (σ 32) i v))) = ww_W x (sg_up σ 32 i v) := by
  unfold ww_W
  rw [wl_set (by decide)]
  have q : sg_up σ 32 i v 32 = upd (σ 32) i v := by
    funext a
    simp [sg_up, upd]
  exact congrArg _ (eu_M (j := 2) (by decide) (by simp [em_L, ee_D, sg_row, q]) (by simp [e0_L, ee_T, ee_R, sg_row]) (fun i => by simp [ee_I, sg_row]) (fun i => by simp [ee_O, sg_row]) (fun i => by simp [ee_U, sg_row]))
theorem st_m_ss {x : cx_T} {σ : sg_T} (i : Nat) (v : Int32) : (ww_W x σ).set 85 (x.2.2 85, .inl (x.2.1 0, 30, .inl (upd (σ 33) i v))) = ww_W x (sg_up σ 33 i v) := by
  unfold ww_W
  rw [wl_set (by decide)]
  have q : sg_up σ 33 i v 33 = upd (σ 33) i v := by
    funext a
    simp [sg_up, upd]
  exact congrArg _ (eu_M (j := 3) (by decide) (by simp [em_L, ee_D, sg_row, q]) (by simp [e0_L, ee_T, ee_R, sg_row]) (fun i => by simp [ee_I, sg_row]) (fun i => by simp [ee_O, sg_row]) (fun i => by simp [ee_U, sg_row]))
theorem st_m_bs {x : cx_T} {σ : sg_T} (i : Nat) (v : Int32) : (ww_W x σ).set 86 (x.2.2 86, .inl (x.2.1 0, 30, .inl (upd (σ 34) i v))) = ww_W x (sg_up σ 34 i v) := by
  unfold ww_W
  rw [wl_set (by decide)]
  have q : sg_up σ 34 i v 34 = upd (σ 34) i v := by
    funext a
    simp [sg_up, upd]
  exact congrArg _ (eu_M (j := 4) (by decide) (by simp [em_L, ee_D, sg_row, q]) (by simp [e0_L, ee_T, ee_R, sg_row]) (fun i => by simp [ee_I, sg_row]) (fun i => by simp [ee_O, sg_row]) (fun i => by simp [ee_U, sg_row]))
theorem st_m_ns {x : cx_T} {σ : sg_T} (i : Nat) (v : Int32) : (ww_W x σ).set 87 (x.2.2 87, .inl (x.2.1 0, 30, .inl (upd (σ 35) i v))) = ww_W x (sg_up σ 35 i v) := by
  unfold ww_W
  rw [wl_set (by decide)]
  have q : sg_up σ 35 i v 35 = upd (σ 35) i v := by
    funext a
    simp [sg_up, upd]
  exact congrArg _ (eu_M (j := 5) (by decide) (by simp [em_L, ee_D, sg_row, q]) (by simp [e0_L, ee_T, ee_R, sg_row]) (fun i => by simp [ee_I, sg_row]) (fun i => by simp [ee_O, sg_row]) (fun i => by simp [ee_U, sg_row]))
theorem st_m_value {x : cx_T} {σ : sg_T} (i : Nat) (v : Int32) : (ww_W x σ).set 88 (x.2.2 88, .inl (x.2.1 0, 5, .inl (upd (σ 36) i v))) = ww_W x (sg_up σ 36 i v) := by
  unfold ww_W
  rw [wl_set (by decide)]
  have q : sg_up σ 36 i v 36 = upd (σ 36) i v := by
    funext a
    simp [sg_up, upd]
  exact congrArg _ (eu_M (j := 6) (by decide) (by simp [em_L, ee_D, sg_row, q]) (by simp [e0_L, ee_T, ee_R, sg_row]) (fun i => by simp [ee_I, sg_row]) (fun i => by simp [ee_O, sg_row]) (fun i => by simp [ee_U, sg_row]))
theorem st_m_waits {x : cx_T} {σ : sg_T} (i : Nat) (v : Int32) : (ww_W x σ).set 89 (x.2.2 89, .inl (x.2.1 0, 5, .inl (upd (σ 37) i v))) = ww_W x (sg_up σ 37 i v) := by
  unfold ww_W
  rw [wl_set (by decide)]
  have q : sg_up σ 37 i v 37 = upd (σ 37) i v := by
    funext a
    simp [sg_up, upd]
  exact congrArg _ (eu_M (j := 7) (by decide) (by simp [em_L, ee_D, sg_row, q]) (by simp [e0_L, ee_T, ee_R, sg_row]) (fun i => by simp [ee_I, sg_row]) (fun i => by simp [ee_O, sg_row]) (fun i => by simp [ee_U, sg_row]))
theorem st_m_general {x : cx_T} {σ : sg_T} (i : Nat) (v : Int32) : (ww_W x σ).set 90 (x.2.2 90, .inl (x.2.1 0, 4, .inl (upd (σ 38) i v))) = ww_W x (sg_up σ 38 i v) := by
  unfold ww_W
  rw [wl_set (by decide)]
  have q : sg_up σ 38 i v 38 = upd (σ 38) i v := by
    funext a
    simp [sg_up, upd]
  exact congrArg _ (eu_M (j := 8) (by decide) (by simp [em_L, ee_D, sg_row, q]) (by simp [e0_L, ee_T, ee_R, sg_row]) (fun i => by simp [ee_I, sg_row]) (fun i => by simp [ee_O, sg_row]) (fun i => by simp [ee_U, sg_row]))
theorem st_m_words {x : cx_T} {σ : sg_T} (i : Nat) (v : Int32) : (ww_W x σ).set 91 (x.2.2 91, .inl (x.2.1 0, 32, .inl (upd (σ 39) i v))) = ww_W x (sg_up σ 39 i v) := by
  unfold ww_W
  rw [wl_set (by decide)]
  have q : sg_up σ 39 i v 39 = upd (σ 39) i v := by
    funext a
    simp [sg_up, upd]
  exact congrArg _ (eu_M (j := 9) (by decide) (by simp [em_L, ee_D, sg_row, q]) (by simp [e0_L, ee_T, ee_R, sg_row]) (fun i => by simp [ee_I, sg_row]) (fun i => by simp [ee_O, sg_row]) (fun i => by simp [ee_U, sg_row]))
theorem st_m_place {x : cx_T} {σ : sg_T} (i : Nat) (v : Int32) : (ww_W x σ).set 92 (x.2.2 92, .inl (x.2.1 0, 13, .inl (upd (σ 40) i v))) = ww_W x (sg_up σ 40 i v) := by
  unfold ww_W
  rw [wl_set (by decide)]
  have q : sg_up σ 40 i v 40 = upd (σ 40) i v := by
    funext a
    simp [sg_up, upd]
  exact congrArg _ (eu_M (j := 10) (by decide) (by simp [em_L, ee_D, sg_row, q]) (by simp [e0_L, ee_T, ee_R, sg_row]) (fun i => by simp [ee_I, sg_row]) (fun i => by simp [ee_O, sg_row]) (fun i => by simp [ee_U, sg_row]))
theorem st_m_what {x : cx_T} {σ : sg_T} (i : Nat) (v : Int32) : (ww_W x σ).set 93 (x.2.2 93, .inl (x.2.1 0, 13, .inl (upd (σ 41) i v))) = ww_W x (sg_up σ 41 i v) := by
  unfold ww_W
  rw [wl_set (by decide)]
  have q : sg_up σ 41 i v 41 = upd (σ 41) i v := by
    funext a
    simp [sg_up, upd]
  exact congrArg _ (eu_M (j := 11) (by decide) (by simp [em_L, ee_D, sg_row, q]) (by simp [e0_L, ee_T, ee_R, sg_row]) (fun i => by simp [ee_I, sg_row]) (fun i => by simp [ee_O, sg_row]) (fun i => by simp [ee_U, sg_row]))
theorem st_m_left {x : cx_T} {σ : sg_T} (i : Nat) (v : Int32) : (ww_W x σ).set 94 (x.2.2 94, .inl (x.2.1 0, 13, .inl (upd (σ 42) i v))) = ww_W x (sg_up σ 42 i v) := by
  unfold ww_W
  rw [wl_set (by decide)]
  have q : sg_up σ 42 i v 42 = upd (σ 42) i v := by
    funext a
    simp [sg_up, upd]
  exact congrArg _ (eu_M (j := 12) (by decide) (by simp [em_L, ee_D, sg_row, q]) (by simp [e0_L, ee_T, ee_R, sg_row]) (fun i => by simp [ee_I, sg_row]) (fun i => by simp [ee_O, sg_row]) (fun i => by simp [ee_U, sg_row]))
theorem st_m_gives {x : cx_T} {σ : sg_T} (i : Nat) (v : Int32) : (ww_W x σ).set 95 (x.2.2 95, .inl (x.2.1 0, 13, .inl (upd (σ 43) i v))) = ww_W x (sg_up σ 43 i v) := by
  unfold ww_W
  rw [wl_set (by decide)]
  have q : sg_up σ 43 i v 43 = upd (σ 43) i v := by
    funext a
    simp [sg_up, upd]
  exact congrArg _ (eu_M (j := 13) (by decide) (by simp [em_L, ee_D, sg_row, q]) (by simp [e0_L, ee_T, ee_R, sg_row]) (fun i => by simp [ee_I, sg_row]) (fun i => by simp [ee_O, sg_row]) (fun i => by simp [ee_U, sg_row]))
theorem st_m_notes {x : cx_T} {σ : sg_T} (i : Nat) (v : Int32) : (ww_W x σ).set 96 (x.2.2 96, .inl (x.2.1 0, 13, .inl (upd (σ 44) i v))) = ww_W x (sg_up σ 44 i v) := by
  unfold ww_W
  rw [wl_set (by decide)]
  have q : sg_up σ 44 i v 44 = upd (σ 44) i v := by
    funext a
    simp [sg_up, upd]
  exact congrArg _ (eu_M (j := 14) (by decide) (by simp [em_L, ee_D, sg_row, q]) (by simp [e0_L, ee_T, ee_R, sg_row]) (fun i => by simp [ee_I, sg_row]) (fun i => by simp [ee_O, sg_row]) (fun i => by simp [ee_U, sg_row]))
theorem st_m_operand {x : cx_T} {σ : sg_T} (i : Nat) (v : Int32) : (ww_W x σ).set 97 (x.2.2 97, .inl (x.2.1 0, 26, .inl (upd (σ 45) i v))) = ww_W x (sg_up σ 45 i v) := by
  unfold ww_W
  rw [wl_set (by decide)]
  have q : sg_up σ 45 i v 45 = upd (σ 45) i v := by
    funext a
    simp [sg_up, upd]
  exact congrArg _ (eu_M (j := 15) (by decide) (by simp [em_L, ee_D, sg_row, q]) (by simp [e0_L, ee_T, ee_R, sg_row]) (fun i => by simp [ee_I, sg_row]) (fun i => by simp [ee_O, sg_row]) (fun i => by simp [ee_U, sg_row]))
theorem st_m_tag {x : cx_T} {σ : sg_T} (i : Nat) (v : Int32) : (ww_W x σ).set 98 (x.2.2 98, .inl (x.2.1 0, 26, .inl (upd (σ 46) i v))) = ww_W x (sg_up σ 46 i v) := by
  unfold ww_W
  rw [wl_set (by decide)]
  have q : sg_up σ 46 i v 46 = upd (σ 46) i v := by
    funext a
    simp [sg_up, upd]
  exact congrArg _ (eu_M (j := 16) (by decide) (by simp [em_L, ee_D, sg_row, q]) (by simp [e0_L, ee_T, ee_R, sg_row]) (fun i => by simp [ee_I, sg_row]) (fun i => by simp [ee_O, sg_row]) (fun i => by simp [ee_U, sg_row]))
theorem st_m_where {x : cx_T} {σ : sg_T} (i : Nat) (v : Int32) : (ww_W x σ).set 99 (x.2.2 99, .inl (x.2.1 0, 13, .inl (upd (σ 47) i v))) = ww_W x (sg_up σ 47 i v) := by
  unfold ww_W
  rw [wl_set (by decide)]
  have q : sg_up σ 47 i v 47 = upd (σ 47) i v := by
    funext a
    simp [sg_up, upd]
  exact congrArg _ (eu_M (j := 17) (by decide) (by simp [em_L, ee_D, sg_row, q]) (by simp [e0_L, ee_T, ee_R, sg_row]) (fun i => by simp [ee_I, sg_row]) (fun i => by simp [ee_O, sg_row]) (fun i => by simp [ee_U, sg_row]))
theorem st_m_order {x : cx_T} {σ : sg_T} (i : Nat) (v : Int32) : (ww_W x σ).set 100 (x.2.2 100, .inl (x.2.1 0, 13, .inl (upd (σ 48) i v))) = ww_W x (sg_up σ 48 i v) := by
  unfold ww_W
  rw [wl_set (by decide)]
  have q : sg_up σ 48 i v 48 = upd (σ 48) i v := by
    funext a
    simp [sg_up, upd]
  exact congrArg _ (eu_M (j := 18) (by decide) (by simp [em_L, ee_D, sg_row, q]) (by simp [e0_L, ee_T, ee_R, sg_row]) (fun i => by simp [ee_I, sg_row]) (fun i => by simp [ee_O, sg_row]) (fun i => by simp [ee_U, sg_row]))
theorem st_m_taken {x : cx_T} {σ : sg_T} (i : Nat) (v : Int32) : (ww_W x σ).set 101 (x.2.2 101, .inl (x.2.1 1, 8, .inl (upd (σ 49) i v))) = ww_W x (sg_up σ 49 i v) := by
  unfold ww_W
  rw [wl_set (by decide)]
  have q : sg_up σ 49 i v 49 = upd (σ 49) i v := by
    funext a
    simp [sg_up, upd]
  exact congrArg _ (eu_M (j := 19) (by decide) (by simp [em_L, ee_D, sg_row, q]) (by simp [e0_L, ee_T, ee_R, sg_row]) (fun i => by simp [ee_I, sg_row]) (fun i => by simp [ee_O, sg_row]) (fun i => by simp [ee_U, sg_row]))
theorem st_out {x : cx_T} {σ : sg_T} (v : Int64) (h : v.toInt32.toInt64 = v) : (ww_W x σ).set 102 (x.2.2 102, .inl (x.2.1 5, 1, .inr (.inl (fun j => if j = 0 then v else 0)))) = ww_W x (sg_up σ 51 0 v.toInt32) := by
  unfold ww_W
  rw [wl_set (by decide)]
  exact congrArg _ (eu_M (j := 20) (by decide) (by simp [em_L, ee_D, sg_row, sg_eq, h]) (by simp [e0_L, ee_T, ee_R, sg_row]) (fun i => by simp [ee_I, sg_row]) (fun i => by simp [ee_O, sg_row]) (fun i => by simp [ee_U, sg_row]))
end
section
section AR
variable {p : Program} {l : Launch} {e : Env} {R : Room} {s : State} {m : MethodId} {args : Array Value} {below : List Frame} {meth : Method} {c : Code} {H : Heap} {locs : List Loc} {cells slots : Nat} {Q : State → Prop} {x : cx_T} {σ : sg_T} {b : ByteArray} {n : Nat} {ret : Option FieldType} {own : String} {pc : Nat} {ls : Array Slot} {rest : List Value}
theorem al_program (F : fx_F p s m args meth c b n ret own) (hw : ww_P x s H locs σ) {w : Int32} (hin : ib_I w 30 = true) (hdg : decode b pc = .ok (.aaload, 1)) (kk : W p l e R s m args below meth c H locs cells slots Q (F0 m (pc + 1) ls (.ref (x.2.2 (8 + tn_I w)) :: rest))) : W p l e R s m args below meth c H locs cells slots Q (F0 m pc ls (.int w :: .ref (x.2.2 1) :: rest)) := by
  obtain ⟨hx, hb, hml, hr, hlk, hown, hT⟩ := F
  obtain ⟨hP, hD, hK, hS⟩ := hw
  exact va_aldq hx hb hK hP 1 2 gt_program rfl (ib_in hin) hdg kk
theorem al_registers (F : fx_F p s m args meth c b n ret own) (hw : ww_P x s H locs σ) {w : Int32} (hin : ib_I w 5 = true) (hdg : decode b pc = .ok (.aaload, 1)) (kk : W p l e R s m args below meth c H locs cells slots Q (F0 m (pc + 1) ls (.ref (x.2.2 (38 + tn_I w)) :: rest))) : W p l e R s m args below meth c H locs cells slots Q (F0 m pc ls (.int w :: .ref (x.2.2 2) :: rest)) := by
  obtain ⟨hx, hb, hml, hr, hlk, hown, hT⟩ := F
  obtain ⟨hP, hD, hK, hS⟩ := hw
  exact va_aldq hx hb hK hP 2 3 gt_registers rfl (ib_in hin) hdg kk
theorem al_units (F : fx_F p s m args meth c b n ret own) (hw : ww_P x s H locs σ) {w : Int32} (hin : ib_I w 13 = true) (hdg : decode b pc = .ok (.aaload, 1)) (kk : W p l e R s m args below meth c H locs cells slots Q (F0 m (pc + 1) ls (.ref (x.2.2 (69 + tn_I w)) :: rest))) : W p l e R s m args below meth c H locs cells slots Q (F0 m pc ls (.int w :: .ref (x.2.2 5) :: rest)) := by
  obtain ⟨hx, hb, hml, hr, hlk, hown, hT⟩ := F
  obtain ⟨hP, hD, hK, hS⟩ := hw
  exact va_aldq hx hb hK hP 5 4 gt_units rfl (ib_in hin) hdg kk
theorem al_integers (F : fx_F p s m args meth c b n ret own) (hw : ww_P x s H locs σ) {w : Int32} (hin : ib_I w 4 = true) (hdg : decode b pc = .ok (.iaload, 1)) (kk : W p l e R s m args below meth c H locs cells slots Q (F0 m (pc + 1) ls (.int (σ 10 (tn_I w)) :: rest))) : W p l e R s m args below meth c H locs cells slots Q (F0 m pc ls (.int w :: .ref (x.2.2 3) :: rest)) := by
  obtain ⟨hx, hb, hml, hr, hlk, hown, hT⟩ := F
  obtain ⟨hP, hD, hK, hS⟩ := hw
  exact va_iald hx hb hK hP 3 0 gt_integers rfl (ib_in hin) hdg kk
theorem as_integers (F : fx_F p s m args meth c b n ret own) (hw : ww_P x s H locs σ) {w v : Int32} (hin : ib_I w 4 = true) (hdg : decode b pc = .ok (.iastore, 1)) (kk : ∀ (H1 : Heap) (locs1 : List Loc), ww_P x s H1 locs1 (sg_up σ 10 (tn_I w) v) → W p l e R s m args below meth c H1 locs1 cells slots Q (F0 m (pc + 1) ls (rest))) : W p l e R s m args below meth c H locs cells slots Q (F0 m pc ls (.int v :: .int w :: .ref (x.2.2 3) :: rest)) := by
  obtain ⟨hx, hb, hml, hr, hlk, hown, hT⟩ := F
  obtain ⟨hP, hD, hK, hS⟩ := hw
  refine va_iast hx hb hK hP hD hS 3 0 gt_integers rfl (ib_in hin) hdg (fun H1 locs1 hP hD hS => ?_)
  rw [st_integers] at hP hD
  exact kk H1 locs1 ⟨hP, hD, hK, hS⟩
theorem al_words (F : fx_F p s m args meth c b n ret own) (hw : ww_P x s H locs σ) {w : Int32} (hin : ib_I w 32 = true) (hdg : decode b pc = .ok (.iaload, 1)) (kk : W p l e R s m args below meth c H locs cells slots Q (F0 m (pc + 1) ls (.int (σ 11 (tn_I w)) :: rest))) : W p l e R s m args below meth c H locs cells slots Q (F0 m pc ls (.int w :: .ref (x.2.2 4) :: rest)) := by
  obtain ⟨hx, hb, hml, hr, hlk, hown, hT⟩ := F
  obtain ⟨hP, hD, hK, hS⟩ := hw
  exact va_iald hx hb hK hP 4 0 gt_words rfl (ib_in hin) hdg kk
theorem as_words (F : fx_F p s m args meth c b n ret own) (hw : ww_P x s H locs σ) {w v : Int32} (hin : ib_I w 32 = true) (hdg : decode b pc = .ok (.iastore, 1)) (kk : ∀ (H1 : Heap) (locs1 : List Loc), ww_P x s H1 locs1 (sg_up σ 11 (tn_I w) v) → W p l e R s m args below meth c H1 locs1 cells slots Q (F0 m (pc + 1) ls (rest))) : W p l e R s m args below meth c H locs cells slots Q (F0 m pc ls (.int v :: .int w :: .ref (x.2.2 4) :: rest)) := by
  obtain ⟨hx, hb, hml, hr, hlk, hown, hT⟩ := F
  obtain ⟨hP, hD, hK, hS⟩ := hw
  refine va_iast hx hb hK hP hD hS 4 0 gt_words rfl (ib_in hin) hdg (fun H1 locs1 hP hD hS => ?_)
  rw [st_words] at hP hD
  exact kk H1 locs1 ⟨hP, hD, hK, hS⟩
theorem al_bankInUse (F : fx_F p s m args meth c b n ret own) (hw : ww_P x s H locs σ) {w : Int32} (hin : ib_I w 8 = true) (hdg : decode b pc = .ok (.baload, 1)) (kk : W p l e R s m args below meth c H locs cells slots Q (F0 m (pc + 1) ls (.int (σ 19 (tn_I w)) :: rest))) : W p l e R s m args below meth c H locs cells slots Q (F0 m pc ls (.int w :: .ref (x.2.2 6) :: rest)) := by
  obtain ⟨hx, hb, hml, hr, hlk, hown, hT⟩ := F
  obtain ⟨hP, hD, hK, hS⟩ := hw
  exact va_zald hx hb hK hP 6 1 gt_bankInUse rfl (ib_in hin) hdg kk
theorem as_bankInUse (F : fx_F p s m args meth c b n ret own) (hw : ww_P x s H locs σ) {w v : Int32} (hin : ib_I w 8 = true) (hn : vp_nar .boolean v = v) (hdg : decode b pc = .ok (.bastore, 1)) (kk : ∀ (H1 : Heap) (locs1 : List Loc), ww_P x s H1 locs1 (sg_up σ 19 (tn_I w) v) → W p l e R s m args below meth c H1 locs1 cells slots Q (F0 m (pc + 1) ls (rest))) : W p l e R s m args below meth c H locs cells slots Q (F0 m pc ls (.int v :: .int w :: .ref (x.2.2 6) :: rest)) := by
  obtain ⟨hx, hb, hml, hr, hlk, hown, hT⟩ := F
  obtain ⟨hP, hD, hK, hS⟩ := hw
  refine va_zast hx hb hK hP hD hS 6 1 gt_bankInUse rfl (ib_in hin) hdg (fun H1 locs1 hP hD hS => ?_)
  rw [hn] at hP hD
  rw [st_bankInUse] at hP hD
  exact kk H1 locs1 ⟨hP, hD, hK, hS⟩
theorem al_m_op (F : fx_F p s m args meth c b n ret own) (hw : ww_P x s H locs σ) {w : Int32} (hin : ib_I w 30 = true) (hdg : decode b pc = .ok (.iaload, 1)) (kk : W p l e R s m args below meth c H locs cells slots Q (F0 m (pc + 1) ls (.int (σ 31 (tn_I w)) :: rest))) : W p l e R s m args below meth c H locs cells slots Q (F0 m pc ls (.int w :: .ref (x.2.2 83) :: rest)) := by
  obtain ⟨hx, hb, hml, hr, hlk, hown, hT⟩ := F
  obtain ⟨hP, hD, hK, hS⟩ := hw
  exact va_iald hx hb hK hP 83 0 gt_m_op rfl (ib_in hin) hdg kk
theorem as_m_op (F : fx_F p s m args meth c b n ret own) (hw : ww_P x s H locs σ) {w v : Int32} (hin : ib_I w 30 = true) (hdg : decode b pc = .ok (.iastore, 1)) (kk : ∀ (H1 : Heap) (locs1 : List Loc), ww_P x s H1 locs1 (sg_up σ 31 (tn_I w) v) → W p l e R s m args below meth c H1 locs1 cells slots Q (F0 m (pc + 1) ls (rest))) : W p l e R s m args below meth c H locs cells slots Q (F0 m pc ls (.int v :: .int w :: .ref (x.2.2 83) :: rest)) := by
  obtain ⟨hx, hb, hml, hr, hlk, hown, hT⟩ := F
  obtain ⟨hP, hD, hK, hS⟩ := hw
  refine va_iast hx hb hK hP hD hS 83 0 gt_m_op rfl (ib_in hin) hdg (fun H1 locs1 hP hD hS => ?_)
  rw [st_m_op] at hP hD
  exact kk H1 locs1 ⟨hP, hD, hK, hS⟩
theorem al_m_rs (F : fx_F p s m args meth c b n ret own) (hw : ww_P x s H locs σ) {w : Int32} (hin : ib_I w 30 = true) (hdg : decode b pc = .ok (.iaload, 1)) (kk : W p l e R s m args below meth c H locs cells slots Q (F0 m (pc + 1) ls (.int (σ 32 (tn_I w)) :: rest))) : W p l e R s m args below meth c H locs cells slots Q (F0 m pc ls (.int w :: .ref (x.2.2 84) :: rest)) := by
  obtain ⟨hx, hb, hml, hr, hlk, hown, hT⟩ := F
  obtain ⟨hP, hD, hK, hS⟩ := hw
  exact va_iald hx hb hK hP 84 0 gt_m_rs rfl (ib_in hin) hdg kk
theorem as_m_rs (F : fx_F p s m args meth c b n ret own) (hw : ww_P x s H locs σ) {w v : Int32} (hin : ib_I w 30 = true) (hdg : decode b pc = .ok (.iastore, 1)) (kk : ∀ (H1 : Heap) (locs1 : List Loc), ww_P x s H1 locs1 (sg_up σ 32 (tn_I w) v) → W p l e R s m args below meth c H1 locs1 cells slots Q (F0 m (pc + 1) ls (rest))) : W p l e R s m args below meth c H locs cells slots Q (F0 m pc ls (.int v :: .int w :: .ref (x.2.2 84) :: rest)) := by
  obtain ⟨hx, hb, hml, hr, hlk, hown, hT⟩ := F
  obtain ⟨hP, hD, hK, hS⟩ := hw
  refine va_iast hx hb hK hP hD hS 84 0 gt_m_rs rfl (ib_in hin) hdg (fun H1 locs1 hP hD hS => ?_)
  rw [st_m_rs] at hP hD
  exact kk H1 locs1 ⟨hP, hD, hK, hS⟩
theorem al_m_ss (F : fx_F p s m args meth c b n ret own) (hw : ww_P x s H locs σ) {w : Int32} (hin : ib_I w 30 = true) (hdg : decode b pc = .ok (.iaload, 1)) (kk : W p l e R s m args below meth c H locs cells slots Q (F0 m (pc + 1) ls (.int (σ 33 (tn_I w)) :: rest))) : W p l e R s m args below meth c H locs cells slots Q (F0 m pc ls (.int w :: .ref (x.2.2 85) :: rest)) := by
  obtain ⟨hx, hb, hml, hr, hlk, hown, hT⟩ := F
  obtain ⟨hP, hD, hK, hS⟩ := hw
  exact va_iald hx hb hK hP 85 0 gt_m_ss rfl (ib_in hin) hdg kk
theorem as_m_ss (F : fx_F p s m args meth c b n ret own) (hw : ww_P x s H locs σ) {w v : Int32} (hin : ib_I w 30 = true) (hdg : decode b pc = .ok (.iastore, 1)) (kk : ∀ (H1 : Heap) (locs1 : List Loc), ww_P x s H1 locs1 (sg_up σ 33 (tn_I w) v) → W p l e R s m args below meth c H1 locs1 cells slots Q (F0 m (pc + 1) ls (rest))) : W p l e R s m args below meth c H locs cells slots Q (F0 m pc ls (.int v :: .int w :: .ref (x.2.2 85) :: rest)) := by
  obtain ⟨hx, hb, hml, hr, hlk, hown, hT⟩ := F
  obtain ⟨hP, hD, hK, hS⟩ := hw
  refine va_iast hx hb hK hP hD hS 85 0 gt_m_ss rfl (ib_in hin) hdg (fun H1 locs1 hP hD hS => ?_)
  rw [st_m_ss] at hP hD
  exact kk H1 locs1 ⟨hP, hD, hK, hS⟩
theorem al_m_bs (F : fx_F p s m args meth c b n ret own) (hw : ww_P x s H locs σ) {w : Int32} (hin : ib_I w 30 = true) (hdg : decode b pc = .ok (.iaload, 1)) (kk : W p l e R s m args below meth c H locs cells slots Q (F0 m (pc + 1) ls (.int (σ 34 (tn_I w)) :: rest))) : W p l e R s m args below meth c H locs cells slots Q (F0 m pc ls (.int w :: .ref (x.2.2 86) :: rest)) := by
  obtain ⟨hx, hb, hml, hr, hlk, hown, hT⟩ := F
  obtain ⟨hP, hD, hK, hS⟩ := hw
  exact va_iald hx hb hK hP 86 0 gt_m_bs rfl (ib_in hin) hdg kk
theorem as_m_bs (F : fx_F p s m args meth c b n ret own) (hw : ww_P x s H locs σ) {w v : Int32} (hin : ib_I w 30 = true) (hdg : decode b pc = .ok (.iastore, 1)) (kk : ∀ (H1 : Heap) (locs1 : List Loc), ww_P x s H1 locs1 (sg_up σ 34 (tn_I w) v) → W p l e R s m args below meth c H1 locs1 cells slots Q (F0 m (pc + 1) ls (rest))) : W p l e R s m args below meth c H locs cells slots Q (F0 m pc ls (.int v :: .int w :: .ref (x.2.2 86) :: rest)) := by
  obtain ⟨hx, hb, hml, hr, hlk, hown, hT⟩ := F
  obtain ⟨hP, hD, hK, hS⟩ := hw
  refine va_iast hx hb hK hP hD hS 86 0 gt_m_bs rfl (ib_in hin) hdg (fun H1 locs1 hP hD hS => ?_)
  rw [st_m_bs] at hP hD
  exact kk H1 locs1 ⟨hP, hD, hK, hS⟩
theorem al_m_ns (F : fx_F p s m args meth c b n ret own) (hw : ww_P x s H locs σ) {w : Int32} (hin : ib_I w 30 = true) (hdg : decode b pc = .ok (.iaload, 1)) (kk : W p l e R s m args below meth c H locs cells slots Q (F0 m (pc + 1) ls (.int (σ 35 (tn_I w)) :: rest))) : W p l e R s m args below meth c H locs cells slots Q (F0 m pc ls (.int w :: .ref (x.2.2 87) :: rest)) := by
  obtain ⟨hx, hb, hml, hr, hlk, hown, hT⟩ := F
  obtain ⟨hP, hD, hK, hS⟩ := hw
  exact va_iald hx hb hK hP 87 0 gt_m_ns rfl (ib_in hin) hdg kk
theorem as_m_ns (F : fx_F p s m args meth c b n ret own) (hw : ww_P x s H locs σ) {w v : Int32} (hin : ib_I w 30 = true) (hdg : decode b pc = .ok (.iastore, 1)) (kk : ∀ (H1 : Heap) (locs1 : List Loc), ww_P x s H1 locs1 (sg_up σ 35 (tn_I w) v) → W p l e R s m args below meth c H1 locs1 cells slots Q (F0 m (pc + 1) ls (rest))) : W p l e R s m args below meth c H locs cells slots Q (F0 m pc ls (.int v :: .int w :: .ref (x.2.2 87) :: rest)) := by
  obtain ⟨hx, hb, hml, hr, hlk, hown, hT⟩ := F
  obtain ⟨hP, hD, hK, hS⟩ := hw
  refine va_iast hx hb hK hP hD hS 87 0 gt_m_ns rfl (ib_in hin) hdg (fun H1 locs1 hP hD hS => ?_)
  rw [st_m_ns] at hP hD
  exact kk H1 locs1 ⟨hP, hD, hK, hS⟩
theorem al_m_value (F : fx_F p s m args meth c b n ret own) (hw : ww_P x s H locs σ) {w : Int32} (hin : ib_I w 5 = true) (hdg : decode b pc = .ok (.iaload, 1)) (kk : W p l e R s m args below meth c H locs cells slots Q (F0 m (pc + 1) ls (.int (σ 36 (tn_I w)) :: rest))) : W p l e R s m args below meth c H locs cells slots Q (F0 m pc ls (.int w :: .ref (x.2.2 88) :: rest)) := by
  obtain ⟨hx, hb, hml, hr, hlk, hown, hT⟩ := F
  obtain ⟨hP, hD, hK, hS⟩ := hw
  exact va_iald hx hb hK hP 88 0 gt_m_value rfl (ib_in hin) hdg kk
theorem as_m_value (F : fx_F p s m args meth c b n ret own) (hw : ww_P x s H locs σ) {w v : Int32} (hin : ib_I w 5 = true) (hdg : decode b pc = .ok (.iastore, 1)) (kk : ∀ (H1 : Heap) (locs1 : List Loc), ww_P x s H1 locs1 (sg_up σ 36 (tn_I w) v) → W p l e R s m args below meth c H1 locs1 cells slots Q (F0 m (pc + 1) ls (rest))) : W p l e R s m args below meth c H locs cells slots Q (F0 m pc ls (.int v :: .int w :: .ref (x.2.2 88) :: rest)) := by
  obtain ⟨hx, hb, hml, hr, hlk, hown, hT⟩ := F
  obtain ⟨hP, hD, hK, hS⟩ := hw
  refine va_iast hx hb hK hP hD hS 88 0 gt_m_value rfl (ib_in hin) hdg (fun H1 locs1 hP hD hS => ?_)
  rw [st_m_value] at hP hD
  exact kk H1 locs1 ⟨hP, hD, hK, hS⟩
theorem al_m_waits (F : fx_F p s m args meth c b n ret own) (hw : ww_P x s H locs σ) {w : Int32} (hin : ib_I w 5 = true) (hdg : decode b pc = .ok (.iaload, 1)) (kk : W p l e R s m args below meth c H locs cells slots Q (F0 m (pc + 1) ls (.int (σ 37 (tn_I w)) :: rest))) : W p l e R s m args below meth c H locs cells slots Q (F0 m pc ls (.int w :: .ref (x.2.2 89) :: rest)) := by
  obtain ⟨hx, hb, hml, hr, hlk, hown, hT⟩ := F
  obtain ⟨hP, hD, hK, hS⟩ := hw
  exact va_iald hx hb hK hP 89 0 gt_m_waits rfl (ib_in hin) hdg kk
theorem as_m_waits (F : fx_F p s m args meth c b n ret own) (hw : ww_P x s H locs σ) {w v : Int32} (hin : ib_I w 5 = true) (hdg : decode b pc = .ok (.iastore, 1)) (kk : ∀ (H1 : Heap) (locs1 : List Loc), ww_P x s H1 locs1 (sg_up σ 37 (tn_I w) v) → W p l e R s m args below meth c H1 locs1 cells slots Q (F0 m (pc + 1) ls (rest))) : W p l e R s m args below meth c H locs cells slots Q (F0 m pc ls (.int v :: .int w :: .ref (x.2.2 89) :: rest)) := by
  obtain ⟨hx, hb, hml, hr, hlk, hown, hT⟩ := F
  obtain ⟨hP, hD, hK, hS⟩ := hw
  refine va_iast hx hb hK hP hD hS 89 0 gt_m_waits rfl (ib_in hin) hdg (fun H1 locs1 hP hD hS => ?_)
  rw [st_m_waits] at hP hD
  exact kk H1 locs1 ⟨hP, hD, hK, hS⟩
theorem al_m_general (F : fx_F p s m args meth c b n ret own) (hw : ww_P x s H locs σ) {w : Int32} (hin : ib_I w 4 = true) (hdg : decode b pc = .ok (.iaload, 1)) (kk : W p l e R s m args below meth c H locs cells slots Q (F0 m (pc + 1) ls (.int (σ 38 (tn_I w)) :: rest))) : W p l e R s m args below meth c H locs cells slots Q (F0 m pc ls (.int w :: .ref (x.2.2 90) :: rest)) := by
  obtain ⟨hx, hb, hml, hr, hlk, hown, hT⟩ := F
  obtain ⟨hP, hD, hK, hS⟩ := hw
  exact va_iald hx hb hK hP 90 0 gt_m_general rfl (ib_in hin) hdg kk
theorem as_m_general (F : fx_F p s m args meth c b n ret own) (hw : ww_P x s H locs σ) {w v : Int32} (hin : ib_I w 4 = true) (hdg : decode b pc = .ok (.iastore, 1)) (kk : ∀ (H1 : Heap) (locs1 : List Loc), ww_P x s H1 locs1 (sg_up σ 38 (tn_I w) v) → W p l e R s m args below meth c H1 locs1 cells slots Q (F0 m (pc + 1) ls (rest))) : W p l e R s m args below meth c H locs cells slots Q (F0 m pc ls (.int v :: .int w :: .ref (x.2.2 90) :: rest)) := by
  obtain ⟨hx, hb, hml, hr, hlk, hown, hT⟩ := F
  obtain ⟨hP, hD, hK, hS⟩ := hw
  refine va_iast hx hb hK hP hD hS 90 0 gt_m_general rfl (ib_in hin) hdg (fun H1 locs1 hP hD hS => ?_)
  rw [st_m_general] at hP hD
  exact kk H1 locs1 ⟨hP, hD, hK, hS⟩
theorem al_m_words (F : fx_F p s m args meth c b n ret own) (hw : ww_P x s H locs σ) {w : Int32} (hin : ib_I w 32 = true) (hdg : decode b pc = .ok (.iaload, 1)) (kk : W p l e R s m args below meth c H locs cells slots Q (F0 m (pc + 1) ls (.int (σ 39 (tn_I w)) :: rest))) : W p l e R s m args below meth c H locs cells slots Q (F0 m pc ls (.int w :: .ref (x.2.2 91) :: rest)) := by
  obtain ⟨hx, hb, hml, hr, hlk, hown, hT⟩ := F
  obtain ⟨hP, hD, hK, hS⟩ := hw
  exact va_iald hx hb hK hP 91 0 gt_m_words rfl (ib_in hin) hdg kk
theorem as_m_words (F : fx_F p s m args meth c b n ret own) (hw : ww_P x s H locs σ) {w v : Int32} (hin : ib_I w 32 = true) (hdg : decode b pc = .ok (.iastore, 1)) (kk : ∀ (H1 : Heap) (locs1 : List Loc), ww_P x s H1 locs1 (sg_up σ 39 (tn_I w) v) → W p l e R s m args below meth c H1 locs1 cells slots Q (F0 m (pc + 1) ls (rest))) : W p l e R s m args below meth c H locs cells slots Q (F0 m pc ls (.int v :: .int w :: .ref (x.2.2 91) :: rest)) := by
  obtain ⟨hx, hb, hml, hr, hlk, hown, hT⟩ := F
  obtain ⟨hP, hD, hK, hS⟩ := hw
  refine va_iast hx hb hK hP hD hS 91 0 gt_m_words rfl (ib_in hin) hdg (fun H1 locs1 hP hD hS => ?_)
  rw [st_m_words] at hP hD
  exact kk H1 locs1 ⟨hP, hD, hK, hS⟩
theorem al_m_place (F : fx_F p s m args meth c b n ret own) (hw : ww_P x s H locs σ) {w : Int32} (hin : ib_I w 13 = true) (hdg : decode b pc = .ok (.iaload, 1)) (kk : W p l e R s m args below meth c H locs cells slots Q (F0 m (pc + 1) ls (.int (σ 40 (tn_I w)) :: rest))) : W p l e R s m args below meth c H locs cells slots Q (F0 m pc ls (.int w :: .ref (x.2.2 92) :: rest)) := by
  obtain ⟨hx, hb, hml, hr, hlk, hown, hT⟩ := F
  obtain ⟨hP, hD, hK, hS⟩ := hw
  exact va_iald hx hb hK hP 92 0 gt_m_place rfl (ib_in hin) hdg kk
theorem as_m_place (F : fx_F p s m args meth c b n ret own) (hw : ww_P x s H locs σ) {w v : Int32} (hin : ib_I w 13 = true) (hdg : decode b pc = .ok (.iastore, 1)) (kk : ∀ (H1 : Heap) (locs1 : List Loc), ww_P x s H1 locs1 (sg_up σ 40 (tn_I w) v) → W p l e R s m args below meth c H1 locs1 cells slots Q (F0 m (pc + 1) ls (rest))) : W p l e R s m args below meth c H locs cells slots Q (F0 m pc ls (.int v :: .int w :: .ref (x.2.2 92) :: rest)) := by
  obtain ⟨hx, hb, hml, hr, hlk, hown, hT⟩ := F
  obtain ⟨hP, hD, hK, hS⟩ := hw
  refine va_iast hx hb hK hP hD hS 92 0 gt_m_place rfl (ib_in hin) hdg (fun H1 locs1 hP hD hS => ?_)
  rw [st_m_place] at hP hD
  exact kk H1 locs1 ⟨hP, hD, hK, hS⟩
theorem al_m_what (F : fx_F p s m args meth c b n ret own) (hw : ww_P x s H locs σ) {w : Int32} (hin : ib_I w 13 = true) (hdg : decode b pc = .ok (.iaload, 1)) (kk : W p l e R s m args below meth c H locs cells slots Q (F0 m (pc + 1) ls (.int (σ 41 (tn_I w)) :: rest))) : W p l e R s m args below meth c H locs cells slots Q (F0 m pc ls (.int w :: .ref (x.2.2 93) :: rest)) := by
  obtain ⟨hx, hb, hml, hr, hlk, hown, hT⟩ := F
  obtain ⟨hP, hD, hK, hS⟩ := hw
  exact va_iald hx hb hK hP 93 0 gt_m_what rfl (ib_in hin) hdg kk
theorem as_m_what (F : fx_F p s m args meth c b n ret own) (hw : ww_P x s H locs σ) {w v : Int32} (hin : ib_I w 13 = true) (hdg : decode b pc = .ok (.iastore, 1)) (kk : ∀ (H1 : Heap) (locs1 : List Loc), ww_P x s H1 locs1 (sg_up σ 41 (tn_I w) v) → W p l e R s m args below meth c H1 locs1 cells slots Q (F0 m (pc + 1) ls (rest))) : W p l e R s m args below meth c H locs cells slots Q (F0 m pc ls (.int v :: .int w :: .ref (x.2.2 93) :: rest)) := by
  obtain ⟨hx, hb, hml, hr, hlk, hown, hT⟩ := F
  obtain ⟨hP, hD, hK, hS⟩ := hw
  refine va_iast hx hb hK hP hD hS 93 0 gt_m_what rfl (ib_in hin) hdg (fun H1 locs1 hP hD hS => ?_)
  rw [st_m_what] at hP hD
  exact kk H1 locs1 ⟨hP, hD, hK, hS⟩
theorem al_m_left (F : fx_F p s m args meth c b n ret own) (hw : ww_P x s H locs σ) {w : Int32} (hin : ib_I w 13 = true) (hdg : decode b pc = .ok (.iaload, 1)) (kk : W p l e R s m args below meth c H locs cells slots Q (F0 m (pc + 1) ls (.int (σ 42 (tn_I w)) :: rest))) : W p l e R s m args below meth c H locs cells slots Q (F0 m pc ls (.int w :: .ref (x.2.2 94) :: rest)) := by
  obtain ⟨hx, hb, hml, hr, hlk, hown, hT⟩ := F
  obtain ⟨hP, hD, hK, hS⟩ := hw
  exact va_iald hx hb hK hP 94 0 gt_m_left rfl (ib_in hin) hdg kk
theorem as_m_left (F : fx_F p s m args meth c b n ret own) (hw : ww_P x s H locs σ) {w v : Int32} (hin : ib_I w 13 = true) (hdg : decode b pc = .ok (.iastore, 1)) (kk : ∀ (H1 : Heap) (locs1 : List Loc), ww_P x s H1 locs1 (sg_up σ 42 (tn_I w) v) → W p l e R s m args below meth c H1 locs1 cells slots Q (F0 m (pc + 1) ls (rest))) : W p l e R s m args below meth c H locs cells slots Q (F0 m pc ls (.int v :: .int w :: .ref (x.2.2 94) :: rest)) := by
  obtain ⟨hx, hb, hml, hr, hlk, hown, hT⟩ := F
  obtain ⟨hP, hD, hK, hS⟩ := hw
  refine va_iast hx hb hK hP hD hS 94 0 gt_m_left rfl (ib_in hin) hdg (fun H1 locs1 hP hD hS => ?_)
  rw [st_m_left] at hP hD
  exact kk H1 locs1 ⟨hP, hD, hK, hS⟩
theorem al_m_gives (F : fx_F p s m args meth c b n ret own) (hw : ww_P x s H locs σ) {w : Int32} (hin : ib_I w 13 = true) (hdg : decode b pc = .ok (.iaload, 1)) (kk : W p l e R s m args below meth c H locs cells slots Q (F0 m (pc + 1) ls (.int (σ 43 (tn_I w)) :: rest))) : W p l e R s m args below meth c H locs cells slots Q (F0 m pc ls (.int w :: .ref (x.2.2 95) :: rest)) := by
  obtain ⟨hx, hb, hml, hr, hlk, hown, hT⟩ := F
  obtain ⟨hP, hD, hK, hS⟩ := hw
  exact va_iald hx hb hK hP 95 0 gt_m_gives rfl (ib_in hin) hdg kk
theorem as_m_gives (F : fx_F p s m args meth c b n ret own) (hw : ww_P x s H locs σ) {w v : Int32} (hin : ib_I w 13 = true) (hdg : decode b pc = .ok (.iastore, 1)) (kk : ∀ (H1 : Heap) (locs1 : List Loc), ww_P x s H1 locs1 (sg_up σ 43 (tn_I w) v) → W p l e R s m args below meth c H1 locs1 cells slots Q (F0 m (pc + 1) ls (rest))) : W p l e R s m args below meth c H locs cells slots Q (F0 m pc ls (.int v :: .int w :: .ref (x.2.2 95) :: rest)) := by
  obtain ⟨hx, hb, hml, hr, hlk, hown, hT⟩ := F
  obtain ⟨hP, hD, hK, hS⟩ := hw
  refine va_iast hx hb hK hP hD hS 95 0 gt_m_gives rfl (ib_in hin) hdg (fun H1 locs1 hP hD hS => ?_)
  rw [st_m_gives] at hP hD
  exact kk H1 locs1 ⟨hP, hD, hK, hS⟩
theorem al_m_notes (F : fx_F p s m args meth c b n ret own) (hw : ww_P x s H locs σ) {w : Int32} (hin : ib_I w 13 = true) (hdg : decode b pc = .ok (.iaload, 1)) (kk : W p l e R s m args below meth c H locs cells slots Q (F0 m (pc + 1) ls (.int (σ 44 (tn_I w)) :: rest))) : W p l e R s m args below meth c H locs cells slots Q (F0 m pc ls (.int w :: .ref (x.2.2 96) :: rest)) := by
  obtain ⟨hx, hb, hml, hr, hlk, hown, hT⟩ := F
  obtain ⟨hP, hD, hK, hS⟩ := hw
  exact va_iald hx hb hK hP 96 0 gt_m_notes rfl (ib_in hin) hdg kk
theorem as_m_notes (F : fx_F p s m args meth c b n ret own) (hw : ww_P x s H locs σ) {w v : Int32} (hin : ib_I w 13 = true) (hdg : decode b pc = .ok (.iastore, 1)) (kk : ∀ (H1 : Heap) (locs1 : List Loc), ww_P x s H1 locs1 (sg_up σ 44 (tn_I w) v) → W p l e R s m args below meth c H1 locs1 cells slots Q (F0 m (pc + 1) ls (rest))) : W p l e R s m args below meth c H locs cells slots Q (F0 m pc ls (.int v :: .int w :: .ref (x.2.2 96) :: rest)) := by
  obtain ⟨hx, hb, hml, hr, hlk, hown, hT⟩ := F
  obtain ⟨hP, hD, hK, hS⟩ := hw
  refine va_iast hx hb hK hP hD hS 96 0 gt_m_notes rfl (ib_in hin) hdg (fun H1 locs1 hP hD hS => ?_)
  rw [st_m_notes] at hP hD
  exact kk H1 locs1 ⟨hP, hD, hK, hS⟩
theorem al_m_operand (F : fx_F p s m args meth c b n ret own) (hw : ww_P x s H locs σ) {w : Int32} (hin : ib_I w 26 = true) (hdg : decode b pc = .ok (.iaload, 1)) (kk : W p l e R s m args below meth c H locs cells slots Q (F0 m (pc + 1) ls (.int (σ 45 (tn_I w)) :: rest))) : W p l e R s m args below meth c H locs cells slots Q (F0 m pc ls (.int w :: .ref (x.2.2 97) :: rest)) := by
  obtain ⟨hx, hb, hml, hr, hlk, hown, hT⟩ := F
  obtain ⟨hP, hD, hK, hS⟩ := hw
  exact va_iald hx hb hK hP 97 0 gt_m_operand rfl (ib_in hin) hdg kk
theorem as_m_operand (F : fx_F p s m args meth c b n ret own) (hw : ww_P x s H locs σ) {w v : Int32} (hin : ib_I w 26 = true) (hdg : decode b pc = .ok (.iastore, 1)) (kk : ∀ (H1 : Heap) (locs1 : List Loc), ww_P x s H1 locs1 (sg_up σ 45 (tn_I w) v) → W p l e R s m args below meth c H1 locs1 cells slots Q (F0 m (pc + 1) ls (rest))) : W p l e R s m args below meth c H locs cells slots Q (F0 m pc ls (.int v :: .int w :: .ref (x.2.2 97) :: rest)) := by
  obtain ⟨hx, hb, hml, hr, hlk, hown, hT⟩ := F
  obtain ⟨hP, hD, hK, hS⟩ := hw
  refine va_iast hx hb hK hP hD hS 97 0 gt_m_operand rfl (ib_in hin) hdg (fun H1 locs1 hP hD hS => ?_)
  rw [st_m_operand] at hP hD
  exact kk H1 locs1 ⟨hP, hD, hK, hS⟩
theorem al_m_tag (F : fx_F p s m args meth c b n ret own) (hw : ww_P x s H locs σ) {w : Int32} (hin : ib_I w 26 = true) (hdg : decode b pc = .ok (.iaload, 1)) (kk : W p l e R s m args below meth c H locs cells slots Q (F0 m (pc + 1) ls (.int (σ 46 (tn_I w)) :: rest))) : W p l e R s m args below meth c H locs cells slots Q (F0 m pc ls (.int w :: .ref (x.2.2 98) :: rest)) := by
  obtain ⟨hx, hb, hml, hr, hlk, hown, hT⟩ := F
  obtain ⟨hP, hD, hK, hS⟩ := hw
  exact va_iald hx hb hK hP 98 0 gt_m_tag rfl (ib_in hin) hdg kk
theorem as_m_tag (F : fx_F p s m args meth c b n ret own) (hw : ww_P x s H locs σ) {w v : Int32} (hin : ib_I w 26 = true) (hdg : decode b pc = .ok (.iastore, 1)) (kk : ∀ (H1 : Heap) (locs1 : List Loc), ww_P x s H1 locs1 (sg_up σ 46 (tn_I w) v) → W p l e R s m args below meth c H1 locs1 cells slots Q (F0 m (pc + 1) ls (rest))) : W p l e R s m args below meth c H locs cells slots Q (F0 m pc ls (.int v :: .int w :: .ref (x.2.2 98) :: rest)) := by
  obtain ⟨hx, hb, hml, hr, hlk, hown, hT⟩ := F
  obtain ⟨hP, hD, hK, hS⟩ := hw
  refine va_iast hx hb hK hP hD hS 98 0 gt_m_tag rfl (ib_in hin) hdg (fun H1 locs1 hP hD hS => ?_)
  rw [st_m_tag] at hP hD
  exact kk H1 locs1 ⟨hP, hD, hK, hS⟩
theorem al_m_where (F : fx_F p s m args meth c b n ret own) (hw : ww_P x s H locs σ) {w : Int32} (hin : ib_I w 13 = true) (hdg : decode b pc = .ok (.iaload, 1)) (kk : W p l e R s m args below meth c H locs cells slots Q (F0 m (pc + 1) ls (.int (σ 47 (tn_I w)) :: rest))) : W p l e R s m args below meth c H locs cells slots Q (F0 m pc ls (.int w :: .ref (x.2.2 99) :: rest)) := by
  obtain ⟨hx, hb, hml, hr, hlk, hown, hT⟩ := F
  obtain ⟨hP, hD, hK, hS⟩ := hw
  exact va_iald hx hb hK hP 99 0 gt_m_where rfl (ib_in hin) hdg kk
theorem as_m_where (F : fx_F p s m args meth c b n ret own) (hw : ww_P x s H locs σ) {w v : Int32} (hin : ib_I w 13 = true) (hdg : decode b pc = .ok (.iastore, 1)) (kk : ∀ (H1 : Heap) (locs1 : List Loc), ww_P x s H1 locs1 (sg_up σ 47 (tn_I w) v) → W p l e R s m args below meth c H1 locs1 cells slots Q (F0 m (pc + 1) ls (rest))) : W p l e R s m args below meth c H locs cells slots Q (F0 m pc ls (.int v :: .int w :: .ref (x.2.2 99) :: rest)) := by
  obtain ⟨hx, hb, hml, hr, hlk, hown, hT⟩ := F
  obtain ⟨hP, hD, hK, hS⟩ := hw
  refine va_iast hx hb hK hP hD hS 99 0 gt_m_where rfl (ib_in hin) hdg (fun H1 locs1 hP hD hS => ?_)
  rw [st_m_where] at hP hD
  exact kk H1 locs1 ⟨hP, hD, hK, hS⟩
theorem al_m_order (F : fx_F p s m args meth c b n ret own) (hw : ww_P x s H locs σ) {w : Int32} (hin : ib_I w 13 = true) (hdg : decode b pc = .ok (.iaload, 1)) (kk : W p l e R s m args below meth c H locs cells slots Q (F0 m (pc + 1) ls (.int (σ 48 (tn_I w)) :: rest))) : W p l e R s m args below meth c H locs cells slots Q (F0 m pc ls (.int w :: .ref (x.2.2 100) :: rest)) := by
  obtain ⟨hx, hb, hml, hr, hlk, hown, hT⟩ := F
  obtain ⟨hP, hD, hK, hS⟩ := hw
  exact va_iald hx hb hK hP 100 0 gt_m_order rfl (ib_in hin) hdg kk
theorem as_m_order (F : fx_F p s m args meth c b n ret own) (hw : ww_P x s H locs σ) {w v : Int32} (hin : ib_I w 13 = true) (hdg : decode b pc = .ok (.iastore, 1)) (kk : ∀ (H1 : Heap) (locs1 : List Loc), ww_P x s H1 locs1 (sg_up σ 48 (tn_I w) v) → W p l e R s m args below meth c H1 locs1 cells slots Q (F0 m (pc + 1) ls (rest))) : W p l e R s m args below meth c H locs cells slots Q (F0 m pc ls (.int v :: .int w :: .ref (x.2.2 100) :: rest)) := by
  obtain ⟨hx, hb, hml, hr, hlk, hown, hT⟩ := F
  obtain ⟨hP, hD, hK, hS⟩ := hw
  refine va_iast hx hb hK hP hD hS 100 0 gt_m_order rfl (ib_in hin) hdg (fun H1 locs1 hP hD hS => ?_)
  rw [st_m_order] at hP hD
  exact kk H1 locs1 ⟨hP, hD, hK, hS⟩
theorem al_m_taken (F : fx_F p s m args meth c b n ret own) (hw : ww_P x s H locs σ) {w : Int32} (hin : ib_I w 8 = true) (hdg : decode b pc = .ok (.baload, 1)) (kk : W p l e R s m args below meth c H locs cells slots Q (F0 m (pc + 1) ls (.int (σ 49 (tn_I w)) :: rest))) : W p l e R s m args below meth c H locs cells slots Q (F0 m pc ls (.int w :: .ref (x.2.2 101) :: rest)) := by
  obtain ⟨hx, hb, hml, hr, hlk, hown, hT⟩ := F
  obtain ⟨hP, hD, hK, hS⟩ := hw
  exact va_zald hx hb hK hP 101 1 gt_m_taken rfl (ib_in hin) hdg kk
theorem as_m_taken (F : fx_F p s m args meth c b n ret own) (hw : ww_P x s H locs σ) {w v : Int32} (hin : ib_I w 8 = true) (hn : vp_nar .boolean v = v) (hdg : decode b pc = .ok (.bastore, 1)) (kk : ∀ (H1 : Heap) (locs1 : List Loc), ww_P x s H1 locs1 (sg_up σ 49 (tn_I w) v) → W p l e R s m args below meth c H1 locs1 cells slots Q (F0 m (pc + 1) ls (rest))) : W p l e R s m args below meth c H locs cells slots Q (F0 m pc ls (.int v :: .int w :: .ref (x.2.2 101) :: rest)) := by
  obtain ⟨hx, hb, hml, hr, hlk, hown, hT⟩ := F
  obtain ⟨hP, hD, hK, hS⟩ := hw
  refine va_zast hx hb hK hP hD hS 101 1 gt_m_taken rfl (ib_in hin) hdg (fun H1 locs1 hP hD hS => ?_)
  rw [hn] at hP hD
  rw [st_m_taken] at hP hD
  exact kk H1 locs1 ⟨hP, hD, hK, hS⟩
theorem al_out (F : fx_F p s m args meth c b n ret own) (hw : ww_P x s H locs σ) {w : Int32} (hin : ib_I w 1 = true) (hdg : decode b pc = .ok (.laload, 1)) (kk : W p l e R s m args below meth c H locs cells slots Q (F0 m (pc + 1) ls (.long (σ 51 0).toInt64 :: rest))) : W p l e R s m args below meth c H locs cells slots Q (F0 m pc ls (.int w :: .ref (x.2.2 102) :: rest)) := by
  obtain ⟨hx, hb, hml, hr, hlk, hown, hT⟩ := F
  obtain ⟨hP, hD, hK, hS⟩ := hw
  have h0 : w.toNatClampNeg = 0 := by
    have := ib_lt hin
    unfold tn_I at this
    omega
  refine va_lald hx hb hK hP 102 5 gt_out rfl (ib_in hin) hdg ?_
  rw [if_pos h0]
  exact kk
theorem as_out (F : fx_F p s m args meth c b n ret own) (hw : ww_P x s H locs σ) {w : Int32} {v : Int64} (hin : ib_I w 1 = true) (hv : v.toInt32.toInt64 = v) (hdg : decode b pc = .ok (.lastore, 1)) (kk : ∀ (H1 : Heap) (locs1 : List Loc), ww_P x s H1 locs1 (sg_up σ 51 0 v.toInt32) → W p l e R s m args below meth c H1 locs1 cells slots Q (F0 m (pc + 1) ls (rest))) : W p l e R s m args below meth c H locs cells slots Q (F0 m pc ls (.long v :: .int w :: .ref (x.2.2 102) :: rest)) := by
  obtain ⟨hx, hb, hml, hr, hlk, hown, hT⟩ := F
  obtain ⟨hP, hD, hK, hS⟩ := hw
  have h0 : w.toNatClampNeg = 0 := by
    have := ib_lt hin
    unfold tn_I at this
    omega
  refine va_last hx hb hK hP hD hS 102 5 gt_out rfl (ib_in hin) hdg (fun H1 locs1 hP hD hS => ?_)
  have q9 : vp_updL (fun j => if j = 0 then (σ 51 0).toInt64 else 0) w.toNatClampNeg v = fun j => if j = 0 then v else 0 := by
    funext j
    rw [h0]
    unfold vp_updL
    by_cases hj : j = 0
    · rw [if_pos hj, if_pos hj]
    · rw [if_neg hj, if_neg hj]
      exact if_neg hj
  rw [q9, st_out v hv] at hP hD
  exact kk H1 locs1 ⟨hP, hD, hK, hS⟩
end AR
section FI
variable {p : Program} {l : Launch} {e : Env} {R : Room} {s : State} {m : MethodId} {args : Array Value} {below : List Frame} {meth : Method} {c : Code} {H : Heap} {locs : List Loc} {cells slots : Nat} {Q : State → Prop} {x : cx_T} {σ : sg_T} {b : ByteArray} {n : Nat} {ret : Option FieldType} {own : String} {pc : Nat} {ls : Array Slot} {rest : List Value}
theorem wr_INS_INS_b (F : fx_F p s m args meth c b n ret nR_INS) (hw : ww_P x s H locs σ) {i : Nat} (hi : i < 30) {v : Int32} (hdg : decode b pc = .ok (.putfield 19, 3)) (kk : ∀ (H1 : Heap) (locs1 : List Loc), ww_P x s H1 locs1 (sg_up σ 4 i v) → W p l e R s m args below meth c H1 locs1 cells slots Q (F0 m (pc + 3) ls (rest))) : W p l e R s m args below meth c H locs cells slots Q (F0 m pc ls (.int v :: .ref (x.2.2 (8 + i)) :: rest)) := by
  obtain ⟨hx, hb, hml, hr, hlk, hown, hT⟩ := F
  obtain ⟨hP, hD, hK, hS⟩ := hw
  refine va_put (D := x.1) (ci := 0) (C := nR_INS) (T := nT_INS) (N := 5) (v := .int v) (ty := .int) hx hb hT in_INS nY_INS nK_INS nM_INS hown hK hP hD hS (8 + i) (gt_INS hi) rfl 3 (by decide) (hT _ wm_88) (fun _ h9 => h9) rfl (by decide +kernel) rfl rfl (Nat.le_of_ble_eq_true rfl) hdg (fun H1 locs1 hP hD hS => ?_)
  rw [st_INS_b hi v] at hP hD
  exact kk H1 locs1 ⟨hP, hD, hK, hS⟩
theorem wr_INS_INS_n (F : fx_F p s m args meth c b n ret nR_INS) (hw : ww_P x s H locs σ) {i : Nat} (hi : i < 30) {v : Int32} (hdg : decode b pc = .ok (.putfield 22, 3)) (kk : ∀ (H1 : Heap) (locs1 : List Loc), ww_P x s H1 locs1 (sg_up σ 5 i v) → W p l e R s m args below meth c H1 locs1 cells slots Q (F0 m (pc + 3) ls (rest))) : W p l e R s m args below meth c H locs cells slots Q (F0 m pc ls (.int v :: .ref (x.2.2 (8 + i)) :: rest)) := by
  obtain ⟨hx, hb, hml, hr, hlk, hown, hT⟩ := F
  obtain ⟨hP, hD, hK, hS⟩ := hw
  refine va_put (D := x.1) (ci := 0) (C := nR_INS) (T := nT_INS) (N := 5) (v := .int v) (ty := .int) hx hb hT in_INS nY_INS nK_INS nM_INS hown hK hP hD hS (8 + i) (gt_INS hi) rfl 4 (by decide) (hT _ wm_90) (fun _ h9 => h9) rfl (by decide +kernel) rfl rfl (Nat.le_of_ble_eq_true rfl) hdg (fun H1 locs1 hP hD hS => ?_)
  rw [st_INS_n hi v] at hP hD
  exact kk H1 locs1 ⟨hP, hD, hK, hS⟩
theorem wr_INS_INS_op (F : fx_F p s m args meth c b n ret nR_INS) (hw : ww_P x s H locs σ) {i : Nat} (hi : i < 30) {v : Int32} (hdg : decode b pc = .ok (.putfield 7, 3)) (kk : ∀ (H1 : Heap) (locs1 : List Loc), ww_P x s H1 locs1 (sg_up σ 1 i v) → W p l e R s m args below meth c H1 locs1 cells slots Q (F0 m (pc + 3) ls (rest))) : W p l e R s m args below meth c H locs cells slots Q (F0 m pc ls (.int v :: .ref (x.2.2 (8 + i)) :: rest)) := by
  obtain ⟨hx, hb, hml, hr, hlk, hown, hT⟩ := F
  obtain ⟨hP, hD, hK, hS⟩ := hw
  refine va_put (D := x.1) (ci := 0) (C := nR_INS) (T := nT_INS) (N := 5) (v := .int v) (ty := .int) hx hb hT in_INS nY_INS nK_INS nM_INS hown hK hP hD hS (8 + i) (gt_INS hi) rfl 0 (by decide) (hT _ wm_82) (fun _ h9 => h9) rfl (by decide +kernel) rfl rfl (Nat.le_of_ble_eq_true rfl) hdg (fun H1 locs1 hP hD hS => ?_)
  rw [st_INS_op hi v] at hP hD
  exact kk H1 locs1 ⟨hP, hD, hK, hS⟩
theorem wr_INS_INS_r (F : fx_F p s m args meth c b n ret nR_INS) (hw : ww_P x s H locs σ) {i : Nat} (hi : i < 30) {v : Int32} (hdg : decode b pc = .ok (.putfield 13, 3)) (kk : ∀ (H1 : Heap) (locs1 : List Loc), ww_P x s H1 locs1 (sg_up σ 2 i v) → W p l e R s m args below meth c H1 locs1 cells slots Q (F0 m (pc + 3) ls (rest))) : W p l e R s m args below meth c H locs cells slots Q (F0 m pc ls (.int v :: .ref (x.2.2 (8 + i)) :: rest)) := by
  obtain ⟨hx, hb, hml, hr, hlk, hown, hT⟩ := F
  obtain ⟨hP, hD, hK, hS⟩ := hw
  refine va_put (D := x.1) (ci := 0) (C := nR_INS) (T := nT_INS) (N := 5) (v := .int v) (ty := .int) hx hb hT in_INS nY_INS nK_INS nM_INS hown hK hP hD hS (8 + i) (gt_INS hi) rfl 1 (by decide) (hT _ wm_84) (fun _ h9 => h9) rfl (by decide +kernel) rfl rfl (Nat.le_of_ble_eq_true rfl) hdg (fun H1 locs1 hP hD hS => ?_)
  rw [st_INS_r hi v] at hP hD
  exact kk H1 locs1 ⟨hP, hD, hK, hS⟩
theorem wr_INS_INS_s (F : fx_F p s m args meth c b n ret nR_INS) (hw : ww_P x s H locs σ) {i : Nat} (hi : i < 30) {v : Int32} (hdg : decode b pc = .ok (.putfield 16, 3)) (kk : ∀ (H1 : Heap) (locs1 : List Loc), ww_P x s H1 locs1 (sg_up σ 3 i v) → W p l e R s m args below meth c H1 locs1 cells slots Q (F0 m (pc + 3) ls (rest))) : W p l e R s m args below meth c H locs cells slots Q (F0 m pc ls (.int v :: .ref (x.2.2 (8 + i)) :: rest)) := by
  obtain ⟨hx, hb, hml, hr, hlk, hown, hT⟩ := F
  obtain ⟨hP, hD, hK, hS⟩ := hw
  refine va_put (D := x.1) (ci := 0) (C := nR_INS) (T := nT_INS) (N := 5) (v := .int v) (ty := .int) hx hb hT in_INS nY_INS nK_INS nM_INS hown hK hP hD hS (8 + i) (gt_INS hi) rfl 2 (by decide) (hT _ wm_86) (fun _ h9 => h9) rfl (by decide +kernel) rfl rfl (Nat.le_of_ble_eq_true rfl) hdg (fun H1 locs1 hP hD hS => ?_)
  rw [st_INS_s hi v] at hP hD
  exact kk H1 locs1 ⟨hP, hD, hK, hS⟩
theorem rd_MOD_MOD_banks (F : fx_F p s m args meth c b n ret nR_MOD) (hw : ww_P x s H locs σ) (hdg : decode b pc = .ok (.getfield 72, 3)) (kk : W p l e R s m args below meth c H locs cells slots Q (F0 m (pc + 3) ls (.int (σ 30 0) :: rest))) : W p l e R s m args below meth c H locs cells slots Q (F0 m pc ls (.ref (x.2.2 82) :: rest)) := by
  obtain ⟨hx, hb, hml, hr, hlk, hown, hT⟩ := F
  obtain ⟨hP, hD, hK, hS⟩ := hw
  exact va_get (D := x.1) (ci := 5) (C := nR_MOD) (T := nT_MOD) (N := 30) (v := .int (σ 30 0)) hx hb hT in_MOD hown hK hP 82 gt_MOD rfl 0 (by decide) (hT _ wm_586) (fun _ h9 => h9) rfl hdg kk
theorem rd_MOD_MOD_bs (F : fx_F p s m args meth c b n ret nR_MOD) (hw : ww_P x s H locs σ) (hdg : decode b pc = .ok (.getfield 19, 3)) (kk : W p l e R s m args below meth c H locs cells slots Q (F0 m (pc + 3) ls (.ref (x.2.2 86) :: rest))) : W p l e R s m args below meth c H locs cells slots Q (F0 m pc ls (.ref (x.2.2 82) :: rest)) := by
  obtain ⟨hx, hb, hml, hr, hlk, hown, hT⟩ := F
  obtain ⟨hP, hD, hK, hS⟩ := hw
  exact va_get (D := x.1) (ci := 5) (C := nR_MOD) (T := nT_MOD) (N := 30) (v := .ref (x.2.2 86)) hx hb hT in_MOD hown hK hP 82 gt_MOD rfl 7 (by decide) (hT _ wm_593) (fun _ h9 => h9) rfl hdg kk
theorem rd_MOD_MOD_cycles (F : fx_F p s m args meth c b n ret nR_MOD) (hw : ww_P x s H locs σ) (hdg : decode b pc = .ok (.getfield 197, 3)) (kk : W p l e R s m args below meth c H locs cells slots Q (F0 m (pc + 3) ls (.int (σ 30 6) :: rest))) : W p l e R s m args below meth c H locs cells slots Q (F0 m pc ls (.ref (x.2.2 82) :: rest)) := by
  obtain ⟨hx, hb, hml, hr, hlk, hown, hT⟩ := F
  obtain ⟨hP, hD, hK, hS⟩ := hw
  exact va_get (D := x.1) (ci := 5) (C := nR_MOD) (T := nT_MOD) (N := 30) (v := .int (σ 30 6)) hx hb hT in_MOD hown hK hP 82 gt_MOD rfl 12 (by decide) (hT _ wm_598) (fun _ h9 => h9) rfl hdg kk
theorem wr_MOD_MOD_cycles (F : fx_F p s m args meth c b n ret nR_MOD) (hw : ww_P x s H locs σ) {v : Int32} (hdg : decode b pc = .ok (.putfield 197, 3)) (kk : ∀ (H1 : Heap) (locs1 : List Loc), ww_P x s H1 locs1 (sg_up σ 30 6 v) → W p l e R s m args below meth c H1 locs1 cells slots Q (F0 m (pc + 3) ls (rest))) : W p l e R s m args below meth c H locs cells slots Q (F0 m pc ls (.int v :: .ref (x.2.2 82) :: rest)) := by
  obtain ⟨hx, hb, hml, hr, hlk, hown, hT⟩ := F
  obtain ⟨hP, hD, hK, hS⟩ := hw
  refine va_put (D := x.1) (ci := 5) (C := nR_MOD) (T := nT_MOD) (N := 30) (v := .int v) (ty := .int) hx hb hT in_MOD nY_MOD nK_MOD nM_MOD hown hK hP hD hS 82 gt_MOD rfl 12 (by decide) (hT _ wm_598) (fun _ h9 => h9) rfl (by decide +kernel) rfl rfl (Nat.le_of_ble_eq_true rfl) hdg (fun H1 locs1 hP hD hS => ?_)
  rw [st_MOD_cycles v] at hP hD
  exact kk H1 locs1 ⟨hP, hD, hK, hS⟩
theorem rd_MOD_MOD_exception (F : fx_F p s m args meth c b n ret nR_MOD) (hw : ww_P x s H locs σ) (hdg : decode b pc = .ok (.getfield 86, 3)) (kk : W p l e R s m args below meth c H locs cells slots Q (F0 m (pc + 3) ls (.int (σ 30 8) :: rest))) : W p l e R s m args below meth c H locs cells slots Q (F0 m pc ls (.ref (x.2.2 82) :: rest)) := by
  obtain ⟨hx, hb, hml, hr, hlk, hown, hT⟩ := F
  obtain ⟨hP, hD, hK, hS⟩ := hw
  exact va_get (D := x.1) (ci := 5) (C := nR_MOD) (T := nT_MOD) (N := 30) (v := .int (σ 30 8)) hx hb hT in_MOD hown hK hP 82 gt_MOD rfl 28 (by decide) (hT _ wm_614) (fun _ h9 => h9) rfl hdg kk
theorem wr_MOD_MOD_exception (F : fx_F p s m args meth c b n ret nR_MOD) (hw : ww_P x s H locs σ) {v : Int32} (hdg : decode b pc = .ok (.putfield 86, 3)) (kk : ∀ (H1 : Heap) (locs1 : List Loc), ww_P x s H1 locs1 (sg_up σ 30 8 v) → W p l e R s m args below meth c H1 locs1 cells slots Q (F0 m (pc + 3) ls (rest))) : W p l e R s m args below meth c H locs cells slots Q (F0 m pc ls (.int v :: .ref (x.2.2 82) :: rest)) := by
  obtain ⟨hx, hb, hml, hr, hlk, hown, hT⟩ := F
  obtain ⟨hP, hD, hK, hS⟩ := hw
  refine va_put (D := x.1) (ci := 5) (C := nR_MOD) (T := nT_MOD) (N := 30) (v := .int v) (ty := .int) hx hb hT in_MOD nY_MOD nK_MOD nM_MOD hown hK hP hD hS 82 gt_MOD rfl 28 (by decide) (hT _ wm_614) (fun _ h9 => h9) rfl (by decide +kernel) rfl rfl (Nat.le_of_ble_eq_true rfl) hdg (fun H1 locs1 hP hD hS => ?_)
  rw [st_MOD_exception v] at hP hD
  exact kk H1 locs1 ⟨hP, hD, hK, hS⟩
theorem rd_MOD_MOD_general (F : fx_F p s m args meth c b n ret nR_MOD) (hw : ww_P x s H locs σ) (hdg : decode b pc = .ok (.getfield 35, 3)) (kk : W p l e R s m args below meth c H locs cells slots Q (F0 m (pc + 3) ls (.ref (x.2.2 90) :: rest))) : W p l e R s m args below meth c H locs cells slots Q (F0 m pc ls (.ref (x.2.2 82) :: rest)) := by
  obtain ⟨hx, hb, hml, hr, hlk, hown, hT⟩ := F
  obtain ⟨hP, hD, hK, hS⟩ := hw
  exact va_get (D := x.1) (ci := 5) (C := nR_MOD) (T := nT_MOD) (N := 30) (v := .ref (x.2.2 90)) hx hb hT in_MOD hown hK hP 82 gt_MOD rfl 16 (by decide) (hT _ wm_602) (fun _ h9 => h9) rfl hdg kk
theorem rd_MOD_MOD_gives (F : fx_F p s m args meth c b n ret nR_MOD) (hw : ww_P x s H locs σ) (hdg : decode b pc = .ok (.getfield 50, 3)) (kk : W p l e R s m args below meth c H locs cells slots Q (F0 m (pc + 3) ls (.ref (x.2.2 95) :: rest))) : W p l e R s m args below meth c H locs cells slots Q (F0 m pc ls (.ref (x.2.2 82) :: rest)) := by
  obtain ⟨hx, hb, hml, hr, hlk, hown, hT⟩ := F
  obtain ⟨hP, hD, hK, hS⟩ := hw
  exact va_get (D := x.1) (ci := 5) (C := nR_MOD) (T := nT_MOD) (N := 30) (v := .ref (x.2.2 95)) hx hb hT in_MOD hown hK hP 82 gt_MOD rfl 21 (by decide) (hT _ wm_607) (fun _ h9 => h9) rfl hdg kk
theorem rd_MOD_MOD_handed (F : fx_F p s m args meth c b n ret nR_MOD) (hw : ww_P x s H locs σ) (hdg : decode b pc = .ok (.getfield 178, 3)) (kk : W p l e R s m args below meth c H locs cells slots Q (F0 m (pc + 3) ls (.int (σ 30 7) :: rest))) : W p l e R s m args below meth c H locs cells slots Q (F0 m pc ls (.ref (x.2.2 82) :: rest)) := by
  obtain ⟨hx, hb, hml, hr, hlk, hown, hT⟩ := F
  obtain ⟨hP, hD, hK, hS⟩ := hw
  exact va_get (D := x.1) (ci := 5) (C := nR_MOD) (T := nT_MOD) (N := 30) (v := .int (σ 30 7)) hx hb hT in_MOD hown hK hP 82 gt_MOD rfl 13 (by decide) (hT _ wm_599) (fun _ h9 => h9) rfl hdg kk
theorem wr_MOD_MOD_handed (F : fx_F p s m args meth c b n ret nR_MOD) (hw : ww_P x s H locs σ) {v : Int32} (hdg : decode b pc = .ok (.putfield 178, 3)) (kk : ∀ (H1 : Heap) (locs1 : List Loc), ww_P x s H1 locs1 (sg_up σ 30 7 v) → W p l e R s m args below meth c H1 locs1 cells slots Q (F0 m (pc + 3) ls (rest))) : W p l e R s m args below meth c H locs cells slots Q (F0 m pc ls (.int v :: .ref (x.2.2 82) :: rest)) := by
  obtain ⟨hx, hb, hml, hr, hlk, hown, hT⟩ := F
  obtain ⟨hP, hD, hK, hS⟩ := hw
  refine va_put (D := x.1) (ci := 5) (C := nR_MOD) (T := nT_MOD) (N := 30) (v := .int v) (ty := .int) hx hb hT in_MOD nY_MOD nK_MOD nM_MOD hown hK hP hD hS 82 gt_MOD rfl 13 (by decide) (hT _ wm_599) (fun _ h9 => h9) rfl (by decide +kernel) rfl rfl (Nat.le_of_ble_eq_true rfl) hdg (fun H1 locs1 hP hD hS => ?_)
  rw [st_MOD_handed v] at hP hD
  exact kk H1 locs1 ⟨hP, hD, hK, hS⟩
theorem rd_MOD_MOD_latency (F : fx_F p s m args meth c b n ret nR_MOD) (hw : ww_P x s H locs σ) (hdg : decode b pc = .ok (.getfield 75, 3)) (kk : W p l e R s m args below meth c H locs cells slots Q (F0 m (pc + 3) ls (.int (σ 30 1) :: rest))) : W p l e R s m args below meth c H locs cells slots Q (F0 m pc ls (.ref (x.2.2 82) :: rest)) := by
  obtain ⟨hx, hb, hml, hr, hlk, hown, hT⟩ := F
  obtain ⟨hP, hD, hK, hS⟩ := hw
  exact va_get (D := x.1) (ci := 5) (C := nR_MOD) (T := nT_MOD) (N := 30) (v := .int (σ 30 1)) hx hb hT in_MOD hown hK hP 82 gt_MOD rfl 1 (by decide) (hT _ wm_587) (fun _ h9 => h9) rfl hdg kk
theorem rd_MOD_MOD_left (F : fx_F p s m args meth c b n ret nR_MOD) (hw : ww_P x s H locs σ) (hdg : decode b pc = .ok (.getfield 47, 3)) (kk : W p l e R s m args below meth c H locs cells slots Q (F0 m (pc + 3) ls (.ref (x.2.2 94) :: rest))) : W p l e R s m args below meth c H locs cells slots Q (F0 m pc ls (.ref (x.2.2 82) :: rest)) := by
  obtain ⟨hx, hb, hml, hr, hlk, hown, hT⟩ := F
  obtain ⟨hP, hD, hK, hS⟩ := hw
  exact va_get (D := x.1) (ci := 5) (C := nR_MOD) (T := nT_MOD) (N := 30) (v := .ref (x.2.2 94)) hx hb hT in_MOD hown hK hP 82 gt_MOD rfl 20 (by decide) (hT _ wm_606) (fun _ h9 => h9) rfl hdg kk
theorem rd_MOD_MOD_many (F : fx_F p s m args meth c b n ret nR_MOD) (hw : ww_P x s H locs σ) (hdg : decode b pc = .ok (.getfield 148, 3)) (kk : W p l e R s m args below meth c H locs cells slots Q (F0 m (pc + 3) ls (.int (σ 30 2) :: rest))) : W p l e R s m args below meth c H locs cells slots Q (F0 m pc ls (.ref (x.2.2 82) :: rest)) := by
  obtain ⟨hx, hb, hml, hr, hlk, hown, hT⟩ := F
  obtain ⟨hP, hD, hK, hS⟩ := hw
  exact va_get (D := x.1) (ci := 5) (C := nR_MOD) (T := nT_MOD) (N := 30) (v := .int (σ 30 2)) hx hb hT in_MOD hown hK hP 82 gt_MOD rfl 3 (by decide) (hT _ wm_589) (fun _ h9 => h9) rfl hdg kk
theorem wr_MOD_MOD_many (F : fx_F p s m args meth c b n ret nR_MOD) (hw : ww_P x s H locs σ) {v : Int32} (hdg : decode b pc = .ok (.putfield 148, 3)) (kk : ∀ (H1 : Heap) (locs1 : List Loc), ww_P x s H1 locs1 (sg_up σ 30 2 v) → W p l e R s m args below meth c H1 locs1 cells slots Q (F0 m (pc + 3) ls (rest))) : W p l e R s m args below meth c H locs cells slots Q (F0 m pc ls (.int v :: .ref (x.2.2 82) :: rest)) := by
  obtain ⟨hx, hb, hml, hr, hlk, hown, hT⟩ := F
  obtain ⟨hP, hD, hK, hS⟩ := hw
  refine va_put (D := x.1) (ci := 5) (C := nR_MOD) (T := nT_MOD) (N := 30) (v := .int v) (ty := .int) hx hb hT in_MOD nY_MOD nK_MOD nM_MOD hown hK hP hD hS 82 gt_MOD rfl 3 (by decide) (hT _ wm_589) (fun _ h9 => h9) rfl (by decide +kernel) rfl rfl (Nat.le_of_ble_eq_true rfl) hdg (fun H1 locs1 hP hD hS => ?_)
  rw [st_MOD_many v] at hP hD
  exact kk H1 locs1 ⟨hP, hD, hK, hS⟩
theorem rd_MOD_MOD_next (F : fx_F p s m args meth c b n ret nR_MOD) (hw : ww_P x s H locs σ) (hdg : decode b pc = .ok (.getfield 155, 3)) (kk : W p l e R s m args below meth c H locs cells slots Q (F0 m (pc + 3) ls (.int (σ 30 4) :: rest))) : W p l e R s m args below meth c H locs cells slots Q (F0 m pc ls (.ref (x.2.2 82) :: rest)) := by
  obtain ⟨hx, hb, hml, hr, hlk, hown, hT⟩ := F
  obtain ⟨hP, hD, hK, hS⟩ := hw
  exact va_get (D := x.1) (ci := 5) (C := nR_MOD) (T := nT_MOD) (N := 30) (v := .int (σ 30 4)) hx hb hT in_MOD hown hK hP 82 gt_MOD rfl 10 (by decide) (hT _ wm_596) (fun _ h9 => h9) rfl hdg kk
theorem wr_MOD_MOD_next (F : fx_F p s m args meth c b n ret nR_MOD) (hw : ww_P x s H locs σ) {v : Int32} (hdg : decode b pc = .ok (.putfield 155, 3)) (kk : ∀ (H1 : Heap) (locs1 : List Loc), ww_P x s H1 locs1 (sg_up σ 30 4 v) → W p l e R s m args below meth c H1 locs1 cells slots Q (F0 m (pc + 3) ls (rest))) : W p l e R s m args below meth c H locs cells slots Q (F0 m pc ls (.int v :: .ref (x.2.2 82) :: rest)) := by
  obtain ⟨hx, hb, hml, hr, hlk, hown, hT⟩ := F
  obtain ⟨hP, hD, hK, hS⟩ := hw
  refine va_put (D := x.1) (ci := 5) (C := nR_MOD) (T := nT_MOD) (N := 30) (v := .int v) (ty := .int) hx hb hT in_MOD nY_MOD nK_MOD nM_MOD hown hK hP hD hS 82 gt_MOD rfl 10 (by decide) (hT _ wm_596) (fun _ h9 => h9) rfl (by decide +kernel) rfl rfl (Nat.le_of_ble_eq_true rfl) hdg (fun H1 locs1 hP hD hS => ?_)
  rw [st_MOD_next v] at hP hD
  exact kk H1 locs1 ⟨hP, hD, hK, hS⟩
theorem rd_MOD_MOD_noted (F : fx_F p s m args meth c b n ret nR_MOD) (hw : ww_P x s H locs σ) (hdg : decode b pc = .ok (.getfield 158, 3)) (kk : W p l e R s m args below meth c H locs cells slots Q (F0 m (pc + 3) ls (.int (σ 30 5) :: rest))) : W p l e R s m args below meth c H locs cells slots Q (F0 m pc ls (.ref (x.2.2 82) :: rest)) := by
  obtain ⟨hx, hb, hml, hr, hlk, hown, hT⟩ := F
  obtain ⟨hP, hD, hK, hS⟩ := hw
  exact va_get (D := x.1) (ci := 5) (C := nR_MOD) (T := nT_MOD) (N := 30) (v := .int (σ 30 5)) hx hb hT in_MOD hown hK hP 82 gt_MOD rfl 11 (by decide) (hT _ wm_597) (fun _ h9 => h9) rfl hdg kk
theorem wr_MOD_MOD_noted (F : fx_F p s m args meth c b n ret nR_MOD) (hw : ww_P x s H locs σ) {v : Int32} (hdg : decode b pc = .ok (.putfield 158, 3)) (kk : ∀ (H1 : Heap) (locs1 : List Loc), ww_P x s H1 locs1 (sg_up σ 30 5 v) → W p l e R s m args below meth c H1 locs1 cells slots Q (F0 m (pc + 3) ls (rest))) : W p l e R s m args below meth c H locs cells slots Q (F0 m pc ls (.int v :: .ref (x.2.2 82) :: rest)) := by
  obtain ⟨hx, hb, hml, hr, hlk, hown, hT⟩ := F
  obtain ⟨hP, hD, hK, hS⟩ := hw
  refine va_put (D := x.1) (ci := 5) (C := nR_MOD) (T := nT_MOD) (N := 30) (v := .int v) (ty := .int) hx hb hT in_MOD nY_MOD nK_MOD nM_MOD hown hK hP hD hS 82 gt_MOD rfl 11 (by decide) (hT _ wm_597) (fun _ h9 => h9) rfl (by decide +kernel) rfl rfl (Nat.le_of_ble_eq_true rfl) hdg (fun H1 locs1 hP hD hS => ?_)
  rw [st_MOD_noted v] at hP hD
  exact kk H1 locs1 ⟨hP, hD, hK, hS⟩
theorem rd_MOD_MOD_notes (F : fx_F p s m args meth c b n ret nR_MOD) (hw : ww_P x s H locs σ) (hdg : decode b pc = .ok (.getfield 53, 3)) (kk : W p l e R s m args below meth c H locs cells slots Q (F0 m (pc + 3) ls (.ref (x.2.2 96) :: rest))) : W p l e R s m args below meth c H locs cells slots Q (F0 m pc ls (.ref (x.2.2 82) :: rest)) := by
  obtain ⟨hx, hb, hml, hr, hlk, hown, hT⟩ := F
  obtain ⟨hP, hD, hK, hS⟩ := hw
  exact va_get (D := x.1) (ci := 5) (C := nR_MOD) (T := nT_MOD) (N := 30) (v := .ref (x.2.2 96)) hx hb hT in_MOD hown hK hP 82 gt_MOD rfl 22 (by decide) (hT _ wm_608) (fun _ h9 => h9) rfl hdg kk
theorem rd_MOD_MOD_ns (F : fx_F p s m args meth c b n ret nR_MOD) (hw : ww_P x s H locs σ) (hdg : decode b pc = .ok (.getfield 22, 3)) (kk : W p l e R s m args below meth c H locs cells slots Q (F0 m (pc + 3) ls (.ref (x.2.2 87) :: rest))) : W p l e R s m args below meth c H locs cells slots Q (F0 m pc ls (.ref (x.2.2 82) :: rest)) := by
  obtain ⟨hx, hb, hml, hr, hlk, hown, hT⟩ := F
  obtain ⟨hP, hD, hK, hS⟩ := hw
  exact va_get (D := x.1) (ci := 5) (C := nR_MOD) (T := nT_MOD) (N := 30) (v := .ref (x.2.2 87)) hx hb hT in_MOD hown hK hP 82 gt_MOD rfl 8 (by decide) (hT _ wm_594) (fun _ h9 => h9) rfl hdg kk
theorem rd_MOD_MOD_op (F : fx_F p s m args meth c b n ret nR_MOD) (hw : ww_P x s H locs σ) (hdg : decode b pc = .ok (.getfield 7, 3)) (kk : W p l e R s m args below meth c H locs cells slots Q (F0 m (pc + 3) ls (.ref (x.2.2 83) :: rest))) : W p l e R s m args below meth c H locs cells slots Q (F0 m pc ls (.ref (x.2.2 82) :: rest)) := by
  obtain ⟨hx, hb, hml, hr, hlk, hown, hT⟩ := F
  obtain ⟨hP, hD, hK, hS⟩ := hw
  exact va_get (D := x.1) (ci := 5) (C := nR_MOD) (T := nT_MOD) (N := 30) (v := .ref (x.2.2 83)) hx hb hT in_MOD hown hK hP 82 gt_MOD rfl 4 (by decide) (hT _ wm_590) (fun _ h9 => h9) rfl hdg kk
theorem rd_MOD_MOD_operand (F : fx_F p s m args meth c b n ret nR_MOD) (hw : ww_P x s H locs σ) (hdg : decode b pc = .ok (.getfield 56, 3)) (kk : W p l e R s m args below meth c H locs cells slots Q (F0 m (pc + 3) ls (.ref (x.2.2 97) :: rest))) : W p l e R s m args below meth c H locs cells slots Q (F0 m pc ls (.ref (x.2.2 82) :: rest)) := by
  obtain ⟨hx, hb, hml, hr, hlk, hown, hT⟩ := F
  obtain ⟨hP, hD, hK, hS⟩ := hw
  exact va_get (D := x.1) (ci := 5) (C := nR_MOD) (T := nT_MOD) (N := 30) (v := .ref (x.2.2 97)) hx hb hT in_MOD hown hK hP 82 gt_MOD rfl 23 (by decide) (hT _ wm_609) (fun _ h9 => h9) rfl hdg kk
theorem rd_MOD_MOD_order (F : fx_F p s m args meth c b n ret nR_MOD) (hw : ww_P x s H locs σ) (hdg : decode b pc = .ok (.getfield 65, 3)) (kk : W p l e R s m args below meth c H locs cells slots Q (F0 m (pc + 3) ls (.ref (x.2.2 100) :: rest))) : W p l e R s m args below meth c H locs cells slots Q (F0 m pc ls (.ref (x.2.2 82) :: rest)) := by
  obtain ⟨hx, hb, hml, hr, hlk, hown, hT⟩ := F
  obtain ⟨hP, hD, hK, hS⟩ := hw
  exact va_get (D := x.1) (ci := 5) (C := nR_MOD) (T := nT_MOD) (N := 30) (v := .ref (x.2.2 100)) hx hb hT in_MOD hown hK hP 82 gt_MOD rfl 26 (by decide) (hT _ wm_612) (fun _ h9 => h9) rfl hdg kk
theorem rd_MOD_MOD_place (F : fx_F p s m args meth c b n ret nR_MOD) (hw : ww_P x s H locs σ) (hdg : decode b pc = .ok (.getfield 41, 3)) (kk : W p l e R s m args below meth c H locs cells slots Q (F0 m (pc + 3) ls (.ref (x.2.2 92) :: rest))) : W p l e R s m args below meth c H locs cells slots Q (F0 m pc ls (.ref (x.2.2 82) :: rest)) := by
  obtain ⟨hx, hb, hml, hr, hlk, hown, hT⟩ := F
  obtain ⟨hP, hD, hK, hS⟩ := hw
  exact va_get (D := x.1) (ci := 5) (C := nR_MOD) (T := nT_MOD) (N := 30) (v := .ref (x.2.2 92)) hx hb hT in_MOD hown hK hP 82 gt_MOD rfl 18 (by decide) (hT _ wm_604) (fun _ h9 => h9) rfl hdg kk
theorem rd_MOD_MOD_rs (F : fx_F p s m args meth c b n ret nR_MOD) (hw : ww_P x s H locs σ) (hdg : decode b pc = .ok (.getfield 13, 3)) (kk : W p l e R s m args below meth c H locs cells slots Q (F0 m (pc + 3) ls (.ref (x.2.2 84) :: rest))) : W p l e R s m args below meth c H locs cells slots Q (F0 m pc ls (.ref (x.2.2 82) :: rest)) := by
  obtain ⟨hx, hb, hml, hr, hlk, hown, hT⟩ := F
  obtain ⟨hP, hD, hK, hS⟩ := hw
  exact va_get (D := x.1) (ci := 5) (C := nR_MOD) (T := nT_MOD) (N := 30) (v := .ref (x.2.2 84)) hx hb hT in_MOD hown hK hP 82 gt_MOD rfl 5 (by decide) (hT _ wm_591) (fun _ h9 => h9) rfl hdg kk
theorem rd_MOD_MOD_signed (F : fx_F p s m args meth c b n ret nR_MOD) (hw : ww_P x s H locs σ) (hdg : decode b pc = .ok (.getfield 103, 3)) (kk : W p l e R s m args below meth c H locs cells slots Q (F0 m (pc + 3) ls (.long (σ 50 0).toInt64 :: rest))) : W p l e R s m args below meth c H locs cells slots Q (F0 m pc ls (.ref (x.2.2 82) :: rest)) := by
  obtain ⟨hx, hb, hml, hr, hlk, hown, hT⟩ := F
  obtain ⟨hP, hD, hK, hS⟩ := hw
  exact va_get (D := x.1) (ci := 5) (C := nR_MOD) (T := nT_MOD) (N := 30) (v := .long (σ 50 0).toInt64) hx hb hT in_MOD hown hK hP 82 gt_MOD rfl 29 (by decide) (hT _ wm_615) (fun _ h9 => h9) rfl hdg kk
theorem wr_MOD_MOD_signed (F : fx_F p s m args meth c b n ret nR_MOD) (hw : ww_P x s H locs σ) {v : Int64} (hv : v.toInt32.toInt64 = v) (hdg : decode b pc = .ok (.putfield 103, 3)) (kk : ∀ (H1 : Heap) (locs1 : List Loc), ww_P x s H1 locs1 (sg_up σ 50 0 v.toInt32) → W p l e R s m args below meth c H1 locs1 cells slots Q (F0 m (pc + 3) ls (rest))) : W p l e R s m args below meth c H locs cells slots Q (F0 m pc ls (.long v :: .ref (x.2.2 82) :: rest)) := by
  obtain ⟨hx, hb, hml, hr, hlk, hown, hT⟩ := F
  obtain ⟨hP, hD, hK, hS⟩ := hw
  refine va_put (D := x.1) (ci := 5) (C := nR_MOD) (T := nT_MOD) (N := 30) (v := .long v) (ty := .long) hx hb hT in_MOD nY_MOD nK_MOD nM_MOD hown hK hP hD hS 82 gt_MOD rfl 29 (by decide) (hT _ wm_615) (fun _ h9 => h9) rfl (by decide +kernel) rfl rfl (Nat.le_of_ble_eq_true rfl) hdg (fun H1 locs1 hP hD hS => ?_)
  rw [st_MOD_signed v hv] at hP hD
  exact kk H1 locs1 ⟨hP, hD, hK, hS⟩
theorem rd_MOD_MOD_ss (F : fx_F p s m args meth c b n ret nR_MOD) (hw : ww_P x s H locs σ) (hdg : decode b pc = .ok (.getfield 16, 3)) (kk : W p l e R s m args below meth c H locs cells slots Q (F0 m (pc + 3) ls (.ref (x.2.2 85) :: rest))) : W p l e R s m args below meth c H locs cells slots Q (F0 m pc ls (.ref (x.2.2 82) :: rest)) := by
  obtain ⟨hx, hb, hml, hr, hlk, hown, hT⟩ := F
  obtain ⟨hP, hD, hK, hS⟩ := hw
  exact va_get (D := x.1) (ci := 5) (C := nR_MOD) (T := nT_MOD) (N := 30) (v := .ref (x.2.2 85)) hx hb hT in_MOD hown hK hP 82 gt_MOD rfl 6 (by decide) (hT _ wm_592) (fun _ h9 => h9) rfl hdg kk
theorem rd_MOD_MOD_state (F : fx_F p s m args meth c b n ret nR_MOD) (hw : ww_P x s H locs σ) (hdg : decode b pc = .ok (.getfield 25, 3)) (kk : W p l e R s m args below meth c H locs cells slots Q (F0 m (pc + 3) ls (.int (σ 30 3) :: rest))) : W p l e R s m args below meth c H locs cells slots Q (F0 m pc ls (.ref (x.2.2 82) :: rest)) := by
  obtain ⟨hx, hb, hml, hr, hlk, hown, hT⟩ := F
  obtain ⟨hP, hD, hK, hS⟩ := hw
  exact va_get (D := x.1) (ci := 5) (C := nR_MOD) (T := nT_MOD) (N := 30) (v := .int (σ 30 3)) hx hb hT in_MOD hown hK hP 82 gt_MOD rfl 9 (by decide) (hT _ wm_595) (fun _ h9 => h9) rfl hdg kk
theorem wr_MOD_MOD_state (F : fx_F p s m args meth c b n ret nR_MOD) (hw : ww_P x s H locs σ) {v : Int32} (hdg : decode b pc = .ok (.putfield 25, 3)) (kk : ∀ (H1 : Heap) (locs1 : List Loc), ww_P x s H1 locs1 (sg_up σ 30 3 v) → W p l e R s m args below meth c H1 locs1 cells slots Q (F0 m (pc + 3) ls (rest))) : W p l e R s m args below meth c H locs cells slots Q (F0 m pc ls (.int v :: .ref (x.2.2 82) :: rest)) := by
  obtain ⟨hx, hb, hml, hr, hlk, hown, hT⟩ := F
  obtain ⟨hP, hD, hK, hS⟩ := hw
  refine va_put (D := x.1) (ci := 5) (C := nR_MOD) (T := nT_MOD) (N := 30) (v := .int v) (ty := .int) hx hb hT in_MOD nY_MOD nK_MOD nM_MOD hown hK hP hD hS 82 gt_MOD rfl 9 (by decide) (hT _ wm_595) (fun _ h9 => h9) rfl (by decide +kernel) rfl rfl (Nat.le_of_ble_eq_true rfl) hdg (fun H1 locs1 hP hD hS => ?_)
  rw [st_MOD_state v] at hP hD
  exact kk H1 locs1 ⟨hP, hD, hK, hS⟩
theorem rd_MOD_MOD_tag (F : fx_F p s m args meth c b n ret nR_MOD) (hw : ww_P x s H locs σ) (hdg : decode b pc = .ok (.getfield 59, 3)) (kk : W p l e R s m args below meth c H locs cells slots Q (F0 m (pc + 3) ls (.ref (x.2.2 98) :: rest))) : W p l e R s m args below meth c H locs cells slots Q (F0 m pc ls (.ref (x.2.2 82) :: rest)) := by
  obtain ⟨hx, hb, hml, hr, hlk, hown, hT⟩ := F
  obtain ⟨hP, hD, hK, hS⟩ := hw
  exact va_get (D := x.1) (ci := 5) (C := nR_MOD) (T := nT_MOD) (N := 30) (v := .ref (x.2.2 98)) hx hb hT in_MOD hown hK hP 82 gt_MOD rfl 24 (by decide) (hT _ wm_610) (fun _ h9 => h9) rfl hdg kk
theorem rd_MOD_MOD_taken (F : fx_F p s m args meth c b n ret nR_MOD) (hw : ww_P x s H locs σ) (hdg : decode b pc = .ok (.getfield 68, 3)) (kk : W p l e R s m args below meth c H locs cells slots Q (F0 m (pc + 3) ls (.ref (x.2.2 101) :: rest))) : W p l e R s m args below meth c H locs cells slots Q (F0 m pc ls (.ref (x.2.2 82) :: rest)) := by
  obtain ⟨hx, hb, hml, hr, hlk, hown, hT⟩ := F
  obtain ⟨hP, hD, hK, hS⟩ := hw
  exact va_get (D := x.1) (ci := 5) (C := nR_MOD) (T := nT_MOD) (N := 30) (v := .ref (x.2.2 101)) hx hb hT in_MOD hown hK hP 82 gt_MOD rfl 27 (by decide) (hT _ wm_613) (fun _ h9 => h9) rfl hdg kk
theorem rd_MOD_MOD_threw (F : fx_F p s m args meth c b n ret nR_MOD) (hw : ww_P x s H locs σ) (hdg : decode b pc = .ok (.getfield 78, 3)) (kk : W p l e R s m args below meth c H locs cells slots Q (F0 m (pc + 3) ls (.int (σ 30 9) :: rest))) : W p l e R s m args below meth c H locs cells slots Q (F0 m pc ls (.ref (x.2.2 82) :: rest)) := by
  obtain ⟨hx, hb, hml, hr, hlk, hown, hT⟩ := F
  obtain ⟨hP, hD, hK, hS⟩ := hw
  exact va_get (D := x.1) (ci := 5) (C := nR_MOD) (T := nT_MOD) (N := 30) (v := .int (σ 30 9)) hx hb hT in_MOD hown hK hP 82 gt_MOD rfl 2 (by decide) (hT _ wm_588) (fun _ h9 => h9) rfl hdg kk
theorem wr_MOD_MOD_threw (F : fx_F p s m args meth c b n ret nR_MOD) (hw : ww_P x s H locs σ) {v : Int32} (hdg : decode b pc = .ok (.putfield 78, 3)) (kk : ∀ (H1 : Heap) (locs1 : List Loc), ww_P x s H1 locs1 (sg_up σ 30 9 v) → W p l e R s m args below meth c H1 locs1 cells slots Q (F0 m (pc + 3) ls (rest))) : W p l e R s m args below meth c H locs cells slots Q (F0 m pc ls (.int v :: .ref (x.2.2 82) :: rest)) := by
  obtain ⟨hx, hb, hml, hr, hlk, hown, hT⟩ := F
  obtain ⟨hP, hD, hK, hS⟩ := hw
  refine va_put (D := x.1) (ci := 5) (C := nR_MOD) (T := nT_MOD) (N := 30) (v := .int v) (ty := .int) hx hb hT in_MOD nY_MOD nK_MOD nM_MOD hown hK hP hD hS 82 gt_MOD rfl 2 (by decide) (hT _ wm_588) (fun _ h9 => h9) rfl (by decide +kernel) rfl rfl (Nat.le_of_ble_eq_true rfl) hdg (fun H1 locs1 hP hD hS => ?_)
  rw [st_MOD_threw v] at hP hD
  exact kk H1 locs1 ⟨hP, hD, hK, hS⟩
theorem rd_MOD_MOD_value (F : fx_F p s m args meth c b n ret nR_MOD) (hw : ww_P x s H locs σ) (hdg : decode b pc = .ok (.getfield 29, 3)) (kk : W p l e R s m args below meth c H locs cells slots Q (F0 m (pc + 3) ls (.ref (x.2.2 88) :: rest))) : W p l e R s m args below meth c H locs cells slots Q (F0 m pc ls (.ref (x.2.2 82) :: rest)) := by
  obtain ⟨hx, hb, hml, hr, hlk, hown, hT⟩ := F
  obtain ⟨hP, hD, hK, hS⟩ := hw
  exact va_get (D := x.1) (ci := 5) (C := nR_MOD) (T := nT_MOD) (N := 30) (v := .ref (x.2.2 88)) hx hb hT in_MOD hown hK hP 82 gt_MOD rfl 14 (by decide) (hT _ wm_600) (fun _ h9 => h9) rfl hdg kk
theorem rd_MOD_MOD_waits (F : fx_F p s m args meth c b n ret nR_MOD) (hw : ww_P x s H locs σ) (hdg : decode b pc = .ok (.getfield 32, 3)) (kk : W p l e R s m args below meth c H locs cells slots Q (F0 m (pc + 3) ls (.ref (x.2.2 89) :: rest))) : W p l e R s m args below meth c H locs cells slots Q (F0 m pc ls (.ref (x.2.2 82) :: rest)) := by
  obtain ⟨hx, hb, hml, hr, hlk, hown, hT⟩ := F
  obtain ⟨hP, hD, hK, hS⟩ := hw
  exact va_get (D := x.1) (ci := 5) (C := nR_MOD) (T := nT_MOD) (N := 30) (v := .ref (x.2.2 89)) hx hb hT in_MOD hown hK hP 82 gt_MOD rfl 15 (by decide) (hT _ wm_601) (fun _ h9 => h9) rfl hdg kk
theorem rd_MOD_MOD_what (F : fx_F p s m args meth c b n ret nR_MOD) (hw : ww_P x s H locs σ) (hdg : decode b pc = .ok (.getfield 44, 3)) (kk : W p l e R s m args below meth c H locs cells slots Q (F0 m (pc + 3) ls (.ref (x.2.2 93) :: rest))) : W p l e R s m args below meth c H locs cells slots Q (F0 m pc ls (.ref (x.2.2 82) :: rest)) := by
  obtain ⟨hx, hb, hml, hr, hlk, hown, hT⟩ := F
  obtain ⟨hP, hD, hK, hS⟩ := hw
  exact va_get (D := x.1) (ci := 5) (C := nR_MOD) (T := nT_MOD) (N := 30) (v := .ref (x.2.2 93)) hx hb hT in_MOD hown hK hP 82 gt_MOD rfl 19 (by decide) (hT _ wm_605) (fun _ h9 => h9) rfl hdg kk
theorem rd_MOD_MOD_where (F : fx_F p s m args meth c b n ret nR_MOD) (hw : ww_P x s H locs σ) (hdg : decode b pc = .ok (.getfield 62, 3)) (kk : W p l e R s m args below meth c H locs cells slots Q (F0 m (pc + 3) ls (.ref (x.2.2 99) :: rest))) : W p l e R s m args below meth c H locs cells slots Q (F0 m pc ls (.ref (x.2.2 82) :: rest)) := by
  obtain ⟨hx, hb, hml, hr, hlk, hown, hT⟩ := F
  obtain ⟨hP, hD, hK, hS⟩ := hw
  exact va_get (D := x.1) (ci := 5) (C := nR_MOD) (T := nT_MOD) (N := 30) (v := .ref (x.2.2 99)) hx hb hT in_MOD hown hK hP 82 gt_MOD rfl 25 (by decide) (hT _ wm_611) (fun _ h9 => h9) rfl hdg kk
theorem rd_MOD_MOD_words (F : fx_F p s m args meth c b n ret nR_MOD) (hw : ww_P x s H locs σ) (hdg : decode b pc = .ok (.getfield 38, 3)) (kk : W p l e R s m args below meth c H locs cells slots Q (F0 m (pc + 3) ls (.ref (x.2.2 91) :: rest))) : W p l e R s m args below meth c H locs cells slots Q (F0 m pc ls (.ref (x.2.2 82) :: rest)) := by
  obtain ⟨hx, hb, hml, hr, hlk, hown, hT⟩ := F
  obtain ⟨hP, hD, hK, hS⟩ := hw
  exact va_get (D := x.1) (ci := 5) (C := nR_MOD) (T := nT_MOD) (N := 30) (v := .ref (x.2.2 91)) hx hb hT in_MOD hown hK hP 82 gt_MOD rfl 17 (by decide) (hT _ wm_603) (fun _ h9 => h9) rfl hdg kk
theorem rd_OPD_OPD_awaited (F : fx_F p s m args meth c b n ret nR_OPD) (hw : ww_P x s H locs σ) {i : Nat} (hi : i < 31) (hdg : decode b pc = .ok (.getfield 7, 3)) (kk : W p l e R s m args below meth c H locs cells slots Q (F0 m (pc + 3) ls (.int (σ 7 i) :: rest))) : W p l e R s m args below meth c H locs cells slots Q (F0 m pc ls (.ref (x.2.2 (38 + i)) :: rest)) := by
  obtain ⟨hx, hb, hml, hr, hlk, hown, hT⟩ := F
  obtain ⟨hP, hD, hK, hS⟩ := hw
  exact va_get (D := x.1) (ci := 1) (C := nR_OPD) (T := nT_OPD) (N := 2) (v := .int (σ 7 i)) hx hb hT in_OPD hown hK hP (38 + i) (gt_OPD hi) rfl 1 (by decide) (hT _ wm_112) (fun _ h9 => h9) rfl hdg kk
theorem wr_OPD_OPD_awaited (F : fx_F p s m args meth c b n ret nR_OPD) (hw : ww_P x s H locs σ) {i : Nat} (hi : i < 31) {v : Int32} (hdg : decode b pc = .ok (.putfield 7, 3)) (kk : ∀ (H1 : Heap) (locs1 : List Loc), ww_P x s H1 locs1 (sg_up σ 7 i v) → W p l e R s m args below meth c H1 locs1 cells slots Q (F0 m (pc + 3) ls (rest))) : W p l e R s m args below meth c H locs cells slots Q (F0 m pc ls (.int v :: .ref (x.2.2 (38 + i)) :: rest)) := by
  obtain ⟨hx, hb, hml, hr, hlk, hown, hT⟩ := F
  obtain ⟨hP, hD, hK, hS⟩ := hw
  refine va_put (D := x.1) (ci := 1) (C := nR_OPD) (T := nT_OPD) (N := 2) (v := .int v) (ty := .int) hx hb hT in_OPD nY_OPD nK_OPD nM_OPD hown hK hP hD hS (38 + i) (gt_OPD hi) rfl 1 (by decide) (hT _ wm_112) (fun _ h9 => h9) rfl (by decide +kernel) rfl rfl (Nat.le_of_ble_eq_true rfl) hdg (fun H1 locs1 hP hD hS => ?_)
  rw [st_OPD_awaited hi v] at hP hD
  exact kk H1 locs1 ⟨hP, hD, hK, hS⟩
theorem rd_OPD_OPD_value (F : fx_F p s m args meth c b n ret nR_OPD) (hw : ww_P x s H locs σ) {i : Nat} (hi : i < 31) (hdg : decode b pc = .ok (.getfield 13, 3)) (kk : W p l e R s m args below meth c H locs cells slots Q (F0 m (pc + 3) ls (.int (σ 6 i) :: rest))) : W p l e R s m args below meth c H locs cells slots Q (F0 m pc ls (.ref (x.2.2 (38 + i)) :: rest)) := by
  obtain ⟨hx, hb, hml, hr, hlk, hown, hT⟩ := F
  obtain ⟨hP, hD, hK, hS⟩ := hw
  exact va_get (D := x.1) (ci := 1) (C := nR_OPD) (T := nT_OPD) (N := 2) (v := .int (σ 6 i)) hx hb hT in_OPD hown hK hP (38 + i) (gt_OPD hi) rfl 0 (by decide) (hT _ wm_110) (fun _ h9 => h9) rfl hdg kk
theorem wr_OPD_OPD_value (F : fx_F p s m args meth c b n ret nR_OPD) (hw : ww_P x s H locs σ) {i : Nat} (hi : i < 31) {v : Int32} (hdg : decode b pc = .ok (.putfield 13, 3)) (kk : ∀ (H1 : Heap) (locs1 : List Loc), ww_P x s H1 locs1 (sg_up σ 6 i v) → W p l e R s m args below meth c H1 locs1 cells slots Q (F0 m (pc + 3) ls (rest))) : W p l e R s m args below meth c H locs cells slots Q (F0 m pc ls (.int v :: .ref (x.2.2 (38 + i)) :: rest)) := by
  obtain ⟨hx, hb, hml, hr, hlk, hown, hT⟩ := F
  obtain ⟨hP, hD, hK, hS⟩ := hw
  refine va_put (D := x.1) (ci := 1) (C := nR_OPD) (T := nT_OPD) (N := 2) (v := .int v) (ty := .int) hx hb hT in_OPD nY_OPD nK_OPD nM_OPD hown hK hP hD hS (38 + i) (gt_OPD hi) rfl 0 (by decide) (hT _ wm_110) (fun _ h9 => h9) rfl (by decide +kernel) rfl rfl (Nat.le_of_ble_eq_true rfl) hdg (fun H1 locs1 hP hD hS => ?_)
  rw [st_OPD_value hi v] at hP hD
  exact kk H1 locs1 ⟨hP, hD, hK, hS⟩
theorem wr_REC_REC_raised (F : fx_F p s m args meth c b n ret nR_REC) (hw : ww_P x s H locs σ) {v : Int32} (hdg : decode b pc = .ok (.putfield 9, 3)) (kk : ∀ (H1 : Heap) (locs1 : List Loc), ww_P x s H1 locs1 (sg_up σ 20 1 v) → W p l e R s m args below meth c H1 locs1 cells slots Q (F0 m (pc + 3) ls (rest))) : W p l e R s m args below meth c H locs cells slots Q (F0 m pc ls (.int v :: .ref (x.2.2 7) :: rest)) := by
  obtain ⟨hx, hb, hml, hr, hlk, hown, hT⟩ := F
  obtain ⟨hP, hD, hK, hS⟩ := hw
  refine va_put (D := x.1) (ci := 2) (C := nR_REC) (T := nT_REC) (N := 2) (v := .int v) (ty := .int) hx hb hT in_REC nY_REC nK_REC nM_REC hown hK hP hD hS 7 gt_REC rfl 1 (by decide) (hT _ wm_173) (fun _ h9 => h9) rfl (by decide +kernel) rfl rfl (Nat.le_of_ble_eq_true rfl) hdg (fun H1 locs1 hP hD hS => ?_)
  rw [st_REC_raised v] at hP hD
  exact kk H1 locs1 ⟨hP, hD, hK, hS⟩
theorem wr_REC_REC_result (F : fx_F p s m args meth c b n ret nR_REC) (hw : ww_P x s H locs σ) {v : Int32} (hdg : decode b pc = .ok (.putfield 39, 3)) (kk : ∀ (H1 : Heap) (locs1 : List Loc), ww_P x s H1 locs1 (sg_up σ 20 0 v) → W p l e R s m args below meth c H1 locs1 cells slots Q (F0 m (pc + 3) ls (rest))) : W p l e R s m args below meth c H locs cells slots Q (F0 m pc ls (.int v :: .ref (x.2.2 7) :: rest)) := by
  obtain ⟨hx, hb, hml, hr, hlk, hown, hT⟩ := F
  obtain ⟨hP, hD, hK, hS⟩ := hw
  refine va_put (D := x.1) (ci := 2) (C := nR_REC) (T := nT_REC) (N := 2) (v := .int v) (ty := .int) hx hb hT in_REC nY_REC nK_REC nM_REC hown hK hP hD hS 7 gt_REC rfl 0 (by decide) (hT _ wm_171) (fun _ h9 => h9) rfl (by decide +kernel) rfl rfl (Nat.le_of_ble_eq_true rfl) hdg (fun H1 locs1 hP hD hS => ?_)
  rw [st_REC_result v] at hP hD
  exact kk H1 locs1 ⟨hP, hD, hK, hS⟩
theorem rd_TM_INS_b (F : fx_F p s m args meth c b n ret nR_TM) (hw : ww_P x s H locs σ) {i : Nat} (hi : i < 30) (hdg : decode b pc = .ok (.getfield 231, 3)) (kk : W p l e R s m args below meth c H locs cells slots Q (F0 m (pc + 3) ls (.int (σ 4 i) :: rest))) : W p l e R s m args below meth c H locs cells slots Q (F0 m pc ls (.ref (x.2.2 (8 + i)) :: rest)) := by
  obtain ⟨hx, hb, hml, hr, hlk, hown, hT⟩ := F
  obtain ⟨hP, hD, hK, hS⟩ := hw
  exact va_get (D := x.1) (ci := 0) (C := nR_INS) (T := nT_INS) (N := 5) (v := .int (σ 4 i)) hx hb hT in_INS hown hK hP (8 + i) (gt_INS hi) rfl 3 (by decide) (hT _ wm_89) (fun _ h9 => h9) rfl hdg kk
theorem rd_TM_INS_n (F : fx_F p s m args meth c b n ret nR_TM) (hw : ww_P x s H locs σ) {i : Nat} (hi : i < 30) (hdg : decode b pc = .ok (.getfield 234, 3)) (kk : W p l e R s m args below meth c H locs cells slots Q (F0 m (pc + 3) ls (.int (σ 5 i) :: rest))) : W p l e R s m args below meth c H locs cells slots Q (F0 m pc ls (.ref (x.2.2 (8 + i)) :: rest)) := by
  obtain ⟨hx, hb, hml, hr, hlk, hown, hT⟩ := F
  obtain ⟨hP, hD, hK, hS⟩ := hw
  exact va_get (D := x.1) (ci := 0) (C := nR_INS) (T := nT_INS) (N := 5) (v := .int (σ 5 i)) hx hb hT in_INS hown hK hP (8 + i) (gt_INS hi) rfl 4 (by decide) (hT _ wm_91) (fun _ h9 => h9) rfl hdg kk
theorem rd_TM_INS_op (F : fx_F p s m args meth c b n ret nR_TM) (hw : ww_P x s H locs σ) {i : Nat} (hi : i < 30) (hdg : decode b pc = .ok (.getfield 220, 3)) (kk : W p l e R s m args below meth c H locs cells slots Q (F0 m (pc + 3) ls (.int (σ 1 i) :: rest))) : W p l e R s m args below meth c H locs cells slots Q (F0 m pc ls (.ref (x.2.2 (8 + i)) :: rest)) := by
  obtain ⟨hx, hb, hml, hr, hlk, hown, hT⟩ := F
  obtain ⟨hP, hD, hK, hS⟩ := hw
  exact va_get (D := x.1) (ci := 0) (C := nR_INS) (T := nT_INS) (N := 5) (v := .int (σ 1 i)) hx hb hT in_INS hown hK hP (8 + i) (gt_INS hi) rfl 0 (by decide) (hT _ wm_83) (fun _ h9 => h9) rfl hdg kk
theorem rd_TM_INS_r (F : fx_F p s m args meth c b n ret nR_TM) (hw : ww_P x s H locs σ) {i : Nat} (hi : i < 30) (hdg : decode b pc = .ok (.getfield 243, 3)) (kk : W p l e R s m args below meth c H locs cells slots Q (F0 m (pc + 3) ls (.int (σ 2 i) :: rest))) : W p l e R s m args below meth c H locs cells slots Q (F0 m pc ls (.ref (x.2.2 (8 + i)) :: rest)) := by
  obtain ⟨hx, hb, hml, hr, hlk, hown, hT⟩ := F
  obtain ⟨hP, hD, hK, hS⟩ := hw
  exact va_get (D := x.1) (ci := 0) (C := nR_INS) (T := nT_INS) (N := 5) (v := .int (σ 2 i)) hx hb hT in_INS hown hK hP (8 + i) (gt_INS hi) rfl 1 (by decide) (hT _ wm_85) (fun _ h9 => h9) rfl hdg kk
theorem rd_TM_INS_s (F : fx_F p s m args meth c b n ret nR_TM) (hw : ww_P x s H locs σ) {i : Nat} (hi : i < 30) (hdg : decode b pc = .ok (.getfield 253, 3)) (kk : W p l e R s m args below meth c H locs cells slots Q (F0 m (pc + 3) ls (.int (σ 3 i) :: rest))) : W p l e R s m args below meth c H locs cells slots Q (F0 m pc ls (.ref (x.2.2 (8 + i)) :: rest)) := by
  obtain ⟨hx, hb, hml, hr, hlk, hown, hT⟩ := F
  obtain ⟨hP, hD, hK, hS⟩ := hw
  exact va_get (D := x.1) (ci := 0) (C := nR_INS) (T := nT_INS) (N := 5) (v := .int (σ 3 i)) hx hb hT in_INS hown hK hP (8 + i) (gt_INS hi) rfl 2 (by decide) (hT _ wm_87) (fun _ h9 => h9) rfl hdg kk
theorem rd_TM_OPD_awaited (F : fx_F p s m args meth c b n ret nR_TM) (hw : ww_P x s H locs σ) {i : Nat} (hi : i < 31) (hdg : decode b pc = .ok (.getfield 123, 3)) (kk : W p l e R s m args below meth c H locs cells slots Q (F0 m (pc + 3) ls (.int (σ 7 i) :: rest))) : W p l e R s m args below meth c H locs cells slots Q (F0 m pc ls (.ref (x.2.2 (38 + i)) :: rest)) := by
  obtain ⟨hx, hb, hml, hr, hlk, hown, hT⟩ := F
  obtain ⟨hP, hD, hK, hS⟩ := hw
  exact va_get (D := x.1) (ci := 1) (C := nR_OPD) (T := nT_OPD) (N := 2) (v := .int (σ 7 i)) hx hb hT in_OPD hown hK hP (38 + i) (gt_OPD hi) rfl 1 (by decide) (hT _ wm_113) (fun _ h9 => h9) rfl hdg kk
theorem rd_TM_OPD_value (F : fx_F p s m args meth c b n ret nR_TM) (hw : ww_P x s H locs σ) {i : Nat} (hi : i < 31) (hdg : decode b pc = .ok (.getfield 120, 3)) (kk : W p l e R s m args below meth c H locs cells slots Q (F0 m (pc + 3) ls (.int (σ 6 i) :: rest))) : W p l e R s m args below meth c H locs cells slots Q (F0 m pc ls (.ref (x.2.2 (38 + i)) :: rest)) := by
  obtain ⟨hx, hb, hml, hr, hlk, hown, hT⟩ := F
  obtain ⟨hP, hD, hK, hS⟩ := hw
  exact va_get (D := x.1) (ci := 1) (C := nR_OPD) (T := nT_OPD) (N := 2) (v := .int (σ 6 i)) hx hb hT in_OPD hown hK hP (38 + i) (gt_OPD hi) rfl 0 (by decide) (hT _ wm_111) (fun _ h9 => h9) rfl hdg kk
theorem rd_TM_REC_raised (F : fx_F p s m args meth c b n ret nR_TM) (hw : ww_P x s H locs σ) (hdg : decode b pc = .ok (.getfield 117, 3)) (kk : W p l e R s m args below meth c H locs cells slots Q (F0 m (pc + 3) ls (.int (σ 20 1) :: rest))) : W p l e R s m args below meth c H locs cells slots Q (F0 m pc ls (.ref (x.2.2 7) :: rest)) := by
  obtain ⟨hx, hb, hml, hr, hlk, hown, hT⟩ := F
  obtain ⟨hP, hD, hK, hS⟩ := hw
  exact va_get (D := x.1) (ci := 2) (C := nR_REC) (T := nT_REC) (N := 2) (v := .int (σ 20 1)) hx hb hT in_REC hown hK hP 7 gt_REC rfl 1 (by decide) (hT _ wm_174) (fun _ h9 => h9) rfl hdg kk
theorem rd_TM_REC_result (F : fx_F p s m args meth c b n ret nR_TM) (hw : ww_P x s H locs σ) (hdg : decode b pc = .ok (.getfield 114, 3)) (kk : W p l e R s m args below meth c H locs cells slots Q (F0 m (pc + 3) ls (.int (σ 20 0) :: rest))) : W p l e R s m args below meth c H locs cells slots Q (F0 m pc ls (.ref (x.2.2 7) :: rest)) := by
  obtain ⟨hx, hb, hml, hr, hlk, hown, hT⟩ := F
  obtain ⟨hP, hD, hK, hS⟩ := hw
  exact va_get (D := x.1) (ci := 2) (C := nR_REC) (T := nT_REC) (N := 2) (v := .int (σ 20 0)) hx hb hT in_REC hown hK hP 7 gt_REC rfl 0 (by decide) (hT _ wm_172) (fun _ h9 => h9) rfl hdg kk
theorem rd_TM_TM_bankInUse (F : fx_F p s m args meth c b n ret nR_TM) (hw : ww_P x s H locs σ) (hdg : decode b pc = .ok (.getfield 53, 3)) (kk : W p l e R s m args below meth c H locs cells slots Q (F0 m (pc + 3) ls (.ref (x.2.2 6) :: rest))) : W p l e R s m args below meth c H locs cells slots Q (F0 m pc ls (.ref (x.2.2 0) :: rest)) := by
  obtain ⟨hx, hb, hml, hr, hlk, hown, hT⟩ := F
  obtain ⟨hP, hD, hK, hS⟩ := hw
  exact va_get (D := x.1) (ci := 4) (C := nR_TM) (T := nT_TM) (N := 15) (v := .ref (x.2.2 6)) hx hb hT in_TM hown hK hP 0 gt_TM rfl 7 (by decide) (hT _ wm_189) (fun _ h9 => h9) rfl hdg kk
theorem rd_TM_TM_banks (F : fx_F p s m args meth c b n ret nR_TM) (hw : ww_P x s H locs σ) (hdg : decode b pc = .ok (.getfield 18, 3)) (kk : W p l e R s m args below meth c H locs cells slots Q (F0 m (pc + 3) ls (.int (σ 0 0) :: rest))) : W p l e R s m args below meth c H locs cells slots Q (F0 m pc ls (.ref (x.2.2 0) :: rest)) := by
  obtain ⟨hx, hb, hml, hr, hlk, hown, hT⟩ := F
  obtain ⟨hP, hD, hK, hS⟩ := hw
  exact va_get (D := x.1) (ci := 4) (C := nR_TM) (T := nT_TM) (N := 15) (v := .int (σ 0 0)) hx hb hT in_TM hown hK hP 0 gt_TM rfl 0 (by decide) (hT _ wm_182) (fun _ h9 => h9) rfl hdg kk
theorem rd_TM_TM_cycles (F : fx_F p s m args meth c b n ret nR_TM) (hw : ww_P x s H locs σ) (hdg : decode b pc = .ok (.getfield 129, 3)) (kk : W p l e R s m args below meth c H locs cells slots Q (F0 m (pc + 3) ls (.int (σ 0 6) :: rest))) : W p l e R s m args below meth c H locs cells slots Q (F0 m pc ls (.ref (x.2.2 0) :: rest)) := by
  obtain ⟨hx, hb, hml, hr, hlk, hown, hT⟩ := F
  obtain ⟨hP, hD, hK, hS⟩ := hw
  exact va_get (D := x.1) (ci := 4) (C := nR_TM) (T := nT_TM) (N := 15) (v := .int (σ 0 6)) hx hb hT in_TM hown hK hP 0 gt_TM rfl 13 (by decide) (hT _ wm_195) (fun _ h9 => h9) rfl hdg kk
theorem wr_TM_TM_cycles (F : fx_F p s m args meth c b n ret nR_TM) (hw : ww_P x s H locs σ) {v : Int32} (hdg : decode b pc = .ok (.putfield 129, 3)) (kk : ∀ (H1 : Heap) (locs1 : List Loc), ww_P x s H1 locs1 (sg_up σ 0 6 v) → W p l e R s m args below meth c H1 locs1 cells slots Q (F0 m (pc + 3) ls (rest))) : W p l e R s m args below meth c H locs cells slots Q (F0 m pc ls (.int v :: .ref (x.2.2 0) :: rest)) := by
  obtain ⟨hx, hb, hml, hr, hlk, hown, hT⟩ := F
  obtain ⟨hP, hD, hK, hS⟩ := hw
  refine va_put (D := x.1) (ci := 4) (C := nR_TM) (T := nT_TM) (N := 15) (v := .int v) (ty := .int) hx hb hT in_TM nY_TM nK_TM nM_TM hown hK hP hD hS 0 gt_TM rfl 13 (by decide) (hT _ wm_195) (fun _ h9 => h9) rfl (by decide +kernel) rfl rfl (Nat.le_of_ble_eq_true rfl) hdg (fun H1 locs1 hP hD hS => ?_)
  rw [st_TM_cycles v] at hP hD
  exact kk H1 locs1 ⟨hP, hD, hK, hS⟩
theorem rd_TM_TM_handedOut (F : fx_F p s m args meth c b n ret nR_TM) (hw : ww_P x s H locs σ) (hdg : decode b pc = .ok (.getfield 132, 3)) (kk : W p l e R s m args below meth c H locs cells slots Q (F0 m (pc + 3) ls (.int (σ 0 7) :: rest))) : W p l e R s m args below meth c H locs cells slots Q (F0 m pc ls (.ref (x.2.2 0) :: rest)) := by
  obtain ⟨hx, hb, hml, hr, hlk, hown, hT⟩ := F
  obtain ⟨hP, hD, hK, hS⟩ := hw
  exact va_get (D := x.1) (ci := 4) (C := nR_TM) (T := nT_TM) (N := 15) (v := .int (σ 0 7)) hx hb hT in_TM hown hK hP 0 gt_TM rfl 14 (by decide) (hT _ wm_196) (fun _ h9 => h9) rfl hdg kk
theorem wr_TM_TM_handedOut (F : fx_F p s m args meth c b n ret nR_TM) (hw : ww_P x s H locs σ) {v : Int32} (hdg : decode b pc = .ok (.putfield 132, 3)) (kk : ∀ (H1 : Heap) (locs1 : List Loc), ww_P x s H1 locs1 (sg_up σ 0 7 v) → W p l e R s m args below meth c H1 locs1 cells slots Q (F0 m (pc + 3) ls (rest))) : W p l e R s m args below meth c H locs cells slots Q (F0 m pc ls (.int v :: .ref (x.2.2 0) :: rest)) := by
  obtain ⟨hx, hb, hml, hr, hlk, hown, hT⟩ := F
  obtain ⟨hP, hD, hK, hS⟩ := hw
  refine va_put (D := x.1) (ci := 4) (C := nR_TM) (T := nT_TM) (N := 15) (v := .int v) (ty := .int) hx hb hT in_TM nY_TM nK_TM nM_TM hown hK hP hD hS 0 gt_TM rfl 14 (by decide) (hT _ wm_196) (fun _ h9 => h9) rfl (by decide +kernel) rfl rfl (Nat.le_of_ble_eq_true rfl) hdg (fun H1 locs1 hP hD hS => ?_)
  rw [st_TM_handedOut v] at hP hD
  exact kk H1 locs1 ⟨hP, hD, hK, hS⟩
theorem rd_TM_TM_instructions (F : fx_F p s m args meth c b n ret nR_TM) (hw : ww_P x s H locs σ) (hdg : decode b pc = .ok (.getfield 74, 3)) (kk : W p l e R s m args below meth c H locs cells slots Q (F0 m (pc + 3) ls (.int (σ 0 2) :: rest))) : W p l e R s m args below meth c H locs cells slots Q (F0 m pc ls (.ref (x.2.2 0) :: rest)) := by
  obtain ⟨hx, hb, hml, hr, hlk, hown, hT⟩ := F
  obtain ⟨hP, hD, hK, hS⟩ := hw
  exact va_get (D := x.1) (ci := 4) (C := nR_TM) (T := nT_TM) (N := 15) (v := .int (σ 0 2)) hx hb hT in_TM hown hK hP 0 gt_TM rfl 9 (by decide) (hT _ wm_191) (fun _ h9 => h9) rfl hdg kk
theorem wr_TM_TM_instructions (F : fx_F p s m args meth c b n ret nR_TM) (hw : ww_P x s H locs σ) {v : Int32} (hdg : decode b pc = .ok (.putfield 74, 3)) (kk : ∀ (H1 : Heap) (locs1 : List Loc), ww_P x s H1 locs1 (sg_up σ 0 2 v) → W p l e R s m args below meth c H1 locs1 cells slots Q (F0 m (pc + 3) ls (rest))) : W p l e R s m args below meth c H locs cells slots Q (F0 m pc ls (.int v :: .ref (x.2.2 0) :: rest)) := by
  obtain ⟨hx, hb, hml, hr, hlk, hown, hT⟩ := F
  obtain ⟨hP, hD, hK, hS⟩ := hw
  refine va_put (D := x.1) (ci := 4) (C := nR_TM) (T := nT_TM) (N := 15) (v := .int v) (ty := .int) hx hb hT in_TM nY_TM nK_TM nM_TM hown hK hP hD hS 0 gt_TM rfl 9 (by decide) (hT _ wm_191) (fun _ h9 => h9) rfl (by decide +kernel) rfl rfl (Nat.le_of_ble_eq_true rfl) hdg (fun H1 locs1 hP hD hS => ?_)
  rw [st_TM_instructions v] at hP hD
  exact kk H1 locs1 ⟨hP, hD, hK, hS⟩
theorem rd_TM_TM_integers (F : fx_F p s m args meth c b n ret nR_TM) (hw : ww_P x s H locs σ) (hdg : decode b pc = .ok (.getfield 46, 3)) (kk : W p l e R s m args below meth c H locs cells slots Q (F0 m (pc + 3) ls (.ref (x.2.2 3) :: rest))) : W p l e R s m args below meth c H locs cells slots Q (F0 m pc ls (.ref (x.2.2 0) :: rest)) := by
  obtain ⟨hx, hb, hml, hr, hlk, hown, hT⟩ := F
  obtain ⟨hP, hD, hK, hS⟩ := hw
  exact va_get (D := x.1) (ci := 4) (C := nR_TM) (T := nT_TM) (N := 15) (v := .ref (x.2.2 3)) hx hb hT in_TM hown hK hP 0 gt_TM rfl 4 (by decide) (hT _ wm_186) (fun _ h9 => h9) rfl hdg kk
theorem rd_TM_TM_latency (F : fx_F p s m args meth c b n ret nR_TM) (hw : ww_P x s H locs σ) (hdg : decode b pc = .ok (.getfield 22, 3)) (kk : W p l e R s m args below meth c H locs cells slots Q (F0 m (pc + 3) ls (.int (σ 0 1) :: rest))) : W p l e R s m args below meth c H locs cells slots Q (F0 m pc ls (.ref (x.2.2 0) :: rest)) := by
  obtain ⟨hx, hb, hml, hr, hlk, hown, hT⟩ := F
  obtain ⟨hP, hD, hK, hS⟩ := hw
  exact va_get (D := x.1) (ci := 4) (C := nR_TM) (T := nT_TM) (N := 15) (v := .int (σ 0 1)) hx hb hT in_TM hown hK hP 0 gt_TM rfl 1 (by decide) (hT _ wm_183) (fun _ h9 => h9) rfl hdg kk
theorem rd_TM_TM_mode (F : fx_F p s m args meth c b n ret nR_TM) (hw : ww_P x s H locs σ) (hdg : decode b pc = .ok (.getfield 64, 3)) (kk : W p l e R s m args below meth c H locs cells slots Q (F0 m (pc + 3) ls (.int (σ 0 3) :: rest))) : W p l e R s m args below meth c H locs cells slots Q (F0 m pc ls (.ref (x.2.2 0) :: rest)) := by
  obtain ⟨hx, hb, hml, hr, hlk, hown, hT⟩ := F
  obtain ⟨hP, hD, hK, hS⟩ := hw
  exact va_get (D := x.1) (ci := 4) (C := nR_TM) (T := nT_TM) (N := 15) (v := .int (σ 0 3)) hx hb hT in_TM hown hK hP 0 gt_TM rfl 10 (by decide) (hT _ wm_192) (fun _ h9 => h9) rfl hdg kk
theorem wr_TM_TM_mode (F : fx_F p s m args meth c b n ret nR_TM) (hw : ww_P x s H locs σ) {v : Int32} (hdg : decode b pc = .ok (.putfield 64, 3)) (kk : ∀ (H1 : Heap) (locs1 : List Loc), ww_P x s H1 locs1 (sg_up σ 0 3 v) → W p l e R s m args below meth c H1 locs1 cells slots Q (F0 m (pc + 3) ls (rest))) : W p l e R s m args below meth c H locs cells slots Q (F0 m pc ls (.int v :: .ref (x.2.2 0) :: rest)) := by
  obtain ⟨hx, hb, hml, hr, hlk, hown, hT⟩ := F
  obtain ⟨hP, hD, hK, hS⟩ := hw
  refine va_put (D := x.1) (ci := 4) (C := nR_TM) (T := nT_TM) (N := 15) (v := .int v) (ty := .int) hx hb hT in_TM nY_TM nK_TM nM_TM hown hK hP hD hS 0 gt_TM rfl 10 (by decide) (hT _ wm_192) (fun _ h9 => h9) rfl (by decide +kernel) rfl rfl (Nat.le_of_ble_eq_true rfl) hdg (fun H1 locs1 hP hD hS => ?_)
  rw [st_TM_mode v] at hP hD
  exact kk H1 locs1 ⟨hP, hD, hK, hS⟩
theorem rd_TM_TM_next (F : fx_F p s m args meth c b n ret nR_TM) (hw : ww_P x s H locs σ) (hdg : decode b pc = .ok (.getfield 91, 3)) (kk : W p l e R s m args below meth c H locs cells slots Q (F0 m (pc + 3) ls (.int (σ 0 4) :: rest))) : W p l e R s m args below meth c H locs cells slots Q (F0 m pc ls (.ref (x.2.2 0) :: rest)) := by
  obtain ⟨hx, hb, hml, hr, hlk, hown, hT⟩ := F
  obtain ⟨hP, hD, hK, hS⟩ := hw
  exact va_get (D := x.1) (ci := 4) (C := nR_TM) (T := nT_TM) (N := 15) (v := .int (σ 0 4)) hx hb hT in_TM hown hK hP 0 gt_TM rfl 11 (by decide) (hT _ wm_193) (fun _ h9 => h9) rfl hdg kk
theorem wr_TM_TM_next (F : fx_F p s m args meth c b n ret nR_TM) (hw : ww_P x s H locs σ) {v : Int32} (hdg : decode b pc = .ok (.putfield 91, 3)) (kk : ∀ (H1 : Heap) (locs1 : List Loc), ww_P x s H1 locs1 (sg_up σ 0 4 v) → W p l e R s m args below meth c H1 locs1 cells slots Q (F0 m (pc + 3) ls (rest))) : W p l e R s m args below meth c H locs cells slots Q (F0 m pc ls (.int v :: .ref (x.2.2 0) :: rest)) := by
  obtain ⟨hx, hb, hml, hr, hlk, hown, hT⟩ := F
  obtain ⟨hP, hD, hK, hS⟩ := hw
  refine va_put (D := x.1) (ci := 4) (C := nR_TM) (T := nT_TM) (N := 15) (v := .int v) (ty := .int) hx hb hT in_TM nY_TM nK_TM nM_TM hown hK hP hD hS 0 gt_TM rfl 11 (by decide) (hT _ wm_193) (fun _ h9 => h9) rfl (by decide +kernel) rfl rfl (Nat.le_of_ble_eq_true rfl) hdg (fun H1 locs1 hP hD hS => ?_)
  rw [st_TM_next v] at hP hD
  exact kk H1 locs1 ⟨hP, hD, hK, hS⟩
theorem rd_TM_TM_noted (F : fx_F p s m args meth c b n ret nR_TM) (hw : ww_P x s H locs σ) (hdg : decode b pc = .ok (.getfield 94, 3)) (kk : W p l e R s m args below meth c H locs cells slots Q (F0 m (pc + 3) ls (.int (σ 0 5) :: rest))) : W p l e R s m args below meth c H locs cells slots Q (F0 m pc ls (.ref (x.2.2 0) :: rest)) := by
  obtain ⟨hx, hb, hml, hr, hlk, hown, hT⟩ := F
  obtain ⟨hP, hD, hK, hS⟩ := hw
  exact va_get (D := x.1) (ci := 4) (C := nR_TM) (T := nT_TM) (N := 15) (v := .int (σ 0 5)) hx hb hT in_TM hown hK hP 0 gt_TM rfl 12 (by decide) (hT _ wm_194) (fun _ h9 => h9) rfl hdg kk
theorem wr_TM_TM_noted (F : fx_F p s m args meth c b n ret nR_TM) (hw : ww_P x s H locs σ) {v : Int32} (hdg : decode b pc = .ok (.putfield 94, 3)) (kk : ∀ (H1 : Heap) (locs1 : List Loc), ww_P x s H1 locs1 (sg_up σ 0 5 v) → W p l e R s m args below meth c H1 locs1 cells slots Q (F0 m (pc + 3) ls (rest))) : W p l e R s m args below meth c H locs cells slots Q (F0 m pc ls (.int v :: .ref (x.2.2 0) :: rest)) := by
  obtain ⟨hx, hb, hml, hr, hlk, hown, hT⟩ := F
  obtain ⟨hP, hD, hK, hS⟩ := hw
  refine va_put (D := x.1) (ci := 4) (C := nR_TM) (T := nT_TM) (N := 15) (v := .int v) (ty := .int) hx hb hT in_TM nY_TM nK_TM nM_TM hown hK hP hD hS 0 gt_TM rfl 12 (by decide) (hT _ wm_194) (fun _ h9 => h9) rfl (by decide +kernel) rfl rfl (Nat.le_of_ble_eq_true rfl) hdg (fun H1 locs1 hP hD hS => ?_)
  rw [st_TM_noted v] at hP hD
  exact kk H1 locs1 ⟨hP, hD, hK, hS⟩
theorem rd_TM_TM_program (F : fx_F p s m args meth c b n ret nR_TM) (hw : ww_P x s H locs σ) (hdg : decode b pc = .ok (.getfield 27, 3)) (kk : W p l e R s m args below meth c H locs cells slots Q (F0 m (pc + 3) ls (.ref (x.2.2 1) :: rest))) : W p l e R s m args below meth c H locs cells slots Q (F0 m pc ls (.ref (x.2.2 0) :: rest)) := by
  obtain ⟨hx, hb, hml, hr, hlk, hown, hT⟩ := F
  obtain ⟨hP, hD, hK, hS⟩ := hw
  exact va_get (D := x.1) (ci := 4) (C := nR_TM) (T := nT_TM) (N := 15) (v := .ref (x.2.2 1)) hx hb hT in_TM hown hK hP 0 gt_TM rfl 2 (by decide) (hT _ wm_184) (fun _ h9 => h9) rfl hdg kk
theorem rd_TM_TM_reckoner (F : fx_F p s m args meth c b n ret nR_TM) (hw : ww_P x s H locs σ) (hdg : decode b pc = .ok (.getfield 60, 3)) (kk : W p l e R s m args below meth c H locs cells slots Q (F0 m (pc + 3) ls (.ref (x.2.2 7) :: rest))) : W p l e R s m args below meth c H locs cells slots Q (F0 m pc ls (.ref (x.2.2 0) :: rest)) := by
  obtain ⟨hx, hb, hml, hr, hlk, hown, hT⟩ := F
  obtain ⟨hP, hD, hK, hS⟩ := hw
  exact va_get (D := x.1) (ci := 4) (C := nR_TM) (T := nT_TM) (N := 15) (v := .ref (x.2.2 7)) hx hb hT in_TM hown hK hP 0 gt_TM rfl 8 (by decide) (hT _ wm_190) (fun _ h9 => h9) rfl hdg kk
theorem rd_TM_TM_registers (F : fx_F p s m args meth c b n ret nR_TM) (hw : ww_P x s H locs σ) (hdg : decode b pc = .ok (.getfield 34, 3)) (kk : W p l e R s m args below meth c H locs cells slots Q (F0 m (pc + 3) ls (.ref (x.2.2 2) :: rest))) : W p l e R s m args below meth c H locs cells slots Q (F0 m pc ls (.ref (x.2.2 0) :: rest)) := by
  obtain ⟨hx, hb, hml, hr, hlk, hown, hT⟩ := F
  obtain ⟨hP, hD, hK, hS⟩ := hw
  exact va_get (D := x.1) (ci := 4) (C := nR_TM) (T := nT_TM) (N := 15) (v := .ref (x.2.2 2)) hx hb hT in_TM hown hK hP 0 gt_TM rfl 3 (by decide) (hT _ wm_185) (fun _ h9 => h9) rfl hdg kk
theorem rd_TM_TM_units (F : fx_F p s m args meth c b n ret nR_TM) (hw : ww_P x s H locs σ) (hdg : decode b pc = .ok (.getfield 41, 3)) (kk : W p l e R s m args below meth c H locs cells slots Q (F0 m (pc + 3) ls (.ref (x.2.2 5) :: rest))) : W p l e R s m args below meth c H locs cells slots Q (F0 m pc ls (.ref (x.2.2 0) :: rest)) := by
  obtain ⟨hx, hb, hml, hr, hlk, hown, hT⟩ := F
  obtain ⟨hP, hD, hK, hS⟩ := hw
  exact va_get (D := x.1) (ci := 4) (C := nR_TM) (T := nT_TM) (N := 15) (v := .ref (x.2.2 5)) hx hb hT in_TM hown hK hP 0 gt_TM rfl 6 (by decide) (hT _ wm_188) (fun _ h9 => h9) rfl hdg kk
theorem rd_TM_TM_words (F : fx_F p s m args meth c b n ret nR_TM) (hw : ww_P x s H locs σ) (hdg : decode b pc = .ok (.getfield 50, 3)) (kk : W p l e R s m args below meth c H locs cells slots Q (F0 m (pc + 3) ls (.ref (x.2.2 4) :: rest))) : W p l e R s m args below meth c H locs cells slots Q (F0 m pc ls (.ref (x.2.2 0) :: rest)) := by
  obtain ⟨hx, hb, hml, hr, hlk, hown, hT⟩ := F
  obtain ⟨hP, hD, hK, hS⟩ := hw
  exact va_get (D := x.1) (ci := 4) (C := nR_TM) (T := nT_TM) (N := 15) (v := .ref (x.2.2 4)) hx hb hT in_TM hown hK hP 0 gt_TM rfl 5 (by decide) (hT _ wm_187) (fun _ h9 => h9) rfl hdg kk
theorem rd_TM_UNI_address (F : fx_F p s m args meth c b n ret nR_TM) (hw : ww_P x s H locs σ) {i : Nat} (hi : i < 13) (hdg : decode b pc = .ok (.getfield 197, 3)) (kk : W p l e R s m args below meth c H locs cells slots Q (F0 m (pc + 3) ls (.int (σ 17 i) :: rest))) : W p l e R s m args below meth c H locs cells slots Q (F0 m pc ls (.ref (x.2.2 (69 + i)) :: rest)) := by
  obtain ⟨hx, hb, hml, hr, hlk, hown, hT⟩ := F
  obtain ⟨hP, hD, hK, hS⟩ := hw
  exact va_get (D := x.1) (ci := 3) (C := nR_UNI) (T := nT_UNI) (N := 9) (v := .int (σ 17 i)) hx hb hT in_UNI hown hK hP (69 + i) (gt_UNI hi) rfl 4 (by decide) (hT _ wm_137) (fun _ h9 => h9) rfl hdg kk
theorem rd_TM_UNI_first (F : fx_F p s m args meth c b n ret nR_TM) (hw : ww_P x s H locs σ) {i : Nat} (hi : i < 13) (hdg : decode b pc = .ok (.getfield 200, 3)) (kk : W p l e R s m args below meth c H locs cells slots Q (F0 m (pc + 3) ls (.ref (x.2.2 (38 + (5 + 2 * i))) :: rest))) : W p l e R s m args below meth c H locs cells slots Q (F0 m pc ls (.ref (x.2.2 (69 + i)) :: rest)) := by
  obtain ⟨hx, hb, hml, hr, hlk, hown, hT⟩ := F
  obtain ⟨hP, hD, hK, hS⟩ := hw
  exact va_get (D := x.1) (ci := 3) (C := nR_UNI) (T := nT_UNI) (N := 9) (v := .ref (x.2.2 (38 + (5 + 2 * i)))) hx hb hT in_UNI hown hK hP (69 + i) (gt_UNI hi) rfl 0 (by decide) (hT _ wm_129) (fun _ h9 => h9) rfl hdg kk
theorem rd_TM_UNI_op (F : fx_F p s m args meth c b n ret nR_TM) (hw : ww_P x s H locs σ) {i : Nat} (hi : i < 13) (hdg : decode b pc = .ok (.getfield 187, 3)) (kk : W p l e R s m args below meth c H locs cells slots Q (F0 m (pc + 3) ls (.int (σ 13 i) :: rest))) : W p l e R s m args below meth c H locs cells slots Q (F0 m pc ls (.ref (x.2.2 (69 + i)) :: rest)) := by
  obtain ⟨hx, hb, hml, hr, hlk, hown, hT⟩ := F
  obtain ⟨hP, hD, hK, hS⟩ := hw
  exact va_get (D := x.1) (ci := 3) (C := nR_UNI) (T := nT_UNI) (N := 9) (v := .int (σ 13 i)) hx hb hT in_UNI hown hK hP (69 + i) (gt_UNI hi) rfl 3 (by decide) (hT _ wm_135) (fun _ h9 => h9) rfl hdg kk
theorem rd_TM_UNI_order (F : fx_F p s m args meth c b n ret nR_TM) (hw : ww_P x s H locs σ) {i : Nat} (hi : i < 13) (hdg : decode b pc = .ok (.getfield 217, 3)) (kk : W p l e R s m args below meth c H locs cells slots Q (F0 m (pc + 3) ls (.int (σ 18 i) :: rest))) : W p l e R s m args below meth c H locs cells slots Q (F0 m pc ls (.ref (x.2.2 (69 + i)) :: rest)) := by
  obtain ⟨hx, hb, hml, hr, hlk, hown, hT⟩ := F
  obtain ⟨hP, hD, hK, hS⟩ := hw
  exact va_get (D := x.1) (ci := 3) (C := nR_UNI) (T := nT_UNI) (N := 9) (v := .int (σ 18 i)) hx hb hT in_UNI hown hK hP (69 + i) (gt_UNI hi) rfl 5 (by decide) (hT _ wm_139) (fun _ h9 => h9) rfl hdg kk
theorem rd_TM_UNI_raised (F : fx_F p s m args meth c b n ret nR_TM) (hw : ww_P x s H locs σ) {i : Nat} (hi : i < 13) (hdg : decode b pc = .ok (.getfield 176, 3)) (kk : W p l e R s m args below meth c H locs cells slots Q (F0 m (pc + 3) ls (.int (σ 16 i) :: rest))) : W p l e R s m args below meth c H locs cells slots Q (F0 m pc ls (.ref (x.2.2 (69 + i)) :: rest)) := by
  obtain ⟨hx, hb, hml, hr, hlk, hown, hT⟩ := F
  obtain ⟨hP, hD, hK, hS⟩ := hw
  exact va_get (D := x.1) (ci := 3) (C := nR_UNI) (T := nT_UNI) (N := 9) (v := .int (σ 16 i)) hx hb hT in_UNI hown hK hP (69 + i) (gt_UNI hi) rfl 8 (by decide) (hT _ wm_145) (fun _ h9 => h9) rfl hdg kk
theorem rd_TM_UNI_result (F : fx_F p s m args meth c b n ret nR_TM) (hw : ww_P x s H locs σ) {i : Nat} (hi : i < 13) (hdg : decode b pc = .ok (.getfield 170, 3)) (kk : W p l e R s m args below meth c H locs cells slots Q (F0 m (pc + 3) ls (.int (σ 15 i) :: rest))) : W p l e R s m args below meth c H locs cells slots Q (F0 m pc ls (.ref (x.2.2 (69 + i)) :: rest)) := by
  obtain ⟨hx, hb, hml, hr, hlk, hown, hT⟩ := F
  obtain ⟨hP, hD, hK, hS⟩ := hw
  exact va_get (D := x.1) (ci := 3) (C := nR_UNI) (T := nT_UNI) (N := 9) (v := .int (σ 15 i)) hx hb hT in_UNI hown hK hP (69 + i) (gt_UNI hi) rfl 7 (by decide) (hT _ wm_143) (fun _ h9 => h9) rfl hdg kk
theorem rd_TM_UNI_second (F : fx_F p s m args meth c b n ret nR_TM) (hw : ww_P x s H locs σ) {i : Nat} (hi : i < 13) (hdg : decode b pc = .ok (.getfield 204, 3)) (kk : W p l e R s m args below meth c H locs cells slots Q (F0 m (pc + 3) ls (.ref (x.2.2 (38 + (6 + 2 * i))) :: rest))) : W p l e R s m args below meth c H locs cells slots Q (F0 m pc ls (.ref (x.2.2 (69 + i)) :: rest)) := by
  obtain ⟨hx, hb, hml, hr, hlk, hown, hT⟩ := F
  obtain ⟨hP, hD, hK, hS⟩ := hw
  exact va_get (D := x.1) (ci := 3) (C := nR_UNI) (T := nT_UNI) (N := 9) (v := .ref (x.2.2 (38 + (6 + 2 * i)))) hx hb hT in_UNI hown hK hP (69 + i) (gt_UNI hi) rfl 1 (by decide) (hT _ wm_131) (fun _ h9 => h9) rfl hdg kk
theorem rd_TM_UNI_state (F : fx_F p s m args meth c b n ret nR_TM) (hw : ww_P x s H locs σ) {i : Nat} (hi : i < 13) (hdg : decode b pc = .ok (.getfield 126, 3)) (kk : W p l e R s m args below meth c H locs cells slots Q (F0 m (pc + 3) ls (.int (σ 12 i) :: rest))) : W p l e R s m args below meth c H locs cells slots Q (F0 m pc ls (.ref (x.2.2 (69 + i)) :: rest)) := by
  obtain ⟨hx, hb, hml, hr, hlk, hown, hT⟩ := F
  obtain ⟨hP, hD, hK, hS⟩ := hw
  exact va_get (D := x.1) (ci := 3) (C := nR_UNI) (T := nT_UNI) (N := 9) (v := .int (σ 12 i)) hx hb hT in_UNI hown hK hP (69 + i) (gt_UNI hi) rfl 2 (by decide) (hT _ wm_133) (fun _ h9 => h9) rfl hdg kk
theorem wr_TM_UNI_state (F : fx_F p s m args meth c b n ret nR_TM) (hw : ww_P x s H locs σ) {i : Nat} (hi : i < 13) {v : Int32} (hdg : decode b pc = .ok (.putfield 126, 3)) (kk : ∀ (H1 : Heap) (locs1 : List Loc), ww_P x s H1 locs1 (sg_up σ 12 i v) → W p l e R s m args below meth c H1 locs1 cells slots Q (F0 m (pc + 3) ls (rest))) : W p l e R s m args below meth c H locs cells slots Q (F0 m pc ls (.int v :: .ref (x.2.2 (69 + i)) :: rest)) := by
  obtain ⟨hx, hb, hml, hr, hlk, hown, hT⟩ := F
  obtain ⟨hP, hD, hK, hS⟩ := hw
  refine va_put (D := x.1) (ci := 3) (C := nR_UNI) (T := nT_UNI) (N := 9) (v := .int v) (ty := .int) hx hb hT in_UNI nY_UNI nK_UNI nM_UNI hown hK hP hD hS (69 + i) (gt_UNI hi) rfl 2 (by decide) (hT _ wm_133) (fun _ h9 => h9) rfl (by decide +kernel) rfl rfl (Nat.le_of_ble_eq_true rfl) hdg (fun H1 locs1 hP hD hS => ?_)
  rw [st_UNI_state hi v] at hP hD
  exact kk H1 locs1 ⟨hP, hD, hK, hS⟩
theorem rd_TM_UNI_toGo (F : fx_F p s m args meth c b n ret nR_TM) (hw : ww_P x s H locs σ) {i : Nat} (hi : i < 13) (hdg : decode b pc = .ok (.getfield 180, 3)) (kk : W p l e R s m args below meth c H locs cells slots Q (F0 m (pc + 3) ls (.int (σ 14 i) :: rest))) : W p l e R s m args below meth c H locs cells slots Q (F0 m pc ls (.ref (x.2.2 (69 + i)) :: rest)) := by
  obtain ⟨hx, hb, hml, hr, hlk, hown, hT⟩ := F
  obtain ⟨hP, hD, hK, hS⟩ := hw
  exact va_get (D := x.1) (ci := 3) (C := nR_UNI) (T := nT_UNI) (N := 9) (v := .int (σ 14 i)) hx hb hT in_UNI hown hK hP (69 + i) (gt_UNI hi) rfl 6 (by decide) (hT _ wm_141) (fun _ h9 => h9) rfl hdg kk
theorem wr_TM_UNI_toGo (F : fx_F p s m args meth c b n ret nR_TM) (hw : ww_P x s H locs σ) {i : Nat} (hi : i < 13) {v : Int32} (hdg : decode b pc = .ok (.putfield 180, 3)) (kk : ∀ (H1 : Heap) (locs1 : List Loc), ww_P x s H1 locs1 (sg_up σ 14 i v) → W p l e R s m args below meth c H1 locs1 cells slots Q (F0 m (pc + 3) ls (rest))) : W p l e R s m args below meth c H locs cells slots Q (F0 m pc ls (.int v :: .ref (x.2.2 (69 + i)) :: rest)) := by
  obtain ⟨hx, hb, hml, hr, hlk, hown, hT⟩ := F
  obtain ⟨hP, hD, hK, hS⟩ := hw
  refine va_put (D := x.1) (ci := 3) (C := nR_UNI) (T := nT_UNI) (N := 9) (v := .int v) (ty := .int) hx hb hT in_UNI nY_UNI nK_UNI nM_UNI hown hK hP hD hS (69 + i) (gt_UNI hi) rfl 6 (by decide) (hT _ wm_141) (fun _ h9 => h9) rfl (by decide +kernel) rfl rfl (Nat.le_of_ble_eq_true rfl) hdg (fun H1 locs1 hP hD hS => ?_)
  rw [st_UNI_toGo hi v] at hP hD
  exact kk H1 locs1 ⟨hP, hD, hK, hS⟩
theorem wr_UNI_UNI_address (F : fx_F p s m args meth c b n ret nR_UNI) (hw : ww_P x s H locs σ) {i : Nat} (hi : i < 13) {v : Int32} (hdg : decode b pc = .ok (.putfield 32, 3)) (kk : ∀ (H1 : Heap) (locs1 : List Loc), ww_P x s H1 locs1 (sg_up σ 17 i v) → W p l e R s m args below meth c H1 locs1 cells slots Q (F0 m (pc + 3) ls (rest))) : W p l e R s m args below meth c H locs cells slots Q (F0 m pc ls (.int v :: .ref (x.2.2 (69 + i)) :: rest)) := by
  obtain ⟨hx, hb, hml, hr, hlk, hown, hT⟩ := F
  obtain ⟨hP, hD, hK, hS⟩ := hw
  refine va_put (D := x.1) (ci := 3) (C := nR_UNI) (T := nT_UNI) (N := 9) (v := .int v) (ty := .int) hx hb hT in_UNI nY_UNI nK_UNI nM_UNI hown hK hP hD hS (69 + i) (gt_UNI hi) rfl 4 (by decide) (hT _ wm_136) (fun _ h9 => h9) rfl (by decide +kernel) rfl rfl (Nat.le_of_ble_eq_true rfl) hdg (fun H1 locs1 hP hD hS => ?_)
  rw [st_UNI_address hi v] at hP hD
  exact kk H1 locs1 ⟨hP, hD, hK, hS⟩
theorem rd_UNI_UNI_first (F : fx_F p s m args meth c b n ret nR_UNI) (hw : ww_P x s H locs σ) {i : Nat} (hi : i < 13) (hdg : decode b pc = .ok (.getfield 12, 3)) (kk : W p l e R s m args below meth c H locs cells slots Q (F0 m (pc + 3) ls (.ref (x.2.2 (38 + (5 + 2 * i))) :: rest))) : W p l e R s m args below meth c H locs cells slots Q (F0 m pc ls (.ref (x.2.2 (69 + i)) :: rest)) := by
  obtain ⟨hx, hb, hml, hr, hlk, hown, hT⟩ := F
  obtain ⟨hP, hD, hK, hS⟩ := hw
  exact va_get (D := x.1) (ci := 3) (C := nR_UNI) (T := nT_UNI) (N := 9) (v := .ref (x.2.2 (38 + (5 + 2 * i)))) hx hb hT in_UNI hown hK hP (69 + i) (gt_UNI hi) rfl 0 (by decide) (hT _ wm_128) (fun _ h9 => h9) rfl hdg kk
theorem wr_UNI_UNI_op (F : fx_F p s m args meth c b n ret nR_UNI) (hw : ww_P x s H locs σ) {i : Nat} (hi : i < 13) {v : Int32} (hdg : decode b pc = .ok (.putfield 29, 3)) (kk : ∀ (H1 : Heap) (locs1 : List Loc), ww_P x s H1 locs1 (sg_up σ 13 i v) → W p l e R s m args below meth c H1 locs1 cells slots Q (F0 m (pc + 3) ls (rest))) : W p l e R s m args below meth c H locs cells slots Q (F0 m pc ls (.int v :: .ref (x.2.2 (69 + i)) :: rest)) := by
  obtain ⟨hx, hb, hml, hr, hlk, hown, hT⟩ := F
  obtain ⟨hP, hD, hK, hS⟩ := hw
  refine va_put (D := x.1) (ci := 3) (C := nR_UNI) (T := nT_UNI) (N := 9) (v := .int v) (ty := .int) hx hb hT in_UNI nY_UNI nK_UNI nM_UNI hown hK hP hD hS (69 + i) (gt_UNI hi) rfl 3 (by decide) (hT _ wm_134) (fun _ h9 => h9) rfl (by decide +kernel) rfl rfl (Nat.le_of_ble_eq_true rfl) hdg (fun H1 locs1 hP hD hS => ?_)
  rw [st_UNI_op hi v] at hP hD
  exact kk H1 locs1 ⟨hP, hD, hK, hS⟩
theorem wr_UNI_UNI_order (F : fx_F p s m args meth c b n ret nR_UNI) (hw : ww_P x s H locs σ) {i : Nat} (hi : i < 13) {v : Int32} (hdg : decode b pc = .ok (.putfield 35, 3)) (kk : ∀ (H1 : Heap) (locs1 : List Loc), ww_P x s H1 locs1 (sg_up σ 18 i v) → W p l e R s m args below meth c H1 locs1 cells slots Q (F0 m (pc + 3) ls (rest))) : W p l e R s m args below meth c H locs cells slots Q (F0 m pc ls (.int v :: .ref (x.2.2 (69 + i)) :: rest)) := by
  obtain ⟨hx, hb, hml, hr, hlk, hown, hT⟩ := F
  obtain ⟨hP, hD, hK, hS⟩ := hw
  refine va_put (D := x.1) (ci := 3) (C := nR_UNI) (T := nT_UNI) (N := 9) (v := .int v) (ty := .int) hx hb hT in_UNI nY_UNI nK_UNI nM_UNI hown hK hP hD hS (69 + i) (gt_UNI hi) rfl 5 (by decide) (hT _ wm_138) (fun _ h9 => h9) rfl (by decide +kernel) rfl rfl (Nat.le_of_ble_eq_true rfl) hdg (fun H1 locs1 hP hD hS => ?_)
  rw [st_UNI_order hi v] at hP hD
  exact kk H1 locs1 ⟨hP, hD, hK, hS⟩
theorem wr_UNI_UNI_raised (F : fx_F p s m args meth c b n ret nR_UNI) (hw : ww_P x s H locs σ) {i : Nat} (hi : i < 13) {v : Int32} (hdg : decode b pc = .ok (.putfield 44, 3)) (kk : ∀ (H1 : Heap) (locs1 : List Loc), ww_P x s H1 locs1 (sg_up σ 16 i v) → W p l e R s m args below meth c H1 locs1 cells slots Q (F0 m (pc + 3) ls (rest))) : W p l e R s m args below meth c H locs cells slots Q (F0 m pc ls (.int v :: .ref (x.2.2 (69 + i)) :: rest)) := by
  obtain ⟨hx, hb, hml, hr, hlk, hown, hT⟩ := F
  obtain ⟨hP, hD, hK, hS⟩ := hw
  refine va_put (D := x.1) (ci := 3) (C := nR_UNI) (T := nT_UNI) (N := 9) (v := .int v) (ty := .int) hx hb hT in_UNI nY_UNI nK_UNI nM_UNI hown hK hP hD hS (69 + i) (gt_UNI hi) rfl 8 (by decide) (hT _ wm_144) (fun _ h9 => h9) rfl (by decide +kernel) rfl rfl (Nat.le_of_ble_eq_true rfl) hdg (fun H1 locs1 hP hD hS => ?_)
  rw [st_UNI_raised hi v] at hP hD
  exact kk H1 locs1 ⟨hP, hD, hK, hS⟩
theorem wr_UNI_UNI_result (F : fx_F p s m args meth c b n ret nR_UNI) (hw : ww_P x s H locs σ) {i : Nat} (hi : i < 13) {v : Int32} (hdg : decode b pc = .ok (.putfield 41, 3)) (kk : ∀ (H1 : Heap) (locs1 : List Loc), ww_P x s H1 locs1 (sg_up σ 15 i v) → W p l e R s m args below meth c H1 locs1 cells slots Q (F0 m (pc + 3) ls (rest))) : W p l e R s m args below meth c H locs cells slots Q (F0 m pc ls (.int v :: .ref (x.2.2 (69 + i)) :: rest)) := by
  obtain ⟨hx, hb, hml, hr, hlk, hown, hT⟩ := F
  obtain ⟨hP, hD, hK, hS⟩ := hw
  refine va_put (D := x.1) (ci := 3) (C := nR_UNI) (T := nT_UNI) (N := 9) (v := .int v) (ty := .int) hx hb hT in_UNI nY_UNI nK_UNI nM_UNI hown hK hP hD hS (69 + i) (gt_UNI hi) rfl 7 (by decide) (hT _ wm_142) (fun _ h9 => h9) rfl (by decide +kernel) rfl rfl (Nat.le_of_ble_eq_true rfl) hdg (fun H1 locs1 hP hD hS => ?_)
  rw [st_UNI_result hi v] at hP hD
  exact kk H1 locs1 ⟨hP, hD, hK, hS⟩
theorem rd_UNI_UNI_second (F : fx_F p s m args meth c b n ret nR_UNI) (hw : ww_P x s H locs σ) {i : Nat} (hi : i < 13) (hdg : decode b pc = .ok (.getfield 18, 3)) (kk : W p l e R s m args below meth c H locs cells slots Q (F0 m (pc + 3) ls (.ref (x.2.2 (38 + (6 + 2 * i))) :: rest))) : W p l e R s m args below meth c H locs cells slots Q (F0 m pc ls (.ref (x.2.2 (69 + i)) :: rest)) := by
  obtain ⟨hx, hb, hml, hr, hlk, hown, hT⟩ := F
  obtain ⟨hP, hD, hK, hS⟩ := hw
  exact va_get (D := x.1) (ci := 3) (C := nR_UNI) (T := nT_UNI) (N := 9) (v := .ref (x.2.2 (38 + (6 + 2 * i)))) hx hb hT in_UNI hown hK hP (69 + i) (gt_UNI hi) rfl 1 (by decide) (hT _ wm_130) (fun _ h9 => h9) rfl hdg kk
theorem rd_UNI_UNI_state (F : fx_F p s m args meth c b n ret nR_UNI) (hw : ww_P x s H locs σ) {i : Nat} (hi : i < 13) (hdg : decode b pc = .ok (.getfield 21, 3)) (kk : W p l e R s m args below meth c H locs cells slots Q (F0 m (pc + 3) ls (.int (σ 12 i) :: rest))) : W p l e R s m args below meth c H locs cells slots Q (F0 m pc ls (.ref (x.2.2 (69 + i)) :: rest)) := by
  obtain ⟨hx, hb, hml, hr, hlk, hown, hT⟩ := F
  obtain ⟨hP, hD, hK, hS⟩ := hw
  exact va_get (D := x.1) (ci := 3) (C := nR_UNI) (T := nT_UNI) (N := 9) (v := .int (σ 12 i)) hx hb hT in_UNI hown hK hP (69 + i) (gt_UNI hi) rfl 2 (by decide) (hT _ wm_132) (fun _ h9 => h9) rfl hdg kk
theorem wr_UNI_UNI_state (F : fx_F p s m args meth c b n ret nR_UNI) (hw : ww_P x s H locs σ) {i : Nat} (hi : i < 13) {v : Int32} (hdg : decode b pc = .ok (.putfield 21, 3)) (kk : ∀ (H1 : Heap) (locs1 : List Loc), ww_P x s H1 locs1 (sg_up σ 12 i v) → W p l e R s m args below meth c H1 locs1 cells slots Q (F0 m (pc + 3) ls (rest))) : W p l e R s m args below meth c H locs cells slots Q (F0 m pc ls (.int v :: .ref (x.2.2 (69 + i)) :: rest)) := by
  obtain ⟨hx, hb, hml, hr, hlk, hown, hT⟩ := F
  obtain ⟨hP, hD, hK, hS⟩ := hw
  refine va_put (D := x.1) (ci := 3) (C := nR_UNI) (T := nT_UNI) (N := 9) (v := .int v) (ty := .int) hx hb hT in_UNI nY_UNI nK_UNI nM_UNI hown hK hP hD hS (69 + i) (gt_UNI hi) rfl 2 (by decide) (hT _ wm_132) (fun _ h9 => h9) rfl (by decide +kernel) rfl rfl (Nat.le_of_ble_eq_true rfl) hdg (fun H1 locs1 hP hD hS => ?_)
  rw [st_UNI_state hi v] at hP hD
  exact kk H1 locs1 ⟨hP, hD, hK, hS⟩
theorem wr_UNI_UNI_toGo (F : fx_F p s m args meth c b n ret nR_UNI) (hw : ww_P x s H locs σ) {i : Nat} (hi : i < 13) {v : Int32} (hdg : decode b pc = .ok (.putfield 38, 3)) (kk : ∀ (H1 : Heap) (locs1 : List Loc), ww_P x s H1 locs1 (sg_up σ 14 i v) → W p l e R s m args below meth c H1 locs1 cells slots Q (F0 m (pc + 3) ls (rest))) : W p l e R s m args below meth c H locs cells slots Q (F0 m pc ls (.int v :: .ref (x.2.2 (69 + i)) :: rest)) := by
  obtain ⟨hx, hb, hml, hr, hlk, hown, hT⟩ := F
  obtain ⟨hP, hD, hK, hS⟩ := hw
  refine va_put (D := x.1) (ci := 3) (C := nR_UNI) (T := nT_UNI) (N := 9) (v := .int v) (ty := .int) hx hb hT in_UNI nY_UNI nK_UNI nM_UNI hown hK hP hD hS (69 + i) (gt_UNI hi) rfl 6 (by decide) (hT _ wm_140) (fun _ h9 => h9) rfl (by decide +kernel) rfl rfl (Nat.le_of_ble_eq_true rfl) hdg (fun H1 locs1 hP hD hS => ?_)
  rw [st_UNI_toGo hi v] at hP hD
  exact kk H1 locs1 ⟨hP, hD, hK, hS⟩
end FI
section MA
variable {p : Program} {l : Launch} {e : Env} {R : Room} {s : State} {m : MethodId} {args : Array Value} {below : List Frame} {meth : Method} {c : Code} {H : Heap} {locs : List Loc} {cells slots : Nat} {Q : State → Prop} {x : cx_T} {σ : sg_T} {b : ByteArray} {n : Nat} {ret : Option FieldType} {own : String} {pc : Nat} {ls : Array Slot} {rest : List Value}
set_option maxRecDepth 100000 in
theorem mm_REC_max {d : Nat} {lv : List (Nat × Value)} (F : fx_F p s m args meth c b n ret nR_REC) (hl : lv_has ls n lv) (hd : 1 ≤ d) (hr : (rest.map fun v => v.category).sum ≤ 8) {v w : Int32} (hdg : decode b pc = .ok (.invokestatic 59, 3)) (kk : W p l e (rm_D d) s m args below meth c H locs 0 0 Q (F0 m (pc + 3) ls (.int (if v < w then w else v) :: rest))) : W p l e (rm_D d) s m args below meth c H locs 0 0 Q (F0 m pc ls (.int w :: .int v :: rest)) := by
  obtain ⟨hx, hb, hml, hr9, hlk, hown, hT⟩ := F
  exact va_mmax hx hb (hml.trans hl.1.symm) hown (hT _ (lw_m (i := 455) (by decide +kernel) (by decide +kernel))) (hT _ (lw_m (i := 73) (by decide +kernel) (by decide +kernel))) (hT _ (lw_m (i := 50) (by decide +kernel) (by decide +kernel))) (hT _ (lw_m (i := 74) rfl (by decide +kernel))) (by simp only [rm_D]; omega) (by simp only [rm_D]; omega) (Nat.zero_le _) (Nat.zero_le _) hdg kk
set_option maxRecDepth 100000 in
theorem mm_REC_min {d : Nat} {lv : List (Nat × Value)} (F : fx_F p s m args meth c b n ret nR_REC) (hl : lv_has ls n lv) (hd : 1 ≤ d) (hr : (rest.map fun v => v.category).sum ≤ 8) {v w : Int32} (hdg : decode b pc = .ok (.invokestatic 67, 3)) (kk : W p l e (rm_D d) s m args below meth c H locs 0 0 Q (F0 m (pc + 3) ls (.int (if w < v then w else v) :: rest))) : W p l e (rm_D d) s m args below meth c H locs 0 0 Q (F0 m pc ls (.int w :: .int v :: rest)) := by
  obtain ⟨hx, hb, hml, hr9, hlk, hown, hT⟩ := F
  exact va_mmin hx hb (hml.trans hl.1.symm) hown (hT _ (lw_m (i := 454) (by decide +kernel) (by decide +kernel))) (hT _ (lw_m (i := 70) (by decide +kernel) (by decide +kernel))) (hT _ (lw_m (i := 50) (by decide +kernel) (by decide +kernel))) (hT _ (lw_m (i := 71) rfl (by decide +kernel))) (by simp only [rm_D]; omega) (by simp only [rm_D]; omega) (Nat.zero_le _) (Nat.zero_le _) hdg kk
end MA
end
section
def fn_OPD_haveValue (k0 : Nat) (a1 : Int32) (σ : sg_T) : Option (sg_T) := some (sg_up (sg_up σ 6 k0 a1) 7 k0 (0 : Int32))
def fn_OPD_hear (k0 : Nat) (a1 : Int32) (a2 : Int32) (σ : sg_T) : Option (sg_T) := if (σ 7 k0) = a1 then (fn_OPD_haveValue k0 a2 σ).bind (fun z2 => some (z2)) else some (σ)
def fn_UNI_hear (k0 : Nat) (a1 : Int32) (a2 : Int32) (σ : sg_T) : Option (sg_T) := (fn_OPD_hear (5 + 2 * k0) a1 a2 σ).bind (fun z1 => (fn_OPD_hear (6 + 2 * k0) a1 a2 z1).bind (fun z2 => some (z2)))
def fn_OPD_isAwaited (k0 : Nat) (σ : sg_T) : Option (Int32 × sg_T) := if (σ 7 k0) = 0 then some ((0 : Int32), σ) else some ((1 : Int32), σ)
def fn_UNI_isReady (k0 : Nat) (σ : sg_T) : Option (Int32 × sg_T) := if (σ 12 k0) = (1 : Int32) then (fn_OPD_isAwaited (5 + 2 * k0) σ).bind (fun z2 => if z2.1 = 0 then (fn_OPD_isAwaited (6 + 2 * k0) z2.2).bind (fun z4 => if z4.1 = 0 then some ((1 : Int32), z4.2) else some ((0 : Int32), z4.2)) else some ((0 : Int32), z2.2)) else some ((0 : Int32), σ)
def fn_UNI_begin (k0 : Nat) (a1 : Int32) (a2 : Int32) (a3 : Int32) (σ : sg_T) : Option (sg_T) := some (sg_up (sg_up (sg_up (sg_up σ 12 k0 (2 : Int32)) 14 k0 a1) 15 k0 a2) 16 k0 a3)
def fn_UNI_claim (k0 : Nat) (a1 : Int32) (a2 : Int32) (a3 : Int32) (σ : sg_T) : Option (sg_T) := some (sg_up (sg_up (sg_up (sg_up σ 12 k0 (1 : Int32)) 13 k0 a1) 17 k0 a2) 18 k0 a3)
def fn_OPD_waitFor (k0 : Nat) (a1 : Int32) (σ : sg_T) : Option (sg_T) := some (sg_up σ 7 k0 a1)
def fn_OPD_copy (k0 : Nat) (k1 : Nat) (σ : sg_T) : Option (sg_T) := (fn_OPD_isAwaited k1 σ).bind (fun z1 => if z1.1 = 0 then (fn_OPD_haveValue k0 (z1.2 6 k1) z1.2).bind (fun z3 => some (z3)) else (fn_OPD_waitFor k0 (z1.2 7 k1) z1.2).bind (fun z4 => some (z4)))
def fn_INS_become (k0 : Nat) (a1 : Int32) (a2 : Int32) (a3 : Int32) (a4 : Int32) (a5 : Int32) (σ : sg_T) : Option (sg_T) := some (sg_up (sg_up (sg_up (sg_up (sg_up σ 1 k0 a1) 2 k0 a2) 3 k0 a3) 4 k0 a4) 5 k0 a5)
section MT
variable {p : Program} {l : Launch} {e : Env} {s : State} {m : MethodId} {args : Array Value} {below : List Frame} {meth : Method} {c : Code} {x : cx_T}
set_option maxRecDepth 100000 in
set_option maxHeartbeats 4000000 in
theorem ct_OPD_haveValue (l : Launch) (x : cx_T) (k0 : Nat) (a1 : Int32) (hk0 : k0 < 31) (σ : sg_T) (z : sg_T) (hf : fn_OPD_haveValue k0 a1 σ = some z) : ct_v l nN_OPD_haveValue nC_OPD_haveValue 2 0 x [.ref (x.2.2 (38 + k0)), .int a1] σ z := by
  refine en_v (own := nR_OPD) (by decide) (Nat.le_of_ble_eq_true rfl) rfl ?_
  intro p e s m below meth c ls F hw hl
  have F9 := F
  obtain ⟨hx, hb, hml, hr, hlk, hown, hT⟩ := F
  have hl : lv_has ls 2 [(0, .ref (x.2.2 (38 + k0))), (1, .int a1)] := hl
  unfold fn_OPD_haveValue at hf
  refine lv_aload_n hx hb nD_OPD_haveValue_0 rfl (lv_at hl 0 rfl) ?_
  refine lv_iload_n hx hb nD_OPD_haveValue_1 rfl (lv_at hl 1 rfl) ?_
  refine wr_OPD_OPD_value F9 hw hk0 nD_OPD_haveValue_2 (fun H locs hw => ?_)
  refine lv_aload_n hx hb nD_OPD_haveValue_5 rfl (lv_at hl 0 rfl) ?_
  refine lv_iconst (v := 0) hx hb nD_OPD_haveValue_6 (by decide) ?_
  refine wr_OPD_OPD_awaited F9 hw hk0 nD_OPD_haveValue_7 (fun H locs hw => ?_)
  exact rt_v F9 hw nD_OPD_haveValue_10 hf
set_option maxRecDepth 100000 in
set_option maxHeartbeats 4000000 in
theorem ct_OPD_hear (l : Launch) (x : cx_T) (k0 : Nat) (a1 : Int32) (a2 : Int32) (hk0 : k0 < 31) (σ : sg_T) (z : sg_T) (hf : fn_OPD_hear k0 a1 a2 σ = some z) : ct_v l nN_OPD_hear nC_OPD_hear 3 1 x [.ref (x.2.2 (38 + k0)), .int a1, .int a2] σ z := by
  refine en_v (own := nR_OPD) (by decide) (Nat.le_of_ble_eq_true rfl) rfl ?_
  intro p e s m below meth c ls F hw hl
  have F9 := F
  obtain ⟨hx, hb, hml, hr, hlk, hown, hT⟩ := F
  have hl : lv_has ls 3 [(0, .ref (x.2.2 (38 + k0))), (1, .int a1), (2, .int a2)] := hl
  unfold fn_OPD_hear at hf
  refine lv_aload_n hx hb nD_OPD_hear_0 rfl (lv_at hl 0 rfl) ?_
  refine rd_OPD_OPD_awaited F9 hw hk0 nD_OPD_hear_1 ?_
  refine lv_iload_n hx hb nD_OPD_hear_4 rfl (lv_at hl 1 rfl) ?_
  refine lv_icmp_ne (tgt := 13) hx hb nD_OPD_hear_5 (by decide) (fun h1 => ?_) (fun h1 => ?_)
  · rw [if_neg h1] at hf
    exact rt_v F9 hw nD_OPD_hear_13 hf
  · rw [if_pos h1] at hf
    refine lv_aload_n hx hb nD_OPD_hear_8 rfl (lv_at hl 0 rfl) ?_
    refine lv_iload_n hx hb nD_OPD_hear_9 rfl (lv_at hl 2 rfl) ?_
    obtain ⟨z2, hz2, hf⟩ := bd_of hf
    refine cl_vv (As := [.int a2]) (rest := []) F9 hw (ct_OPD_haveValue l x k0 a2 hk0 _ _ hz2) (rc_OPD hk0) wc_OPD_24 (by decide +kernel) (by decide) hl rfl (Nat.le_of_ble_eq_true rfl) nD_OPD_hear_10 (fun H locs hw => ?_)
    exact rt_v F9 hw nD_OPD_hear_13 hf
set_option maxRecDepth 100000 in
set_option maxHeartbeats 4000000 in
theorem ct_UNI_hear (l : Launch) (x : cx_T) (k0 : Nat) (a1 : Int32) (a2 : Int32) (hk0 : k0 < 13) (σ : sg_T) (z : sg_T) (hf : fn_UNI_hear k0 a1 a2 σ = some z) : ct_v l nN_UNI_hear nC_UNI_hear 3 2 x [.ref (x.2.2 (69 + k0)), .int a1, .int a2] σ z := by
  refine en_v (own := nR_UNI) (by decide) (Nat.le_of_ble_eq_true rfl) rfl ?_
  intro p e s m below meth c ls F hw hl
  have F9 := F
  obtain ⟨hx, hb, hml, hr, hlk, hown, hT⟩ := F
  have hl : lv_has ls 3 [(0, .ref (x.2.2 (69 + k0))), (1, .int a1), (2, .int a2)] := hl
  unfold fn_UNI_hear at hf
  refine lv_aload_n hx hb nD_UNI_hear_0 rfl (lv_at hl 0 rfl) ?_
  refine rd_UNI_UNI_first F9 hw hk0 nD_UNI_hear_1 ?_
  refine lv_iload_n hx hb nD_UNI_hear_4 rfl (lv_at hl 1 rfl) ?_
  refine lv_iload_n hx hb nD_UNI_hear_5 rfl (lv_at hl 2 rfl) ?_
  obtain ⟨z1, hz1, hf⟩ := bd_of hf
  refine cl_vv (As := [.int a1, .int a2]) (rest := []) F9 hw (ct_OPD_hear l x (5 + 2 * k0) a1 a2 (by have := hk0; omega) _ _ hz1) (rc_OPD (by have := hk0; omega)) wc_UNI_47 (by decide +kernel) (by decide) hl rfl (Nat.le_of_ble_eq_true rfl) nD_UNI_hear_6 (fun H locs hw => ?_)
  refine lv_aload_n hx hb nD_UNI_hear_9 rfl (lv_at hl 0 rfl) ?_
  refine rd_UNI_UNI_second F9 hw hk0 nD_UNI_hear_10 ?_
  refine lv_iload_n hx hb nD_UNI_hear_13 rfl (lv_at hl 1 rfl) ?_
  refine lv_iload_n hx hb nD_UNI_hear_14 rfl (lv_at hl 2 rfl) ?_
  obtain ⟨z2, hz2, hf⟩ := bd_of hf
  refine cl_vv (As := [.int a1, .int a2]) (rest := []) F9 hw (ct_OPD_hear l x (6 + 2 * k0) a1 a2 (by have := hk0; omega) _ _ hz2) (rc_OPD (by have := hk0; omega)) wc_UNI_47 (by decide +kernel) (by decide) hl rfl (Nat.le_of_ble_eq_true rfl) nD_UNI_hear_15 (fun H locs hw => ?_)
  exact rt_v F9 hw nD_UNI_hear_18 hf
set_option maxRecDepth 100000 in
set_option maxHeartbeats 4000000 in
theorem ct_OPD_isAwaited (l : Launch) (x : cx_T) (k0 : Nat) (hk0 : k0 < 31) (σ : sg_T) (z : Int32 × sg_T) (hf : fn_OPD_isAwaited k0 σ = some z) : ct_i l nN_OPD_isAwaited nC_OPD_isAwaited 1 (some .boolean) 0 x [.ref (x.2.2 (38 + k0))] σ z.1 z.2 := by
  refine en_i (own := nR_OPD) (by decide) (Nat.le_of_ble_eq_true rfl) rfl ?_
  intro p e s m below meth c ls F hw hl
  have F9 := F
  obtain ⟨hx, hb, hml, hr, hlk, hown, hT⟩ := F
  have hl : lv_has ls 1 [(0, .ref (x.2.2 (38 + k0)))] := hl
  unfold fn_OPD_isAwaited at hf
  refine lv_aload_n hx hb nD_OPD_isAwaited_0 rfl (lv_at hl 0 rfl) ?_
  refine rd_OPD_OPD_awaited F9 hw hk0 nD_OPD_isAwaited_1 ?_
  refine lv_if_eq (tgt := 11) hx hb nD_OPD_isAwaited_4 (by decide) (fun h1 => ?_) (fun h1 => ?_)
  · rw [if_pos h1] at hf
    refine lv_iconst (v := 0) hx hb nD_OPD_isAwaited_11 (by decide) ?_
    exact rt_i F9 hw rfl nD_OPD_isAwaited_12 hf
  · rw [if_neg h1] at hf
    refine lv_iconst (v := 1) hx hb nD_OPD_isAwaited_7 (by decide) ?_
    refine lv_goto (tgt := 12) hx hb nD_OPD_isAwaited_8 (by decide) ?_
    exact rt_i F9 hw rfl nD_OPD_isAwaited_12 hf
set_option maxRecDepth 100000 in
set_option maxHeartbeats 4000000 in
theorem ct_UNI_isReady (l : Launch) (x : cx_T) (k0 : Nat) (hk0 : k0 < 13) (σ : sg_T) (z : Int32 × sg_T) (hf : fn_UNI_isReady k0 σ = some z) : ct_i l nN_UNI_isReady nC_UNI_isReady 1 (some .boolean) 1 x [.ref (x.2.2 (69 + k0))] σ z.1 z.2 := by
  refine en_i (own := nR_UNI) (by decide) (Nat.le_of_ble_eq_true rfl) rfl ?_
  intro p e s m below meth c ls F hw hl
  have F9 := F
  obtain ⟨hx, hb, hml, hr, hlk, hown, hT⟩ := F
  have hl : lv_has ls 1 [(0, .ref (x.2.2 (69 + k0)))] := hl
  unfold fn_UNI_isReady at hf
  refine lv_aload_n hx hb nD_UNI_isReady_0 rfl (lv_at hl 0 rfl) ?_
  refine rd_UNI_UNI_state F9 hw hk0 nD_UNI_isReady_1 ?_
  refine lv_iconst (v := 1) hx hb nD_UNI_isReady_4 (by decide) ?_
  refine lv_icmp_ne (tgt := 32) hx hb nD_UNI_isReady_5 (by decide) (fun h1 => ?_) (fun h1 => ?_)
  · rw [if_neg h1] at hf
    refine lv_iconst (v := 0) hx hb nD_UNI_isReady_32 (by decide) ?_
    exact rt_i F9 hw rfl nD_UNI_isReady_33 hf
  · rw [if_pos h1] at hf
    refine lv_aload_n hx hb nD_UNI_isReady_8 rfl (lv_at hl 0 rfl) ?_
    refine rd_UNI_UNI_first F9 hw hk0 nD_UNI_isReady_9 ?_
    obtain ⟨z2, hz2, hf⟩ := bd_of hf
    refine cl_vi (As := []) (rest := []) F9 hw (ct_OPD_isAwaited l x (5 + 2 * k0) (by have := hk0; omega) _ _ hz2) (rc_OPD (by have := hk0; omega)) wc_UNI_25 (by decide +kernel) (by decide) hl rfl (Nat.le_of_ble_eq_true rfl) nD_UNI_isReady_12 (fun H locs hw => ?_)
    refine lv_if_ne (tgt := 32) hx hb nD_UNI_isReady_15 (by decide) (fun h3 => ?_) (fun h3 => ?_)
    · rw [if_neg h3] at hf
      refine lv_iconst (v := 0) hx hb nD_UNI_isReady_32 (by decide) ?_
      exact rt_i F9 hw rfl nD_UNI_isReady_33 hf
    · rw [if_pos h3] at hf
      refine lv_aload_n hx hb nD_UNI_isReady_18 rfl (lv_at hl 0 rfl) ?_
      refine rd_UNI_UNI_second F9 hw hk0 nD_UNI_isReady_19 ?_
      obtain ⟨z4, hz4, hf⟩ := bd_of hf
      refine cl_vi (As := []) (rest := []) F9 hw (ct_OPD_isAwaited l x (6 + 2 * k0) (by have := hk0; omega) _ _ hz4) (rc_OPD (by have := hk0; omega)) wc_UNI_25 (by decide +kernel) (by decide) hl rfl (Nat.le_of_ble_eq_true rfl) nD_UNI_isReady_22 (fun H locs hw => ?_)
      refine lv_if_ne (tgt := 32) hx hb nD_UNI_isReady_25 (by decide) (fun h5 => ?_) (fun h5 => ?_)
      · rw [if_neg h5] at hf
        refine lv_iconst (v := 0) hx hb nD_UNI_isReady_32 (by decide) ?_
        exact rt_i F9 hw rfl nD_UNI_isReady_33 hf
      · rw [if_pos h5] at hf
        refine lv_iconst (v := 1) hx hb nD_UNI_isReady_28 (by decide) ?_
        refine lv_goto (tgt := 33) hx hb nD_UNI_isReady_29 (by decide) ?_
        exact rt_i F9 hw rfl nD_UNI_isReady_33 hf
set_option maxRecDepth 100000 in
set_option maxHeartbeats 4000000 in
theorem ct_UNI_begin (l : Launch) (x : cx_T) (k0 : Nat) (a1 : Int32) (a2 : Int32) (a3 : Int32) (hk0 : k0 < 13) (σ : sg_T) (z : sg_T) (hf : fn_UNI_begin k0 a1 a2 a3 σ = some z) : ct_v l nN_UNI_begin nC_UNI_begin 4 0 x [.ref (x.2.2 (69 + k0)), .int a1, .int a2, .int a3] σ z := by
  refine en_v (own := nR_UNI) (by decide) (Nat.le_of_ble_eq_true rfl) rfl ?_
  intro p e s m below meth c ls F hw hl
  have F9 := F
  obtain ⟨hx, hb, hml, hr, hlk, hown, hT⟩ := F
  have hl : lv_has ls 4 [(0, .ref (x.2.2 (69 + k0))), (1, .int a1), (2, .int a2), (3, .int a3)] := hl
  unfold fn_UNI_begin at hf
  refine lv_aload_n hx hb nD_UNI_begin_0 rfl (lv_at hl 0 rfl) ?_
  refine lv_iconst (v := 2) hx hb nD_UNI_begin_1 (by decide) ?_
  refine wr_UNI_UNI_state F9 hw hk0 nD_UNI_begin_2 (fun H locs hw => ?_)
  refine lv_aload_n hx hb nD_UNI_begin_5 rfl (lv_at hl 0 rfl) ?_
  refine lv_iload_n hx hb nD_UNI_begin_6 rfl (lv_at hl 1 rfl) ?_
  refine wr_UNI_UNI_toGo F9 hw hk0 nD_UNI_begin_7 (fun H locs hw => ?_)
  refine lv_aload_n hx hb nD_UNI_begin_10 rfl (lv_at hl 0 rfl) ?_
  refine lv_iload_n hx hb nD_UNI_begin_11 rfl (lv_at hl 2 rfl) ?_
  refine wr_UNI_UNI_result F9 hw hk0 nD_UNI_begin_12 (fun H locs hw => ?_)
  refine lv_aload_n hx hb nD_UNI_begin_15 rfl (lv_at hl 0 rfl) ?_
  refine lv_iload_n hx hb nD_UNI_begin_16 rfl (lv_at hl 3 rfl) ?_
  refine wr_UNI_UNI_raised F9 hw hk0 nD_UNI_begin_17 (fun H locs hw => ?_)
  exact rt_v F9 hw nD_UNI_begin_20 hf
set_option maxRecDepth 100000 in
set_option maxHeartbeats 4000000 in
theorem ct_UNI_claim (l : Launch) (x : cx_T) (k0 : Nat) (a1 : Int32) (a2 : Int32) (a3 : Int32) (hk0 : k0 < 13) (σ : sg_T) (z : sg_T) (hf : fn_UNI_claim k0 a1 a2 a3 σ = some z) : ct_v l nN_UNI_claim nC_UNI_claim 4 0 x [.ref (x.2.2 (69 + k0)), .int a1, .int a2, .int a3] σ z := by
  refine en_v (own := nR_UNI) (by decide) (Nat.le_of_ble_eq_true rfl) rfl ?_
  intro p e s m below meth c ls F hw hl
  have F9 := F
  obtain ⟨hx, hb, hml, hr, hlk, hown, hT⟩ := F
  have hl : lv_has ls 4 [(0, .ref (x.2.2 (69 + k0))), (1, .int a1), (2, .int a2), (3, .int a3)] := hl
  unfold fn_UNI_claim at hf
  refine lv_aload_n hx hb nD_UNI_claim_0 rfl (lv_at hl 0 rfl) ?_
  refine lv_iconst (v := 1) hx hb nD_UNI_claim_1 (by decide) ?_
  refine wr_UNI_UNI_state F9 hw hk0 nD_UNI_claim_2 (fun H locs hw => ?_)
  refine lv_aload_n hx hb nD_UNI_claim_5 rfl (lv_at hl 0 rfl) ?_
  refine lv_iload_n hx hb nD_UNI_claim_6 rfl (lv_at hl 1 rfl) ?_
  refine wr_UNI_UNI_op F9 hw hk0 nD_UNI_claim_7 (fun H locs hw => ?_)
  refine lv_aload_n hx hb nD_UNI_claim_10 rfl (lv_at hl 0 rfl) ?_
  refine lv_iload_n hx hb nD_UNI_claim_11 rfl (lv_at hl 2 rfl) ?_
  refine wr_UNI_UNI_address F9 hw hk0 nD_UNI_claim_12 (fun H locs hw => ?_)
  refine lv_aload_n hx hb nD_UNI_claim_15 rfl (lv_at hl 0 rfl) ?_
  refine lv_iload_n hx hb nD_UNI_claim_16 rfl (lv_at hl 3 rfl) ?_
  refine wr_UNI_UNI_order F9 hw hk0 nD_UNI_claim_17 (fun H locs hw => ?_)
  exact rt_v F9 hw nD_UNI_claim_20 hf
set_option maxRecDepth 100000 in
set_option maxHeartbeats 4000000 in
theorem ct_OPD_waitFor (l : Launch) (x : cx_T) (k0 : Nat) (a1 : Int32) (hk0 : k0 < 31) (σ : sg_T) (z : sg_T) (hf : fn_OPD_waitFor k0 a1 σ = some z) : ct_v l nN_OPD_waitFor nC_OPD_waitFor 2 0 x [.ref (x.2.2 (38 + k0)), .int a1] σ z := by
  refine en_v (own := nR_OPD) (by decide) (Nat.le_of_ble_eq_true rfl) rfl ?_
  intro p e s m below meth c ls F hw hl
  have F9 := F
  obtain ⟨hx, hb, hml, hr, hlk, hown, hT⟩ := F
  have hl : lv_has ls 2 [(0, .ref (x.2.2 (38 + k0))), (1, .int a1)] := hl
  unfold fn_OPD_waitFor at hf
  refine lv_aload_n hx hb nD_OPD_waitFor_0 rfl (lv_at hl 0 rfl) ?_
  refine lv_iload_n hx hb nD_OPD_waitFor_1 rfl (lv_at hl 1 rfl) ?_
  refine wr_OPD_OPD_awaited F9 hw hk0 nD_OPD_waitFor_2 (fun H locs hw => ?_)
  exact rt_v F9 hw nD_OPD_waitFor_5 hf
set_option maxRecDepth 100000 in
set_option maxHeartbeats 4000000 in
theorem ct_OPD_copy (l : Launch) (x : cx_T) (k0 : Nat) (k1 : Nat) (hk0 : k0 < 31) (hk1 : k1 < 31) (σ : sg_T) (z : sg_T) (hf : fn_OPD_copy k0 k1 σ = some z) : ct_v l nN_OPD_copy nC_OPD_copy 2 1 x [.ref (x.2.2 (38 + k0)), .ref (x.2.2 (38 + k1))] σ z := by
  refine en_v (own := nR_OPD) (by decide) (Nat.le_of_ble_eq_true rfl) rfl ?_
  intro p e s m below meth c ls F hw hl
  have F9 := F
  obtain ⟨hx, hb, hml, hr, hlk, hown, hT⟩ := F
  have hl : lv_has ls 2 [(0, .ref (x.2.2 (38 + k0))), (1, .ref (x.2.2 (38 + k1)))] := hl
  unfold fn_OPD_copy at hf
  refine lv_aload_n hx hb nD_OPD_copy_0 rfl (lv_at hl 1 rfl) ?_
  obtain ⟨z1, hz1, hf⟩ := bd_of hf
  refine cl_vi (As := []) (rest := []) F9 hw (ct_OPD_isAwaited l x k1 hk1 _ _ hz1) (rc_OPD hk1) wc_OPD_16 (by decide +kernel) (by decide) hl rfl (Nat.le_of_ble_eq_true rfl) nD_OPD_copy_1 (fun H locs hw => ?_)
  refine lv_if_eq (tgt := 18) hx hb nD_OPD_copy_4 (by decide) (fun h2 => ?_) (fun h2 => ?_)
  · rw [if_pos h2] at hf
    refine lv_aload_n hx hb nD_OPD_copy_18 rfl (lv_at hl 0 rfl) ?_
    refine lv_aload_n hx hb nD_OPD_copy_19 rfl (lv_at hl 1 rfl) ?_
    refine rd_OPD_OPD_value F9 hw hk1 nD_OPD_copy_20 ?_
    obtain ⟨z3, hz3, hf⟩ := bd_of hf
    refine cl_vv (As := [.int (z1.2 6 k1)]) (rest := []) F9 hw (ct_OPD_haveValue l x k0 (z1.2 6 k1) hk0 _ _ hz3) (rc_OPD hk0) wc_OPD_24 (by decide +kernel) (by decide) hl rfl (Nat.le_of_ble_eq_true rfl) nD_OPD_copy_23 (fun H locs hw => ?_)
    exact rt_v F9 hw nD_OPD_copy_26 hf
  · rw [if_neg h2] at hf
    refine lv_aload_n hx hb nD_OPD_copy_7 rfl (lv_at hl 0 rfl) ?_
    refine lv_aload_n hx hb nD_OPD_copy_8 rfl (lv_at hl 1 rfl) ?_
    refine rd_OPD_OPD_awaited F9 hw hk1 nD_OPD_copy_9 ?_
    obtain ⟨z4, hz4, hf⟩ := bd_of hf
    refine cl_vv (As := [.int (z1.2 7 k1)]) (rest := []) F9 hw (ct_OPD_waitFor l x k0 (z1.2 7 k1) hk0 _ _ hz4) (rc_OPD hk0) wc_OPD_20 (by decide +kernel) (by decide) hl rfl (Nat.le_of_ble_eq_true rfl) nD_OPD_copy_12 (fun H locs hw => ?_)
    refine lv_goto (tgt := 26) hx hb nD_OPD_copy_15 (by decide) ?_
    exact rt_v F9 hw nD_OPD_copy_26 hf
set_option maxRecDepth 100000 in
set_option maxHeartbeats 4000000 in
theorem ct_INS_become (l : Launch) (x : cx_T) (k0 : Nat) (a1 : Int32) (a2 : Int32) (a3 : Int32) (a4 : Int32) (a5 : Int32) (hk0 : k0 < 30) (σ : sg_T) (z : sg_T) (hf : fn_INS_become k0 a1 a2 a3 a4 a5 σ = some z) : ct_v l nN_INS_become nC_INS_become 6 0 x [.ref (x.2.2 (8 + k0)), .int a1, .int a2, .int a3, .int a4, .int a5] σ z := by
  refine en_v (own := nR_INS) (by decide) (Nat.le_of_ble_eq_true rfl) rfl ?_
  intro p e s m below meth c ls F hw hl
  have F9 := F
  obtain ⟨hx, hb, hml, hr, hlk, hown, hT⟩ := F
  have hl : lv_has ls 6 [(0, .ref (x.2.2 (8 + k0))), (1, .int a1), (2, .int a2), (3, .int a3), (4, .int a4), (5, .int a5)] := hl
  unfold fn_INS_become at hf
  refine lv_aload_n hx hb nD_INS_become_0 rfl (lv_at hl 0 rfl) ?_
  refine lv_iload_n hx hb nD_INS_become_1 rfl (lv_at hl 1 rfl) ?_
  refine wr_INS_INS_op F9 hw hk0 nD_INS_become_2 (fun H locs hw => ?_)
  refine lv_aload_n hx hb nD_INS_become_5 rfl (lv_at hl 0 rfl) ?_
  refine lv_iload_n hx hb nD_INS_become_6 rfl (lv_at hl 2 rfl) ?_
  refine wr_INS_INS_r F9 hw hk0 nD_INS_become_7 (fun H locs hw => ?_)
  refine lv_aload_n hx hb nD_INS_become_10 rfl (lv_at hl 0 rfl) ?_
  refine lv_iload_n hx hb nD_INS_become_11 rfl (lv_at hl 3 rfl) ?_
  refine wr_INS_INS_s F9 hw hk0 nD_INS_become_12 (fun H locs hw => ?_)
  refine lv_aload_n hx hb nD_INS_become_15 rfl (lv_at hl 0 rfl) ?_
  refine lv_iload hx hb nD_INS_become_16 (lv_at hl 4 rfl) ?_
  refine wr_INS_INS_b F9 hw hk0 nD_INS_become_18 (fun H locs hw => ?_)
  refine lv_aload_n hx hb nD_INS_become_21 rfl (lv_at hl 0 rfl) ?_
  refine lv_iload hx hb nD_INS_become_22 (lv_at hl 5 rfl) ?_
  refine wr_INS_INS_n F9 hw hk0 nD_INS_become_24 (fun H locs hw => ?_)
  exact rt_v F9 hw nD_INS_become_27 hf
end MT
end
