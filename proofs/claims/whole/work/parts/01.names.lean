-- ===== PART A: goes FIRST, ahead of the names: the tables' words, and 'selects' of the private methods out of them =====
/-- a private method of a class that the tables say can be made, by its rows of tables_1 -/
def lw_okq (q : MethodName × Nat) : Prop := (q.1.cls ≠ "java/lang/invoke/MethodHandle" ∧ q.1.cls ≠ "java/lang/invoke/VarHandle") ∧ Cond.instantiable q.1.cls q.2 ∈ tables_1 ∧ Cond.privateMethod q.1 ∈ tables_1 ∧ Cond.instanceMethod q.1 ∈ tables_1
theorem lw_p0 : lw_okq (⟨"MonitorWays", "beginAnew", "()V"⟩, 4) := ⟨⟨by decide +kernel, by decide +kernel⟩, List.mem_of_getElem? (i := 13) (by decide +kernel), List.mem_of_getElem? (i := 241) (by decide +kernel), List.mem_of_getElem? (i := 242) (by decide +kernel)⟩
theorem lw_p1 : lw_okq (⟨"MonitorWays$Machine", "monitorUseAllows", "(II)Z"⟩, 3) := ⟨⟨by decide +kernel, by decide +kernel⟩, List.mem_of_getElem? (i := 43) (by decide +kernel), List.mem_of_getElem? (i := 261) (by decide +kernel), List.mem_of_getElem? (i := 262) (by decide +kernel)⟩
theorem lw_p2 : lw_okq (⟨"MonitorWays$Machine", "monitorOf", "(LMonitorWays$Worker;)LMonitorWays$Monitor;"⟩, 3) := ⟨⟨by decide +kernel, by decide +kernel⟩, List.mem_of_getElem? (i := 43) (by decide +kernel), List.mem_of_getElem? (i := 265) (by decide +kernel), List.mem_of_getElem? (i := 266) (by decide +kernel)⟩
theorem lw_p3 : lw_okq (⟨"MonitorWays$Machine", "plainActionAllows", "(LMonitorWays$Worker;I)Z"⟩, 3) := ⟨⟨by decide +kernel, by decide +kernel⟩, List.mem_of_getElem? (i := 43) (by decide +kernel), List.mem_of_getElem? (i := 277) (by decide +kernel), List.mem_of_getElem? (i := 278) (by decide +kernel)⟩
theorem lw_p4 : lw_okq (⟨"MonitorWays$Machine", "waitingAllows", "(LMonitorWays$Worker;I)Z"⟩, 3) := ⟨⟨by decide +kernel, by decide +kernel⟩, List.mem_of_getElem? (i := 43) (by decide +kernel), List.mem_of_getElem? (i := 285) (by decide +kernel), List.mem_of_getElem? (i := 286) (by decide +kernel)⟩
theorem lw_p5 : lw_okq (⟨"MonitorWays$Machine", "mayStray", "(LMonitorWays$Worker;)Z"⟩, 3) := ⟨⟨by decide +kernel, by decide +kernel⟩, List.mem_of_getElem? (i := 43) (by decide +kernel), List.mem_of_getElem? (i := 289) (by decide +kernel), List.mem_of_getElem? (i := 290) (by decide +kernel)⟩
theorem lw_p6 : lw_okq (⟨"MonitorWays$Machine", "useMonitor", "(II)V"⟩, 3) := ⟨⟨by decide +kernel, by decide +kernel⟩, List.mem_of_getElem? (i := 43) (by decide +kernel), List.mem_of_getElem? (i := 297) (by decide +kernel), List.mem_of_getElem? (i := 298) (by decide +kernel)⟩
theorem lw_p7 : lw_okq (⟨"MonitorWays$Machine", "notifyWaiter", "(LMonitorWays$Monitor;I)V"⟩, 3) := ⟨⟨by decide +kernel, by decide +kernel⟩, List.mem_of_getElem? (i := 43) (by decide +kernel), List.mem_of_getElem? (i := 313) (by decide +kernel), List.mem_of_getElem? (i := 314) (by decide +kernel)⟩
theorem lw_p8 : lw_okq (⟨"MonitorWays$Machine", "goIntoSet", "(ILMonitorWays$Monitor;)V"⟩, 3) := ⟨⟨by decide +kernel, by decide +kernel⟩, List.mem_of_getElem? (i := 43) (by decide +kernel), List.mem_of_getElem? (i := 329) (by decide +kernel), List.mem_of_getElem? (i := 330) (by decide +kernel)⟩
theorem lw_p9 : lw_okq (⟨"MonitorWays$Machine", "doPlainAction", "(LMonitorWays$Worker;)V"⟩, 3) := ⟨⟨by decide +kernel, by decide +kernel⟩, List.mem_of_getElem? (i := 43) (by decide +kernel), List.mem_of_getElem? (i := 342) (by decide +kernel), List.mem_of_getElem? (i := 343) (by decide +kernel)⟩
theorem lw_p10 : lw_okq (⟨"MonitorWays$Machine", "interrupt", "(LMonitorWays$Worker;)V"⟩, 3) := ⟨⟨by decide +kernel, by decide +kernel⟩, List.mem_of_getElem? (i := 43) (by decide +kernel), List.mem_of_getElem? (i := 346) (by decide +kernel), List.mem_of_getElem? (i := 347) (by decide +kernel)⟩
theorem lw_p11 : lw_okq (⟨"MonitorWays$Machine", "unpark", "(LMonitorWays$Worker;)V"⟩, 3) := ⟨⟨by decide +kernel, by decide +kernel⟩, List.mem_of_getElem? (i := 43) (by decide +kernel), List.mem_of_getElem? (i := 350) (by decide +kernel), List.mem_of_getElem? (i := 351) (by decide +kernel)⟩
theorem lw_p12 : lw_okq (⟨"MonitorWays$Machine", "leaveSetAlone", "(II)V"⟩, 3) := ⟨⟨by decide +kernel, by decide +kernel⟩, List.mem_of_getElem? (i := 43) (by decide +kernel), List.mem_of_getElem? (i := 354) (by decide +kernel), List.mem_of_getElem? (i := 355) (by decide +kernel)⟩
theorem lw_p13 : lw_okq (⟨"MonitorWays$Machine", "comeBack", "(I)V"⟩, 3) := ⟨⟨by decide +kernel, by decide +kernel⟩, List.mem_of_getElem? (i := 43) (by decide +kernel), List.mem_of_getElem? (i := 358) (by decide +kernel), List.mem_of_getElem? (i := 359) (by decide +kernel)⟩
theorem lw_p14 : lw_okq (⟨"MonitorWays$Machine", "stopParking", "(LMonitorWays$Worker;I)V"⟩, 3) := ⟨⟨by decide +kernel, by decide +kernel⟩, List.mem_of_getElem? (i := 43) (by decide +kernel), List.mem_of_getElem? (i := 362) (by decide +kernel), List.mem_of_getElem? (i := 363) (by decide +kernel)⟩
theorem lw_p15 : lw_okq (⟨"MonitorWays$Worker", "letterCount", "()I"⟩, 8) := ⟨⟨by decide +kernel, by decide +kernel⟩, List.mem_of_getElem? (i := 52) (by decide +kernel), List.mem_of_getElem? (i := 390) (by decide +kernel), List.mem_of_getElem? (i := 391) (by decide +kernel)⟩
def lw_privs_1 : List (MethodName × Nat) := [(⟨"MonitorWays", "beginAnew", "()V"⟩, 4), (⟨"MonitorWays$Machine", "monitorUseAllows", "(II)Z"⟩, 3), (⟨"MonitorWays$Machine", "monitorOf", "(LMonitorWays$Worker;)LMonitorWays$Monitor;"⟩, 3), (⟨"MonitorWays$Machine", "plainActionAllows", "(LMonitorWays$Worker;I)Z"⟩, 3), (⟨"MonitorWays$Machine", "waitingAllows", "(LMonitorWays$Worker;I)Z"⟩, 3), (⟨"MonitorWays$Machine", "mayStray", "(LMonitorWays$Worker;)Z"⟩, 3), (⟨"MonitorWays$Machine", "useMonitor", "(II)V"⟩, 3), (⟨"MonitorWays$Machine", "notifyWaiter", "(LMonitorWays$Monitor;I)V"⟩, 3), (⟨"MonitorWays$Machine", "goIntoSet", "(ILMonitorWays$Monitor;)V"⟩, 3), (⟨"MonitorWays$Machine", "doPlainAction", "(LMonitorWays$Worker;)V"⟩, 3), (⟨"MonitorWays$Machine", "interrupt", "(LMonitorWays$Worker;)V"⟩, 3), (⟨"MonitorWays$Machine", "unpark", "(LMonitorWays$Worker;)V"⟩, 3), (⟨"MonitorWays$Machine", "leaveSetAlone", "(II)V"⟩, 3), (⟨"MonitorWays$Machine", "comeBack", "(I)V"⟩, 3), (⟨"MonitorWays$Machine", "stopParking", "(LMonitorWays$Worker;I)V"⟩, 3), (⟨"MonitorWays$Worker", "letterCount", "()I"⟩, 8)]
theorem lw_r1 : ∀ q ∈ lw_privs_1, lw_okq q := List.forall_mem_cons.mpr ⟨lw_p0, List.forall_mem_cons.mpr ⟨lw_p1, List.forall_mem_cons.mpr ⟨lw_p2, List.forall_mem_cons.mpr ⟨lw_p3, List.forall_mem_cons.mpr ⟨lw_p4, List.forall_mem_cons.mpr ⟨lw_p5, List.forall_mem_cons.mpr ⟨lw_p6, List.forall_mem_cons.mpr ⟨lw_p7, List.forall_mem_cons.mpr ⟨lw_p8, List.forall_mem_cons.mpr ⟨lw_p9, List.forall_mem_cons.mpr ⟨lw_p10, List.forall_mem_cons.mpr ⟨lw_p11, List.forall_mem_cons.mpr ⟨lw_p12, List.forall_mem_cons.mpr ⟨lw_p13, List.forall_mem_cons.mpr ⟨lw_p14, List.forall_mem_cons.mpr ⟨lw_p15, fun _ h => absurd h List.not_mem_nil⟩⟩⟩⟩⟩⟩⟩⟩⟩⟩⟩⟩⟩⟩⟩⟩
theorem lw_p16 : lw_okq (⟨"MonitorWays$States", "grow", "()V"⟩, 3) := ⟨⟨by decide +kernel, by decide +kernel⟩, List.mem_of_getElem? (i := 145) (by decide +kernel), List.mem_of_getElem? (i := 428) (by decide +kernel), List.mem_of_getElem? (i := 429) (by decide +kernel)⟩
theorem lw_p17 : lw_okq (⟨"MonitorWays$States", "slotOf", "(I)I"⟩, 3) := ⟨⟨by decide +kernel, by decide +kernel⟩, List.mem_of_getElem? (i := 145) (by decide +kernel), List.mem_of_getElem? (i := 448) (by decide +kernel), List.mem_of_getElem? (i := 449) (by decide +kernel)⟩
theorem lw_p18 : lw_okq (⟨"MonitorWays$States", "hashOf", "(I)I"⟩, 3) := ⟨⟨by decide +kernel, by decide +kernel⟩, List.mem_of_getElem? (i := 145) (by decide +kernel), List.mem_of_getElem? (i := 452) (by decide +kernel), List.mem_of_getElem? (i := 453) (by decide +kernel)⟩
theorem lw_p19 : lw_okq (⟨"MonitorWays$States", "areSame", "(II)Z"⟩, 3) := ⟨⟨by decide +kernel, by decide +kernel⟩, List.mem_of_getElem? (i := 145) (by decide +kernel), List.mem_of_getElem? (i := 457) (by decide +kernel), List.mem_of_getElem? (i := 458) (by decide +kernel)⟩
theorem lw_p20 : lw_okq (⟨"MonitorWays$Search", "visit", "(I)Z"⟩, 11) := ⟨⟨by decide +kernel, by decide +kernel⟩, List.mem_of_getElem? (i := 139) (by decide +kernel), List.mem_of_getElem? (i := 477) (by decide +kernel), List.mem_of_getElem? (i := 478) (by decide +kernel)⟩
theorem lw_p21 : lw_okq (⟨"MonitorWays$Search", "noteFinal", "()V"⟩, 11) := ⟨⟨by decide +kernel, by decide +kernel⟩, List.mem_of_getElem? (i := 139) (by decide +kernel), List.mem_of_getElem? (i := 505) (by decide +kernel), List.mem_of_getElem? (i := 506) (by decide +kernel)⟩
theorem lw_p22 : lw_okq (⟨"MonitorWays$Search", "noteOutcome", "(J)V"⟩, 11) := ⟨⟨by decide +kernel, by decide +kernel⟩, List.mem_of_getElem? (i := 139) (by decide +kernel), List.mem_of_getElem? (i := 520) (by decide +kernel), List.mem_of_getElem? (i := 521) (by decide +kernel)⟩
theorem lw_p23 : lw_okq (⟨"MonitorWays$Search", "lessThan", "(J)I"⟩, 11) := ⟨⟨by decide +kernel, by decide +kernel⟩, List.mem_of_getElem? (i := 139) (by decide +kernel), List.mem_of_getElem? (i := 524) (by decide +kernel), List.mem_of_getElem? (i := 525) (by decide +kernel)⟩
theorem lw_p24 : lw_okq (⟨"MonitorWaysModel", "first", "()V"⟩, 27) := ⟨⟨by decide +kernel, by decide +kernel⟩, List.mem_of_getElem? (i := 551) (by decide +kernel), List.mem_of_getElem? (i := 561) (by decide +kernel), List.mem_of_getElem? (i := 562) (by decide +kernel)⟩
theorem lw_p25 : lw_okq (⟨"MonitorWaysModel", "pack", "([JI)V"⟩, 27) := ⟨⟨by decide +kernel, by decide +kernel⟩, List.mem_of_getElem? (i := 551) (by decide +kernel), List.mem_of_getElem? (i := 565) (by decide +kernel), List.mem_of_getElem? (i := 566) (by decide +kernel)⟩
theorem lw_p26 : lw_okq (⟨"MonitorWaysModel", "threadPacked", "(I)J"⟩, 27) := ⟨⟨by decide +kernel, by decide +kernel⟩, List.mem_of_getElem? (i := 551) (by decide +kernel), List.mem_of_getElem? (i := 569) (by decide +kernel), List.mem_of_getElem? (i := 570) (by decide +kernel)⟩
theorem lw_p27 : lw_okq (⟨"MonitorWaysModel", "forget", "()V"⟩, 27) := ⟨⟨by decide +kernel, by decide +kernel⟩, List.mem_of_getElem? (i := 551) (by decide +kernel), List.mem_of_getElem? (i := 663) (by decide +kernel), List.mem_of_getElem? (i := 664) (by decide +kernel)⟩
theorem lw_p28 : lw_okq (⟨"MonitorWaysModel", "unpack", "([JI)V"⟩, 27) := ⟨⟨by decide +kernel, by decide +kernel⟩, List.mem_of_getElem? (i := 551) (by decide +kernel), List.mem_of_getElem? (i := 671) (by decide +kernel), List.mem_of_getElem? (i := 672) (by decide +kernel)⟩
theorem lw_p29 : lw_okq (⟨"MonitorWaysModel", "threadUnpacked", "(IJ)V"⟩, 27) := ⟨⟨by decide +kernel, by decide +kernel⟩, List.mem_of_getElem? (i := 551) (by decide +kernel), List.mem_of_getElem? (i := 675) (by decide +kernel), List.mem_of_getElem? (i := 676) (by decide +kernel)⟩
theorem lw_p30 : lw_okq (⟨"MonitorWaysModel", "may", "(II)Z"⟩, 27) := ⟨⟨by decide +kernel, by decide +kernel⟩, List.mem_of_getElem? (i := 551) (by decide +kernel), List.mem_of_getElem? (i := 680) (by decide +kernel), List.mem_of_getElem? (i := 681) (by decide +kernel)⟩
theorem lw_p31 : lw_okq (⟨"MonitorWaysModel", "runningMay", "(II)Z"⟩, 27) := ⟨⟨by decide +kernel, by decide +kernel⟩, List.mem_of_getElem? (i := 551) (by decide +kernel), List.mem_of_getElem? (i := 684) (by decide +kernel), List.mem_of_getElem? (i := 685) (by decide +kernel)⟩
def lw_privs_2 : List (MethodName × Nat) := [(⟨"MonitorWays$States", "grow", "()V"⟩, 3), (⟨"MonitorWays$States", "slotOf", "(I)I"⟩, 3), (⟨"MonitorWays$States", "hashOf", "(I)I"⟩, 3), (⟨"MonitorWays$States", "areSame", "(II)Z"⟩, 3), (⟨"MonitorWays$Search", "visit", "(I)Z"⟩, 11), (⟨"MonitorWays$Search", "noteFinal", "()V"⟩, 11), (⟨"MonitorWays$Search", "noteOutcome", "(J)V"⟩, 11), (⟨"MonitorWays$Search", "lessThan", "(J)I"⟩, 11), (⟨"MonitorWaysModel", "first", "()V"⟩, 27), (⟨"MonitorWaysModel", "pack", "([JI)V"⟩, 27), (⟨"MonitorWaysModel", "threadPacked", "(I)J"⟩, 27), (⟨"MonitorWaysModel", "forget", "()V"⟩, 27), (⟨"MonitorWaysModel", "unpack", "([JI)V"⟩, 27), (⟨"MonitorWaysModel", "threadUnpacked", "(IJ)V"⟩, 27), (⟨"MonitorWaysModel", "may", "(II)Z"⟩, 27), (⟨"MonitorWaysModel", "runningMay", "(II)Z"⟩, 27)]
theorem lw_r2 : ∀ q ∈ lw_privs_2, lw_okq q := List.forall_mem_cons.mpr ⟨lw_p16, List.forall_mem_cons.mpr ⟨lw_p17, List.forall_mem_cons.mpr ⟨lw_p18, List.forall_mem_cons.mpr ⟨lw_p19, List.forall_mem_cons.mpr ⟨lw_p20, List.forall_mem_cons.mpr ⟨lw_p21, List.forall_mem_cons.mpr ⟨lw_p22, List.forall_mem_cons.mpr ⟨lw_p23, List.forall_mem_cons.mpr ⟨lw_p24, List.forall_mem_cons.mpr ⟨lw_p25, List.forall_mem_cons.mpr ⟨lw_p26, List.forall_mem_cons.mpr ⟨lw_p27, List.forall_mem_cons.mpr ⟨lw_p28, List.forall_mem_cons.mpr ⟨lw_p29, List.forall_mem_cons.mpr ⟨lw_p30, List.forall_mem_cons.mpr ⟨lw_p31, fun _ h => absurd h List.not_mem_nil⟩⟩⟩⟩⟩⟩⟩⟩⟩⟩⟩⟩⟩⟩⟩⟩
theorem lw_p32 : lw_okq (⟨"MonitorWaysModel", "action", "(I)I"⟩, 27) := ⟨⟨by decide +kernel, by decide +kernel⟩, List.mem_of_getElem? (i := 551) (by decide +kernel), List.mem_of_getElem? (i := 688) (by decide +kernel), List.mem_of_getElem? (i := 689) (by decide +kernel)⟩
theorem lw_p33 : lw_okq (⟨"MonitorWaysModel", "operand", "(I)I"⟩, 27) := ⟨⟨by decide +kernel, by decide +kernel⟩, List.mem_of_getElem? (i := 551) (by decide +kernel), List.mem_of_getElem? (i := 692) (by decide +kernel), List.mem_of_getElem? (i := 693) (by decide +kernel)⟩
theorem lw_p34 : lw_okq (⟨"MonitorWaysModel", "timed", "(I)Z"⟩, 27) := ⟨⟨by decide +kernel, by decide +kernel⟩, List.mem_of_getElem? (i := 551) (by decide +kernel), List.mem_of_getElem? (i := 696) (by decide +kernel), List.mem_of_getElem? (i := 697) (by decide +kernel)⟩
theorem lw_p35 : lw_okq (⟨"MonitorWaysModel", "waitedOn", "(I)I"⟩, 27) := ⟨⟨by decide +kernel, by decide +kernel⟩, List.mem_of_getElem? (i := 551) (by decide +kernel), List.mem_of_getElem? (i := 700) (by decide +kernel), List.mem_of_getElem? (i := 701) (by decide +kernel)⟩
theorem lw_p36 : lw_okq (⟨"MonitorWaysModel", "perform", "(II)V"⟩, 27) := ⟨⟨by decide +kernel, by decide +kernel⟩, List.mem_of_getElem? (i := 551) (by decide +kernel), List.mem_of_getElem? (i := 704) (by decide +kernel), List.mem_of_getElem? (i := 705) (by decide +kernel)⟩
theorem lw_p37 : lw_okq (⟨"MonitorWaysModel", "doAction", "(II)V"⟩, 27) := ⟨⟨by decide +kernel, by decide +kernel⟩, List.mem_of_getElem? (i := 551) (by decide +kernel), List.mem_of_getElem? (i := 708) (by decide +kernel), List.mem_of_getElem? (i := 709) (by decide +kernel)⟩
theorem lw_p38 : lw_okq (⟨"MonitorWaysModel", "monitorAction", "(IIII)V"⟩, 27) := ⟨⟨by decide +kernel, by decide +kernel⟩, List.mem_of_getElem? (i := 551) (by decide +kernel), List.mem_of_getElem? (i := 712) (by decide +kernel), List.mem_of_getElem? (i := 713) (by decide +kernel)⟩
theorem lw_p39 : lw_okq (⟨"MonitorWaysModel", "put", "(II)V"⟩, 27) := ⟨⟨by decide +kernel, by decide +kernel⟩, List.mem_of_getElem? (i := 551) (by decide +kernel), List.mem_of_getElem? (i := 716) (by decide +kernel), List.mem_of_getElem? (i := 717) (by decide +kernel)⟩
theorem lw_p40 : lw_okq (⟨"MonitorWaysModel", "waitOn", "(II)V"⟩, 27) := ⟨⟨by decide +kernel, by decide +kernel⟩, List.mem_of_getElem? (i := 551) (by decide +kernel), List.mem_of_getElem? (i := 721) (by decide +kernel), List.mem_of_getElem? (i := 722) (by decide +kernel)⟩
theorem lw_p41 : lw_okq (⟨"MonitorWaysModel", "notified", "(I)V"⟩, 27) := ⟨⟨by decide +kernel, by decide +kernel⟩, List.mem_of_getElem? (i := 551) (by decide +kernel), List.mem_of_getElem? (i := 725) (by decide +kernel), List.mem_of_getElem? (i := 726) (by decide +kernel)⟩
theorem lw_p42 : lw_okq (⟨"MonitorWaysModel", "leaveSet", "(I)V"⟩, 27) := ⟨⟨by decide +kernel, by decide +kernel⟩, List.mem_of_getElem? (i := 551) (by decide +kernel), List.mem_of_getElem? (i := 729) (by decide +kernel), List.mem_of_getElem? (i := 730) (by decide +kernel)⟩
theorem lw_p43 : lw_okq (⟨"MonitorWaysModel", "otherAction", "(III)V"⟩, 27) := ⟨⟨by decide +kernel, by decide +kernel⟩, List.mem_of_getElem? (i := 551) (by decide +kernel), List.mem_of_getElem? (i := 733) (by decide +kernel), List.mem_of_getElem? (i := 734) (by decide +kernel)⟩
theorem lw_p44 : lw_okq (⟨"MonitorWaysModel", "unpark", "(I)V"⟩, 27) := ⟨⟨by decide +kernel, by decide +kernel⟩, List.mem_of_getElem? (i := 551) (by decide +kernel), List.mem_of_getElem? (i := 737) (by decide +kernel), List.mem_of_getElem? (i := 738) (by decide +kernel)⟩
theorem lw_p45 : lw_okq (⟨"MonitorWaysModel", "run", "(I)V"⟩, 27) := ⟨⟨by decide +kernel, by decide +kernel⟩, List.mem_of_getElem? (i := 551) (by decide +kernel), List.mem_of_getElem? (i := 741) (by decide +kernel), List.mem_of_getElem? (i := 742) (by decide +kernel)⟩
theorem lw_p46 : lw_okq (⟨"MonitorWaysModel", "brokenOr", "(IZ)V"⟩, 27) := ⟨⟨by decide +kernel, by decide +kernel⟩, List.mem_of_getElem? (i := 551) (by decide +kernel), List.mem_of_getElem? (i := 745) (by decide +kernel), List.mem_of_getElem? (i := 746) (by decide +kernel)⟩
theorem lw_p47 : lw_okq (⟨"MonitorWaysModel", "meet", "()V"⟩, 27) := ⟨⟨by decide +kernel, by decide +kernel⟩, List.mem_of_getElem? (i := 551) (by decide +kernel), List.mem_of_getElem? (i := 778) (by decide +kernel), List.mem_of_getElem? (i := 779) (by decide +kernel)⟩
def lw_privs_3 : List (MethodName × Nat) := [(⟨"MonitorWaysModel", "action", "(I)I"⟩, 27), (⟨"MonitorWaysModel", "operand", "(I)I"⟩, 27), (⟨"MonitorWaysModel", "timed", "(I)Z"⟩, 27), (⟨"MonitorWaysModel", "waitedOn", "(I)I"⟩, 27), (⟨"MonitorWaysModel", "perform", "(II)V"⟩, 27), (⟨"MonitorWaysModel", "doAction", "(II)V"⟩, 27), (⟨"MonitorWaysModel", "monitorAction", "(IIII)V"⟩, 27), (⟨"MonitorWaysModel", "put", "(II)V"⟩, 27), (⟨"MonitorWaysModel", "waitOn", "(II)V"⟩, 27), (⟨"MonitorWaysModel", "notified", "(I)V"⟩, 27), (⟨"MonitorWaysModel", "leaveSet", "(I)V"⟩, 27), (⟨"MonitorWaysModel", "otherAction", "(III)V"⟩, 27), (⟨"MonitorWaysModel", "unpark", "(I)V"⟩, 27), (⟨"MonitorWaysModel", "run", "(I)V"⟩, 27), (⟨"MonitorWaysModel", "brokenOr", "(IZ)V"⟩, 27), (⟨"MonitorWaysModel", "meet", "()V"⟩, 27)]
theorem lw_r3 : ∀ q ∈ lw_privs_3, lw_okq q := List.forall_mem_cons.mpr ⟨lw_p32, List.forall_mem_cons.mpr ⟨lw_p33, List.forall_mem_cons.mpr ⟨lw_p34, List.forall_mem_cons.mpr ⟨lw_p35, List.forall_mem_cons.mpr ⟨lw_p36, List.forall_mem_cons.mpr ⟨lw_p37, List.forall_mem_cons.mpr ⟨lw_p38, List.forall_mem_cons.mpr ⟨lw_p39, List.forall_mem_cons.mpr ⟨lw_p40, List.forall_mem_cons.mpr ⟨lw_p41, List.forall_mem_cons.mpr ⟨lw_p42, List.forall_mem_cons.mpr ⟨lw_p43, List.forall_mem_cons.mpr ⟨lw_p44, List.forall_mem_cons.mpr ⟨lw_p45, List.forall_mem_cons.mpr ⟨lw_p46, List.forall_mem_cons.mpr ⟨lw_p47, fun _ h => absurd h List.not_mem_nil⟩⟩⟩⟩⟩⟩⟩⟩⟩⟩⟩⟩⟩⟩⟩⟩
theorem lw_p48 : lw_okq (⟨"MonitorWaysModel", "goOn", "(I)V"⟩, 27) := ⟨⟨by decide +kernel, by decide +kernel⟩, List.mem_of_getElem? (i := 551) (by decide +kernel), List.mem_of_getElem? (i := 782) (by decide +kernel), List.mem_of_getElem? (i := 783) (by decide +kernel)⟩
theorem lw_p49 : lw_okq (⟨"MonitorWaysModel", "noteFinal", "()V"⟩, 27) := ⟨⟨by decide +kernel, by decide +kernel⟩, List.mem_of_getElem? (i := 551) (by decide +kernel), List.mem_of_getElem? (i := 786) (by decide +kernel), List.mem_of_getElem? (i := 787) (by decide +kernel)⟩
def lw_privs_4 : List (MethodName × Nat) := [(⟨"MonitorWaysModel", "goOn", "(I)V"⟩, 27), (⟨"MonitorWaysModel", "noteFinal", "()V"⟩, 27)]
theorem lw_r4 : ∀ q ∈ lw_privs_4, lw_okq q := List.forall_mem_cons.mpr ⟨lw_p48, List.forall_mem_cons.mpr ⟨lw_p49, fun _ h => absurd h List.not_mem_nil⟩⟩
def lw_privs : List (MethodName × Nat) := lw_privs_1 ++ (lw_privs_2 ++ (lw_privs_3 ++ (lw_privs_4)))
def lw_tbl : List Cond := k2_sels lw_privs ++ tables_1
theorem lw_privs_ok : ∀ q ∈ lw_privs, lw_okq q := by
  show ∀ q ∈ lw_privs_1 ++ (lw_privs_2 ++ (lw_privs_3 ++ (lw_privs_4))), lw_okq q
  exact List.forall_mem_append.mpr ⟨lw_r1, List.forall_mem_append.mpr ⟨lw_r2, List.forall_mem_append.mpr ⟨lw_r3, lw_r4⟩⟩⟩
def TX0 : u_T := fun k => match k with
  | 0 => ("MonitorWays$Machine", "workers", "[LMonitorWays$Worker;", true)
  | 1 => ("MonitorWays$Machine", "monitors", "[LMonitorWays$Monitor;", true)
  | _ => ("MonitorWays$Machine", "loose", "Z", true)
def tyX0 : Nat → FieldType := fun k => match k with
  | 0 => .array (.object "MonitorWays$Worker")
  | 1 => .array (.object "MonitorWays$Monitor")
  | _ => .boolean
theorem ok_nX0 : ∀ a, a < 3 → ∀ b, b < 3 → a ≠ b → (TX0 a).2.1 ≠ (TX0 b).2.1 := by decide +kernel
theorem ok_tyX0 : ∀ k, k < 3 → parseFieldDescriptor (TX0 k).2.2.1 = some (tyX0 k) := by decide +kernel
def TX1 : u_T := fun k => match k with
  | 0 => ("MonitorWays$Monitor", "owner", "I", false)
  | 1 => ("MonitorWays$Monitor", "depth", "I", false)
  | 2 => ("MonitorWays$Monitor", "setSize", "I", false)
  | _ => ("MonitorWays$Monitor", "set", "[I", true)
def tyX1 : Nat → FieldType := fun k => match k with
  | 0 => .int
  | 1 => .int
  | 2 => .int
  | _ => .array .int
theorem ok_nX1 : ∀ a, a < 4 → ∀ b, b < 4 → a ≠ b → (TX1 a).2.1 ≠ (TX1 b).2.1 := by decide +kernel
theorem ok_tyX1 : ∀ k, k < 4 → parseFieldDescriptor (TX1 k).2.2.1 = some (tyX1 k) := by decide +kernel
def TX2 : u_T := fun k => match k with
  | 0 => ("MonitorWays$Program", "actions", "[I", true)
  | 1 => ("MonitorWays$Program", "operands", "[I", true)
  | _ => ("MonitorWays$Program", "length", "I", false)
def tyX2 : Nat → FieldType := fun k => match k with
  | 0 => .array .int
  | 1 => .array .int
  | _ => .int
theorem ok_nX2 : ∀ a, a < 3 → ∀ b, b < 3 → a ≠ b → (TX2 a).2.1 ≠ (TX2 b).2.1 := by decide +kernel
theorem ok_tyX2 : ∀ k, k < 3 → parseFieldDescriptor (TX2 k).2.2.1 = some (tyX2 k) := by decide +kernel
def TX3 : u_T := fun k => match k with
  | 0 => ("MonitorWays$Search", "blocked", "[Z", true)
  | 1 => ("MonitorWays$Search", "done", "Z", false)
  | 2 => ("MonitorWays$Search", "answer", "I", false)
  | 3 => ("MonitorWays$Search", "stateCount", "I", false)
  | 4 => ("MonitorWays$Search", "finalCount", "I", false)
  | 5 => ("MonitorWays$Search", "allEndedCount", "I", false)
  | 6 => ("MonitorWays$Search", "mostChoices", "I", false)
  | 7 => ("MonitorWays$Search", "machine", "LMonitorWays$Machine;", true)
  | 8 => ("MonitorWays$Search", "states", "LMonitorWays$States;", true)
  | 9 => ("MonitorWays$Search", "outcomes", "[J", false)
  | _ => ("MonitorWays$Search", "outcomeCount", "I", false)
def tyX3 : Nat → FieldType := fun k => match k with
  | 0 => .array .boolean
  | 1 => .boolean
  | 2 => .int
  | 3 => .int
  | 4 => .int
  | 5 => .int
  | 6 => .int
  | 7 => .object "MonitorWays$Machine"
  | 8 => .object "MonitorWays$States"
  | 9 => .array .long
  | _ => .int
theorem ok_nX3 : ∀ a, a < 11 → ∀ b, b < 11 → a ≠ b → (TX3 a).2.1 ≠ (TX3 b).2.1 := by decide +kernel
theorem ok_tyX3 : ∀ k, k < 11 → parseFieldDescriptor (TX3 k).2.2.1 = some (tyX3 k) := by decide +kernel
def TX4 : u_T := fun k => match k with
  | 0 => ("MonitorWays$States", "size", "I", false)
  | 1 => ("MonitorWays$States", "words", "[J", false)
  | _ => ("MonitorWays$States", "slots", "[I", false)
def tyX4 : Nat → FieldType := fun k => match k with
  | 0 => .int
  | 1 => .array .long
  | _ => .array .int
theorem ok_nX4 : ∀ a, a < 3 → ∀ b, b < 3 → a ≠ b → (TX4 a).2.1 ≠ (TX4 b).2.1 := by decide +kernel
theorem ok_tyX4 : ∀ k, k < 3 → parseFieldDescriptor (TX4 k).2.2.1 = some (tyX4 k) := by decide +kernel
def TX5 : u_T := fun k => match k with
  | 0 => ("MonitorWays$Worker", "status", "I", false)
  | 1 => ("MonitorWays$Worker", "place", "I", false)
  | 2 => ("MonitorWays$Worker", "kept", "I", false)
  | 3 => ("MonitorWays$Worker", "interrupted", "Z", false)
  | 4 => ("MonitorWays$Worker", "permit", "Z", false)
  | 5 => ("MonitorWays$Worker", "strayed", "Z", false)
  | 6 => ("MonitorWays$Worker", "program", "LMonitorWays$Program;", true)
  | _ => ("MonitorWays$Worker", "result", "I", false)
def tyX5 : Nat → FieldType := fun k => match k with
  | 0 => .int
  | 1 => .int
  | 2 => .int
  | 3 => .boolean
  | 4 => .boolean
  | 5 => .boolean
  | 6 => .object "MonitorWays$Program"
  | _ => .int
theorem ok_nX5 : ∀ a, a < 8 → ∀ b, b < 8 → a ≠ b → (TX5 a).2.1 ≠ (TX5 b).2.1 := by decide +kernel
theorem ok_tyX5 : ∀ k, k < 8 → parseFieldDescriptor (TX5 k).2.2.1 = some (tyX5 k) := by decide +kernel
def TX6 : u_T := fun k => match k with
  | 0 => ("MonitorWays", "programs", "[LMonitorWays$Program;", true)
  | 1 => ("MonitorWays", "present", "LMonitorWays$Machine;", true)
  | 2 => ("MonitorWays", "search", "LMonitorWays$Search;", true)
  | _ => ("MonitorWays", "choices", "I", false)
def tyX6 : Nat → FieldType := fun k => match k with
  | 0 => .array (.object "MonitorWays$Program")
  | 1 => .object "MonitorWays$Machine"
  | 2 => .object "MonitorWays$Search"
  | _ => .int
theorem ok_nX6 : ∀ a, a < 4 → ∀ b, b < 4 → a ≠ b → (TX6 a).2.1 ≠ (TX6 b).2.1 := by decide +kernel
theorem ok_tyX6 : ∀ k, k < 4 → parseFieldDescriptor (TX6 k).2.2.1 = some (tyX6 k) := by decide +kernel
def TX7 : u_T := fun k => match k with
  | 0 => ("MonitorWaysModel", "loose", "Z", true)
  | 1 => ("MonitorWaysModel", "actions", "[I", true)
  | 2 => ("MonitorWaysModel", "operands", "[I", true)
  | 3 => ("MonitorWaysModel", "lengths", "[I", true)
  | 4 => ("MonitorWaysModel", "place", "[I", true)
  | 5 => ("MonitorWaysModel", "status", "[I", true)
  | 6 => ("MonitorWaysModel", "kept", "[I", true)
  | 7 => ("MonitorWaysModel", "letters", "[I", true)
  | 8 => ("MonitorWaysModel", "result", "[J", true)
  | 9 => ("MonitorWaysModel", "interrupted", "[Z", true)
  | 10 => ("MonitorWaysModel", "permit", "[Z", true)
  | 11 => ("MonitorWaysModel", "odd", "[Z", true)
  | 12 => ("MonitorWaysModel", "owner", "[I", true)
  | 13 => ("MonitorWaysModel", "count", "[I", true)
  | 14 => ("MonitorWaysModel", "size", "[I", true)
  | 15 => ("MonitorWaysModel", "set", "[I", true)
  | 16 => ("MonitorWaysModel", "present", "[J", true)
  | 17 => ("MonitorWaysModel", "choices", "I", false)
  | 18 => ("MonitorWaysModel", "met", "[J", true)
  | 19 => ("MonitorWaysModel", "states", "I", false)
  | 20 => ("MonitorWaysModel", "finals", "I", false)
  | 21 => ("MonitorWaysModel", "allEnded", "I", false)
  | 22 => ("MonitorWaysModel", "most", "I", false)
  | 23 => ("MonitorWaysModel", "found", "I", false)
  | 24 => ("MonitorWaysModel", "outcomes", "[J", true)
  | 25 => ("MonitorWaysModel", "blocks", "[Z", true)
  | _ => ("MonitorWaysModel", "overfull", "Z", false)
def tyX7 : Nat → FieldType := fun k => match k with
  | 0 => .boolean
  | 1 => .array .int
  | 2 => .array .int
  | 3 => .array .int
  | 4 => .array .int
  | 5 => .array .int
  | 6 => .array .int
  | 7 => .array .int
  | 8 => .array .long
  | 9 => .array .boolean
  | 10 => .array .boolean
  | 11 => .array .boolean
  | 12 => .array .int
  | 13 => .array .int
  | 14 => .array .int
  | 15 => .array .int
  | 16 => .array .long
  | 17 => .int
  | 18 => .array .long
  | 19 => .int
  | 20 => .int
  | 21 => .int
  | 22 => .int
  | 23 => .int
  | 24 => .array .long
  | 25 => .array .boolean
  | _ => .boolean
theorem ok_nX7 : ∀ a, a < 27 → ∀ b, b < 27 → a ≠ b → (TX7 a).2.1 ≠ (TX7 b).2.1 := by decide +kernel
theorem ok_tyX7 : ∀ k, k < 27 → parseFieldDescriptor (TX7 k).2.2.1 = some (tyX7 k) := by decide +kernel
abbrev vwCl : List vw_C := [("MonitorWays$Machine", TX0, 3), ("MonitorWays$Monitor", TX1, 4), ("MonitorWays$Program", TX2, 3), ("MonitorWays$Search", TX3, 11), ("MonitorWays$States", TX4, 3), ("MonitorWays$Worker", TX5, 8), ("MonitorWays", TX6, 4), ("MonitorWaysModel", TX7, 27)]
/-- the words that every method has: the tables, without those that a call may not keep -/
def wtbl : List Cond := lw_tbl.filter goodWord
theorem goodT : ∀ w ∈ wtbl, (w.onTables && w.keeps) = true ∨ ∃ ty, w = .arrayClass ty := fun w h => good_of_word (List.mem_filter.mp h).2
theorem wtbl_in : ∀ w ∈ wtbl, w ∈ lw_tbl := fun w h => (List.mem_filter.mp h).1
theorem tin_1 {w : Cond} (h : w ∈ tables_1_1) (hg : goodWord w = true) : w ∈ wtbl := List.mem_filter.mpr ⟨List.mem_append_right _ (List.mem_append_left _ h), hg⟩
theorem tin_2 {w : Cond} (h : w ∈ tables_1_2) (hg : goodWord w = true) : w ∈ wtbl := List.mem_filter.mpr ⟨List.mem_append_right _ (List.mem_append_right _ (List.mem_append_left _ h)), hg⟩
theorem tin_3 {w : Cond} (h : w ∈ tables_1_3) (hg : goodWord w = true) : w ∈ wtbl := List.mem_filter.mpr ⟨List.mem_append_right _ (List.mem_append_right _ (List.mem_append_right _ (List.mem_append_left _ h))), hg⟩
theorem tin_4 {w : Cond} (h : w ∈ tables_1_4) (hg : goodWord w = true) : w ∈ wtbl := List.mem_filter.mpr ⟨List.mem_append_right _ (List.mem_append_right _ (List.mem_append_right _ (List.mem_append_right _ h))), hg⟩
theorem tin_p {w : Cond} (h : w ∈ k2_sels lw_privs) (hg : goodWord w = true) : w ∈ wtbl := List.mem_filter.mpr ⟨List.mem_append_left _ h, hg⟩
theorem goodV {own C : String} {idx n : Nat} {y : MethodName} {cb : ByteArray} {ret : Option FieldType} {big : List Cond} (hb : ∀ w ∈ wtbl, w ∈ big) (h1 : Cond.methodLink own idx y ∈ wtbl) (h2 : Cond.instanceMethod y ∈ wtbl) (h3 : Cond.selects C y y ∈ wtbl) (h4 : Cond.initialized C ∈ wtbl) (h5 : Cond.code y cb n ret ∈ wtbl) : GoodIn big (wsV own idx C y (Cond.code y cb n ret :: wtbl)) := by
  intro w hw
  have hm : w ∈ wtbl := by
    rcases List.mem_append.mp hw with h | h
    · simp only [List.mem_cons, List.not_mem_nil, or_false] at h
      rcases h with rfl | rfl | rfl | rfl
      · exact h1
      · exact h2
      · exact h3
      · exact h4
    · rcases List.mem_cons.mp h with rfl | h
      · exact h5
      · exact h
  exact ⟨hb w hm, goodT w hm⟩
theorem goodS {own : String} {idx n : Nat} {y : MethodName} {cb : ByteArray} {ret : Option FieldType} {big : List Cond} (hb : ∀ w ∈ wtbl, w ∈ big) (h1 : Cond.methodLink own idx y ∈ wtbl) (h2 : Cond.static y ∈ wtbl) (h4 : Cond.initialized own ∈ wtbl) (h5 : Cond.code y cb n ret ∈ wtbl) : GoodIn big (wsS own idx y (Cond.code y cb n ret :: wtbl)) := by
  intro w hw
  have hm : w ∈ wtbl := by
    rcases List.mem_append.mp hw with h | h
    · simp only [List.mem_cons, List.not_mem_nil, or_false] at h
      rcases h with rfl | rfl | rfl
      · exact h1
      · exact h2
      · exact h4
    · rcases List.mem_cons.mp h with rfl | h
      · exact h5
      · exact h
  exact ⟨hb w hm, goodT w hm⟩
theorem goodC {n : Nat} {y : MethodName} {cb : ByteArray} {ret : Option FieldType} {big : List Cond} (hb : ∀ w ∈ wtbl, w ∈ big) (h5 : Cond.code y cb n ret ∈ wtbl) : GoodIn big (Cond.code y cb n ret :: wtbl) := by
  intro w hw
  have hm : w ∈ wtbl := by
    rcases List.mem_cons.mp hw with rfl | h
    · exact h5
    · exact h
  exact ⟨hb w hm, goodT w hm⟩
theorem tcons {hd w : Cond} (h : w ∈ wtbl) : w ∈ hd :: wtbl := List.mem_cons_of_mem _ h
abbrev yX6_init : MethodName := { cls := "MonitorWays", name := "<init>", desc := "(I)V" }
abbrev cX6_init : ByteArray := prog_1_method_1_code
abbrev wX6_init : List Cond := Cond.code yX6_init cX6_init 4 none :: wtbl
abbrev yX6_act : MethodName := { cls := "MonitorWays", name := "act", desc := "(III)I" }
abbrev cX6_act : ByteArray := prog_1_method_2_code
abbrev wX6_act : List Cond := Cond.code yX6_act cX6_act 4 (some (.int)) :: wtbl
abbrev yX6_choose : MethodName := { cls := "MonitorWays", name := "choose", desc := "(II)I" }
abbrev cX6_choose : ByteArray := prog_1_method_3_code
abbrev wX6_choose : List Cond := Cond.code yX6_choose cX6_choose 3 (some (.int)) :: wtbl
abbrev yX6_allowed : MethodName := { cls := "MonitorWays", name := "allowed", desc := "(II)Z" }
abbrev cX6_allowed : ByteArray := prog_1_method_4_code
abbrev wX6_allowed : List Cond := Cond.code yX6_allowed cX6_allowed 3 (some (.boolean)) :: wtbl
abbrev yX6_reset : MethodName := { cls := "MonitorWays", name := "reset", desc := "()I" }
abbrev cX6_reset : ByteArray := prog_1_method_5_code
abbrev wX6_reset : List Cond := Cond.code yX6_reset cX6_reset 2 (some (.int)) :: wtbl
abbrev yX6_state : MethodName := { cls := "MonitorWays", name := "state", desc := "(I)I" }
abbrev cX6_state : ByteArray := prog_1_method_6_code
abbrev wX6_state : List Cond := Cond.code yX6_state cX6_state 2 (some (.int)) :: wtbl
abbrev yX6_letter : MethodName := { cls := "MonitorWays", name := "letter", desc := "(II)I" }
abbrev cX6_letter : ByteArray := prog_1_method_7_code
abbrev wX6_letter : List Cond := Cond.code yX6_letter cX6_letter 3 (some (.int)) :: wtbl
abbrev yX6_owner : MethodName := { cls := "MonitorWays", name := "owner", desc := "(I)I" }
abbrev cX6_owner : ByteArray := prog_1_method_8_code
abbrev wX6_owner : List Cond := Cond.code yX6_owner cX6_owner 2 (some (.int)) :: wtbl
abbrev yX6_held : MethodName := { cls := "MonitorWays", name := "held", desc := "(I)I" }
abbrev cX6_held : ByteArray := prog_1_method_9_code
abbrev wX6_held : List Cond := Cond.code yX6_held cX6_held 2 (some (.int)) :: wtbl
abbrev yX6_inSet : MethodName := { cls := "MonitorWays", name := "inSet", desc := "(II)I" }
abbrev cX6_inSet : ByteArray := prog_1_method_10_code
abbrev wX6_inSet : List Cond := Cond.code yX6_inSet cX6_inSet 3 (some (.int)) :: wtbl
abbrev yX6_explore : MethodName := { cls := "MonitorWays", name := "explore", desc := "()I" }
abbrev cX6_explore : ByteArray := prog_1_method_11_code
abbrev wX6_explore : List Cond := Cond.code yX6_explore cX6_explore 1 (some (.int)) :: wtbl
abbrev yX6_outcome : MethodName := { cls := "MonitorWays", name := "outcome", desc := "(I)J" }
abbrev cX6_outcome : ByteArray := prog_1_method_12_code
abbrev wX6_outcome : List Cond := Cond.code yX6_outcome cX6_outcome 2 (some (.long)) :: wtbl
abbrev yX6_mayBlock : MethodName := { cls := "MonitorWays", name := "mayBlock", desc := "(I)Z" }
abbrev cX6_mayBlock : ByteArray := prog_1_method_13_code
abbrev wX6_mayBlock : List Cond := Cond.code yX6_mayBlock cX6_mayBlock 2 (some (.boolean)) :: wtbl
abbrev yX6_count : MethodName := { cls := "MonitorWays", name := "count", desc := "(I)I" }
abbrev cX6_count : ByteArray := prog_1_method_14_code
abbrev wX6_count : List Cond := Cond.code yX6_count cX6_count 2 (some (.int)) :: wtbl
abbrev yX6_beginAnew : MethodName := { cls := "MonitorWays", name := "beginAnew", desc := "()V" }
abbrev cX6_beginAnew : ByteArray := prog_1_method_15_code
abbrev wX6_beginAnew : List Cond := Cond.code yX6_beginAnew cX6_beginAnew 1 none :: wtbl
abbrev yX6_isThread : MethodName := { cls := "MonitorWays", name := "isThread", desc := "(I)Z" }
abbrev cX6_isThread : ByteArray := prog_1_method_16_code
abbrev wX6_isThread : List Cond := Cond.code yX6_isThread cX6_isThread 1 (some (.boolean)) :: wtbl
abbrev yX6_isMonitor : MethodName := { cls := "MonitorWays", name := "isMonitor", desc := "(I)Z" }
abbrev cX6_isMonitor : ByteArray := prog_1_method_17_code
abbrev wX6_isMonitor : List Cond := Cond.code yX6_isMonitor cX6_isMonitor 1 (some (.boolean)) :: wtbl
abbrev yX6_isWay : MethodName := { cls := "MonitorWays", name := "isWay", desc := "(I)Z" }
abbrev cX6_isWay : ByteArray := prog_1_method_18_code
abbrev wX6_isWay : List Cond := Cond.code yX6_isWay cX6_isWay 1 (some (.boolean)) :: wtbl
abbrev yX6_isAction : MethodName := { cls := "MonitorWays", name := "isAction", desc := "(II)Z" }
abbrev cX6_isAction : ByteArray := prog_1_method_19_code
abbrev wX6_isAction : List Cond := Cond.code yX6_isAction cX6_isAction 2 (some (.boolean)) :: wtbl
abbrev yX7_init : MethodName := { cls := "MonitorWaysModel", name := "<init>", desc := "(I)V" }
abbrev cX7_init : ByteArray := prog_9_method_1_code
abbrev wX7_init : List Cond := Cond.code yX7_init cX7_init 2 none :: wtbl
abbrev yX7_out : MethodName := { cls := "MonitorWaysModel", name := "out", desc := "(II)Z" }
abbrev cX7_out : ByteArray := prog_9_method_2_code
abbrev wX7_out : List Cond := Cond.code yX7_out cX7_out 2 (some (.boolean)) :: wtbl
abbrev yX7_first : MethodName := { cls := "MonitorWaysModel", name := "first", desc := "()V" }
abbrev cX7_first : ByteArray := prog_9_method_3_code
abbrev wX7_first : List Cond := Cond.code yX7_first cX7_first 2 none :: wtbl
abbrev yX7_threadPacked : MethodName := { cls := "MonitorWaysModel", name := "threadPacked", desc := "(I)J" }
abbrev cX7_threadPacked : ByteArray := prog_9_method_4_code
abbrev wX7_threadPacked : List Cond := Cond.code yX7_threadPacked cX7_threadPacked 4 (some (.long)) :: wtbl
abbrev yX7_threadUnpacked : MethodName := { cls := "MonitorWaysModel", name := "threadUnpacked", desc := "(IJ)V" }
abbrev cX7_threadUnpacked : ByteArray := prog_9_method_5_code
abbrev wX7_threadUnpacked : List Cond := Cond.code yX7_threadUnpacked cX7_threadUnpacked 6 none :: wtbl
abbrev yX7_pack : MethodName := { cls := "MonitorWaysModel", name := "pack", desc := "([JI)V" }
abbrev cX7_pack : ByteArray := prog_9_method_6_code
abbrev wX7_pack : List Cond := Cond.code yX7_pack cX7_pack 7 none :: wtbl
abbrev yX7_unpack : MethodName := { cls := "MonitorWaysModel", name := "unpack", desc := "([JI)V" }
abbrev cX7_unpack : ByteArray := prog_9_method_7_code
abbrev wX7_unpack : List Cond := Cond.code yX7_unpack cX7_unpack 7 none :: wtbl
abbrev yX7_action : MethodName := { cls := "MonitorWaysModel", name := "action", desc := "(I)I" }
abbrev cX7_action : ByteArray := prog_9_method_8_code
abbrev wX7_action : List Cond := Cond.code yX7_action cX7_action 2 (some (.int)) :: wtbl
abbrev yX7_operand : MethodName := { cls := "MonitorWaysModel", name := "operand", desc := "(I)I" }
abbrev cX7_operand : ByteArray := prog_9_method_9_code
abbrev wX7_operand : List Cond := Cond.code yX7_operand cX7_operand 2 (some (.int)) :: wtbl
abbrev yX7_waitedOn : MethodName := { cls := "MonitorWaysModel", name := "waitedOn", desc := "(I)I" }
abbrev cX7_waitedOn : ByteArray := prog_9_method_10_code
abbrev wX7_waitedOn : List Cond := Cond.code yX7_waitedOn cX7_waitedOn 2 (some (.int)) :: wtbl
abbrev yX7_timed : MethodName := { cls := "MonitorWaysModel", name := "timed", desc := "(I)Z" }
abbrev cX7_timed : ByteArray := prog_9_method_11_code
abbrev wX7_timed : List Cond := Cond.code yX7_timed cX7_timed 2 (some (.boolean)) :: wtbl
abbrev yX7_runningMay : MethodName := { cls := "MonitorWaysModel", name := "runningMay", desc := "(II)Z" }
abbrev cX7_runningMay : ByteArray := prog_9_method_12_code
abbrev wX7_runningMay : List Cond := Cond.code yX7_runningMay cX7_runningMay 6 (some (.boolean)) :: wtbl
abbrev yX7_may : MethodName := { cls := "MonitorWaysModel", name := "may", desc := "(II)Z" }
abbrev cX7_may : ByteArray := prog_9_method_13_code
abbrev wX7_may : List Cond := Cond.code yX7_may cX7_may 3 (some (.boolean)) :: wtbl
abbrev yX7_put : MethodName := { cls := "MonitorWaysModel", name := "put", desc := "(II)V" }
abbrev cX7_put : ByteArray := prog_9_method_14_code
abbrev wX7_put : List Cond := Cond.code yX7_put cX7_put 3 none :: wtbl
abbrev yX7_run : MethodName := { cls := "MonitorWaysModel", name := "run", desc := "(I)V" }
abbrev cX7_run : ByteArray := prog_9_method_15_code
abbrev wX7_run : List Cond := Cond.code yX7_run cX7_run 2 none :: wtbl
abbrev yX7_leaveSet : MethodName := { cls := "MonitorWaysModel", name := "leaveSet", desc := "(I)V" }
abbrev cX7_leaveSet : ByteArray := prog_9_method_16_code
abbrev wX7_leaveSet : List Cond := Cond.code yX7_leaveSet cX7_leaveSet 5 none :: wtbl
abbrev yX7_notified : MethodName := { cls := "MonitorWaysModel", name := "notified", desc := "(I)V" }
abbrev cX7_notified : ByteArray := prog_9_method_17_code
abbrev wX7_notified : List Cond := Cond.code yX7_notified cX7_notified 2 none :: wtbl
abbrev yX7_waitOn : MethodName := { cls := "MonitorWaysModel", name := "waitOn", desc := "(II)V" }
abbrev cX7_waitOn : ByteArray := prog_9_method_18_code
abbrev wX7_waitOn : List Cond := Cond.code yX7_waitOn cX7_waitOn 3 none :: wtbl
abbrev yX7_monitorAction : MethodName := { cls := "MonitorWaysModel", name := "monitorAction", desc := "(IIII)V" }
abbrev cX7_monitorAction : ByteArray := prog_9_method_19_code
abbrev wX7_monitorAction : List Cond := Cond.code yX7_monitorAction cX7_monitorAction 5 none :: wtbl
abbrev yX7_brokenOr : MethodName := { cls := "MonitorWaysModel", name := "brokenOr", desc := "(IZ)V" }
abbrev cX7_brokenOr : ByteArray := prog_9_method_20_code
abbrev wX7_brokenOr : List Cond := Cond.code yX7_brokenOr cX7_brokenOr 3 none :: wtbl
abbrev yX7_otherAction : MethodName := { cls := "MonitorWaysModel", name := "otherAction", desc := "(III)V" }
abbrev cX7_otherAction : ByteArray := prog_9_method_21_code
abbrev wX7_otherAction : List Cond := Cond.code yX7_otherAction cX7_otherAction 4 none :: wtbl
abbrev yX7_unpark : MethodName := { cls := "MonitorWaysModel", name := "unpark", desc := "(I)V" }
abbrev cX7_unpark : ByteArray := prog_9_method_22_code
abbrev wX7_unpark : List Cond := Cond.code yX7_unpark cX7_unpark 2 none :: wtbl
abbrev yX7_doAction : MethodName := { cls := "MonitorWaysModel", name := "doAction", desc := "(II)V" }
abbrev cX7_doAction : ByteArray := prog_9_method_23_code
abbrev wX7_doAction : List Cond := Cond.code yX7_doAction cX7_doAction 5 none :: wtbl
abbrev yX7_perform : MethodName := { cls := "MonitorWaysModel", name := "perform", desc := "(II)V" }
abbrev cX7_perform : ByteArray := prog_9_method_24_code
abbrev wX7_perform : List Cond := Cond.code yX7_perform cX7_perform 4 none :: wtbl
abbrev yX7_act : MethodName := { cls := "MonitorWaysModel", name := "act", desc := "(III)I" }
abbrev cX7_act : ByteArray := prog_9_method_25_code
abbrev wX7_act : List Cond := Cond.code yX7_act cX7_act 5 (some (.int)) :: wtbl
abbrev yX7_forget : MethodName := { cls := "MonitorWaysModel", name := "forget", desc := "()V" }
abbrev cX7_forget : ByteArray := prog_9_method_26_code
abbrev wX7_forget : List Cond := Cond.code yX7_forget cX7_forget 2 none :: wtbl
abbrev yX7_choose : MethodName := { cls := "MonitorWaysModel", name := "choose", desc := "(II)I" }
abbrev cX7_choose : ByteArray := prog_9_method_27_code
abbrev wX7_choose : List Cond := Cond.code yX7_choose cX7_choose 3 (some (.int)) :: wtbl
abbrev yX7_allowed : MethodName := { cls := "MonitorWaysModel", name := "allowed", desc := "(II)Z" }
abbrev cX7_allowed : ByteArray := prog_9_method_28_code
abbrev wX7_allowed : List Cond := Cond.code yX7_allowed cX7_allowed 3 (some (.boolean)) :: wtbl
abbrev yX7_reset : MethodName := { cls := "MonitorWaysModel", name := "reset", desc := "()I" }
abbrev cX7_reset : ByteArray := prog_9_method_29_code
abbrev wX7_reset : List Cond := Cond.code yX7_reset cX7_reset 2 (some (.int)) :: wtbl
abbrev yX7_state : MethodName := { cls := "MonitorWaysModel", name := "state", desc := "(I)I" }
abbrev cX7_state : ByteArray := prog_9_method_30_code
abbrev wX7_state : List Cond := Cond.code yX7_state cX7_state 2 (some (.int)) :: wtbl
abbrev yX7_letter : MethodName := { cls := "MonitorWaysModel", name := "letter", desc := "(II)I" }
abbrev cX7_letter : ByteArray := prog_9_method_31_code
abbrev wX7_letter : List Cond := Cond.code yX7_letter cX7_letter 6 (some (.int)) :: wtbl
abbrev yX7_owner : MethodName := { cls := "MonitorWaysModel", name := "owner", desc := "(I)I" }
abbrev cX7_owner : ByteArray := prog_9_method_32_code
abbrev wX7_owner : List Cond := Cond.code yX7_owner cX7_owner 2 (some (.int)) :: wtbl
abbrev yX7_held : MethodName := { cls := "MonitorWaysModel", name := "held", desc := "(I)I" }
abbrev cX7_held : ByteArray := prog_9_method_33_code
abbrev wX7_held : List Cond := Cond.code yX7_held cX7_held 2 (some (.int)) :: wtbl
abbrev yX7_inSet : MethodName := { cls := "MonitorWaysModel", name := "inSet", desc := "(II)I" }
abbrev cX7_inSet : ByteArray := prog_9_method_34_code
abbrev wX7_inSet : List Cond := Cond.code yX7_inSet cX7_inSet 3 (some (.int)) :: wtbl
abbrev yX7_meet : MethodName := { cls := "MonitorWaysModel", name := "meet", desc := "()V" }
abbrev cX7_meet : ByteArray := prog_9_method_35_code
abbrev wX7_meet : List Cond := Cond.code yX7_meet cX7_meet 4 none :: wtbl
abbrev yX7_noteFinal : MethodName := { cls := "MonitorWaysModel", name := "noteFinal", desc := "()V" }
abbrev cX7_noteFinal : ByteArray := prog_9_method_36_code
abbrev wX7_noteFinal : List Cond := Cond.code yX7_noteFinal cX7_noteFinal 8 none :: wtbl
abbrev yX7_goOn : MethodName := { cls := "MonitorWaysModel", name := "goOn", desc := "(I)V" }
abbrev cX7_goOn : ByteArray := prog_9_method_37_code
abbrev wX7_goOn : List Cond := Cond.code yX7_goOn cX7_goOn 4 none :: wtbl
abbrev yX7_explore : MethodName := { cls := "MonitorWaysModel", name := "explore", desc := "()I" }
abbrev cX7_explore : ByteArray := prog_9_method_38_code
abbrev wX7_explore : List Cond := Cond.code yX7_explore cX7_explore 2 (some (.int)) :: wtbl
abbrev yX7_outcome : MethodName := { cls := "MonitorWaysModel", name := "outcome", desc := "(I)J" }
abbrev cX7_outcome : ByteArray := prog_9_method_39_code
abbrev wX7_outcome : List Cond := Cond.code yX7_outcome cX7_outcome 2 (some (.long)) :: wtbl
abbrev yX7_mayBlock : MethodName := { cls := "MonitorWaysModel", name := "mayBlock", desc := "(I)Z" }
abbrev cX7_mayBlock : ByteArray := prog_9_method_40_code
abbrev wX7_mayBlock : List Cond := Cond.code yX7_mayBlock cX7_mayBlock 2 (some (.boolean)) :: wtbl
abbrev yX7_count : MethodName := { cls := "MonitorWaysModel", name := "count", desc := "(I)I" }
abbrev cX7_count : ByteArray := prog_9_method_41_code
abbrev wX7_count : List Cond := Cond.code yX7_count cX7_count 2 (some (.int)) :: wtbl
abbrev yX0_init : MethodName := { cls := "MonitorWays$Machine", name := "<init>", desc := "([LMonitorWays$Program;Z)V" }
abbrev cX0_init : ByteArray := prog_2_method_1_code
abbrev wX0_init : List Cond := Cond.code yX0_init cX0_init 4 none :: wtbl
abbrev yX0_begin : MethodName := { cls := "MonitorWays$Machine", name := "begin", desc := "()V" }
abbrev cX0_begin : ByteArray := prog_2_method_2_code
abbrev wX0_begin : List Cond := Cond.code yX0_begin cX0_begin 2 none :: wtbl
abbrev yX0_allows : MethodName := { cls := "MonitorWays$Machine", name := "allows", desc := "(II)Z" }
abbrev cX0_allows : ByteArray := prog_2_method_3_code
abbrev wX0_allows : List Cond := Cond.code yX0_allows cX0_allows 4 (some (.boolean)) :: wtbl
abbrev yX0_monitorUseAllows : MethodName := { cls := "MonitorWays$Machine", name := "monitorUseAllows", desc := "(II)Z" }
abbrev cX0_monitorUseAllows : ByteArray := prog_2_method_4_code
abbrev wX0_monitorUseAllows : List Cond := Cond.code yX0_monitorUseAllows cX0_monitorUseAllows 6 (some (.boolean)) :: wtbl
abbrev yX0_plainActionAllows : MethodName := { cls := "MonitorWays$Machine", name := "plainActionAllows", desc := "(LMonitorWays$Worker;I)Z" }
abbrev cX0_plainActionAllows : ByteArray := prog_2_method_5_code
abbrev wX0_plainActionAllows : List Cond := Cond.code yX0_plainActionAllows cX0_plainActionAllows 3 (some (.boolean)) :: wtbl
abbrev yX0_waitingAllows : MethodName := { cls := "MonitorWays$Machine", name := "waitingAllows", desc := "(LMonitorWays$Worker;I)Z" }
abbrev cX0_waitingAllows : ByteArray := prog_2_method_6_code
abbrev wX0_waitingAllows : List Cond := Cond.code yX0_waitingAllows cX0_waitingAllows 3 (some (.boolean)) :: wtbl
abbrev yX0_mayStray : MethodName := { cls := "MonitorWays$Machine", name := "mayStray", desc := "(LMonitorWays$Worker;)Z" }
abbrev cX0_mayStray : ByteArray := prog_2_method_7_code
abbrev wX0_mayStray : List Cond := Cond.code yX0_mayStray cX0_mayStray 2 (some (.boolean)) :: wtbl
abbrev yX0_take : MethodName := { cls := "MonitorWays$Machine", name := "take", desc := "(II)V" }
abbrev cX0_take : ByteArray := prog_2_method_8_code
abbrev wX0_take : List Cond := Cond.code yX0_take cX0_take 4 none :: wtbl
abbrev yX0_useMonitor : MethodName := { cls := "MonitorWays$Machine", name := "useMonitor", desc := "(II)V" }
abbrev cX0_useMonitor : ByteArray := prog_2_method_9_code
abbrev wX0_useMonitor : List Cond := Cond.code yX0_useMonitor cX0_useMonitor 7 none :: wtbl
abbrev yX0_goIntoSet : MethodName := { cls := "MonitorWays$Machine", name := "goIntoSet", desc := "(ILMonitorWays$Monitor;)V" }
abbrev cX0_goIntoSet : ByteArray := prog_2_method_10_code
abbrev wX0_goIntoSet : List Cond := Cond.code yX0_goIntoSet cX0_goIntoSet 3 none :: wtbl
abbrev yX0_notifyWaiter : MethodName := { cls := "MonitorWays$Machine", name := "notifyWaiter", desc := "(LMonitorWays$Monitor;I)V" }
abbrev cX0_notifyWaiter : ByteArray := prog_2_method_11_code
abbrev wX0_notifyWaiter : List Cond := Cond.code yX0_notifyWaiter cX0_notifyWaiter 4 none :: wtbl
abbrev yX0_leaveSetAlone : MethodName := { cls := "MonitorWays$Machine", name := "leaveSetAlone", desc := "(II)V" }
abbrev cX0_leaveSetAlone : ByteArray := prog_2_method_12_code
abbrev wX0_leaveSetAlone : List Cond := Cond.code yX0_leaveSetAlone cX0_leaveSetAlone 4 none :: wtbl
abbrev yX0_comeBack : MethodName := { cls := "MonitorWays$Machine", name := "comeBack", desc := "(I)V" }
abbrev cX0_comeBack : ByteArray := prog_2_method_13_code
abbrev wX0_comeBack : List Cond := Cond.code yX0_comeBack cX0_comeBack 3 none :: wtbl
abbrev yX0_stopParking : MethodName := { cls := "MonitorWays$Machine", name := "stopParking", desc := "(LMonitorWays$Worker;I)V" }
abbrev cX0_stopParking : ByteArray := prog_2_method_14_code
abbrev wX0_stopParking : List Cond := Cond.code yX0_stopParking cX0_stopParking 3 none :: wtbl
abbrev yX0_doPlainAction : MethodName := { cls := "MonitorWays$Machine", name := "doPlainAction", desc := "(LMonitorWays$Worker;)V" }
abbrev cX0_doPlainAction : ByteArray := prog_2_method_15_code
abbrev wX0_doPlainAction : List Cond := Cond.code yX0_doPlainAction cX0_doPlainAction 2 none :: wtbl
abbrev yX0_interrupt : MethodName := { cls := "MonitorWays$Machine", name := "interrupt", desc := "(LMonitorWays$Worker;)V" }
abbrev cX0_interrupt : ByteArray := prog_2_method_16_code
abbrev wX0_interrupt : List Cond := Cond.code yX0_interrupt cX0_interrupt 2 none :: wtbl
abbrev yX0_unpark : MethodName := { cls := "MonitorWays$Machine", name := "unpark", desc := "(LMonitorWays$Worker;)V" }
abbrev cX0_unpark : ByteArray := prog_2_method_17_code
abbrev wX0_unpark : List Cond := Cond.code yX0_unpark cX0_unpark 2 none :: wtbl
abbrev yX0_monitorOf : MethodName := { cls := "MonitorWays$Machine", name := "monitorOf", desc := "(LMonitorWays$Worker;)LMonitorWays$Monitor;" }
abbrev cX0_monitorOf : ByteArray := prog_2_method_18_code
abbrev wX0_monitorOf : List Cond := Cond.code yX0_monitorOf cX0_monitorOf 2 (some ((.object "MonitorWays$Monitor"))) :: wtbl
abbrev yX0_hasEnded : MethodName := { cls := "MonitorWays$Machine", name := "hasEnded", desc := "(I)Z" }
abbrev cX0_hasEnded : ByteArray := prog_2_method_19_code
abbrev wX0_hasEnded : List Cond := Cond.code yX0_hasEnded cX0_hasEnded 2 (some (.boolean)) :: wtbl
abbrev yX0_outcomeNumber : MethodName := { cls := "MonitorWays$Machine", name := "outcomeNumber", desc := "()J" }
abbrev cX0_outcomeNumber : ByteArray := prog_2_method_20_code
abbrev wX0_outcomeNumber : List Cond := Cond.code yX0_outcomeNumber cX0_outcomeNumber 4 (some (.long)) :: wtbl
abbrev yX0_wordOf : MethodName := { cls := "MonitorWays$Machine", name := "wordOf", desc := "(I)J" }
abbrev cX0_wordOf : ByteArray := prog_2_method_21_code
abbrev wX0_wordOf : List Cond := Cond.code yX0_wordOf cX0_wordOf 4 (some (.long)) :: wtbl
abbrev yX0_unpackWord : MethodName := { cls := "MonitorWays$Machine", name := "unpackWord", desc := "(IJ)V" }
abbrev cX0_unpackWord : ByteArray := prog_2_method_22_code
abbrev wX0_unpackWord : List Cond := Cond.code yX0_unpackWord cX0_unpackWord 4 none :: wtbl
abbrev yX1_init : MethodName := { cls := "MonitorWays$Monitor", name := "<init>", desc := "()V" }
abbrev cX1_init : ByteArray := prog_3_method_1_code
abbrev wX1_init : List Cond := Cond.code yX1_init cX1_init 1 none :: wtbl
abbrev yX1_begin : MethodName := { cls := "MonitorWays$Monitor", name := "begin", desc := "()V" }
abbrev cX1_begin : ByteArray := prog_3_method_2_code
abbrev wX1_begin : List Cond := Cond.code yX1_begin cX1_begin 1 none :: wtbl
abbrev yX1_isFree : MethodName := { cls := "MonitorWays$Monitor", name := "isFree", desc := "()Z" }
abbrev cX1_isFree : ByteArray := prog_3_method_3_code
abbrev wX1_isFree : List Cond := Cond.code yX1_isFree cX1_isFree 1 (some (.boolean)) :: wtbl
abbrev yX1_setFree : MethodName := { cls := "MonitorWays$Monitor", name := "setFree", desc := "()V" }
abbrev cX1_setFree : ByteArray := prog_3_method_4_code
abbrev wX1_setFree : List Cond := Cond.code yX1_setFree cX1_setFree 1 none :: wtbl
abbrev yX1_own : MethodName := { cls := "MonitorWays$Monitor", name := "own", desc := "(II)V" }
abbrev cX1_own : ByteArray := prog_3_method_5_code
abbrev wX1_own : List Cond := Cond.code yX1_own cX1_own 3 none :: wtbl
abbrev yX1_leaveOnce : MethodName := { cls := "MonitorWays$Monitor", name := "leaveOnce", desc := "()V" }
abbrev cX1_leaveOnce : ByteArray := prog_3_method_6_code
abbrev wX1_leaveOnce : List Cond := Cond.code yX1_leaveOnce cX1_leaveOnce 1 none :: wtbl
abbrev yX1_waiterAt : MethodName := { cls := "MonitorWays$Monitor", name := "waiterAt", desc := "(I)I" }
abbrev cX1_waiterAt : ByteArray := prog_3_method_7_code
abbrev wX1_waiterAt : List Cond := Cond.code yX1_waiterAt cX1_waiterAt 2 (some (.int)) :: wtbl
abbrev yX1_addWaiter : MethodName := { cls := "MonitorWays$Monitor", name := "addWaiter", desc := "(I)V" }
abbrev cX1_addWaiter : ByteArray := prog_3_method_8_code
abbrev wX1_addWaiter : List Cond := Cond.code yX1_addWaiter cX1_addWaiter 2 none :: wtbl
abbrev yX1_dropWaiter : MethodName := { cls := "MonitorWays$Monitor", name := "dropWaiter", desc := "(I)V" }
abbrev cX1_dropWaiter : ByteArray := prog_3_method_9_code
abbrev wX1_dropWaiter : List Cond := Cond.code yX1_dropWaiter cX1_dropWaiter 4 none :: wtbl
abbrev yX1_packed : MethodName := { cls := "MonitorWays$Monitor", name := "packed", desc := "()J" }
abbrev cX1_packed : ByteArray := prog_3_method_10_code
abbrev wX1_packed : List Cond := Cond.code yX1_packed cX1_packed 3 (some (.long)) :: wtbl
abbrev yX1_unpack : MethodName := { cls := "MonitorWays$Monitor", name := "unpack", desc := "(J)V" }
abbrev cX1_unpack : ByteArray := prog_3_method_11_code
abbrev wX1_unpack : List Cond := Cond.code yX1_unpack cX1_unpack 5 none :: wtbl
abbrev yX2_init : MethodName := { cls := "MonitorWays$Program", name := "<init>", desc := "()V" }
abbrev cX2_init : ByteArray := prog_4_method_1_code
abbrev wX2_init : List Cond := Cond.code yX2_init cX2_init 1 none :: wtbl
abbrev yX2_add : MethodName := { cls := "MonitorWays$Program", name := "add", desc := "(II)V" }
abbrev cX2_add : ByteArray := prog_4_method_2_code
abbrev wX2_add : List Cond := Cond.code yX2_add cX2_add 3 none :: wtbl
abbrev yX3_init : MethodName := { cls := "MonitorWays$Search", name := "<init>", desc := "(LMonitorWays$Machine;)V" }
abbrev cX3_init : ByteArray := prog_5_method_1_code
abbrev wX3_init : List Cond := Cond.code yX3_init cX3_init 2 none :: wtbl
abbrev yX3_forget : MethodName := { cls := "MonitorWays$Search", name := "forget", desc := "()V" }
abbrev cX3_forget : ByteArray := prog_5_method_2_code
abbrev wX3_forget : List Cond := Cond.code yX3_forget cX3_forget 2 none :: wtbl
abbrev yX3_goThrough : MethodName := { cls := "MonitorWays$Search", name := "goThrough", desc := "()V" }
abbrev cX3_goThrough : ByteArray := prog_5_method_3_code
abbrev wX3_goThrough : List Cond := Cond.code yX3_goThrough cX3_goThrough 3 none :: wtbl
abbrev yX3_visit : MethodName := { cls := "MonitorWays$Search", name := "visit", desc := "(I)Z" }
abbrev cX3_visit : ByteArray := prog_5_method_4_code
abbrev wX3_visit : List Cond := Cond.code yX3_visit cX3_visit 5 (some (.boolean)) :: wtbl
abbrev yX3_noteFinal : MethodName := { cls := "MonitorWays$Search", name := "noteFinal", desc := "()V" }
abbrev cX3_noteFinal : ByteArray := prog_5_method_5_code
abbrev wX3_noteFinal : List Cond := Cond.code yX3_noteFinal cX3_noteFinal 3 none :: wtbl
abbrev yX3_noteOutcome : MethodName := { cls := "MonitorWays$Search", name := "noteOutcome", desc := "(J)V" }
abbrev cX3_noteOutcome : ByteArray := prog_5_method_6_code
abbrev wX3_noteOutcome : List Cond := Cond.code yX3_noteOutcome cX3_noteOutcome 4 none :: wtbl
abbrev yX3_lessThan : MethodName := { cls := "MonitorWays$Search", name := "lessThan", desc := "(J)I" }
abbrev cX3_lessThan : ByteArray := prog_5_method_7_code
abbrev wX3_lessThan : List Cond := Cond.code yX3_lessThan cX3_lessThan 7 (some (.int)) :: wtbl
abbrev yX3_outcomeAt : MethodName := { cls := "MonitorWays$Search", name := "outcomeAt", desc := "(I)J" }
abbrev cX3_outcomeAt : ByteArray := prog_5_method_8_code
abbrev wX3_outcomeAt : List Cond := Cond.code yX3_outcomeAt cX3_outcomeAt 2 (some (.long)) :: wtbl
abbrev yX4_init : MethodName := { cls := "MonitorWays$States", name := "<init>", desc := "()V" }
abbrev cX4_init : ByteArray := prog_6_method_1_code
abbrev wX4_init : List Cond := Cond.code yX4_init cX4_init 1 none :: wtbl
abbrev yX4_clear : MethodName := { cls := "MonitorWays$States", name := "clear", desc := "()V" }
abbrev cX4_clear : ByteArray := prog_6_method_2_code
abbrev wX4_clear : List Cond := Cond.code yX4_clear cX4_clear 1 none :: wtbl
abbrev yX4_size : MethodName := { cls := "MonitorWays$States", name := "size", desc := "()I" }
abbrev cX4_size : ByteArray := prog_6_method_3_code
abbrev wX4_size : List Cond := Cond.code yX4_size cX4_size 1 (some (.int)) :: wtbl
abbrev yX4_keep : MethodName := { cls := "MonitorWays$States", name := "keep", desc := "(LMonitorWays$Machine;)Z" }
abbrev cX4_keep : ByteArray := prog_6_method_4_code
abbrev wX4_keep : List Cond := Cond.code yX4_keep cX4_keep 3 (some (.boolean)) :: wtbl
abbrev yX4_restore : MethodName := { cls := "MonitorWays$States", name := "restore", desc := "(ILMonitorWays$Machine;)V" }
abbrev cX4_restore : ByteArray := prog_6_method_5_code
abbrev wX4_restore : List Cond := Cond.code yX4_restore cX4_restore 4 none :: wtbl
abbrev yX4_roomIn : MethodName := { cls := "MonitorWays$States", name := "roomIn", desc := "(I)I" }
abbrev cX4_roomIn : ByteArray := prog_6_method_6_code
abbrev wX4_roomIn : List Cond := Cond.code yX4_roomIn cX4_roomIn 1 (some (.int)) :: wtbl
abbrev yX4_grow : MethodName := { cls := "MonitorWays$States", name := "grow", desc := "()V" }
abbrev cX4_grow : ByteArray := prog_6_method_7_code
abbrev wX4_grow : List Cond := Cond.code yX4_grow cX4_grow 2 none :: wtbl
abbrev yX4_slotOf : MethodName := { cls := "MonitorWays$States", name := "slotOf", desc := "(I)I" }
abbrev cX4_slotOf : ByteArray := prog_6_method_8_code
abbrev wX4_slotOf : List Cond := Cond.code yX4_slotOf cX4_slotOf 5 (some (.int)) :: wtbl
abbrev yX4_hashOf : MethodName := { cls := "MonitorWays$States", name := "hashOf", desc := "(I)I" }
abbrev cX4_hashOf : ByteArray := prog_6_method_9_code
abbrev wX4_hashOf : List Cond := Cond.code yX4_hashOf cX4_hashOf 5 (some (.int)) :: wtbl
abbrev yX4_areSame : MethodName := { cls := "MonitorWays$States", name := "areSame", desc := "(II)Z" }
abbrev cX4_areSame : ByteArray := prog_6_method_10_code
abbrev wX4_areSame : List Cond := Cond.code yX4_areSame cX4_areSame 4 (some (.boolean)) :: wtbl
abbrev yX5_init : MethodName := { cls := "MonitorWays$Worker", name := "<init>", desc := "(LMonitorWays$Program;)V" }
abbrev cX5_init : ByteArray := prog_7_method_1_code
abbrev wX5_init : List Cond := Cond.code yX5_init cX5_init 2 none :: wtbl
abbrev yX5_begin : MethodName := { cls := "MonitorWays$Worker", name := "begin", desc := "()V" }
abbrev cX5_begin : ByteArray := prog_7_method_2_code
abbrev wX5_begin : List Cond := Cond.code yX5_begin cX5_begin 1 none :: wtbl
abbrev yX5_runOn : MethodName := { cls := "MonitorWays$Worker", name := "runOn", desc := "()V" }
abbrev cX5_runOn : ByteArray := prog_7_method_3_code
abbrev wX5_runOn : List Cond := Cond.code yX5_runOn cX5_runOn 1 none :: wtbl
abbrev yX5_action : MethodName := { cls := "MonitorWays$Worker", name := "action", desc := "()I" }
abbrev cX5_action : ByteArray := prog_7_method_4_code
abbrev wX5_action : List Cond := Cond.code yX5_action cX5_action 1 (some (.int)) :: wtbl
abbrev yX5_operand : MethodName := { cls := "MonitorWays$Worker", name := "operand", desc := "()I" }
abbrev cX5_operand : ByteArray := prog_7_method_5_code
abbrev wX5_operand : List Cond := Cond.code yX5_operand cX5_operand 1 (some (.int)) :: wtbl
abbrev yX5_put : MethodName := { cls := "MonitorWays$Worker", name := "put", desc := "(I)V" }
abbrev cX5_put : ByteArray := prog_7_method_6_code
abbrev wX5_put : List Cond := Cond.code yX5_put cX5_put 2 none :: wtbl
abbrev yX5_takeInterrupt : MethodName := { cls := "MonitorWays$Worker", name := "takeInterrupt", desc := "()Z" }
abbrev cX5_takeInterrupt : ByteArray := prog_7_method_7_code
abbrev wX5_takeInterrupt : List Cond := Cond.code yX5_takeInterrupt cX5_takeInterrupt 2 (some (.boolean)) :: wtbl
abbrev yX5_stateNumber : MethodName := { cls := "MonitorWays$Worker", name := "stateNumber", desc := "()I" }
abbrev cX5_stateNumber : ByteArray := prog_7_method_8_code
abbrev wX5_stateNumber : List Cond := Cond.code yX5_stateNumber cX5_stateNumber 1 (some (.int)) :: wtbl
abbrev yX5_letterAt : MethodName := { cls := "MonitorWays$Worker", name := "letterAt", desc := "(I)I" }
abbrev cX5_letterAt : ByteArray := prog_7_method_9_code
abbrev wX5_letterAt : List Cond := Cond.code yX5_letterAt cX5_letterAt 5 (some (.int)) :: wtbl
abbrev yX5_letterCount : MethodName := { cls := "MonitorWays$Worker", name := "letterCount", desc := "()I" }
abbrev cX5_letterCount : ByteArray := prog_7_method_10_code
abbrev wX5_letterCount : List Cond := Cond.code yX5_letterCount cX5_letterCount 3 (some (.int)) :: wtbl
abbrev yX5_outcomePart : MethodName := { cls := "MonitorWays$Worker", name := "outcomePart", desc := "()J" }
abbrev cX5_outcomePart : ByteArray := prog_7_method_11_code
abbrev wX5_outcomePart : List Cond := Cond.code yX5_outcomePart cX5_outcomePart 1 (some (.long)) :: wtbl
abbrev yX5_packed : MethodName := { cls := "MonitorWays$Worker", name := "packed", desc := "()J" }
abbrev cX5_packed : ByteArray := prog_7_method_12_code
abbrev wX5_packed : List Cond := Cond.code yX5_packed cX5_packed 3 (some (.long)) :: wtbl
abbrev yX5_unpack : MethodName := { cls := "MonitorWays$Worker", name := "unpack", desc := "(J)V" }
abbrev cX5_unpack : ByteArray := prog_7_method_13_code
abbrev wX5_unpack : List Cond := Cond.code yX5_unpack cX5_unpack 5 none :: wtbl
abbrev yL_cell : MethodName := { cls := "MonitorWaysLaw", name := "cell", desc := "([II)I" }
abbrev cL_cell : ByteArray := method_2_code
abbrev wL_cell : List Cond := Cond.code yL_cell cL_cell 2 (some (.int)) :: wtbl
abbrev yL_law : MethodName := { cls := "MonitorWaysLaw", name := "law", desc := "([I)Z" }
abbrev cL_law : ByteArray := code
