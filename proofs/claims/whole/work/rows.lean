section
-- ===== PART A: goes FIRST, ahead of the names: the tables' words, and 'selects' of the private methods out of them =====
/-- a private method of a class that the tables say can be made, by its rows of tables_1 -/
def lw_okq (q : MethodName × Nat) : Prop := (q.1.cls ≠ "java/lang/invoke/MethodHandle" ∧ q.1.cls ≠ "java/lang/invoke/VarHandle") ∧ Cond.instantiable q.1.cls q.2 ∈ tables_1 ∧ Cond.privateMethod q.1 ∈ tables_1 ∧ Cond.instanceMethod q.1 ∈ tables_1
theorem lw_p0 : lw_okq (⟨"MonitorWays", "beginAnew", "()V"⟩, 4) := ⟨⟨by decide +kernel, by decide +kernel⟩, List.mem_of_getElem? (i := 13) (by decide +kernel), List.mem_of_getElem? (i := 241) (by decide +kernel), List.mem_of_getElem? (i := 242) (by decide +kernel)⟩
theorem lw_p1 : lw_okq (⟨"MonitorWays$Machine", "monitorUseAllows", "(II)Z"⟩, 3) := ⟨⟨by decide +kernel, by decide +kernel⟩, List.mem_of_getElem? (i := 43) (by decide +kernel), List.mem_of_getElem? (i := 261) (by decide +kernel), List.mem_of_getElem? (i := 262) (by decide +kernel)⟩
theorem lw_p2 : lw_okq (⟨"MonitorWays$Machine", "monitorOf", "(LMonitorWays$Worker;)LMonitorWays$Monitor;"⟩, 3) := ⟨⟨by decide +kernel, by decide +kernel⟩, List.mem_of_getElem? (i := 43) (by decide +kernel), List.mem_of_getElem? (i := 265) (by decide +kernel), List.mem_of_getElem? (i := 266) (by decide +kernel)⟩
theorem lw_p3 : lw_okq (⟨"MonitorWays$Machine", "plainActionAllows", "(LMonitorWays$Worker;I)Z"⟩, 3) := ⟨⟨by decide +kernel, by decide +kernel⟩, List.mem_of_getElem? (i := 43) (by decide +kernel), List.mem_of_getElem? (i := 277) (by decide +kernel), List.mem_of_getElem? (i := 278) (by decide +kernel)⟩
theorem lw_p4 : lw_okq (⟨"MonitorWays$Machine", "waitingAllows", "(LMonitorWays$Worker;I)Z"⟩, 3) := ⟨⟨by decide +kernel, by decide +kernel⟩, List.mem_of_getElem? (i := 43) (by decide +kernel), List.mem_of_getElem? (i := 285) (by decide +kernel), List.mem_of_getElem? (i := 286) (by decide +kernel)⟩
theorem lw_p5 : lw_okq (⟨"MonitorWays$Machine", "mayStray", "(LMonitorWays$Worker;)Z"⟩, 3) := ⟨⟨by decide +kernel, by decide +kernel⟩, List.mem_of_getElem? (i := 43) (by decide +kernel), List.mem_of_getElem? (i := 289) (by decide +kernel), List.mem_of_getElem? (i := 290) (by decide +kernel)⟩
theorem lw_p6 : lw_okq (⟨"MonitorWays$Machine", "useMonitor", "(II)V"⟩, 3) := ⟨⟨by decide +kernel, by decide +kernel⟩, List.mem_of_getElem? (i := 43) (by decide +kernel), List.mem_of_getElem? (i := 297) (by decide +kernel), List.mem_of_getElem? (i := 298) (by decide +kernel)⟩
theorem lw_p7 : lw_okq (⟨"MonitorWays$Machine", "notifyWaiter", "(LMonitorWays$Monitor;I)V"⟩, 3) := ⟨⟨by decide +kernel, by decide +kernel⟩, List.mem_of_getElem? (i := 43) (by decide +kernel), List.mem_of_getElem? (i := 313) (by decide +kernel), List.mem_of_getElem? (i := 314) (by decide +kernel)⟩
theorem lw_p8 : lw_okq (⟨"MonitorWays$Machine", "goIntoSet", "(ILMonitorWays$Monitor;)V"⟩, 3) := ⟨⟨by decide +kernel, by decide +kernel⟩, List.mem_of_getElem? (i := 43) (by decide +kernel), List.mem_of_getElem? (i := 329) (by decide +kernel), List.mem_of_getElem? (i := 330) (by decide +kernel)⟩
theorem lw_p9 : lw_okq (⟨"MonitorWays$Machine", "doPlainAction", "(LMonitorWays$Worker;)V"⟩, 3) := ⟨⟨by decide +kernel, by decide +kernel⟩, List.mem_of_getElem? (i := 43) (by decide +kernel), List.mem_of_getElem? (i := 342) (by decide +kernel), List.mem_of_getElem? (i := 343) (by decide +kernel)⟩
theorem lw_p10 : lw_okq (⟨"MonitorWays$Machine", "interrupt", "(LMonitorWays$Worker;)V"⟩, 3) := ⟨⟨by decide +kernel, by decide +kernel⟩, List.mem_of_getElem? (i := 43) (by decide +kernel), List.mem_of_getElem? (i := 346) (by decide +kernel), List.mem_of_getElem? (i := 347) (by decide +kernel)⟩
theorem lw_p11 : lw_okq (⟨"MonitorWays$Machine", "unpark", "(LMonitorWays$Worker;)V"⟩, 3) := ⟨⟨by decide +kernel, by decide +kernel⟩, List.mem_of_getElem? (i := 43) (by decide +kernel), List.mem_of_getElem? (i := 350) (by decide +kernel), List.mem_of_getElem? (i := 351) (by decide +kernel)⟩
theorem lw_p12 : lw_okq (⟨"MonitorWays$Machine", "leaveSetAlone", "(II)V"⟩, 3) := ⟨⟨by decide +kernel, by decide +kernel⟩, List.mem_of_getElem? (i := 43) (by decide +kernel), List.mem_of_getElem? (i := 354) (by decide +kernel), List.mem_of_getElem? (i := 355) (by decide +kernel)⟩
theorem lw_p13 : lw_okq (⟨"MonitorWays$Machine", "comeBack", "(I)V"⟩, 3) := ⟨⟨by decide +kernel, by decide +kernel⟩, List.mem_of_getElem? (i := 43) (by decide +kernel), List.mem_of_getElem? (i := 358) (by decide +kernel), List.mem_of_getElem? (i := 359) (by decide +kernel)⟩
theorem lw_p14 : lw_okq (⟨"MonitorWays$Machine", "stopParking", "(LMonitorWays$Worker;I)V"⟩, 3) := ⟨⟨by decide +kernel, by decide +kernel⟩, List.mem_of_getElem? (i := 43) (by decide +kernel), List.mem_of_getElem? (i := 362) (by decide +kernel), List.mem_of_getElem? (i := 363) (by decide +kernel)⟩
theorem lw_p15 : lw_okq (⟨"MonitorWays$Worker", "letterCount", "()I"⟩, 8) := ⟨⟨by decide +kernel, by decide +kernel⟩, List.mem_of_getElem? (i := 52) (by decide +kernel), List.mem_of_getElem? (i := 390) (by decide +kernel), List.mem_of_getElem? (i := 391) (by decide +kernel)⟩
def lw_privs_1 : List (MethodName × Nat) := [(⟨"MonitorWays", "beginAnew", "()V"⟩, 4), (⟨"MonitorWays$Machine", "monitorUseAllows", "(II)Z"⟩, 3), (⟨"MonitorWays$Machine", "monitorOf", "(LMonitorWays$Worker;)LMonitorWays$Monitor;"⟩, 3), (⟨"MonitorWays$Machine", "plainActionAllows", "(LMonitorWays$Worker;I)Z"⟩, 3), (⟨"MonitorWays$Machine", "waitingAllows", "(LMonitorWays$Worker;I)Z"⟩, 3), (⟨"MonitorWays$Machine", "mayStray", "(LMonitorWays$Worker;)Z"⟩, 3), (⟨"MonitorWays$Machine", "useMonitor", "(II)V"⟩, 3), (⟨"MonitorWays$Machine", "notifyWaiter", "(LMonitorWays$Monitor;I)V"⟩, 3), (⟨"MonitorWays$Machine", "goIntoSet", "(ILMonitorWays$Monitor;)V"⟩, 3), (⟨"MonitorWays$Machine", "doPlainAction", "(LMonitorWays$Worker;)V"⟩, 3), (⟨"MonitorWays$Machine", "interrupt", "(LMonitorWays$Worker;)V"⟩, 3), (⟨"MonitorWays$Machine", "unpark", "(LMonitorWays$Worker;)V"⟩, 3), (⟨"MonitorWays$Machine", "leaveSetAlone", "(II)V"⟩, 3), (⟨"MonitorWays$Machine", "comeBack", "(I)V"⟩, 3), (⟨"MonitorWays$Machine", "stopParking", "(LMonitorWays$Worker;I)V"⟩, 3), (⟨"MonitorWays$Worker", "letterCount", "()I"⟩, 8)]
theorem lw_r1 : ∀ q ∈ lw_privs_1, lw_okq q := List.forall_mem_cons.mpr ⟨lw_p0, List.forall_mem_cons.mpr ⟨lw_p1, List.forall_mem_cons.mpr ⟨lw_p2, List.forall_mem_cons.mpr ⟨lw_p3, List.forall_mem_cons.mpr ⟨lw_p4, List.forall_mem_cons.mpr ⟨lw_p5, List.forall_mem_cons.mpr ⟨lw_p6, List.forall_mem_cons.mpr ⟨lw_p7, List.forall_mem_cons.mpr ⟨lw_p8, List.forall_mem_cons.mpr ⟨lw_p9, List.forall_mem_cons.mpr ⟨lw_p10, List.forall_mem_cons.mpr ⟨lw_p11, List.forall_mem_cons.mpr ⟨lw_p12, List.forall_mem_cons.mpr ⟨lw_p13, List.forall_mem_cons.mpr ⟨lw_p14, List.forall_mem_cons.mpr ⟨lw_p15, fun _ h => absurd h List.not_mem_nil⟩⟩⟩⟩⟩⟩⟩⟩⟩⟩⟩⟩⟩⟩⟩⟩
theorem lw_p16 : lw_okq (⟨"MonitorWays$States", "grow", "()V"⟩, 3) := ⟨⟨by decide +kernel, by decide +kernel⟩, List.mem_of_getElem? (i := 145) (by decide +kernel), List.mem_of_getElem? (i := 428) (by decide +kernel), List.mem_of_getElem? (i := 429) (by decide +kernel)⟩
theorem lw_p17 : lw_okq (⟨"MonitorWays$States", "slotOf", "(I)I"⟩, 3) := ⟨⟨by decide +kernel, by decide +kernel⟩, List.mem_of_getElem? (i := 145) (by decide +kernel), List.mem_of_getElem? (i := 448) (by decide +kernel), List.mem_of_getElem? (i := 449) (by decide +kernel)⟩
theorem lw_p18 : lw_okq (⟨"MonitorWays$States", "hashOf", "(I)I"⟩, 3) := ⟨⟨by decide +kernel, by decide +kernel⟩, List.mem_of_getElem? (i := 145) (by decide +kernel), List.mem_of_getElem? (i := 452) (by decide +kernel), List.mem_of_getElem? (i := 453) (by decide +kernel)⟩
theorem lw_p19 : lw_okq (⟨"MonitorWays$States", "areSame", "(II)Z"⟩, 3) := ⟨⟨by decide +kernel, by decide +kernel⟩, List.mem_of_getElem? (i := 145) (by decide +kernel), List.mem_of_getElem? (i := 457) (by decide +kernel), List.mem_of_getElem? (i := 458) (by decide +kernel)⟩
theorem lw_p20 : lw_okq (⟨"MonitorWays$Search", "visit", "(I)Z"⟩, 11) := ⟨⟨by decide +kernel, by decide +kernel⟩, List.mem_of_getElem? (i := 139) (by decide +kernel), List.mem_of_getElem? (i := 477) (by decide +kernel), List.mem_of_getElem? (i := 478) (by decide +kernel)⟩
theorem lw_p21 : lw_okq (⟨"MonitorWays$Search", "noteFinal", "()V"⟩, 11) := ⟨⟨by decide +kernel, by decide +kernel⟩, List.mem_of_getElem? (i := 139) (by decide +kernel), List.mem_of_getElem? (i := 505) (by decide +kernel), List.mem_of_getElem? (i := 506) (by decide +kernel)⟩
theorem lw_p22 : lw_okq (⟨"MonitorWays$Search", "noteOutcome", "(J)V"⟩, 11) := ⟨⟨by decide +kernel, by decide +kernel⟩, List.mem_of_getElem? (i := 139) (by decide +kernel), List.mem_of_getElem? (i := 520) (by decide +kernel), List.mem_of_getElem? (i := 521) (by decide +kernel)⟩
theorem lw_p23 : lw_okq (⟨"MonitorWays$Search", "lessThan", "(J)I"⟩, 11) := ⟨⟨by decide +kernel, by decide +kernel⟩, List.mem_of_getElem? (i := 139) (by decide +kernel), List.mem_of_getElem? (i := 524) (by decide +kernel), List.mem_of_getElem? (i := 525) (by decide +kernel)⟩
theorem lw_p24 : lw_okq (⟨"MonitorWaysModel", "first", "()V"⟩, 27) := ⟨⟨by decide +kernel, by decide +kernel⟩, List.mem_of_getElem? (i := 551) (by decide +kernel), List.mem_of_getElem? (i := 561) (by decide +kernel), List.mem_of_getElem? (i := 562) (by decide +kernel)⟩
theorem lw_p25 : lw_okq (⟨"MonitorWaysModel", "pack", "([JI)V"⟩, 27) := ⟨⟨by decide +kernel, by decide +kernel⟩, List.mem_of_getElem? (i := 551) (by decide +kernel), List.mem_of_getElem? (i := 565) (by decide +kernel), List.mem_of_getElem? (i := 566) (by decide +kernel)⟩
theorem lw_p26 : lw_okq (⟨"MonitorWaysModel", "threadPacked", "(I)J"⟩, 27) := ⟨⟨by decide +kernel, by decide +kernel⟩, List.mem_of_getElem? (i := 551) (by decide +kernel), List.mem_of_getElem? (i := 569) (by decide +kernel), List.mem_of_getElem? (i := 570) (by decide +kernel)⟩
theorem lw_p27 : lw_okq (⟨"MonitorWaysModel", "forget", "()V"⟩, 27) := ⟨⟨by decide +kernel, by decide +kernel⟩, List.mem_of_getElem? (i := 551) (by decide +kernel), List.mem_of_getElem? (i := 663) (by decide +kernel), List.mem_of_getElem? (i := 664) (by decide +kernel)⟩
theorem lw_p28 : lw_okq (⟨"MonitorWaysModel", "unpack", "([JI)V"⟩, 27) := ⟨⟨by decide +kernel, by decide +kernel⟩, List.mem_of_getElem? (i := 551) (by decide +kernel), List.mem_of_getElem? (i := 671) (by decide +kernel), List.mem_of_getElem? (i := 672) (by decide +kernel)⟩
theorem lw_p29 : lw_okq (⟨"MonitorWaysModel", "threadUnpacked", "(IJ)V"⟩, 27) := ⟨⟨by decide +kernel, by decide +kernel⟩, List.mem_of_getElem? (i := 551) (by decide +kernel), List.mem_of_getElem? (i := 675) (by decide +kernel), List.mem_of_getElem? (i := 676) (by decide +kernel)⟩
theorem lw_p30 : lw_okq (⟨"MonitorWaysModel", "may", "(II)Z"⟩, 27) := ⟨⟨by decide +kernel, by decide +kernel⟩, List.mem_of_getElem? (i := 551) (by decide +kernel), List.mem_of_getElem? (i := 680) (by decide +kernel), List.mem_of_getElem? (i := 681) (by decide +kernel)⟩
theorem lw_p31 : lw_okq (⟨"MonitorWaysModel", "runningMay", "(II)Z"⟩, 27) := ⟨⟨by decide +kernel, by decide +kernel⟩, List.mem_of_getElem? (i := 551) (by decide +kernel), List.mem_of_getElem? (i := 684) (by decide +kernel), List.mem_of_getElem? (i := 685) (by decide +kernel)⟩
def lw_privs_2 : List (MethodName × Nat) := [(⟨"MonitorWays$States", "grow", "()V"⟩, 3), (⟨"MonitorWays$States", "slotOf", "(I)I"⟩, 3), (⟨"MonitorWays$States", "hashOf", "(I)I"⟩, 3), (⟨"MonitorWays$States", "areSame", "(II)Z"⟩, 3), (⟨"MonitorWays$Search", "visit", "(I)Z"⟩, 11), (⟨"MonitorWays$Search", "noteFinal", "()V"⟩, 11), (⟨"MonitorWays$Search", "noteOutcome", "(J)V"⟩, 11), (⟨"MonitorWays$Search", "lessThan", "(J)I"⟩, 11), (⟨"MonitorWaysModel", "first", "()V"⟩, 27), (⟨"MonitorWaysModel", "pack", "([JI)V"⟩, 27), (⟨"MonitorWaysModel", "threadPacked", "(I)J"⟩, 27), (⟨"MonitorWaysModel", "forget", "()V"⟩, 27), (⟨"MonitorWaysModel", "unpack", "([JI)V"⟩, 27), (⟨"MonitorWaysModel", "threadUnpacked", "(IJ)V"⟩, 27), (⟨"MonitorWaysModel", "may", "(II)Z"⟩, 27), (⟨"MonitorWaysModel", "runningMay", "(II)Z"⟩, 27)]
theorem lw_r2 : ∀ q ∈ lw_privs_2, lw_okq q := List.forall_mem_cons.mpr ⟨lw_p16, List.forall_mem_cons.mpr ⟨lw_p17, List.forall_mem_cons.mpr ⟨lw_p18, List.forall_mem_cons.mpr ⟨lw_p19, List.forall_mem_cons.mpr ⟨lw_p20, List.forall_mem_cons.mpr ⟨lw_p21, List.forall_mem_cons.mpr ⟨lw_p22, List.forall_mem_cons.mpr ⟨lw_p23, List.forall_mem_cons.mpr ⟨lw_p24, List.forall_mem_cons.mpr ⟨lw_p25, List.forall_mem_cons.mpr ⟨lw_p26, List.forall_mem_cons.mpr ⟨lw_p27, List.forall_mem_cons.mpr ⟨lw_p28, List.forall_mem_cons.mpr ⟨lw_p29, List.forall_mem_cons.mpr ⟨lw_p30, List.forall_mem_cons.mpr ⟨lw_p31, fun _ h => absurd h List.not_mem_nil⟩⟩⟩⟩⟩⟩⟩⟩⟩⟩⟩⟩⟩⟩⟩⟩
theorem lw_p32 : lw_okq (⟨"MonitorWaysModel", "action", "(I)I"⟩, 27) := ⟨⟨by decide +kernel, by decide +kernel⟩, List.mem_of_getElem? (i := 551) (by decide +kernel), List.mem_of_getElem? (i := 688) (by decide +kernel), List.mem_of_getElem? (i := 689) (by decide +kernel)⟩
theorem lw_p33 : lw_okq (⟨"MonitorWaysModel", "operand", "(I)I"⟩, 27) := ⟨⟨by decide +kernel, by decide +kernel⟩, List.mem_of_getElem? (i := 551) (by decide +kernel), List.mem_of_getElem? (i := 692) (by decide +kernel), List.mem_of_getElem? (i := 693) (by decide +kernel)⟩
theorem lw_p34 : lw_okq (⟨"MonitorWaysModel", "timed", "(I)Z"⟩, 27) := ⟨⟨by decide +kernel, by decide +kernel⟩, List.mem_of_getElem? (i := 551) (by decide +kernel), List.mem_of_getElem? (i := 696) (by decide +kernel), List.mem_of_getElem? (i := 697) (by decide +kernel)⟩
theorem lw_p35 : lw_okq (⟨"MonitorWaysModel", "waitedOn", "(I)I"⟩, 27) := ⟨⟨by decide +kernel, by decide +kernel⟩, List.mem_of_getElem? (i := 551) (by decide +kernel), List.mem_of_getElem? (i := 700) (by decide +kernel), List.mem_of_getElem? (i := 701) (by decide +kernel)⟩
theorem lw_p36 : lw_okq (⟨"MonitorWaysModel", "perform", "(II)V"⟩, 27) := ⟨⟨by decide +kernel, by decide +kernel⟩, List.mem_of_getElem? (i := 551) (by decide +kernel), List.mem_of_getElem? (i := 704) (by decide +kernel), List.mem_of_getElem? (i := 705) (by decide +kernel)⟩
theorem lw_p37 : lw_okq (⟨"MonitorWaysModel", "doAction", "(II)V"⟩, 27) := ⟨⟨by decide +kernel, by decide +kernel⟩, List.mem_of_getElem? (i := 551) (by decide +kernel), List.mem_of_getElem? (i := 708) (by decide +kernel), List.mem_of_getElem? (i := 709) (by decide +kernel)⟩
theorem lw_p38 : lw_okq (⟨"MonitorWaysModel", "monitorAction", "(IIII)V"⟩, 27) := ⟨⟨by decide +kernel, by decide +kernel⟩, List.mem_of_getElem? (i := 551) (by decide +kernel), List.mem_of_getElem? (i := 712) (by decide +kernel), List.mem_of_getElem? (i := 713) (by decide +kernel)⟩
theorem lw_p39 : lw_okq (⟨"MonitorWaysModel", "put", "(II)V"⟩, 27) := ⟨⟨by decide +kernel, by decide +kernel⟩, List.mem_of_getElem? (i := 551) (by decide +kernel), List.mem_of_getElem? (i := 716) (by decide +kernel), List.mem_of_getElem? (i := 717) (by decide +kernel)⟩
theorem lw_p40 : lw_okq (⟨"MonitorWaysModel", "waitOn", "(II)V"⟩, 27) := ⟨⟨by decide +kernel, by decide +kernel⟩, List.mem_of_getElem? (i := 551) (by decide +kernel), List.mem_of_getElem? (i := 721) (by decide +kernel), List.mem_of_getElem? (i := 722) (by decide +kernel)⟩
theorem lw_p41 : lw_okq (⟨"MonitorWaysModel", "notified", "(I)V"⟩, 27) := ⟨⟨by decide +kernel, by decide +kernel⟩, List.mem_of_getElem? (i := 551) (by decide +kernel), List.mem_of_getElem? (i := 725) (by decide +kernel), List.mem_of_getElem? (i := 726) (by decide +kernel)⟩
theorem lw_p42 : lw_okq (⟨"MonitorWaysModel", "leaveSet", "(I)V"⟩, 27) := ⟨⟨by decide +kernel, by decide +kernel⟩, List.mem_of_getElem? (i := 551) (by decide +kernel), List.mem_of_getElem? (i := 729) (by decide +kernel), List.mem_of_getElem? (i := 730) (by decide +kernel)⟩
theorem lw_p43 : lw_okq (⟨"MonitorWaysModel", "otherAction", "(III)V"⟩, 27) := ⟨⟨by decide +kernel, by decide +kernel⟩, List.mem_of_getElem? (i := 551) (by decide +kernel), List.mem_of_getElem? (i := 733) (by decide +kernel), List.mem_of_getElem? (i := 734) (by decide +kernel)⟩
theorem lw_p44 : lw_okq (⟨"MonitorWaysModel", "unpark", "(I)V"⟩, 27) := ⟨⟨by decide +kernel, by decide +kernel⟩, List.mem_of_getElem? (i := 551) (by decide +kernel), List.mem_of_getElem? (i := 737) (by decide +kernel), List.mem_of_getElem? (i := 738) (by decide +kernel)⟩
theorem lw_p45 : lw_okq (⟨"MonitorWaysModel", "run", "(I)V"⟩, 27) := ⟨⟨by decide +kernel, by decide +kernel⟩, List.mem_of_getElem? (i := 551) (by decide +kernel), List.mem_of_getElem? (i := 741) (by decide +kernel), List.mem_of_getElem? (i := 742) (by decide +kernel)⟩
theorem lw_p46 : lw_okq (⟨"MonitorWaysModel", "brokenOr", "(IZ)V"⟩, 27) := ⟨⟨by decide +kernel, by decide +kernel⟩, List.mem_of_getElem? (i := 551) (by decide +kernel), List.mem_of_getElem? (i := 745) (by decide +kernel), List.mem_of_getElem? (i := 746) (by decide +kernel)⟩
theorem lw_p47 : lw_okq (⟨"MonitorWaysModel", "meet", "()V"⟩, 27) := ⟨⟨by decide +kernel, by decide +kernel⟩, List.mem_of_getElem? (i := 551) (by decide +kernel), List.mem_of_getElem? (i := 778) (by decide +kernel), List.mem_of_getElem? (i := 779) (by decide +kernel)⟩
def lw_privs_3 : List (MethodName × Nat) := [(⟨"MonitorWaysModel", "action", "(I)I"⟩, 27), (⟨"MonitorWaysModel", "operand", "(I)I"⟩, 27), (⟨"MonitorWaysModel", "timed", "(I)Z"⟩, 27), (⟨"MonitorWaysModel", "waitedOn", "(I)I"⟩, 27), (⟨"MonitorWaysModel", "perform", "(II)V"⟩, 27), (⟨"MonitorWaysModel", "doAction", "(II)V"⟩, 27), (⟨"MonitorWaysModel", "monitorAction", "(IIII)V"⟩, 27), (⟨"MonitorWaysModel", "put", "(II)V"⟩, 27), (⟨"MonitorWaysModel", "waitOn", "(II)V"⟩, 27), (⟨"MonitorWaysModel", "notified", "(I)V"⟩, 27), (⟨"MonitorWaysModel", "leaveSet", "(I)V"⟩, 27), (⟨"MonitorWaysModel", "otherAction", "(III)V"⟩, 27), (⟨"MonitorWaysModel", "unpark", "(I)V"⟩, 27), (⟨"MonitorWaysModel", "run", "(I)V"⟩, 27), (⟨"MonitorWaysModel", "brokenOr", "(IZ)V"⟩, 27), (⟨"MonitorWaysModel", "meet", "()V"⟩, 27)]
theorem lw_r3 : ∀ q ∈ lw_privs_3, lw_okq q := List.forall_mem_cons.mpr ⟨lw_p32, List.forall_mem_cons.mpr ⟨lw_p33, List.forall_mem_cons.mpr ⟨lw_p34, List.forall_mem_cons.mpr ⟨lw_p35, List.forall_mem_cons.mpr ⟨lw_p36, List.forall_mem_cons.mpr ⟨lw_p37, List.forall_mem_cons.mpr ⟨lw_p38, List.forall_mem_cons.mpr ⟨lw_p39, List.forall_mem_cons.mpr ⟨lw_p40, List.forall_mem_cons.mpr ⟨lw_p41, List.forall_mem_cons.mpr ⟨lw_p42, List.forall_mem_cons.mpr ⟨lw_p43, List.forall_mem_cons.mpr ⟨lw_p44, List.forall_mem_cons.mpr ⟨lw_p45, List.forall_mem_cons.mpr ⟨lw_p46, List.forall_mem_cons.mpr ⟨lw_p47, fun _ h => absurd h List.not_mem_nil⟩⟩⟩⟩⟩⟩⟩⟩⟩⟩⟩⟩⟩⟩⟩⟩
theorem lw_p48 : lw_okq (⟨"MonitorWaysModel", "goOn", "(I)V"⟩, 27) := ⟨⟨by decide +kernel, by decide +kernel⟩, List.mem_of_getElem? (i := 551) (by decide +kernel), List.mem_of_getElem? (i := 782) (by decide +kernel), List.mem_of_getElem? (i := 783) (by decide +kernel)⟩
theorem lw_p49 : lw_okq (⟨"MonitorWaysModel", "noteFinal", "()V"⟩, 27) := ⟨⟨by decide +kernel, by decide +kernel⟩, List.mem_of_getElem? (i := 551) (by decide +kernel), List.mem_of_getElem? (i := 786) (by decide +kernel), List.mem_of_getElem? (i := 787) (by decide +kernel)⟩
def lw_privs_4 : List (MethodName × Nat) := [(⟨"MonitorWaysModel", "goOn", "(I)V"⟩, 27), (⟨"MonitorWaysModel", "noteFinal", "()V"⟩, 27)]
theorem lw_r4 : ∀ q ∈ lw_privs_4, lw_okq q := List.forall_mem_cons.mpr ⟨lw_p48, List.forall_mem_cons.mpr ⟨lw_p49, fun _ h => absurd h List.not_mem_nil⟩⟩
def lw_privs : List (MethodName × Nat) := lw_privs_1 ++ (lw_privs_2 ++ (lw_privs_3 ++ (lw_privs_4)))
def lw_tbl : List Cond := k2_sels lw_privs ++ tables_1
theorem lw_privs_ok : ∀ q ∈ lw_privs, lw_okq q := by
  show ∀ q ∈ lw_privs_1 ++ (lw_privs_2 ++ (lw_privs_3 ++ (lw_privs_4))), lw_okq q
  exact List.forall_mem_append.mpr ⟨lw_r1, List.forall_mem_append.mpr ⟨lw_r2, List.forall_mem_append.mpr ⟨lw_r3, lw_r4⟩⟩⟩
def TX0 : u_T := fun k => match k with
  | 0 => ("MonitorWays$Machine", "workers", "[LMonitorWays$Worker;", true)
  | 1 => ("MonitorWays$Machine", "monitors", "[LMonitorWays$Monitor;", true)
  | _ => ("MonitorWays$Machine", "loose", "Z", true)
def tyX0 : Nat → FieldType := fun k => match k with
  | 0 => .array (.object "MonitorWays$Worker")
  | 1 => .array (.object "MonitorWays$Monitor")
  | _ => .boolean
theorem ok_nX0 : ∀ a, a < 3 → ∀ b, b < 3 → a ≠ b → (TX0 a).2.1 ≠ (TX0 b).2.1 := by decide +kernel
theorem ok_tyX0 : ∀ k, k < 3 → parseFieldDescriptor (TX0 k).2.2.1 = some (tyX0 k) := by decide +kernel
def TX1 : u_T := fun k => match k with
  | 0 => ("MonitorWays$Monitor", "owner", "I", false)
  | 1 => ("MonitorWays$Monitor", "depth", "I", false)
  | 2 => ("MonitorWays$Monitor", "setSize", "I", false)
  | _ => ("MonitorWays$Monitor", "set", "[I", true)
def tyX1 : Nat → FieldType := fun k => match k with
  | 0 => .int
  | 1 => .int
  | 2 => .int
  | _ => .array .int
theorem ok_nX1 : ∀ a, a < 4 → ∀ b, b < 4 → a ≠ b → (TX1 a).2.1 ≠ (TX1 b).2.1 := by decide +kernel
theorem ok_tyX1 : ∀ k, k < 4 → parseFieldDescriptor (TX1 k).2.2.1 = some (tyX1 k) := by decide +kernel
def TX2 : u_T := fun k => match k with
  | 0 => ("MonitorWays$Program", "actions", "[I", true)
  | 1 => ("MonitorWays$Program", "operands", "[I", true)
  | _ => ("MonitorWays$Program", "length", "I", false)
def tyX2 : Nat → FieldType := fun k => match k with
  | 0 => .array .int
  | 1 => .array .int
  | _ => .int
theorem ok_nX2 : ∀ a, a < 3 → ∀ b, b < 3 → a ≠ b → (TX2 a).2.1 ≠ (TX2 b).2.1 := by decide +kernel
theorem ok_tyX2 : ∀ k, k < 3 → parseFieldDescriptor (TX2 k).2.2.1 = some (tyX2 k) := by decide +kernel
def TX3 : u_T := fun k => match k with
  | 0 => ("MonitorWays$Search", "blocked", "[Z", true)
  | 1 => ("MonitorWays$Search", "done", "Z", false)
  | 2 => ("MonitorWays$Search", "answer", "I", false)
  | 3 => ("MonitorWays$Search", "stateCount", "I", false)
  | 4 => ("MonitorWays$Search", "finalCount", "I", false)
  | 5 => ("MonitorWays$Search", "allEndedCount", "I", false)
  | 6 => ("MonitorWays$Search", "mostChoices", "I", false)
  | 7 => ("MonitorWays$Search", "machine", "LMonitorWays$Machine;", true)
  | 8 => ("MonitorWays$Search", "states", "LMonitorWays$States;", true)
  | 9 => ("MonitorWays$Search", "outcomes", "[J", false)
  | _ => ("MonitorWays$Search", "outcomeCount", "I", false)
def tyX3 : Nat → FieldType := fun k => match k with
  | 0 => .array .boolean
  | 1 => .boolean
  | 2 => .int
  | 3 => .int
  | 4 => .int
  | 5 => .int
  | 6 => .int
  | 7 => .object "MonitorWays$Machine"
  | 8 => .object "MonitorWays$States"
  | 9 => .array .long
  | _ => .int
theorem ok_nX3 : ∀ a, a < 11 → ∀ b, b < 11 → a ≠ b → (TX3 a).2.1 ≠ (TX3 b).2.1 := by decide +kernel
theorem ok_tyX3 : ∀ k, k < 11 → parseFieldDescriptor (TX3 k).2.2.1 = some (tyX3 k) := by decide +kernel
def TX4 : u_T := fun k => match k with
  | 0 => ("MonitorWays$States", "size", "I", false)
  | 1 => ("MonitorWays$States", "words", "[J", false)
  | _ => ("MonitorWays$States", "slots", "[I", false)
def tyX4 : Nat → FieldType := fun k => match k with
  | 0 => .int
  | 1 => .array .long
  | _ => .array .int
theorem ok_nX4 : ∀ a, a < 3 → ∀ b, b < 3 → a ≠ b → (TX4 a).2.1 ≠ (TX4 b).2.1 := by decide +kernel
theorem ok_tyX4 : ∀ k, k < 3 → parseFieldDescriptor (TX4 k).2.2.1 = some (tyX4 k) := by decide +kernel
def TX5 : u_T := fun k => match k with
  | 0 => ("MonitorWays$Worker", "status", "I", false)
  | 1 => ("MonitorWays$Worker", "place", "I", false)
  | 2 => ("MonitorWays$Worker", "kept", "I", false)
  | 3 => ("MonitorWays$Worker", "interrupted", "Z", false)
  | 4 => ("MonitorWays$Worker", "permit", "Z", false)
  | 5 => ("MonitorWays$Worker", "strayed", "Z", false)
  | 6 => ("MonitorWays$Worker", "program", "LMonitorWays$Program;", true)
  | _ => ("MonitorWays$Worker", "result", "I", false)
def tyX5 : Nat → FieldType := fun k => match k with
  | 0 => .int
  | 1 => .int
  | 2 => .int
  | 3 => .boolean
  | 4 => .boolean
  | 5 => .boolean
  | 6 => .object "MonitorWays$Program"
  | _ => .int
theorem ok_nX5 : ∀ a, a < 8 → ∀ b, b < 8 → a ≠ b → (TX5 a).2.1 ≠ (TX5 b).2.1 := by decide +kernel
theorem ok_tyX5 : ∀ k, k < 8 → parseFieldDescriptor (TX5 k).2.2.1 = some (tyX5 k) := by decide +kernel
def TX6 : u_T := fun k => match k with
  | 0 => ("MonitorWays", "programs", "[LMonitorWays$Program;", true)
  | 1 => ("MonitorWays", "present", "LMonitorWays$Machine;", true)
  | 2 => ("MonitorWays", "search", "LMonitorWays$Search;", true)
  | _ => ("MonitorWays", "choices", "I", false)
def tyX6 : Nat → FieldType := fun k => match k with
  | 0 => .array (.object "MonitorWays$Program")
  | 1 => .object "MonitorWays$Machine"
  | 2 => .object "MonitorWays$Search"
  | _ => .int
theorem ok_nX6 : ∀ a, a < 4 → ∀ b, b < 4 → a ≠ b → (TX6 a).2.1 ≠ (TX6 b).2.1 := by decide +kernel
theorem ok_tyX6 : ∀ k, k < 4 → parseFieldDescriptor (TX6 k).2.2.1 = some (tyX6 k) := by decide +kernel
def TX7 : u_T := fun k => match k with
  | 0 => ("MonitorWaysModel", "loose", "Z", true)
  | 1 => ("MonitorWaysModel", "actions", "[I", true)
  | 2 => ("MonitorWaysModel", "operands", "[I", true)
  | 3 => ("MonitorWaysModel", "lengths", "[I", true)
  | 4 => ("MonitorWaysModel", "place", "[I", true)
  | 5 => ("MonitorWaysModel", "status", "[I", true)
  | 6 => ("MonitorWaysModel", "kept", "[I", true)
  | 7 => ("MonitorWaysModel", "letters", "[I", true)
  | 8 => ("MonitorWaysModel", "result", "[J", true)
  | 9 => ("MonitorWaysModel", "interrupted", "[Z", true)
  | 10 => ("MonitorWaysModel", "permit", "[Z", true)
  | 11 => ("MonitorWaysModel", "odd", "[Z", true)
  | 12 => ("MonitorWaysModel", "owner", "[I", true)
  | 13 => ("MonitorWaysModel", "count", "[I", true)
  | 14 => ("MonitorWaysModel", "size", "[I", true)
  | 15 => ("MonitorWaysModel", "set", "[I", true)
  | 16 => ("MonitorWaysModel", "present", "[J", true)
  | 17 => ("MonitorWaysModel", "choices", "I", false)
  | 18 => ("MonitorWaysModel", "met", "[J", true)
  | 19 => ("MonitorWaysModel", "states", "I", false)
  | 20 => ("MonitorWaysModel", "finals", "I", false)
  | 21 => ("MonitorWaysModel", "allEnded", "I", false)
  | 22 => ("MonitorWaysModel", "most", "I", false)
  | 23 => ("MonitorWaysModel", "found", "I", false)
  | 24 => ("MonitorWaysModel", "outcomes", "[J", true)
  | 25 => ("MonitorWaysModel", "blocks", "[Z", true)
  | _ => ("MonitorWaysModel", "overfull", "Z", false)
def tyX7 : Nat → FieldType := fun k => match k with
  | 0 => .boolean
  | 1 => .array .int
  | 2 => .array .int
  | 3 => .array .int
  | 4 => .array .int
  | 5 => .array .int
  | 6 => .array .int
  | 7 => .array .int
  | 8 => .array .long
  | 9 => .array .boolean
  | 10 => .array .boolean
  | 11 => .array .boolean
  | 12 => .array .int
  | 13 => .array .int
  | 14 => .array .int
  | 15 => .array .int
  | 16 => .array .long
  | 17 => .int
  | 18 => .array .long
  | 19 => .int
  | 20 => .int
  | 21 => .int
  | 22 => .int
  | 23 => .int
  | 24 => .array .long
  | 25 => .array .boolean
  | _ => .boolean
theorem ok_nX7 : ∀ a, a < 27 → ∀ b, b < 27 → a ≠ b → (TX7 a).2.1 ≠ (TX7 b).2.1 := by decide +kernel
theorem ok_tyX7 : ∀ k, k < 27 → parseFieldDescriptor (TX7 k).2.2.1 = some (tyX7 k) := by decide +kernel
abbrev vwCl : List vw_C := [("MonitorWays$Machine", TX0, 3), ("MonitorWays$Monitor", TX1, 4), ("MonitorWays$Program", TX2, 3), ("MonitorWays$Search", TX3, 11), ("MonitorWays$States", TX4, 3), ("MonitorWays$Worker", TX5, 8), ("MonitorWays", TX6, 4), ("MonitorWaysModel", TX7, 27)]
/-- the words that every method has: the tables, without those that a call may not keep -/
def wtbl : List Cond := lw_tbl.filter goodWord
theorem goodT : ∀ w ∈ wtbl, (w.onTables && w.keeps) = true ∨ ∃ ty, w = .arrayClass ty := fun w h => good_of_word (List.mem_filter.mp h).2
theorem wtbl_in : ∀ w ∈ wtbl, w ∈ lw_tbl := fun w h => (List.mem_filter.mp h).1
theorem tin_1 {w : Cond} (h : w ∈ tables_1_1) (hg : goodWord w = true) : w ∈ wtbl := List.mem_filter.mpr ⟨List.mem_append_right _ (List.mem_append_left _ h), hg⟩
theorem tin_2 {w : Cond} (h : w ∈ tables_1_2) (hg : goodWord w = true) : w ∈ wtbl := List.mem_filter.mpr ⟨List.mem_append_right _ (List.mem_append_right _ (List.mem_append_left _ h)), hg⟩
theorem tin_3 {w : Cond} (h : w ∈ tables_1_3) (hg : goodWord w = true) : w ∈ wtbl := List.mem_filter.mpr ⟨List.mem_append_right _ (List.mem_append_right _ (List.mem_append_right _ (List.mem_append_left _ h))), hg⟩
theorem tin_4 {w : Cond} (h : w ∈ tables_1_4) (hg : goodWord w = true) : w ∈ wtbl := List.mem_filter.mpr ⟨List.mem_append_right _ (List.mem_append_right _ (List.mem_append_right _ (List.mem_append_right _ h))), hg⟩
theorem tin_p {w : Cond} (h : w ∈ k2_sels lw_privs) (hg : goodWord w = true) : w ∈ wtbl := List.mem_filter.mpr ⟨List.mem_append_left _ h, hg⟩
theorem goodV {own C : String} {idx n : Nat} {y : MethodName} {cb : ByteArray} {ret : Option FieldType} {big : List Cond} (hb : ∀ w ∈ wtbl, w ∈ big) (h1 : Cond.methodLink own idx y ∈ wtbl) (h2 : Cond.instanceMethod y ∈ wtbl) (h3 : Cond.selects C y y ∈ wtbl) (h4 : Cond.initialized C ∈ wtbl) (h5 : Cond.code y cb n ret ∈ wtbl) : GoodIn big (wsV own idx C y (Cond.code y cb n ret :: wtbl)) := by
  intro w hw
  have hm : w ∈ wtbl := by
    rcases List.mem_append.mp hw with h | h
    · simp only [List.mem_cons, List.not_mem_nil, or_false] at h
      rcases h with rfl | rfl | rfl | rfl
      · exact h1
      · exact h2
      · exact h3
      · exact h4
    · rcases List.mem_cons.mp h with rfl | h
      · exact h5
      · exact h
  exact ⟨hb w hm, goodT w hm⟩
theorem goodS {own : String} {idx n : Nat} {y : MethodName} {cb : ByteArray} {ret : Option FieldType} {big : List Cond} (hb : ∀ w ∈ wtbl, w ∈ big) (h1 : Cond.methodLink own idx y ∈ wtbl) (h2 : Cond.static y ∈ wtbl) (h4 : Cond.initialized own ∈ wtbl) (h5 : Cond.code y cb n ret ∈ wtbl) : GoodIn big (wsS own idx y (Cond.code y cb n ret :: wtbl)) := by
  intro w hw
  have hm : w ∈ wtbl := by
    rcases List.mem_append.mp hw with h | h
    · simp only [List.mem_cons, List.not_mem_nil, or_false] at h
      rcases h with rfl | rfl | rfl
      · exact h1
      · exact h2
      · exact h4
    · rcases List.mem_cons.mp h with rfl | h
      · exact h5
      · exact h
  exact ⟨hb w hm, goodT w hm⟩
theorem goodC {n : Nat} {y : MethodName} {cb : ByteArray} {ret : Option FieldType} {big : List Cond} (hb : ∀ w ∈ wtbl, w ∈ big) (h5 : Cond.code y cb n ret ∈ wtbl) : GoodIn big (Cond.code y cb n ret :: wtbl) := by
  intro w hw
  have hm : w ∈ wtbl := by
    rcases List.mem_cons.mp hw with rfl | h
    · exact h5
    · exact h
  exact ⟨hb w hm, goodT w hm⟩
theorem tcons {hd w : Cond} (h : w ∈ wtbl) : w ∈ hd :: wtbl := List.mem_cons_of_mem _ h
abbrev yX6_init : MethodName := { cls := "MonitorWays", name := "<init>", desc := "(I)V" }
abbrev cX6_init : ByteArray := prog_1_method_1_code
abbrev wX6_init : List Cond := Cond.code yX6_init cX6_init 4 none :: wtbl
abbrev yX6_act : MethodName := { cls := "MonitorWays", name := "act", desc := "(III)I" }
abbrev cX6_act : ByteArray := prog_1_method_2_code
abbrev wX6_act : List Cond := Cond.code yX6_act cX6_act 4 (some (.int)) :: wtbl
abbrev yX6_choose : MethodName := { cls := "MonitorWays", name := "choose", desc := "(II)I" }
abbrev cX6_choose : ByteArray := prog_1_method_3_code
abbrev wX6_choose : List Cond := Cond.code yX6_choose cX6_choose 3 (some (.int)) :: wtbl
abbrev yX6_allowed : MethodName := { cls := "MonitorWays", name := "allowed", desc := "(II)Z" }
abbrev cX6_allowed : ByteArray := prog_1_method_4_code
abbrev wX6_allowed : List Cond := Cond.code yX6_allowed cX6_allowed 3 (some (.boolean)) :: wtbl
abbrev yX6_reset : MethodName := { cls := "MonitorWays", name := "reset", desc := "()I" }
abbrev cX6_reset : ByteArray := prog_1_method_5_code
abbrev wX6_reset : List Cond := Cond.code yX6_reset cX6_reset 2 (some (.int)) :: wtbl
abbrev yX6_state : MethodName := { cls := "MonitorWays", name := "state", desc := "(I)I" }
abbrev cX6_state : ByteArray := prog_1_method_6_code
abbrev wX6_state : List Cond := Cond.code yX6_state cX6_state 2 (some (.int)) :: wtbl
abbrev yX6_letter : MethodName := { cls := "MonitorWays", name := "letter", desc := "(II)I" }
abbrev cX6_letter : ByteArray := prog_1_method_7_code
abbrev wX6_letter : List Cond := Cond.code yX6_letter cX6_letter 3 (some (.int)) :: wtbl
abbrev yX6_owner : MethodName := { cls := "MonitorWays", name := "owner", desc := "(I)I" }
abbrev cX6_owner : ByteArray := prog_1_method_8_code
abbrev wX6_owner : List Cond := Cond.code yX6_owner cX6_owner 2 (some (.int)) :: wtbl
abbrev yX6_held : MethodName := { cls := "MonitorWays", name := "held", desc := "(I)I" }
abbrev cX6_held : ByteArray := prog_1_method_9_code
abbrev wX6_held : List Cond := Cond.code yX6_held cX6_held 2 (some (.int)) :: wtbl
abbrev yX6_inSet : MethodName := { cls := "MonitorWays", name := "inSet", desc := "(II)I" }
abbrev cX6_inSet : ByteArray := prog_1_method_10_code
abbrev wX6_inSet : List Cond := Cond.code yX6_inSet cX6_inSet 3 (some (.int)) :: wtbl
abbrev yX6_explore : MethodName := { cls := "MonitorWays", name := "explore", desc := "()I" }
abbrev cX6_explore : ByteArray := prog_1_method_11_code
abbrev wX6_explore : List Cond := Cond.code yX6_explore cX6_explore 1 (some (.int)) :: wtbl
abbrev yX6_outcome : MethodName := { cls := "MonitorWays", name := "outcome", desc := "(I)J" }
abbrev cX6_outcome : ByteArray := prog_1_method_12_code
abbrev wX6_outcome : List Cond := Cond.code yX6_outcome cX6_outcome 2 (some (.long)) :: wtbl
abbrev yX6_mayBlock : MethodName := { cls := "MonitorWays", name := "mayBlock", desc := "(I)Z" }
abbrev cX6_mayBlock : ByteArray := prog_1_method_13_code
abbrev wX6_mayBlock : List Cond := Cond.code yX6_mayBlock cX6_mayBlock 2 (some (.boolean)) :: wtbl
abbrev yX6_count : MethodName := { cls := "MonitorWays", name := "count", desc := "(I)I" }
abbrev cX6_count : ByteArray := prog_1_method_14_code
abbrev wX6_count : List Cond := Cond.code yX6_count cX6_count 2 (some (.int)) :: wtbl
abbrev yX6_beginAnew : MethodName := { cls := "MonitorWays", name := "beginAnew", desc := "()V" }
abbrev cX6_beginAnew : ByteArray := prog_1_method_15_code
abbrev wX6_beginAnew : List Cond := Cond.code yX6_beginAnew cX6_beginAnew 1 none :: wtbl
abbrev yX6_isThread : MethodName := { cls := "MonitorWays", name := "isThread", desc := "(I)Z" }
abbrev cX6_isThread : ByteArray := prog_1_method_16_code
abbrev wX6_isThread : List Cond := Cond.code yX6_isThread cX6_isThread 1 (some (.boolean)) :: wtbl
abbrev yX6_isMonitor : MethodName := { cls := "MonitorWays", name := "isMonitor", desc := "(I)Z" }
abbrev cX6_isMonitor : ByteArray := prog_1_method_17_code
abbrev wX6_isMonitor : List Cond := Cond.code yX6_isMonitor cX6_isMonitor 1 (some (.boolean)) :: wtbl
abbrev yX6_isWay : MethodName := { cls := "MonitorWays", name := "isWay", desc := "(I)Z" }
abbrev cX6_isWay : ByteArray := prog_1_method_18_code
abbrev wX6_isWay : List Cond := Cond.code yX6_isWay cX6_isWay 1 (some (.boolean)) :: wtbl
abbrev yX6_isAction : MethodName := { cls := "MonitorWays", name := "isAction", desc := "(II)Z" }
abbrev cX6_isAction : ByteArray := prog_1_method_19_code
abbrev wX6_isAction : List Cond := Cond.code yX6_isAction cX6_isAction 2 (some (.boolean)) :: wtbl
abbrev yX7_init : MethodName := { cls := "MonitorWaysModel", name := "<init>", desc := "(I)V" }
abbrev cX7_init : ByteArray := prog_9_method_1_code
abbrev wX7_init : List Cond := Cond.code yX7_init cX7_init 2 none :: wtbl
abbrev yX7_out : MethodName := { cls := "MonitorWaysModel", name := "out", desc := "(II)Z" }
abbrev cX7_out : ByteArray := prog_9_method_2_code
abbrev wX7_out : List Cond := Cond.code yX7_out cX7_out 2 (some (.boolean)) :: wtbl
abbrev yX7_first : MethodName := { cls := "MonitorWaysModel", name := "first", desc := "()V" }
abbrev cX7_first : ByteArray := prog_9_method_3_code
abbrev wX7_first : List Cond := Cond.code yX7_first cX7_first 2 none :: wtbl
abbrev yX7_threadPacked : MethodName := { cls := "MonitorWaysModel", name := "threadPacked", desc := "(I)J" }
abbrev cX7_threadPacked : ByteArray := prog_9_method_4_code
abbrev wX7_threadPacked : List Cond := Cond.code yX7_threadPacked cX7_threadPacked 4 (some (.long)) :: wtbl
abbrev yX7_threadUnpacked : MethodName := { cls := "MonitorWaysModel", name := "threadUnpacked", desc := "(IJ)V" }
abbrev cX7_threadUnpacked : ByteArray := prog_9_method_5_code
abbrev wX7_threadUnpacked : List Cond := Cond.code yX7_threadUnpacked cX7_threadUnpacked 6 none :: wtbl
abbrev yX7_pack : MethodName := { cls := "MonitorWaysModel", name := "pack", desc := "([JI)V" }
abbrev cX7_pack : ByteArray := prog_9_method_6_code
abbrev wX7_pack : List Cond := Cond.code yX7_pack cX7_pack 7 none :: wtbl
abbrev yX7_unpack : MethodName := { cls := "MonitorWaysModel", name := "unpack", desc := "([JI)V" }
abbrev cX7_unpack : ByteArray := prog_9_method_7_code
abbrev wX7_unpack : List Cond := Cond.code yX7_unpack cX7_unpack 7 none :: wtbl
abbrev yX7_action : MethodName := { cls := "MonitorWaysModel", name := "action", desc := "(I)I" }
abbrev cX7_action : ByteArray := prog_9_method_8_code
abbrev wX7_action : List Cond := Cond.code yX7_action cX7_action 2 (some (.int)) :: wtbl
abbrev yX7_operand : MethodName := { cls := "MonitorWaysModel", name := "operand", desc := "(I)I" }
abbrev cX7_operand : ByteArray := prog_9_method_9_code
abbrev wX7_operand : List Cond := Cond.code yX7_operand cX7_operand 2 (some (.int)) :: wtbl
abbrev yX7_waitedOn : MethodName := { cls := "MonitorWaysModel", name := "waitedOn", desc := "(I)I" }
abbrev cX7_waitedOn : ByteArray := prog_9_method_10_code
abbrev wX7_waitedOn : List Cond := Cond.code yX7_waitedOn cX7_waitedOn 2 (some (.int)) :: wtbl
abbrev yX7_timed : MethodName := { cls := "MonitorWaysModel", name := "timed", desc := "(I)Z" }
abbrev cX7_timed : ByteArray := prog_9_method_11_code
abbrev wX7_timed : List Cond := Cond.code yX7_timed cX7_timed 2 (some (.boolean)) :: wtbl
abbrev yX7_runningMay : MethodName := { cls := "MonitorWaysModel", name := "runningMay", desc := "(II)Z" }
abbrev cX7_runningMay : ByteArray := prog_9_method_12_code
abbrev wX7_runningMay : List Cond := Cond.code yX7_runningMay cX7_runningMay 6 (some (.boolean)) :: wtbl
abbrev yX7_may : MethodName := { cls := "MonitorWaysModel", name := "may", desc := "(II)Z" }
abbrev cX7_may : ByteArray := prog_9_method_13_code
abbrev wX7_may : List Cond := Cond.code yX7_may cX7_may 3 (some (.boolean)) :: wtbl
abbrev yX7_put : MethodName := { cls := "MonitorWaysModel", name := "put", desc := "(II)V" }
abbrev cX7_put : ByteArray := prog_9_method_14_code
abbrev wX7_put : List Cond := Cond.code yX7_put cX7_put 3 none :: wtbl
abbrev yX7_run : MethodName := { cls := "MonitorWaysModel", name := "run", desc := "(I)V" }
abbrev cX7_run : ByteArray := prog_9_method_15_code
abbrev wX7_run : List Cond := Cond.code yX7_run cX7_run 2 none :: wtbl
abbrev yX7_leaveSet : MethodName := { cls := "MonitorWaysModel", name := "leaveSet", desc := "(I)V" }
abbrev cX7_leaveSet : ByteArray := prog_9_method_16_code
abbrev wX7_leaveSet : List Cond := Cond.code yX7_leaveSet cX7_leaveSet 5 none :: wtbl
abbrev yX7_notified : MethodName := { cls := "MonitorWaysModel", name := "notified", desc := "(I)V" }
abbrev cX7_notified : ByteArray := prog_9_method_17_code
abbrev wX7_notified : List Cond := Cond.code yX7_notified cX7_notified 2 none :: wtbl
abbrev yX7_waitOn : MethodName := { cls := "MonitorWaysModel", name := "waitOn", desc := "(II)V" }
abbrev cX7_waitOn : ByteArray := prog_9_method_18_code
abbrev wX7_waitOn : List Cond := Cond.code yX7_waitOn cX7_waitOn 3 none :: wtbl
abbrev yX7_monitorAction : MethodName := { cls := "MonitorWaysModel", name := "monitorAction", desc := "(IIII)V" }
abbrev cX7_monitorAction : ByteArray := prog_9_method_19_code
abbrev wX7_monitorAction : List Cond := Cond.code yX7_monitorAction cX7_monitorAction 5 none :: wtbl
abbrev yX7_brokenOr : MethodName := { cls := "MonitorWaysModel", name := "brokenOr", desc := "(IZ)V" }
abbrev cX7_brokenOr : ByteArray := prog_9_method_20_code
abbrev wX7_brokenOr : List Cond := Cond.code yX7_brokenOr cX7_brokenOr 3 none :: wtbl
abbrev yX7_otherAction : MethodName := { cls := "MonitorWaysModel", name := "otherAction", desc := "(III)V" }
abbrev cX7_otherAction : ByteArray := prog_9_method_21_code
abbrev wX7_otherAction : List Cond := Cond.code yX7_otherAction cX7_otherAction 4 none :: wtbl
abbrev yX7_unpark : MethodName := { cls := "MonitorWaysModel", name := "unpark", desc := "(I)V" }
abbrev cX7_unpark : ByteArray := prog_9_method_22_code
abbrev wX7_unpark : List Cond := Cond.code yX7_unpark cX7_unpark 2 none :: wtbl
abbrev yX7_doAction : MethodName := { cls := "MonitorWaysModel", name := "doAction", desc := "(II)V" }
abbrev cX7_doAction : ByteArray := prog_9_method_23_code
abbrev wX7_doAction : List Cond := Cond.code yX7_doAction cX7_doAction 5 none :: wtbl
abbrev yX7_perform : MethodName := { cls := "MonitorWaysModel", name := "perform", desc := "(II)V" }
abbrev cX7_perform : ByteArray := prog_9_method_24_code
abbrev wX7_perform : List Cond := Cond.code yX7_perform cX7_perform 4 none :: wtbl
abbrev yX7_act : MethodName := { cls := "MonitorWaysModel", name := "act", desc := "(III)I" }
abbrev cX7_act : ByteArray := prog_9_method_25_code
abbrev wX7_act : List Cond := Cond.code yX7_act cX7_act 5 (some (.int)) :: wtbl
abbrev yX7_forget : MethodName := { cls := "MonitorWaysModel", name := "forget", desc := "()V" }
abbrev cX7_forget : ByteArray := prog_9_method_26_code
abbrev wX7_forget : List Cond := Cond.code yX7_forget cX7_forget 2 none :: wtbl
abbrev yX7_choose : MethodName := { cls := "MonitorWaysModel", name := "choose", desc := "(II)I" }
abbrev cX7_choose : ByteArray := prog_9_method_27_code
abbrev wX7_choose : List Cond := Cond.code yX7_choose cX7_choose 3 (some (.int)) :: wtbl
abbrev yX7_allowed : MethodName := { cls := "MonitorWaysModel", name := "allowed", desc := "(II)Z" }
abbrev cX7_allowed : ByteArray := prog_9_method_28_code
abbrev wX7_allowed : List Cond := Cond.code yX7_allowed cX7_allowed 3 (some (.boolean)) :: wtbl
abbrev yX7_reset : MethodName := { cls := "MonitorWaysModel", name := "reset", desc := "()I" }
abbrev cX7_reset : ByteArray := prog_9_method_29_code
abbrev wX7_reset : List Cond := Cond.code yX7_reset cX7_reset 2 (some (.int)) :: wtbl
abbrev yX7_state : MethodName := { cls := "MonitorWaysModel", name := "state", desc := "(I)I" }
abbrev cX7_state : ByteArray := prog_9_method_30_code
abbrev wX7_state : List Cond := Cond.code yX7_state cX7_state 2 (some (.int)) :: wtbl
abbrev yX7_letter : MethodName := { cls := "MonitorWaysModel", name := "letter", desc := "(II)I" }
abbrev cX7_letter : ByteArray := prog_9_method_31_code
abbrev wX7_letter : List Cond := Cond.code yX7_letter cX7_letter 6 (some (.int)) :: wtbl
abbrev yX7_owner : MethodName := { cls := "MonitorWaysModel", name := "owner", desc := "(I)I" }
abbrev cX7_owner : ByteArray := prog_9_method_32_code
abbrev wX7_owner : List Cond := Cond.code yX7_owner cX7_owner 2 (some (.int)) :: wtbl
abbrev yX7_held : MethodName := { cls := "MonitorWaysModel", name := "held", desc := "(I)I" }
abbrev cX7_held : ByteArray := prog_9_method_33_code
abbrev wX7_held : List Cond := Cond.code yX7_held cX7_held 2 (some (.int)) :: wtbl
abbrev yX7_inSet : MethodName := { cls := "MonitorWaysModel", name := "inSet", desc := "(II)I" }
abbrev cX7_inSet : ByteArray := prog_9_method_34_code
abbrev wX7_inSet : List Cond := Cond.code yX7_inSet cX7_inSet 3 (some (.int)) :: wtbl
abbrev yX7_meet : MethodName := { cls := "MonitorWaysModel", name := "meet", desc := "()V" }
abbrev cX7_meet : ByteArray := prog_9_method_35_code
abbrev wX7_meet : List Cond := Cond.code yX7_meet cX7_meet 4 none :: wtbl
abbrev yX7_noteFinal : MethodName := { cls := "MonitorWaysModel", name := "noteFinal", desc := "()V" }
abbrev cX7_noteFinal : ByteArray := prog_9_method_36_code
abbrev wX7_noteFinal : List Cond := Cond.code yX7_noteFinal cX7_noteFinal 8 none :: wtbl
abbrev yX7_goOn : MethodName := { cls := "MonitorWaysModel", name := "goOn", desc := "(I)V" }
abbrev cX7_goOn : ByteArray := prog_9_method_37_code
abbrev wX7_goOn : List Cond := Cond.code yX7_goOn cX7_goOn 4 none :: wtbl
abbrev yX7_explore : MethodName := { cls := "MonitorWaysModel", name := "explore", desc := "()I" }
abbrev cX7_explore : ByteArray := prog_9_method_38_code
abbrev wX7_explore : List Cond := Cond.code yX7_explore cX7_explore 2 (some (.int)) :: wtbl
abbrev yX7_outcome : MethodName := { cls := "MonitorWaysModel", name := "outcome", desc := "(I)J" }
abbrev cX7_outcome : ByteArray := prog_9_method_39_code
abbrev wX7_outcome : List Cond := Cond.code yX7_outcome cX7_outcome 2 (some (.long)) :: wtbl
abbrev yX7_mayBlock : MethodName := { cls := "MonitorWaysModel", name := "mayBlock", desc := "(I)Z" }
abbrev cX7_mayBlock : ByteArray := prog_9_method_40_code
abbrev wX7_mayBlock : List Cond := Cond.code yX7_mayBlock cX7_mayBlock 2 (some (.boolean)) :: wtbl
abbrev yX7_count : MethodName := { cls := "MonitorWaysModel", name := "count", desc := "(I)I" }
abbrev cX7_count : ByteArray := prog_9_method_41_code
abbrev wX7_count : List Cond := Cond.code yX7_count cX7_count 2 (some (.int)) :: wtbl
abbrev yX0_init : MethodName := { cls := "MonitorWays$Machine", name := "<init>", desc := "([LMonitorWays$Program;Z)V" }
abbrev cX0_init : ByteArray := prog_2_method_1_code
abbrev wX0_init : List Cond := Cond.code yX0_init cX0_init 4 none :: wtbl
abbrev yX0_begin : MethodName := { cls := "MonitorWays$Machine", name := "begin", desc := "()V" }
abbrev cX0_begin : ByteArray := prog_2_method_2_code
abbrev wX0_begin : List Cond := Cond.code yX0_begin cX0_begin 2 none :: wtbl
abbrev yX0_allows : MethodName := { cls := "MonitorWays$Machine", name := "allows", desc := "(II)Z" }
abbrev cX0_allows : ByteArray := prog_2_method_3_code
abbrev wX0_allows : List Cond := Cond.code yX0_allows cX0_allows 4 (some (.boolean)) :: wtbl
abbrev yX0_monitorUseAllows : MethodName := { cls := "MonitorWays$Machine", name := "monitorUseAllows", desc := "(II)Z" }
abbrev cX0_monitorUseAllows : ByteArray := prog_2_method_4_code
abbrev wX0_monitorUseAllows : List Cond := Cond.code yX0_monitorUseAllows cX0_monitorUseAllows 6 (some (.boolean)) :: wtbl
abbrev yX0_plainActionAllows : MethodName := { cls := "MonitorWays$Machine", name := "plainActionAllows", desc := "(LMonitorWays$Worker;I)Z" }
abbrev cX0_plainActionAllows : ByteArray := prog_2_method_5_code
abbrev wX0_plainActionAllows : List Cond := Cond.code yX0_plainActionAllows cX0_plainActionAllows 3 (some (.boolean)) :: wtbl
abbrev yX0_waitingAllows : MethodName := { cls := "MonitorWays$Machine", name := "waitingAllows", desc := "(LMonitorWays$Worker;I)Z" }
abbrev cX0_waitingAllows : ByteArray := prog_2_method_6_code
abbrev wX0_waitingAllows : List Cond := Cond.code yX0_waitingAllows cX0_waitingAllows 3 (some (.boolean)) :: wtbl
abbrev yX0_mayStray : MethodName := { cls := "MonitorWays$Machine", name := "mayStray", desc := "(LMonitorWays$Worker;)Z" }
abbrev cX0_mayStray : ByteArray := prog_2_method_7_code
abbrev wX0_mayStray : List Cond := Cond.code yX0_mayStray cX0_mayStray 2 (some (.boolean)) :: wtbl
abbrev yX0_take : MethodName := { cls := "MonitorWays$Machine", name := "take", desc := "(II)V" }
abbrev cX0_take : ByteArray := prog_2_method_8_code
abbrev wX0_take : List Cond := Cond.code yX0_take cX0_take 4 none :: wtbl
abbrev yX0_useMonitor : MethodName := { cls := "MonitorWays$Machine", name := "useMonitor", desc := "(II)V" }
abbrev cX0_useMonitor : ByteArray := prog_2_method_9_code
abbrev wX0_useMonitor : List Cond := Cond.code yX0_useMonitor cX0_useMonitor 7 none :: wtbl
abbrev yX0_goIntoSet : MethodName := { cls := "MonitorWays$Machine", name := "goIntoSet", desc := "(ILMonitorWays$Monitor;)V" }
abbrev cX0_goIntoSet : ByteArray := prog_2_method_10_code
abbrev wX0_goIntoSet : List Cond := Cond.code yX0_goIntoSet cX0_goIntoSet 3 none :: wtbl
abbrev yX0_notifyWaiter : MethodName := { cls := "MonitorWays$Machine", name := "notifyWaiter", desc := "(LMonitorWays$Monitor;I)V" }
abbrev cX0_notifyWaiter : ByteArray := prog_2_method_11_code
abbrev wX0_notifyWaiter : List Cond := Cond.code yX0_notifyWaiter cX0_notifyWaiter 4 none :: wtbl
abbrev yX0_leaveSetAlone : MethodName := { cls := "MonitorWays$Machine", name := "leaveSetAlone", desc := "(II)V" }
abbrev cX0_leaveSetAlone : ByteArray := prog_2_method_12_code
abbrev wX0_leaveSetAlone : List Cond := Cond.code yX0_leaveSetAlone cX0_leaveSetAlone 4 none :: wtbl
abbrev yX0_comeBack : MethodName := { cls := "MonitorWays$Machine", name := "comeBack", desc := "(I)V" }
abbrev cX0_comeBack : ByteArray := prog_2_method_13_code
abbrev wX0_comeBack : List Cond := Cond.code yX0_comeBack cX0_comeBack 3 none :: wtbl
abbrev yX0_stopParking : MethodName := { cls := "MonitorWays$Machine", name := "stopParking", desc := "(LMonitorWays$Worker;I)V" }
abbrev cX0_stopParking : ByteArray := prog_2_method_14_code
abbrev wX0_stopParking : List Cond := Cond.code yX0_stopParking cX0_stopParking 3 none :: wtbl
abbrev yX0_doPlainAction : MethodName := { cls := "MonitorWays$Machine", name := "doPlainAction", desc := "(LMonitorWays$Worker;)V" }
abbrev cX0_doPlainAction : ByteArray := prog_2_method_15_code
abbrev wX0_doPlainAction : List Cond := Cond.code yX0_doPlainAction cX0_doPlainAction 2 none :: wtbl
abbrev yX0_interrupt : MethodName := { cls := "MonitorWays$Machine", name := "interrupt", desc := "(LMonitorWays$Worker;)V" }
abbrev cX0_interrupt : ByteArray := prog_2_method_16_code
abbrev wX0_interrupt : List Cond := Cond.code yX0_interrupt cX0_interrupt 2 none :: wtbl
abbrev yX0_unpark : MethodName := { cls := "MonitorWays$Machine", name := "unpark", desc := "(LMonitorWays$Worker;)V" }
abbrev cX0_unpark : ByteArray := prog_2_method_17_code
abbrev wX0_unpark : List Cond := Cond.code yX0_unpark cX0_unpark 2 none :: wtbl
abbrev yX0_monitorOf : MethodName := { cls := "MonitorWays$Machine", name := "monitorOf", desc := "(LMonitorWays$Worker;)LMonitorWays$Monitor;" }
abbrev cX0_monitorOf : ByteArray := prog_2_method_18_code
abbrev wX0_monitorOf : List Cond := Cond.code yX0_monitorOf cX0_monitorOf 2 (some ((.object "MonitorWays$Monitor"))) :: wtbl
abbrev yX0_hasEnded : MethodName := { cls := "MonitorWays$Machine", name := "hasEnded", desc := "(I)Z" }
abbrev cX0_hasEnded : ByteArray := prog_2_method_19_code
abbrev wX0_hasEnded : List Cond := Cond.code yX0_hasEnded cX0_hasEnded 2 (some (.boolean)) :: wtbl
abbrev yX0_outcomeNumber : MethodName := { cls := "MonitorWays$Machine", name := "outcomeNumber", desc := "()J" }
abbrev cX0_outcomeNumber : ByteArray := prog_2_method_20_code
abbrev wX0_outcomeNumber : List Cond := Cond.code yX0_outcomeNumber cX0_outcomeNumber 4 (some (.long)) :: wtbl
abbrev yX0_wordOf : MethodName := { cls := "MonitorWays$Machine", name := "wordOf", desc := "(I)J" }
abbrev cX0_wordOf : ByteArray := prog_2_method_21_code
abbrev wX0_wordOf : List Cond := Cond.code yX0_wordOf cX0_wordOf 4 (some (.long)) :: wtbl
abbrev yX0_unpackWord : MethodName := { cls := "MonitorWays$Machine", name := "unpackWord", desc := "(IJ)V" }
abbrev cX0_unpackWord : ByteArray := prog_2_method_22_code
abbrev wX0_unpackWord : List Cond := Cond.code yX0_unpackWord cX0_unpackWord 4 none :: wtbl
abbrev yX1_init : MethodName := { cls := "MonitorWays$Monitor", name := "<init>", desc := "()V" }
abbrev cX1_init : ByteArray := prog_3_method_1_code
abbrev wX1_init : List Cond := Cond.code yX1_init cX1_init 1 none :: wtbl
abbrev yX1_begin : MethodName := { cls := "MonitorWays$Monitor", name := "begin", desc := "()V" }
abbrev cX1_begin : ByteArray := prog_3_method_2_code
abbrev wX1_begin : List Cond := Cond.code yX1_begin cX1_begin 1 none :: wtbl
abbrev yX1_isFree : MethodName := { cls := "MonitorWays$Monitor", name := "isFree", desc := "()Z" }
abbrev cX1_isFree : ByteArray := prog_3_method_3_code
abbrev wX1_isFree : List Cond := Cond.code yX1_isFree cX1_isFree 1 (some (.boolean)) :: wtbl
abbrev yX1_setFree : MethodName := { cls := "MonitorWays$Monitor", name := "setFree", desc := "()V" }
abbrev cX1_setFree : ByteArray := prog_3_method_4_code
abbrev wX1_setFree : List Cond := Cond.code yX1_setFree cX1_setFree 1 none :: wtbl
abbrev yX1_own : MethodName := { cls := "MonitorWays$Monitor", name := "own", desc := "(II)V" }
abbrev cX1_own : ByteArray := prog_3_method_5_code
abbrev wX1_own : List Cond := Cond.code yX1_own cX1_own 3 none :: wtbl
abbrev yX1_leaveOnce : MethodName := { cls := "MonitorWays$Monitor", name := "leaveOnce", desc := "()V" }
abbrev cX1_leaveOnce : ByteArray := prog_3_method_6_code
abbrev wX1_leaveOnce : List Cond := Cond.code yX1_leaveOnce cX1_leaveOnce 1 none :: wtbl
abbrev yX1_waiterAt : MethodName := { cls := "MonitorWays$Monitor", name := "waiterAt", desc := "(I)I" }
abbrev cX1_waiterAt : ByteArray := prog_3_method_7_code
abbrev wX1_waiterAt : List Cond := Cond.code yX1_waiterAt cX1_waiterAt 2 (some (.int)) :: wtbl
abbrev yX1_addWaiter : MethodName := { cls := "MonitorWays$Monitor", name := "addWaiter", desc := "(I)V" }
abbrev cX1_addWaiter : ByteArray := prog_3_method_8_code
abbrev wX1_addWaiter : List Cond := Cond.code yX1_addWaiter cX1_addWaiter 2 none :: wtbl
abbrev yX1_dropWaiter : MethodName := { cls := "MonitorWays$Monitor", name := "dropWaiter", desc := "(I)V" }
abbrev cX1_dropWaiter : ByteArray := prog_3_method_9_code
abbrev wX1_dropWaiter : List Cond := Cond.code yX1_dropWaiter cX1_dropWaiter 4 none :: wtbl
abbrev yX1_packed : MethodName := { cls := "MonitorWays$Monitor", name := "packed", desc := "()J" }
abbrev cX1_packed : ByteArray := prog_3_method_10_code
abbrev wX1_packed : List Cond := Cond.code yX1_packed cX1_packed 3 (some (.long)) :: wtbl
abbrev yX1_unpack : MethodName := { cls := "MonitorWays$Monitor", name := "unpack", desc := "(J)V" }
abbrev cX1_unpack : ByteArray := prog_3_method_11_code
abbrev wX1_unpack : List Cond := Cond.code yX1_unpack cX1_unpack 5 none :: wtbl
abbrev yX2_init : MethodName := { cls := "MonitorWays$Program", name := "<init>", desc := "()V" }
abbrev cX2_init : ByteArray := prog_4_method_1_code
abbrev wX2_init : List Cond := Cond.code yX2_init cX2_init 1 none :: wtbl
abbrev yX2_add : MethodName := { cls := "MonitorWays$Program", name := "add", desc := "(II)V" }
abbrev cX2_add : ByteArray := prog_4_method_2_code
abbrev wX2_add : List Cond := Cond.code yX2_add cX2_add 3 none :: wtbl
abbrev yX3_init : MethodName := { cls := "MonitorWays$Search", name := "<init>", desc := "(LMonitorWays$Machine;)V" }
abbrev cX3_init : ByteArray := prog_5_method_1_code
abbrev wX3_init : List Cond := Cond.code yX3_init cX3_init 2 none :: wtbl
abbrev yX3_forget : MethodName := { cls := "MonitorWays$Search", name := "forget", desc := "()V" }
abbrev cX3_forget : ByteArray := prog_5_method_2_code
abbrev wX3_forget : List Cond := Cond.code yX3_forget cX3_forget 2 none :: wtbl
abbrev yX3_goThrough : MethodName := { cls := "MonitorWays$Search", name := "goThrough", desc := "()V" }
abbrev cX3_goThrough : ByteArray := prog_5_method_3_code
abbrev wX3_goThrough : List Cond := Cond.code yX3_goThrough cX3_goThrough 3 none :: wtbl
abbrev yX3_visit : MethodName := { cls := "MonitorWays$Search", name := "visit", desc := "(I)Z" }
abbrev cX3_visit : ByteArray := prog_5_method_4_code
abbrev wX3_visit : List Cond := Cond.code yX3_visit cX3_visit 5 (some (.boolean)) :: wtbl
abbrev yX3_noteFinal : MethodName := { cls := "MonitorWays$Search", name := "noteFinal", desc := "()V" }
abbrev cX3_noteFinal : ByteArray := prog_5_method_5_code
abbrev wX3_noteFinal : List Cond := Cond.code yX3_noteFinal cX3_noteFinal 3 none :: wtbl
abbrev yX3_noteOutcome : MethodName := { cls := "MonitorWays$Search", name := "noteOutcome", desc := "(J)V" }
abbrev cX3_noteOutcome : ByteArray := prog_5_method_6_code
abbrev wX3_noteOutcome : List Cond := Cond.code yX3_noteOutcome cX3_noteOutcome 4 none :: wtbl
abbrev yX3_lessThan : MethodName := { cls := "MonitorWays$Search", name := "lessThan", desc := "(J)I" }
abbrev cX3_lessThan : ByteArray := prog_5_method_7_code
abbrev wX3_lessThan : List Cond := Cond.code yX3_lessThan cX3_lessThan 7 (some (.int)) :: wtbl
abbrev yX3_outcomeAt : MethodName := { cls := "MonitorWays$Search", name := "outcomeAt", desc := "(I)J" }
abbrev cX3_outcomeAt : ByteArray := prog_5_method_8_code
abbrev wX3_outcomeAt : List Cond := Cond.code yX3_outcomeAt cX3_outcomeAt 2 (some (.long)) :: wtbl
abbrev yX4_init : MethodName := { cls := "MonitorWays$States", name := "<init>", desc := "()V" }
abbrev cX4_init : ByteArray := prog_6_method_1_code
abbrev wX4_init : List Cond := Cond.code yX4_init cX4_init 1 none :: wtbl
abbrev yX4_clear : MethodName := { cls := "MonitorWays$States", name := "clear", desc := "()V" }
abbrev cX4_clear : ByteArray := prog_6_method_2_code
abbrev wX4_clear : List Cond := Cond.code yX4_clear cX4_clear 1 none :: wtbl
abbrev yX4_size : MethodName := { cls := "MonitorWays$States", name := "size", desc := "()I" }
abbrev cX4_size : ByteArray := prog_6_method_3_code
abbrev wX4_size : List Cond := Cond.code yX4_size cX4_size 1 (some (.int)) :: wtbl
abbrev yX4_keep : MethodName := { cls := "MonitorWays$States", name := "keep", desc := "(LMonitorWays$Machine;)Z" }
abbrev cX4_keep : ByteArray := prog_6_method_4_code
abbrev wX4_keep : List Cond := Cond.code yX4_keep cX4_keep 3 (some (.boolean)) :: wtbl
abbrev yX4_restore : MethodName := { cls := "MonitorWays$States", name := "restore", desc := "(ILMonitorWays$Machine;)V" }
abbrev cX4_restore : ByteArray := prog_6_method_5_code
abbrev wX4_restore : List Cond := Cond.code yX4_restore cX4_restore 4 none :: wtbl
abbrev yX4_roomIn : MethodName := { cls := "MonitorWays$States", name := "roomIn", desc := "(I)I" }
abbrev cX4_roomIn : ByteArray := prog_6_method_6_code
abbrev wX4_roomIn : List Cond := Cond.code yX4_roomIn cX4_roomIn 1 (some (.int)) :: wtbl
abbrev yX4_grow : MethodName := { cls := "MonitorWays$States", name := "grow", desc := "()V" }
abbrev cX4_grow : ByteArray := prog_6_method_7_code
abbrev wX4_grow : List Cond := Cond.code yX4_grow cX4_grow 2 none :: wtbl
abbrev yX4_slotOf : MethodName := { cls := "MonitorWays$States", name := "slotOf", desc := "(I)I" }
abbrev cX4_slotOf : ByteArray := prog_6_method_8_code
abbrev wX4_slotOf : List Cond := Cond.code yX4_slotOf cX4_slotOf 5 (some (.int)) :: wtbl
abbrev yX4_hashOf : MethodName := { cls := "MonitorWays$States", name := "hashOf", desc := "(I)I" }
abbrev cX4_hashOf : ByteArray := prog_6_method_9_code
abbrev wX4_hashOf : List Cond := Cond.code yX4_hashOf cX4_hashOf 5 (some (.int)) :: wtbl
abbrev yX4_areSame : MethodName := { cls := "MonitorWays$States", name := "areSame", desc := "(II)Z" }
abbrev cX4_areSame : ByteArray := prog_6_method_10_code
abbrev wX4_areSame : List Cond := Cond.code yX4_areSame cX4_areSame 4 (some (.boolean)) :: wtbl
abbrev yX5_init : MethodName := { cls := "MonitorWays$Worker", name := "<init>", desc := "(LMonitorWays$Program;)V" }
abbrev cX5_init : ByteArray := prog_7_method_1_code
abbrev wX5_init : List Cond := Cond.code yX5_init cX5_init 2 none :: wtbl
abbrev yX5_begin : MethodName := { cls := "MonitorWays$Worker", name := "begin", desc := "()V" }
abbrev cX5_begin : ByteArray := prog_7_method_2_code
abbrev wX5_begin : List Cond := Cond.code yX5_begin cX5_begin 1 none :: wtbl
abbrev yX5_runOn : MethodName := { cls := "MonitorWays$Worker", name := "runOn", desc := "()V" }
abbrev cX5_runOn : ByteArray := prog_7_method_3_code
abbrev wX5_runOn : List Cond := Cond.code yX5_runOn cX5_runOn 1 none :: wtbl
abbrev yX5_action : MethodName := { cls := "MonitorWays$Worker", name := "action", desc := "()I" }
abbrev cX5_action : ByteArray := prog_7_method_4_code
abbrev wX5_action : List Cond := Cond.code yX5_action cX5_action 1 (some (.int)) :: wtbl
abbrev yX5_operand : MethodName := { cls := "MonitorWays$Worker", name := "operand", desc := "()I" }
abbrev cX5_operand : ByteArray := prog_7_method_5_code
abbrev wX5_operand : List Cond := Cond.code yX5_operand cX5_operand 1 (some (.int)) :: wtbl
abbrev yX5_put : MethodName := { cls := "MonitorWays$Worker", name := "put", desc := "(I)V" }
abbrev cX5_put : ByteArray := prog_7_method_6_code
abbrev wX5_put : List Cond := Cond.code yX5_put cX5_put 2 none :: wtbl
abbrev yX5_takeInterrupt : MethodName := { cls := "MonitorWays$Worker", name := "takeInterrupt", desc := "()Z" }
abbrev cX5_takeInterrupt : ByteArray := prog_7_method_7_code
abbrev wX5_takeInterrupt : List Cond := Cond.code yX5_takeInterrupt cX5_takeInterrupt 2 (some (.boolean)) :: wtbl
abbrev yX5_stateNumber : MethodName := { cls := "MonitorWays$Worker", name := "stateNumber", desc := "()I" }
abbrev cX5_stateNumber : ByteArray := prog_7_method_8_code
abbrev wX5_stateNumber : List Cond := Cond.code yX5_stateNumber cX5_stateNumber 1 (some (.int)) :: wtbl
abbrev yX5_letterAt : MethodName := { cls := "MonitorWays$Worker", name := "letterAt", desc := "(I)I" }
abbrev cX5_letterAt : ByteArray := prog_7_method_9_code
abbrev wX5_letterAt : List Cond := Cond.code yX5_letterAt cX5_letterAt 5 (some (.int)) :: wtbl
abbrev yX5_letterCount : MethodName := { cls := "MonitorWays$Worker", name := "letterCount", desc := "()I" }
abbrev cX5_letterCount : ByteArray := prog_7_method_10_code
abbrev wX5_letterCount : List Cond := Cond.code yX5_letterCount cX5_letterCount 3 (some (.int)) :: wtbl
abbrev yX5_outcomePart : MethodName := { cls := "MonitorWays$Worker", name := "outcomePart", desc := "()J" }
abbrev cX5_outcomePart : ByteArray := prog_7_method_11_code
abbrev wX5_outcomePart : List Cond := Cond.code yX5_outcomePart cX5_outcomePart 1 (some (.long)) :: wtbl
abbrev yX5_packed : MethodName := { cls := "MonitorWays$Worker", name := "packed", desc := "()J" }
abbrev cX5_packed : ByteArray := prog_7_method_12_code
abbrev wX5_packed : List Cond := Cond.code yX5_packed cX5_packed 3 (some (.long)) :: wtbl
abbrev yX5_unpack : MethodName := { cls := "MonitorWays$Worker", name := "unpack", desc := "(J)V" }
abbrev cX5_unpack : ByteArray := prog_7_method_13_code
abbrev wX5_unpack : List Cond := Cond.code yX5_unpack cX5_unpack 5 none :: wtbl
abbrev yL_cell : MethodName := { cls := "MonitorWaysLaw", name := "cell", desc := "([II)I" }
abbrev cL_cell : ByteArray := method_2_code
abbrev wL_cell : List Cond := Cond.code yL_cell cL_cell 2 (some (.int)) :: wtbl
abbrev yL_law : MethodName := { cls := "MonitorWaysLaw", name := "law", desc := "([I)Z" }
abbrev cL_law : ByteArray := code
end
section
theorem tw_0 : Cond.initialized "MonitorWaysLaw" ∈ wtbl := tin_1 (List.mem_of_getElem? (i := 0) (by decide +kernel)) (by decide +kernel)
theorem tw_1 : Cond.initialized "MonitorWays" ∈ wtbl := tin_1 (List.mem_of_getElem? (i := 1) (by decide +kernel)) (by decide +kernel)
theorem tw_2 : Cond.initialized "MonitorWays$Program" ∈ wtbl := tin_1 (List.mem_of_getElem? (i := 2) (by decide +kernel)) (by decide +kernel)
theorem tw_3 : Cond.initialized "MonitorWays$Machine" ∈ wtbl := tin_1 (List.mem_of_getElem? (i := 3) (by decide +kernel)) (by decide +kernel)
theorem tw_4 : Cond.initialized "MonitorWays$Worker" ∈ wtbl := tin_1 (List.mem_of_getElem? (i := 4) (by decide +kernel)) (by decide +kernel)
theorem tw_5 : Cond.initialized "MonitorWays$Monitor" ∈ wtbl := tin_1 (List.mem_of_getElem? (i := 5) (by decide +kernel)) (by decide +kernel)
theorem tw_6 : Cond.initialized "MonitorWays$Search" ∈ wtbl := tin_1 (List.mem_of_getElem? (i := 6) (by decide +kernel)) (by decide +kernel)
theorem tw_7 : Cond.initialized "MonitorWays$States" ∈ wtbl := tin_1 (List.mem_of_getElem? (i := 7) (by decide +kernel)) (by decide +kernel)
theorem tw_8 : Cond.initialized "MonitorWaysModel" ∈ wtbl := tin_1 (List.mem_of_getElem? (i := 8) (by decide +kernel)) (by decide +kernel)
theorem tw_9 : Cond.initialized "java/util/Arrays" ∈ wtbl := tin_1 (List.mem_of_getElem? (i := 9) (by decide +kernel)) (by decide +kernel)
theorem tw_10 : Cond.initialized "java/lang/Math" ∈ wtbl := tin_1 (List.mem_of_getElem? (i := 10) (by decide +kernel)) (by decide +kernel)
theorem tw_11 : Cond.initialized "java/lang/System" ∈ wtbl := tin_1 (List.mem_of_getElem? (i := 11) (by decide +kernel)) (by decide +kernel)
theorem tw_12 : Cond.classLink "MonitorWaysLaw" (7 : Nat) "MonitorWays" ∈ wtbl := tin_1 (List.mem_of_getElem? (i := 12) (by decide +kernel)) (by decide +kernel)
theorem tw_13 : Cond.instantiable "MonitorWays" (4 : Nat) ∈ wtbl := tin_1 (List.mem_of_getElem? (i := 13) (by decide +kernel)) (by decide +kernel)
theorem tw_14 : Cond.methodLink "MonitorWaysLaw" (15 : Nat) ({ cls := "MonitorWays", name := "<init>", desc := "(I)V" } : Jvm.MethodName) ∈ wtbl := tin_1 (List.mem_of_getElem? (i := 14) (by decide +kernel)) (by decide +kernel)
theorem tw_15 : Cond.instanceMethod ({ cls := "MonitorWays", name := "<init>", desc := "(I)V" } : Jvm.MethodName) ∈ wtbl := tin_1 (List.mem_of_getElem? (i := 15) (by decide +kernel)) (by decide +kernel)
theorem tw_16 : Cond.code ({ cls := "MonitorWays", name := "<init>", desc := "(I)V" } : Jvm.MethodName) prog_1_method_1_code (4 : Nat) (Option.none : Option Jvm.ClassFile.FieldType) ∈ wtbl := tin_1 (List.mem_of_getElem? (i := 16) (by decide +kernel)) (by decide +kernel)
theorem tw_17 : Cond.methodLink "MonitorWays" (1 : Nat) ({ cls := "java/lang/Object", name := "<init>", desc := "()V" } : Jvm.MethodName) ∈ wtbl := tin_1 (List.mem_of_getElem? (i := 17) (by decide +kernel)) (by decide +kernel)
theorem tw_18 : Cond.instanceMethod ({ cls := "java/lang/Object", name := "<init>", desc := "()V" } : Jvm.MethodName) ∈ wtbl := tin_1 (List.mem_of_getElem? (i := 18) (by decide +kernel)) (by decide +kernel)
theorem tw_19 : Cond.code ({ cls := "java/lang/Object", name := "<init>", desc := "()V" } : Jvm.MethodName) object_method_1_code (1 : Nat) (Option.none : Option Jvm.ClassFile.FieldType) ∈ wtbl := tin_1 (List.mem_of_getElem? (i := 19) (by decide +kernel)) (by decide +kernel)
theorem tw_20 : Cond.classLink "MonitorWays" (9 : Nat) "MonitorWays$Program" ∈ wtbl := tin_1 (List.mem_of_getElem? (i := 20) (by decide +kernel)) (by decide +kernel)
theorem tw_22 : Cond.instantiable "MonitorWays$Program" (3 : Nat) ∈ wtbl := tin_1 (List.mem_of_getElem? (i := 22) (by decide +kernel)) (by decide +kernel)
theorem tw_23 : Cond.methodLink "MonitorWays" (11 : Nat) ({ cls := "MonitorWays$Program", name := "<init>", desc := "()V" } : Jvm.MethodName) ∈ wtbl := tin_1 (List.mem_of_getElem? (i := 23) (by decide +kernel)) (by decide +kernel)
theorem tw_24 : Cond.instanceMethod ({ cls := "MonitorWays$Program", name := "<init>", desc := "()V" } : Jvm.MethodName) ∈ wtbl := tin_1 (List.mem_of_getElem? (i := 24) (by decide +kernel)) (by decide +kernel)
theorem tw_25 : Cond.code ({ cls := "MonitorWays$Program", name := "<init>", desc := "()V" } : Jvm.MethodName) prog_4_method_1_code (1 : Nat) (Option.none : Option Jvm.ClassFile.FieldType) ∈ wtbl := tin_1 (List.mem_of_getElem? (i := 25) (by decide +kernel)) (by decide +kernel)
theorem tw_26 : Cond.methodLink "MonitorWays$Program" (3 : Nat) ({ cls := "java/lang/Object", name := "<init>", desc := "()V" } : Jvm.MethodName) ∈ wtbl := tin_1 (List.mem_of_getElem? (i := 26) (by decide +kernel)) (by decide +kernel)
theorem tw_27 : Cond.fieldLink "MonitorWays$Program" (9 : Nat) "MonitorWays$Program" "actions" "[I" ∈ wtbl := tin_1 (List.mem_of_getElem? (i := 27) (by decide +kernel)) (by decide +kernel)
theorem tw_28 : Cond.fieldLink "MonitorWays$Worker" (43 : Nat) "MonitorWays$Program" "actions" "[I" ∈ wtbl := tin_1 (List.mem_of_getElem? (i := 28) (by decide +kernel)) (by decide +kernel)
theorem tw_29 : Cond.fieldLink "MonitorWays$Program" (15 : Nat) "MonitorWays$Program" "operands" "[I" ∈ wtbl := tin_1 (List.mem_of_getElem? (i := 29) (by decide +kernel)) (by decide +kernel)
theorem tw_30 : Cond.fieldLink "MonitorWays$Worker" (47 : Nat) "MonitorWays$Program" "operands" "[I" ∈ wtbl := tin_1 (List.mem_of_getElem? (i := 30) (by decide +kernel)) (by decide +kernel)
theorem tw_31 : Cond.fieldLink "MonitorWays$Program" (18 : Nat) "MonitorWays$Program" "length" "I" ∈ wtbl := tin_1 (List.mem_of_getElem? (i := 31) (by decide +kernel)) (by decide +kernel)
theorem tw_32 : Cond.fieldLink "MonitorWays$Worker" (19 : Nat) "MonitorWays$Program" "length" "I" ∈ wtbl := tin_1 (List.mem_of_getElem? (i := 32) (by decide +kernel)) (by decide +kernel)
theorem tw_33 : Cond.fieldLink "MonitorWays" (42 : Nat) "MonitorWays$Program" "length" "I" ∈ wtbl := tin_1 (List.mem_of_getElem? (i := 33) (by decide +kernel)) (by decide +kernel)
theorem tw_34 : Cond.laysFinal "MonitorWays$Program" "MonitorWays$Program" "actions" "[I" ∈ wtbl := tin_1 (List.mem_of_getElem? (i := 34) (by decide +kernel)) (by decide +kernel)
theorem tw_35 : Cond.soleField "MonitorWays$Program" "actions" ∈ wtbl := tin_1 (List.mem_of_getElem? (i := 35) (by decide +kernel)) (by decide +kernel)
theorem tw_36 : Cond.laysFinal "MonitorWays$Program" "MonitorWays$Program" "operands" "[I" ∈ wtbl := tin_1 (List.mem_of_getElem? (i := 36) (by decide +kernel)) (by decide +kernel)
theorem tw_37 : Cond.soleField "MonitorWays$Program" "operands" ∈ wtbl := tin_1 (List.mem_of_getElem? (i := 37) (by decide +kernel)) (by decide +kernel)
theorem tw_38 : Cond.lays "MonitorWays$Program" "MonitorWays$Program" "length" "I" ∈ wtbl := tin_1 (List.mem_of_getElem? (i := 38) (by decide +kernel)) (by decide +kernel)
theorem tw_39 : Cond.soleField "MonitorWays$Program" "length" ∈ wtbl := tin_1 (List.mem_of_getElem? (i := 39) (by decide +kernel)) (by decide +kernel)
theorem tw_40 : Cond.superclass "MonitorWays$Program" "java/lang/Object" ∈ wtbl := tin_1 (List.mem_of_getElem? (i := 40) (by decide +kernel)) (by decide +kernel)
theorem tw_41 : Cond.arrayClass Jvm.ClassFile.FieldType.int ∈ wtbl := tin_1 (List.mem_of_getElem? (i := 41) (by decide +kernel)) (by decide +kernel)
theorem tw_42 : Cond.classLink "MonitorWays" (16 : Nat) "MonitorWays$Machine" ∈ wtbl := tin_1 (List.mem_of_getElem? (i := 42) (by decide +kernel)) (by decide +kernel)
theorem tw_43 : Cond.instantiable "MonitorWays$Machine" (3 : Nat) ∈ wtbl := tin_1 (List.mem_of_getElem? (i := 43) (by decide +kernel)) (by decide +kernel)
theorem tw_44 : Cond.methodLink "MonitorWays" (18 : Nat) ({ cls := "MonitorWays$Machine", name := "<init>", desc := "([LMonitorWays$Program;Z)V" } : Jvm.MethodName) ∈ wtbl := tin_1 (List.mem_of_getElem? (i := 44) (by decide +kernel)) (by decide +kernel)
theorem tw_45 : Cond.instanceMethod ({ cls := "MonitorWays$Machine", name := "<init>", desc := "([LMonitorWays$Program;Z)V" } : Jvm.MethodName) ∈ wtbl := tin_1 (List.mem_of_getElem? (i := 45) (by decide +kernel)) (by decide +kernel)
theorem tw_46 : Cond.code ({ cls := "MonitorWays$Machine", name := "<init>", desc := "([LMonitorWays$Program;Z)V" } : Jvm.MethodName) prog_2_method_1_code (4 : Nat) (Option.none : Option Jvm.ClassFile.FieldType) ∈ wtbl := tin_1 (List.mem_of_getElem? (i := 46) (by decide +kernel)) (by decide +kernel)
theorem tw_47 : Cond.methodLink "MonitorWays$Machine" (3 : Nat) ({ cls := "java/lang/Object", name := "<init>", desc := "()V" } : Jvm.MethodName) ∈ wtbl := tin_1 (List.mem_of_getElem? (i := 47) (by decide +kernel)) (by decide +kernel)
theorem tw_48 : Cond.classLink "MonitorWays$Machine" (9 : Nat) "MonitorWays$Worker" ∈ wtbl := tin_1 (List.mem_of_getElem? (i := 48) (by decide +kernel)) (by decide +kernel)
theorem tw_50 : Cond.classLink "MonitorWays$Machine" (17 : Nat) "MonitorWays$Monitor" ∈ wtbl := tin_1 (List.mem_of_getElem? (i := 50) (by decide +kernel)) (by decide +kernel)
theorem tw_52 : Cond.instantiable "MonitorWays$Worker" (8 : Nat) ∈ wtbl := tin_1 (List.mem_of_getElem? (i := 52) (by decide +kernel)) (by decide +kernel)
theorem tw_53 : Cond.methodLink "MonitorWays$Machine" (27 : Nat) ({ cls := "MonitorWays$Worker", name := "<init>", desc := "(LMonitorWays$Program;)V" } : Jvm.MethodName) ∈ wtbl := tin_1 (List.mem_of_getElem? (i := 53) (by decide +kernel)) (by decide +kernel)
theorem tw_54 : Cond.instanceMethod ({ cls := "MonitorWays$Worker", name := "<init>", desc := "(LMonitorWays$Program;)V" } : Jvm.MethodName) ∈ wtbl := tin_1 (List.mem_of_getElem? (i := 54) (by decide +kernel)) (by decide +kernel)
theorem tw_55 : Cond.code ({ cls := "MonitorWays$Worker", name := "<init>", desc := "(LMonitorWays$Program;)V" } : Jvm.MethodName) prog_7_method_1_code (2 : Nat) (Option.none : Option Jvm.ClassFile.FieldType) ∈ wtbl := tin_1 (List.mem_of_getElem? (i := 55) (by decide +kernel)) (by decide +kernel)
theorem tw_56 : Cond.methodLink "MonitorWays$Worker" (3 : Nat) ({ cls := "java/lang/Object", name := "<init>", desc := "()V" } : Jvm.MethodName) ∈ wtbl := tin_1 (List.mem_of_getElem? (i := 56) (by decide +kernel)) (by decide +kernel)
theorem tw_57 : Cond.fieldLink "MonitorWays$Worker" (24 : Nat) "MonitorWays$Worker" "status" "I" ∈ wtbl := tin_1 (List.mem_of_getElem? (i := 57) (by decide +kernel)) (by decide +kernel)
theorem tw_58 : Cond.fieldLink "MonitorWays$Machine" (36 : Nat) "MonitorWays$Worker" "status" "I" ∈ wtbl := tin_1 (List.mem_of_getElem? (i := 58) (by decide +kernel)) (by decide +kernel)
theorem tw_59 : Cond.fieldLink "MonitorWays$Worker" (15 : Nat) "MonitorWays$Worker" "place" "I" ∈ wtbl := tin_1 (List.mem_of_getElem? (i := 59) (by decide +kernel)) (by decide +kernel)
theorem tw_60 : Cond.fieldLink "MonitorWays$Worker" (27 : Nat) "MonitorWays$Worker" "kept" "I" ∈ wtbl := tin_1 (List.mem_of_getElem? (i := 60) (by decide +kernel)) (by decide +kernel)
theorem tw_61 : Cond.fieldLink "MonitorWays$Machine" (131 : Nat) "MonitorWays$Worker" "kept" "I" ∈ wtbl := tin_1 (List.mem_of_getElem? (i := 61) (by decide +kernel)) (by decide +kernel)
theorem tw_62 : Cond.fieldLink "MonitorWays$Worker" (30 : Nat) "MonitorWays$Worker" "interrupted" "Z" ∈ wtbl := tin_1 (List.mem_of_getElem? (i := 62) (by decide +kernel)) (by decide +kernel)
theorem tw_63 : Cond.fieldLink "MonitorWays$Machine" (63 : Nat) "MonitorWays$Worker" "interrupted" "Z" ∈ wtbl := tin_1 (List.mem_of_getElem? (i := 63) (by decide +kernel)) (by decide +kernel)
theorem tw_64 : Cond.fieldLink "MonitorWays$Worker" (34 : Nat) "MonitorWays$Worker" "permit" "Z" ∈ wtbl := tin_1 (List.mem_of_getElem? (i := 64) (by decide +kernel)) (by decide +kernel)
theorem tw_65 : Cond.fieldLink "MonitorWays$Machine" (150 : Nat) "MonitorWays$Worker" "permit" "Z" ∈ wtbl := tin_1 (List.mem_of_getElem? (i := 65) (by decide +kernel)) (by decide +kernel)
theorem tw_66 : Cond.fieldLink "MonitorWays$Worker" (37 : Nat) "MonitorWays$Worker" "strayed" "Z" ∈ wtbl := tin_1 (List.mem_of_getElem? (i := 66) (by decide +kernel)) (by decide +kernel)
theorem tw_67 : Cond.fieldLink "MonitorWays$Machine" (83 : Nat) "MonitorWays$Worker" "strayed" "Z" ∈ wtbl := tin_1 (List.mem_of_getElem? (i := 67) (by decide +kernel)) (by decide +kernel)
theorem tw_68 : Cond.fieldLink "MonitorWays$Worker" (9 : Nat) "MonitorWays$Worker" "program" "LMonitorWays$Program;" ∈ wtbl := tin_1 (List.mem_of_getElem? (i := 68) (by decide +kernel)) (by decide +kernel)
theorem tw_69 : Cond.fieldLink "MonitorWays$Worker" (40 : Nat) "MonitorWays$Worker" "result" "I" ∈ wtbl := tin_1 (List.mem_of_getElem? (i := 69) (by decide +kernel)) (by decide +kernel)
theorem tw_70 : Cond.lays "MonitorWays$Worker" "MonitorWays$Worker" "status" "I" ∈ wtbl := tin_1 (List.mem_of_getElem? (i := 70) (by decide +kernel)) (by decide +kernel)
theorem tw_71 : Cond.soleField "MonitorWays$Worker" "status" ∈ wtbl := tin_1 (List.mem_of_getElem? (i := 71) (by decide +kernel)) (by decide +kernel)
theorem tw_72 : Cond.lays "MonitorWays$Worker" "MonitorWays$Worker" "place" "I" ∈ wtbl := tin_1 (List.mem_of_getElem? (i := 72) (by decide +kernel)) (by decide +kernel)
theorem tw_73 : Cond.soleField "MonitorWays$Worker" "place" ∈ wtbl := tin_1 (List.mem_of_getElem? (i := 73) (by decide +kernel)) (by decide +kernel)
theorem tw_74 : Cond.lays "MonitorWays$Worker" "MonitorWays$Worker" "kept" "I" ∈ wtbl := tin_1 (List.mem_of_getElem? (i := 74) (by decide +kernel)) (by decide +kernel)
theorem tw_75 : Cond.soleField "MonitorWays$Worker" "kept" ∈ wtbl := tin_1 (List.mem_of_getElem? (i := 75) (by decide +kernel)) (by decide +kernel)
theorem tw_76 : Cond.lays "MonitorWays$Worker" "MonitorWays$Worker" "interrupted" "Z" ∈ wtbl := tin_1 (List.mem_of_getElem? (i := 76) (by decide +kernel)) (by decide +kernel)
theorem tw_77 : Cond.soleField "MonitorWays$Worker" "interrupted" ∈ wtbl := tin_1 (List.mem_of_getElem? (i := 77) (by decide +kernel)) (by decide +kernel)
theorem tw_78 : Cond.lays "MonitorWays$Worker" "MonitorWays$Worker" "permit" "Z" ∈ wtbl := tin_1 (List.mem_of_getElem? (i := 78) (by decide +kernel)) (by decide +kernel)
theorem tw_79 : Cond.soleField "MonitorWays$Worker" "permit" ∈ wtbl := tin_1 (List.mem_of_getElem? (i := 79) (by decide +kernel)) (by decide +kernel)
theorem tw_80 : Cond.lays "MonitorWays$Worker" "MonitorWays$Worker" "strayed" "Z" ∈ wtbl := tin_1 (List.mem_of_getElem? (i := 80) (by decide +kernel)) (by decide +kernel)
theorem tw_81 : Cond.soleField "MonitorWays$Worker" "strayed" ∈ wtbl := tin_1 (List.mem_of_getElem? (i := 81) (by decide +kernel)) (by decide +kernel)
theorem tw_82 : Cond.laysFinal "MonitorWays$Worker" "MonitorWays$Worker" "program" "LMonitorWays$Program;" ∈ wtbl := tin_1 (List.mem_of_getElem? (i := 82) (by decide +kernel)) (by decide +kernel)
theorem tw_83 : Cond.soleField "MonitorWays$Worker" "program" ∈ wtbl := tin_1 (List.mem_of_getElem? (i := 83) (by decide +kernel)) (by decide +kernel)
theorem tw_84 : Cond.lays "MonitorWays$Worker" "MonitorWays$Worker" "result" "I" ∈ wtbl := tin_1 (List.mem_of_getElem? (i := 84) (by decide +kernel)) (by decide +kernel)
theorem tw_85 : Cond.soleField "MonitorWays$Worker" "result" ∈ wtbl := tin_1 (List.mem_of_getElem? (i := 85) (by decide +kernel)) (by decide +kernel)
theorem tw_86 : Cond.superclass "MonitorWays$Worker" "java/lang/Object" ∈ wtbl := tin_1 (List.mem_of_getElem? (i := 86) (by decide +kernel)) (by decide +kernel)
theorem tw_87 : Cond.instantiable "MonitorWays$Monitor" (4 : Nat) ∈ wtbl := tin_1 (List.mem_of_getElem? (i := 87) (by decide +kernel)) (by decide +kernel)
theorem tw_88 : Cond.methodLink "MonitorWays$Machine" (30 : Nat) ({ cls := "MonitorWays$Monitor", name := "<init>", desc := "()V" } : Jvm.MethodName) ∈ wtbl := tin_1 (List.mem_of_getElem? (i := 88) (by decide +kernel)) (by decide +kernel)
theorem tw_89 : Cond.instanceMethod ({ cls := "MonitorWays$Monitor", name := "<init>", desc := "()V" } : Jvm.MethodName) ∈ wtbl := tin_1 (List.mem_of_getElem? (i := 89) (by decide +kernel)) (by decide +kernel)
theorem tw_90 : Cond.code ({ cls := "MonitorWays$Monitor", name := "<init>", desc := "()V" } : Jvm.MethodName) prog_3_method_1_code (1 : Nat) (Option.none : Option Jvm.ClassFile.FieldType) ∈ wtbl := tin_1 (List.mem_of_getElem? (i := 90) (by decide +kernel)) (by decide +kernel)
theorem tw_91 : Cond.methodLink "MonitorWays$Monitor" (3 : Nat) ({ cls := "java/lang/Object", name := "<init>", desc := "()V" } : Jvm.MethodName) ∈ wtbl := tin_1 (List.mem_of_getElem? (i := 91) (by decide +kernel)) (by decide +kernel)
theorem tw_92 : Cond.fieldLink "MonitorWays$Monitor" (22 : Nat) "MonitorWays$Monitor" "owner" "I" ∈ wtbl := tin_1 (List.mem_of_getElem? (i := 92) (by decide +kernel)) (by decide +kernel)
theorem tw_93 : Cond.fieldLink "MonitorWays$Machine" (70 : Nat) "MonitorWays$Monitor" "owner" "I" ∈ wtbl := tin_1 (List.mem_of_getElem? (i := 93) (by decide +kernel)) (by decide +kernel)
theorem tw_94 : Cond.fieldLink "MonitorWays" (95 : Nat) "MonitorWays$Monitor" "owner" "I" ∈ wtbl := tin_1 (List.mem_of_getElem? (i := 94) (by decide +kernel)) (by decide +kernel)
theorem tw_95 : Cond.fieldLink "MonitorWays$Monitor" (25 : Nat) "MonitorWays$Monitor" "depth" "I" ∈ wtbl := tin_1 (List.mem_of_getElem? (i := 95) (by decide +kernel)) (by decide +kernel)
theorem tw_96 : Cond.fieldLink "MonitorWays" (98 : Nat) "MonitorWays$Monitor" "depth" "I" ∈ wtbl := tin_1 (List.mem_of_getElem? (i := 96) (by decide +kernel)) (by decide +kernel)
theorem tw_97 : Cond.fieldLink "MonitorWays$Machine" (105 : Nat) "MonitorWays$Monitor" "depth" "I" ∈ wtbl := tin_1 (List.mem_of_getElem? (i := 97) (by decide +kernel)) (by decide +kernel)
theorem tw_98 : Cond.fieldLink "MonitorWays$Monitor" (18 : Nat) "MonitorWays$Monitor" "setSize" "I" ∈ wtbl := tin_1 (List.mem_of_getElem? (i := 98) (by decide +kernel)) (by decide +kernel)
theorem tw_99 : Cond.fieldLink "MonitorWays$Machine" (73 : Nat) "MonitorWays$Monitor" "setSize" "I" ∈ wtbl := tin_1 (List.mem_of_getElem? (i := 99) (by decide +kernel)) (by decide +kernel)
theorem tw_100 : Cond.fieldLink "MonitorWays$Monitor" (9 : Nat) "MonitorWays$Monitor" "set" "[I" ∈ wtbl := tin_1 (List.mem_of_getElem? (i := 100) (by decide +kernel)) (by decide +kernel)
theorem tw_101 : Cond.lays "MonitorWays$Monitor" "MonitorWays$Monitor" "owner" "I" ∈ wtbl := tin_1 (List.mem_of_getElem? (i := 101) (by decide +kernel)) (by decide +kernel)
theorem tw_102 : Cond.soleField "MonitorWays$Monitor" "owner" ∈ wtbl := tin_1 (List.mem_of_getElem? (i := 102) (by decide +kernel)) (by decide +kernel)
theorem tw_103 : Cond.lays "MonitorWays$Monitor" "MonitorWays$Monitor" "depth" "I" ∈ wtbl := tin_1 (List.mem_of_getElem? (i := 103) (by decide +kernel)) (by decide +kernel)
theorem tw_104 : Cond.soleField "MonitorWays$Monitor" "depth" ∈ wtbl := tin_1 (List.mem_of_getElem? (i := 104) (by decide +kernel)) (by decide +kernel)
theorem tw_105 : Cond.lays "MonitorWays$Monitor" "MonitorWays$Monitor" "setSize" "I" ∈ wtbl := tin_1 (List.mem_of_getElem? (i := 105) (by decide +kernel)) (by decide +kernel)
theorem tw_106 : Cond.soleField "MonitorWays$Monitor" "setSize" ∈ wtbl := tin_1 (List.mem_of_getElem? (i := 106) (by decide +kernel)) (by decide +kernel)
theorem tw_107 : Cond.laysFinal "MonitorWays$Monitor" "MonitorWays$Monitor" "set" "[I" ∈ wtbl := tin_1 (List.mem_of_getElem? (i := 107) (by decide +kernel)) (by decide +kernel)
theorem tw_108 : Cond.soleField "MonitorWays$Monitor" "set" ∈ wtbl := tin_1 (List.mem_of_getElem? (i := 108) (by decide +kernel)) (by decide +kernel)
theorem tw_109 : Cond.superclass "MonitorWays$Monitor" "java/lang/Object" ∈ wtbl := tin_1 (List.mem_of_getElem? (i := 109) (by decide +kernel)) (by decide +kernel)
theorem tw_110 : Cond.methodLink "MonitorWays$Machine" (31 : Nat) ({ cls := "MonitorWays$Machine", name := "begin", desc := "()V" } : Jvm.MethodName) ∈ wtbl := tin_1 (List.mem_of_getElem? (i := 110) (by decide +kernel)) (by decide +kernel)
theorem tw_111 : Cond.instanceMethod ({ cls := "MonitorWays$Machine", name := "begin", desc := "()V" } : Jvm.MethodName) ∈ wtbl := tin_1 (List.mem_of_getElem? (i := 111) (by decide +kernel)) (by decide +kernel)
theorem tw_112 : Cond.selects "MonitorWays$Machine" ({ cls := "MonitorWays$Machine", name := "begin", desc := "()V" } : Jvm.MethodName) ({ cls := "MonitorWays$Machine", name := "begin", desc := "()V" } : Jvm.MethodName) ∈ wtbl := tin_1 (List.mem_of_getElem? (i := 112) (by decide +kernel)) (by decide +kernel)
theorem tw_113 : Cond.code ({ cls := "MonitorWays$Machine", name := "begin", desc := "()V" } : Jvm.MethodName) prog_2_method_2_code (2 : Nat) (Option.none : Option Jvm.ClassFile.FieldType) ∈ wtbl := tin_1 (List.mem_of_getElem? (i := 113) (by decide +kernel)) (by decide +kernel)
theorem tw_114 : Cond.methodLink "MonitorWays$Machine" (34 : Nat) ({ cls := "MonitorWays$Worker", name := "begin", desc := "()V" } : Jvm.MethodName) ∈ wtbl := tin_1 (List.mem_of_getElem? (i := 114) (by decide +kernel)) (by decide +kernel)
theorem tw_115 : Cond.instanceMethod ({ cls := "MonitorWays$Worker", name := "begin", desc := "()V" } : Jvm.MethodName) ∈ wtbl := tin_1 (List.mem_of_getElem? (i := 115) (by decide +kernel)) (by decide +kernel)
theorem tw_116 : Cond.selects "MonitorWays$Worker" ({ cls := "MonitorWays$Worker", name := "begin", desc := "()V" } : Jvm.MethodName) ({ cls := "MonitorWays$Worker", name := "begin", desc := "()V" } : Jvm.MethodName) ∈ wtbl := tin_1 (List.mem_of_getElem? (i := 116) (by decide +kernel)) (by decide +kernel)
theorem tw_117 : Cond.code ({ cls := "MonitorWays$Worker", name := "begin", desc := "()V" } : Jvm.MethodName) prog_7_method_2_code (1 : Nat) (Option.none : Option Jvm.ClassFile.FieldType) ∈ wtbl := tin_1 (List.mem_of_getElem? (i := 117) (by decide +kernel)) (by decide +kernel)
theorem tw_118 : Cond.methodLink "MonitorWays$Machine" (35 : Nat) ({ cls := "MonitorWays$Monitor", name := "begin", desc := "()V" } : Jvm.MethodName) ∈ wtbl := tin_1 (List.mem_of_getElem? (i := 118) (by decide +kernel)) (by decide +kernel)
theorem tw_119 : Cond.instanceMethod ({ cls := "MonitorWays$Monitor", name := "begin", desc := "()V" } : Jvm.MethodName) ∈ wtbl := tin_1 (List.mem_of_getElem? (i := 119) (by decide +kernel)) (by decide +kernel)
theorem tw_120 : Cond.selects "MonitorWays$Monitor" ({ cls := "MonitorWays$Monitor", name := "begin", desc := "()V" } : Jvm.MethodName) ({ cls := "MonitorWays$Monitor", name := "begin", desc := "()V" } : Jvm.MethodName) ∈ wtbl := tin_1 (List.mem_of_getElem? (i := 120) (by decide +kernel)) (by decide +kernel)
theorem tw_121 : Cond.code ({ cls := "MonitorWays$Monitor", name := "begin", desc := "()V" } : Jvm.MethodName) prog_3_method_2_code (1 : Nat) (Option.none : Option Jvm.ClassFile.FieldType) ∈ wtbl := tin_1 (List.mem_of_getElem? (i := 121) (by decide +kernel)) (by decide +kernel)
theorem tw_122 : Cond.methodLink "MonitorWays$Monitor" (15 : Nat) ({ cls := "MonitorWays$Monitor", name := "setFree", desc := "()V" } : Jvm.MethodName) ∈ wtbl := tin_1 (List.mem_of_getElem? (i := 122) (by decide +kernel)) (by decide +kernel)
theorem tw_123 : Cond.instanceMethod ({ cls := "MonitorWays$Monitor", name := "setFree", desc := "()V" } : Jvm.MethodName) ∈ wtbl := tin_1 (List.mem_of_getElem? (i := 123) (by decide +kernel)) (by decide +kernel)
theorem tw_124 : Cond.selects "MonitorWays$Monitor" ({ cls := "MonitorWays$Monitor", name := "setFree", desc := "()V" } : Jvm.MethodName) ({ cls := "MonitorWays$Monitor", name := "setFree", desc := "()V" } : Jvm.MethodName) ∈ wtbl := tin_1 (List.mem_of_getElem? (i := 124) (by decide +kernel)) (by decide +kernel)
theorem tw_125 : Cond.code ({ cls := "MonitorWays$Monitor", name := "setFree", desc := "()V" } : Jvm.MethodName) prog_3_method_4_code (1 : Nat) (Option.none : Option Jvm.ClassFile.FieldType) ∈ wtbl := tin_1 (List.mem_of_getElem? (i := 125) (by decide +kernel)) (by decide +kernel)
theorem tw_126 : Cond.fieldLink "MonitorWays$Machine" (11 : Nat) "MonitorWays$Machine" "workers" "[LMonitorWays$Worker;" ∈ wtbl := tin_1 (List.mem_of_getElem? (i := 126) (by decide +kernel)) (by decide +kernel)
theorem tw_127 : Cond.fieldLink "MonitorWays" (68 : Nat) "MonitorWays$Machine" "workers" "[LMonitorWays$Worker;" ∈ wtbl := tin_1 (List.mem_of_getElem? (i := 127) (by decide +kernel)) (by decide +kernel)
theorem tw_128 : Cond.fieldLink "MonitorWays$Machine" (19 : Nat) "MonitorWays$Machine" "monitors" "[LMonitorWays$Monitor;" ∈ wtbl := tin_1 (List.mem_of_getElem? (i := 128) (by decide +kernel)) (by decide +kernel)
theorem tw_129 : Cond.fieldLink "MonitorWays" (85 : Nat) "MonitorWays$Machine" "monitors" "[LMonitorWays$Monitor;" ∈ wtbl := tin_1 (List.mem_of_getElem? (i := 129) (by decide +kernel)) (by decide +kernel)
theorem tw_130 : Cond.fieldLink "MonitorWays$Machine" (23 : Nat) "MonitorWays$Machine" "loose" "Z" ∈ wtbl := tin_1 (List.mem_of_getElem? (i := 130) (by decide +kernel)) (by decide +kernel)
theorem tw_131 : Cond.laysFinal "MonitorWays$Machine" "MonitorWays$Machine" "workers" "[LMonitorWays$Worker;" ∈ wtbl := tin_1 (List.mem_of_getElem? (i := 131) (by decide +kernel)) (by decide +kernel)
theorem tw_132 : Cond.soleField "MonitorWays$Machine" "workers" ∈ wtbl := tin_1 (List.mem_of_getElem? (i := 132) (by decide +kernel)) (by decide +kernel)
theorem tw_133 : Cond.laysFinal "MonitorWays$Machine" "MonitorWays$Machine" "monitors" "[LMonitorWays$Monitor;" ∈ wtbl := tin_1 (List.mem_of_getElem? (i := 133) (by decide +kernel)) (by decide +kernel)
theorem tw_134 : Cond.soleField "MonitorWays$Machine" "monitors" ∈ wtbl := tin_1 (List.mem_of_getElem? (i := 134) (by decide +kernel)) (by decide +kernel)
theorem tw_135 : Cond.laysFinal "MonitorWays$Machine" "MonitorWays$Machine" "loose" "Z" ∈ wtbl := tin_1 (List.mem_of_getElem? (i := 135) (by decide +kernel)) (by decide +kernel)
theorem tw_136 : Cond.soleField "MonitorWays$Machine" "loose" ∈ wtbl := tin_1 (List.mem_of_getElem? (i := 136) (by decide +kernel)) (by decide +kernel)
theorem tw_137 : Cond.superclass "MonitorWays$Machine" "java/lang/Object" ∈ wtbl := tin_1 (List.mem_of_getElem? (i := 137) (by decide +kernel)) (by decide +kernel)
theorem tw_138 : Cond.classLink "MonitorWays" (25 : Nat) "MonitorWays$Search" ∈ wtbl := tin_1 (List.mem_of_getElem? (i := 138) (by decide +kernel)) (by decide +kernel)
theorem tw_139 : Cond.instantiable "MonitorWays$Search" (11 : Nat) ∈ wtbl := tin_1 (List.mem_of_getElem? (i := 139) (by decide +kernel)) (by decide +kernel)
theorem tw_140 : Cond.methodLink "MonitorWays" (27 : Nat) ({ cls := "MonitorWays$Search", name := "<init>", desc := "(LMonitorWays$Machine;)V" } : Jvm.MethodName) ∈ wtbl := tin_1 (List.mem_of_getElem? (i := 140) (by decide +kernel)) (by decide +kernel)
theorem tw_141 : Cond.instanceMethod ({ cls := "MonitorWays$Search", name := "<init>", desc := "(LMonitorWays$Machine;)V" } : Jvm.MethodName) ∈ wtbl := tin_1 (List.mem_of_getElem? (i := 141) (by decide +kernel)) (by decide +kernel)
theorem tw_142 : Cond.code ({ cls := "MonitorWays$Search", name := "<init>", desc := "(LMonitorWays$Machine;)V" } : Jvm.MethodName) prog_5_method_1_code (2 : Nat) (Option.none : Option Jvm.ClassFile.FieldType) ∈ wtbl := tin_1 (List.mem_of_getElem? (i := 142) (by decide +kernel)) (by decide +kernel)
theorem tw_143 : Cond.methodLink "MonitorWays$Search" (3 : Nat) ({ cls := "java/lang/Object", name := "<init>", desc := "()V" } : Jvm.MethodName) ∈ wtbl := tin_1 (List.mem_of_getElem? (i := 143) (by decide +kernel)) (by decide +kernel)
theorem tw_144 : Cond.classLink "MonitorWays$Search" (15 : Nat) "MonitorWays$States" ∈ wtbl := tin_1 (List.mem_of_getElem? (i := 144) (by decide +kernel)) (by decide +kernel)
theorem tw_145 : Cond.instantiable "MonitorWays$States" (3 : Nat) ∈ wtbl := tin_1 (List.mem_of_getElem? (i := 145) (by decide +kernel)) (by decide +kernel)
theorem tw_146 : Cond.methodLink "MonitorWays$Search" (17 : Nat) ({ cls := "MonitorWays$States", name := "<init>", desc := "()V" } : Jvm.MethodName) ∈ wtbl := tin_1 (List.mem_of_getElem? (i := 146) (by decide +kernel)) (by decide +kernel)
theorem tw_147 : Cond.instanceMethod ({ cls := "MonitorWays$States", name := "<init>", desc := "()V" } : Jvm.MethodName) ∈ wtbl := tin_1 (List.mem_of_getElem? (i := 147) (by decide +kernel)) (by decide +kernel)
theorem tw_148 : Cond.code ({ cls := "MonitorWays$States", name := "<init>", desc := "()V" } : Jvm.MethodName) prog_6_method_1_code (1 : Nat) (Option.none : Option Jvm.ClassFile.FieldType) ∈ wtbl := tin_1 (List.mem_of_getElem? (i := 148) (by decide +kernel)) (by decide +kernel)
theorem tw_149 : Cond.methodLink "MonitorWays$States" (3 : Nat) ({ cls := "java/lang/Object", name := "<init>", desc := "()V" } : Jvm.MethodName) ∈ wtbl := tin_1 (List.mem_of_getElem? (i := 149) (by decide +kernel)) (by decide +kernel)
theorem tw_150 : Cond.methodLink "MonitorWays$States" (11 : Nat) ({ cls := "MonitorWays$States", name := "roomIn", desc := "(I)I" } : Jvm.MethodName) ∈ wtbl := tin_1 (List.mem_of_getElem? (i := 150) (by decide +kernel)) (by decide +kernel)
theorem tw_151 : Cond.static ({ cls := "MonitorWays$States", name := "roomIn", desc := "(I)I" } : Jvm.MethodName) ∈ wtbl := tin_1 (List.mem_of_getElem? (i := 151) (by decide +kernel)) (by decide +kernel)
theorem tw_152 : Cond.code ({ cls := "MonitorWays$States", name := "roomIn", desc := "(I)I" } : Jvm.MethodName) prog_6_method_6_code (1 : Nat) (Option.some Jvm.ClassFile.FieldType.int) ∈ wtbl := tin_1 (List.mem_of_getElem? (i := 152) (by decide +kernel)) (by decide +kernel)
theorem tw_153 : Cond.fieldLink "MonitorWays$States" (23 : Nat) "MonitorWays$States" "size" "I" ∈ wtbl := tin_1 (List.mem_of_getElem? (i := 153) (by decide +kernel)) (by decide +kernel)
theorem tw_154 : Cond.fieldLink "MonitorWays$States" (15 : Nat) "MonitorWays$States" "words" "[J" ∈ wtbl := tin_1 (List.mem_of_getElem? (i := 154) (by decide +kernel)) (by decide +kernel)
theorem tw_155 : Cond.fieldLink "MonitorWays$States" (19 : Nat) "MonitorWays$States" "slots" "[I" ∈ wtbl := tin_1 (List.mem_of_getElem? (i := 155) (by decide +kernel)) (by decide +kernel)
theorem tw_156 : Cond.lays "MonitorWays$States" "MonitorWays$States" "size" "I" ∈ wtbl := tin_1 (List.mem_of_getElem? (i := 156) (by decide +kernel)) (by decide +kernel)
theorem tw_157 : Cond.soleField "MonitorWays$States" "size" ∈ wtbl := tin_1 (List.mem_of_getElem? (i := 157) (by decide +kernel)) (by decide +kernel)
theorem tw_158 : Cond.lays "MonitorWays$States" "MonitorWays$States" "words" "[J" ∈ wtbl := tin_1 (List.mem_of_getElem? (i := 158) (by decide +kernel)) (by decide +kernel)
theorem tw_159 : Cond.soleField "MonitorWays$States" "words" ∈ wtbl := tin_1 (List.mem_of_getElem? (i := 159) (by decide +kernel)) (by decide +kernel)
theorem tw_160 : Cond.lays "MonitorWays$States" "MonitorWays$States" "slots" "[I" ∈ wtbl := tin_1 (List.mem_of_getElem? (i := 160) (by decide +kernel)) (by decide +kernel)
theorem tw_161 : Cond.soleField "MonitorWays$States" "slots" ∈ wtbl := tin_1 (List.mem_of_getElem? (i := 161) (by decide +kernel)) (by decide +kernel)
theorem tw_162 : Cond.superclass "MonitorWays$States" "java/lang/Object" ∈ wtbl := tin_1 (List.mem_of_getElem? (i := 162) (by decide +kernel)) (by decide +kernel)
theorem tw_163 : Cond.arrayClass Jvm.ClassFile.FieldType.boolean ∈ wtbl := tin_1 (List.mem_of_getElem? (i := 163) (by decide +kernel)) (by decide +kernel)
theorem tw_164 : Cond.arrayClass Jvm.ClassFile.FieldType.long ∈ wtbl := tin_1 (List.mem_of_getElem? (i := 164) (by decide +kernel)) (by decide +kernel)
theorem tw_165 : Cond.fieldLink "MonitorWays$Search" (9 : Nat) "MonitorWays$Search" "blocked" "[Z" ∈ wtbl := tin_1 (List.mem_of_getElem? (i := 165) (by decide +kernel)) (by decide +kernel)
theorem tw_166 : Cond.fieldLink "MonitorWays" (118 : Nat) "MonitorWays$Search" "blocked" "[Z" ∈ wtbl := tin_1 (List.mem_of_getElem? (i := 166) (by decide +kernel)) (by decide +kernel)
theorem tw_167 : Cond.fieldLink "MonitorWays$Search" (30 : Nat) "MonitorWays$Search" "done" "Z" ∈ wtbl := tin_1 (List.mem_of_getElem? (i := 167) (by decide +kernel)) (by decide +kernel)
theorem tw_168 : Cond.fieldLink "MonitorWays" (104 : Nat) "MonitorWays$Search" "done" "Z" ∈ wtbl := tin_1 (List.mem_of_getElem? (i := 168) (by decide +kernel)) (by decide +kernel)
theorem tw_169 : Cond.fieldLink "MonitorWays$Search" (70 : Nat) "MonitorWays$Search" "answer" "I" ∈ wtbl := tin_1 (List.mem_of_getElem? (i := 169) (by decide +kernel)) (by decide +kernel)
theorem tw_170 : Cond.fieldLink "MonitorWays" (111 : Nat) "MonitorWays$Search" "answer" "I" ∈ wtbl := tin_1 (List.mem_of_getElem? (i := 170) (by decide +kernel)) (by decide +kernel)
theorem tw_171 : Cond.fieldLink "MonitorWays$Search" (34 : Nat) "MonitorWays$Search" "stateCount" "I" ∈ wtbl := tin_1 (List.mem_of_getElem? (i := 171) (by decide +kernel)) (by decide +kernel)
theorem tw_172 : Cond.fieldLink "MonitorWays" (122 : Nat) "MonitorWays$Search" "stateCount" "I" ∈ wtbl := tin_1 (List.mem_of_getElem? (i := 172) (by decide +kernel)) (by decide +kernel)
theorem tw_173 : Cond.fieldLink "MonitorWays$Search" (38 : Nat) "MonitorWays$Search" "finalCount" "I" ∈ wtbl := tin_1 (List.mem_of_getElem? (i := 173) (by decide +kernel)) (by decide +kernel)
theorem tw_174 : Cond.fieldLink "MonitorWays" (125 : Nat) "MonitorWays$Search" "finalCount" "I" ∈ wtbl := tin_1 (List.mem_of_getElem? (i := 174) (by decide +kernel)) (by decide +kernel)
theorem tw_175 : Cond.fieldLink "MonitorWays$Search" (41 : Nat) "MonitorWays$Search" "allEndedCount" "I" ∈ wtbl := tin_1 (List.mem_of_getElem? (i := 175) (by decide +kernel)) (by decide +kernel)
theorem tw_176 : Cond.fieldLink "MonitorWays" (128 : Nat) "MonitorWays$Search" "allEndedCount" "I" ∈ wtbl := tin_1 (List.mem_of_getElem? (i := 176) (by decide +kernel)) (by decide +kernel)
theorem tw_177 : Cond.fieldLink "MonitorWays$Search" (44 : Nat) "MonitorWays$Search" "mostChoices" "I" ∈ wtbl := tin_1 (List.mem_of_getElem? (i := 177) (by decide +kernel)) (by decide +kernel)
theorem tw_178 : Cond.fieldLink "MonitorWays" (131 : Nat) "MonitorWays$Search" "mostChoices" "I" ∈ wtbl := tin_1 (List.mem_of_getElem? (i := 178) (by decide +kernel)) (by decide +kernel)
theorem tw_179 : Cond.fieldLink "MonitorWays$Search" (26 : Nat) "MonitorWays$Search" "machine" "LMonitorWays$Machine;" ∈ wtbl := tin_1 (List.mem_of_getElem? (i := 179) (by decide +kernel)) (by decide +kernel)
theorem tw_180 : Cond.fieldLink "MonitorWays$Search" (18 : Nat) "MonitorWays$Search" "states" "LMonitorWays$States;" ∈ wtbl := tin_1 (List.mem_of_getElem? (i := 180) (by decide +kernel)) (by decide +kernel)
theorem tw_181 : Cond.fieldLink "MonitorWays$Search" (22 : Nat) "MonitorWays$Search" "outcomes" "[J" ∈ wtbl := tin_1 (List.mem_of_getElem? (i := 181) (by decide +kernel)) (by decide +kernel)
theorem tw_182 : Cond.fieldLink "MonitorWays$Search" (47 : Nat) "MonitorWays$Search" "outcomeCount" "I" ∈ wtbl := tin_1 (List.mem_of_getElem? (i := 182) (by decide +kernel)) (by decide +kernel)
theorem tw_183 : Cond.laysFinal "MonitorWays$Search" "MonitorWays$Search" "blocked" "[Z" ∈ wtbl := tin_1 (List.mem_of_getElem? (i := 183) (by decide +kernel)) (by decide +kernel)
theorem tw_184 : Cond.soleField "MonitorWays$Search" "blocked" ∈ wtbl := tin_1 (List.mem_of_getElem? (i := 184) (by decide +kernel)) (by decide +kernel)
theorem tw_185 : Cond.lays "MonitorWays$Search" "MonitorWays$Search" "done" "Z" ∈ wtbl := tin_1 (List.mem_of_getElem? (i := 185) (by decide +kernel)) (by decide +kernel)
theorem tw_186 : Cond.soleField "MonitorWays$Search" "done" ∈ wtbl := tin_1 (List.mem_of_getElem? (i := 186) (by decide +kernel)) (by decide +kernel)
theorem tw_187 : Cond.lays "MonitorWays$Search" "MonitorWays$Search" "answer" "I" ∈ wtbl := tin_1 (List.mem_of_getElem? (i := 187) (by decide +kernel)) (by decide +kernel)
theorem tw_188 : Cond.soleField "MonitorWays$Search" "answer" ∈ wtbl := tin_1 (List.mem_of_getElem? (i := 188) (by decide +kernel)) (by decide +kernel)
theorem tw_189 : Cond.lays "MonitorWays$Search" "MonitorWays$Search" "stateCount" "I" ∈ wtbl := tin_1 (List.mem_of_getElem? (i := 189) (by decide +kernel)) (by decide +kernel)
theorem tw_190 : Cond.soleField "MonitorWays$Search" "stateCount" ∈ wtbl := tin_1 (List.mem_of_getElem? (i := 190) (by decide +kernel)) (by decide +kernel)
theorem tw_191 : Cond.lays "MonitorWays$Search" "MonitorWays$Search" "finalCount" "I" ∈ wtbl := tin_1 (List.mem_of_getElem? (i := 191) (by decide +kernel)) (by decide +kernel)
theorem tw_192 : Cond.soleField "MonitorWays$Search" "finalCount" ∈ wtbl := tin_1 (List.mem_of_getElem? (i := 192) (by decide +kernel)) (by decide +kernel)
theorem tw_193 : Cond.lays "MonitorWays$Search" "MonitorWays$Search" "allEndedCount" "I" ∈ wtbl := tin_1 (List.mem_of_getElem? (i := 193) (by decide +kernel)) (by decide +kernel)
theorem tw_194 : Cond.soleField "MonitorWays$Search" "allEndedCount" ∈ wtbl := tin_1 (List.mem_of_getElem? (i := 194) (by decide +kernel)) (by decide +kernel)
theorem tw_195 : Cond.lays "MonitorWays$Search" "MonitorWays$Search" "mostChoices" "I" ∈ wtbl := tin_1 (List.mem_of_getElem? (i := 195) (by decide +kernel)) (by decide +kernel)
theorem tw_196 : Cond.soleField "MonitorWays$Search" "mostChoices" ∈ wtbl := tin_1 (List.mem_of_getElem? (i := 196) (by decide +kernel)) (by decide +kernel)
theorem tw_197 : Cond.laysFinal "MonitorWays$Search" "MonitorWays$Search" "machine" "LMonitorWays$Machine;" ∈ wtbl := tin_1 (List.mem_of_getElem? (i := 197) (by decide +kernel)) (by decide +kernel)
theorem tw_198 : Cond.soleField "MonitorWays$Search" "machine" ∈ wtbl := tin_1 (List.mem_of_getElem? (i := 198) (by decide +kernel)) (by decide +kernel)
theorem tw_199 : Cond.laysFinal "MonitorWays$Search" "MonitorWays$Search" "states" "LMonitorWays$States;" ∈ wtbl := tin_1 (List.mem_of_getElem? (i := 199) (by decide +kernel)) (by decide +kernel)
theorem tw_200 : Cond.soleField "MonitorWays$Search" "states" ∈ wtbl := tin_1 (List.mem_of_getElem? (i := 200) (by decide +kernel)) (by decide +kernel)
theorem tw_201 : Cond.lays "MonitorWays$Search" "MonitorWays$Search" "outcomes" "[J" ∈ wtbl := tin_1 (List.mem_of_getElem? (i := 201) (by decide +kernel)) (by decide +kernel)
theorem tw_202 : Cond.soleField "MonitorWays$Search" "outcomes" ∈ wtbl := tin_1 (List.mem_of_getElem? (i := 202) (by decide +kernel)) (by decide +kernel)
theorem tw_203 : Cond.lays "MonitorWays$Search" "MonitorWays$Search" "outcomeCount" "I" ∈ wtbl := tin_1 (List.mem_of_getElem? (i := 203) (by decide +kernel)) (by decide +kernel)
theorem tw_204 : Cond.soleField "MonitorWays$Search" "outcomeCount" ∈ wtbl := tin_1 (List.mem_of_getElem? (i := 204) (by decide +kernel)) (by decide +kernel)
theorem tw_205 : Cond.superclass "MonitorWays$Search" "java/lang/Object" ∈ wtbl := tin_1 (List.mem_of_getElem? (i := 205) (by decide +kernel)) (by decide +kernel)
theorem tw_206 : Cond.fieldLink "MonitorWays" (12 : Nat) "MonitorWays" "programs" "[LMonitorWays$Program;" ∈ wtbl := tin_1 (List.mem_of_getElem? (i := 206) (by decide +kernel)) (by decide +kernel)
theorem tw_207 : Cond.fieldLink "MonitorWays" (21 : Nat) "MonitorWays" "present" "LMonitorWays$Machine;" ∈ wtbl := tin_1 (List.mem_of_getElem? (i := 207) (by decide +kernel)) (by decide +kernel)
theorem tw_208 : Cond.fieldLink "MonitorWays" (30 : Nat) "MonitorWays" "search" "LMonitorWays$Search;" ∈ wtbl := tin_1 (List.mem_of_getElem? (i := 208) (by decide +kernel)) (by decide +kernel)
theorem tw_209 : Cond.fieldLink "MonitorWays" (65 : Nat) "MonitorWays" "choices" "I" ∈ wtbl := tin_1 (List.mem_of_getElem? (i := 209) (by decide +kernel)) (by decide +kernel)
theorem tw_210 : Cond.laysFinal "MonitorWays" "MonitorWays" "programs" "[LMonitorWays$Program;" ∈ wtbl := tin_1 (List.mem_of_getElem? (i := 210) (by decide +kernel)) (by decide +kernel)
theorem tw_211 : Cond.soleField "MonitorWays" "programs" ∈ wtbl := tin_1 (List.mem_of_getElem? (i := 211) (by decide +kernel)) (by decide +kernel)
theorem tw_212 : Cond.laysFinal "MonitorWays" "MonitorWays" "present" "LMonitorWays$Machine;" ∈ wtbl := tin_1 (List.mem_of_getElem? (i := 212) (by decide +kernel)) (by decide +kernel)
theorem tw_213 : Cond.soleField "MonitorWays" "present" ∈ wtbl := tin_1 (List.mem_of_getElem? (i := 213) (by decide +kernel)) (by decide +kernel)
theorem tw_214 : Cond.laysFinal "MonitorWays" "MonitorWays" "search" "LMonitorWays$Search;" ∈ wtbl := tin_1 (List.mem_of_getElem? (i := 214) (by decide +kernel)) (by decide +kernel)
theorem tw_215 : Cond.soleField "MonitorWays" "search" ∈ wtbl := tin_1 (List.mem_of_getElem? (i := 215) (by decide +kernel)) (by decide +kernel)
theorem tw_216 : Cond.lays "MonitorWays" "MonitorWays" "choices" "I" ∈ wtbl := tin_1 (List.mem_of_getElem? (i := 216) (by decide +kernel)) (by decide +kernel)
theorem tw_217 : Cond.soleField "MonitorWays" "choices" ∈ wtbl := tin_1 (List.mem_of_getElem? (i := 217) (by decide +kernel)) (by decide +kernel)
theorem tw_218 : Cond.superclass "MonitorWays" "java/lang/Object" ∈ wtbl := tin_1 (List.mem_of_getElem? (i := 218) (by decide +kernel)) (by decide +kernel)
theorem tw_219 : Cond.methodLink "MonitorWaysLaw" (21 : Nat) ({ cls := "MonitorWays", name := "act", desc := "(III)I" } : Jvm.MethodName) ∈ wtbl := tin_1 (List.mem_of_getElem? (i := 219) (by decide +kernel)) (by decide +kernel)
theorem tw_220 : Cond.instanceMethod ({ cls := "MonitorWays", name := "act", desc := "(III)I" } : Jvm.MethodName) ∈ wtbl := tin_1 (List.mem_of_getElem? (i := 220) (by decide +kernel)) (by decide +kernel)
theorem tw_221 : Cond.selects "MonitorWays" ({ cls := "MonitorWays", name := "act", desc := "(III)I" } : Jvm.MethodName) ({ cls := "MonitorWays", name := "act", desc := "(III)I" } : Jvm.MethodName) ∈ wtbl := tin_1 (List.mem_of_getElem? (i := 221) (by decide +kernel)) (by decide +kernel)
theorem tw_222 : Cond.code ({ cls := "MonitorWays", name := "act", desc := "(III)I" } : Jvm.MethodName) prog_1_method_2_code (4 : Nat) (Option.some Jvm.ClassFile.FieldType.int) ∈ wtbl := tin_1 (List.mem_of_getElem? (i := 222) (by decide +kernel)) (by decide +kernel)
theorem tw_223 : Cond.methodLink "MonitorWays" (34 : Nat) ({ cls := "MonitorWays", name := "isThread", desc := "(I)Z" } : Jvm.MethodName) ∈ wtbl := tin_1 (List.mem_of_getElem? (i := 223) (by decide +kernel)) (by decide +kernel)
theorem tw_224 : Cond.static ({ cls := "MonitorWays", name := "isThread", desc := "(I)Z" } : Jvm.MethodName) ∈ wtbl := tin_1 (List.mem_of_getElem? (i := 224) (by decide +kernel)) (by decide +kernel)
theorem tw_225 : Cond.code ({ cls := "MonitorWays", name := "isThread", desc := "(I)Z" } : Jvm.MethodName) prog_1_method_16_code (1 : Nat) (Option.some Jvm.ClassFile.FieldType.boolean) ∈ wtbl := tin_1 (List.mem_of_getElem? (i := 225) (by decide +kernel)) (by decide +kernel)
theorem tw_226 : Cond.methodLink "MonitorWays" (38 : Nat) ({ cls := "MonitorWays", name := "isAction", desc := "(II)Z" } : Jvm.MethodName) ∈ wtbl := tin_1 (List.mem_of_getElem? (i := 226) (by decide +kernel)) (by decide +kernel)
theorem tw_227 : Cond.static ({ cls := "MonitorWays", name := "isAction", desc := "(II)Z" } : Jvm.MethodName) ∈ wtbl := tin_1 (List.mem_of_getElem? (i := 227) (by decide +kernel)) (by decide +kernel)
theorem tw_228 : Cond.code ({ cls := "MonitorWays", name := "isAction", desc := "(II)Z" } : Jvm.MethodName) prog_1_method_19_code (2 : Nat) (Option.some Jvm.ClassFile.FieldType.boolean) ∈ wtbl := tin_1 (List.mem_of_getElem? (i := 228) (by decide +kernel)) (by decide +kernel)
theorem tw_229 : Cond.methodLink "MonitorWays" (82 : Nat) ({ cls := "MonitorWays", name := "isMonitor", desc := "(I)Z" } : Jvm.MethodName) ∈ wtbl := tin_1 (List.mem_of_getElem? (i := 229) (by decide +kernel)) (by decide +kernel)
theorem tw_230 : Cond.static ({ cls := "MonitorWays", name := "isMonitor", desc := "(I)Z" } : Jvm.MethodName) ∈ wtbl := tin_1 (List.mem_of_getElem? (i := 230) (by decide +kernel)) (by decide +kernel)
theorem tw_231 : Cond.code ({ cls := "MonitorWays", name := "isMonitor", desc := "(I)Z" } : Jvm.MethodName) prog_1_method_17_code (1 : Nat) (Option.some Jvm.ClassFile.FieldType.boolean) ∈ wtbl := tin_1 (List.mem_of_getElem? (i := 231) (by decide +kernel)) (by decide +kernel)
theorem tw_232 : Cond.methodLink "MonitorWays" (46 : Nat) ({ cls := "MonitorWays$Program", name := "add", desc := "(II)V" } : Jvm.MethodName) ∈ wtbl := tin_1 (List.mem_of_getElem? (i := 232) (by decide +kernel)) (by decide +kernel)
theorem tw_233 : Cond.instanceMethod ({ cls := "MonitorWays$Program", name := "add", desc := "(II)V" } : Jvm.MethodName) ∈ wtbl := tin_1 (List.mem_of_getElem? (i := 233) (by decide +kernel)) (by decide +kernel)
theorem tw_234 : Cond.selects "MonitorWays$Program" ({ cls := "MonitorWays$Program", name := "add", desc := "(II)V" } : Jvm.MethodName) ({ cls := "MonitorWays$Program", name := "add", desc := "(II)V" } : Jvm.MethodName) ∈ wtbl := tin_1 (List.mem_of_getElem? (i := 234) (by decide +kernel)) (by decide +kernel)
theorem tw_235 : Cond.code ({ cls := "MonitorWays$Program", name := "add", desc := "(II)V" } : Jvm.MethodName) prog_4_method_2_code (3 : Nat) (Option.none : Option Jvm.ClassFile.FieldType) ∈ wtbl := tin_1 (List.mem_of_getElem? (i := 235) (by decide +kernel)) (by decide +kernel)
theorem tw_236 : Cond.methodLink "MonitorWays" (50 : Nat) ({ cls := "MonitorWays$Search", name := "forget", desc := "()V" } : Jvm.MethodName) ∈ wtbl := tin_1 (List.mem_of_getElem? (i := 236) (by decide +kernel)) (by decide +kernel)
theorem tw_237 : Cond.instanceMethod ({ cls := "MonitorWays$Search", name := "forget", desc := "()V" } : Jvm.MethodName) ∈ wtbl := tin_1 (List.mem_of_getElem? (i := 237) (by decide +kernel)) (by decide +kernel)
theorem tw_238 : Cond.selects "MonitorWays$Search" ({ cls := "MonitorWays$Search", name := "forget", desc := "()V" } : Jvm.MethodName) ({ cls := "MonitorWays$Search", name := "forget", desc := "()V" } : Jvm.MethodName) ∈ wtbl := tin_1 (List.mem_of_getElem? (i := 238) (by decide +kernel)) (by decide +kernel)
theorem tw_239 : Cond.code ({ cls := "MonitorWays$Search", name := "forget", desc := "()V" } : Jvm.MethodName) prog_5_method_2_code (2 : Nat) (Option.none : Option Jvm.ClassFile.FieldType) ∈ wtbl := tin_1 (List.mem_of_getElem? (i := 239) (by decide +kernel)) (by decide +kernel)
theorem tw_240 : Cond.methodLink "MonitorWays" (53 : Nat) ({ cls := "MonitorWays", name := "beginAnew", desc := "()V" } : Jvm.MethodName) ∈ wtbl := tin_2 (List.mem_of_getElem? (i := 0) (by decide +kernel)) (by decide +kernel)
theorem tw_242 : Cond.instanceMethod ({ cls := "MonitorWays", name := "beginAnew", desc := "()V" } : Jvm.MethodName) ∈ wtbl := tin_2 (List.mem_of_getElem? (i := 2) (by decide +kernel)) (by decide +kernel)
theorem tw_243 : Cond.code ({ cls := "MonitorWays", name := "beginAnew", desc := "()V" } : Jvm.MethodName) prog_1_method_15_code (1 : Nat) (Option.none : Option Jvm.ClassFile.FieldType) ∈ wtbl := tin_2 (List.mem_of_getElem? (i := 3) (by decide +kernel)) (by decide +kernel)
theorem tw_244 : Cond.methodLink "MonitorWays" (134 : Nat) ({ cls := "MonitorWays$Machine", name := "begin", desc := "()V" } : Jvm.MethodName) ∈ wtbl := tin_2 (List.mem_of_getElem? (i := 4) (by decide +kernel)) (by decide +kernel)
theorem tw_245 : Cond.methodLink "MonitorWaysLaw" (26 : Nat) ({ cls := "MonitorWays", name := "choose", desc := "(II)I" } : Jvm.MethodName) ∈ wtbl := tin_2 (List.mem_of_getElem? (i := 5) (by decide +kernel)) (by decide +kernel)
theorem tw_246 : Cond.instanceMethod ({ cls := "MonitorWays", name := "choose", desc := "(II)I" } : Jvm.MethodName) ∈ wtbl := tin_2 (List.mem_of_getElem? (i := 6) (by decide +kernel)) (by decide +kernel)
theorem tw_247 : Cond.selects "MonitorWays" ({ cls := "MonitorWays", name := "choose", desc := "(II)I" } : Jvm.MethodName) ({ cls := "MonitorWays", name := "choose", desc := "(II)I" } : Jvm.MethodName) ∈ wtbl := tin_2 (List.mem_of_getElem? (i := 7) (by decide +kernel)) (by decide +kernel)
theorem tw_248 : Cond.code ({ cls := "MonitorWays", name := "choose", desc := "(II)I" } : Jvm.MethodName) prog_1_method_3_code (3 : Nat) (Option.some Jvm.ClassFile.FieldType.int) ∈ wtbl := tin_2 (List.mem_of_getElem? (i := 8) (by decide +kernel)) (by decide +kernel)
theorem tw_249 : Cond.methodLink "MonitorWays" (56 : Nat) ({ cls := "MonitorWays", name := "isWay", desc := "(I)Z" } : Jvm.MethodName) ∈ wtbl := tin_2 (List.mem_of_getElem? (i := 9) (by decide +kernel)) (by decide +kernel)
theorem tw_250 : Cond.static ({ cls := "MonitorWays", name := "isWay", desc := "(I)Z" } : Jvm.MethodName) ∈ wtbl := tin_2 (List.mem_of_getElem? (i := 10) (by decide +kernel)) (by decide +kernel)
theorem tw_251 : Cond.code ({ cls := "MonitorWays", name := "isWay", desc := "(I)Z" } : Jvm.MethodName) prog_1_method_18_code (1 : Nat) (Option.some Jvm.ClassFile.FieldType.boolean) ∈ wtbl := tin_2 (List.mem_of_getElem? (i := 11) (by decide +kernel)) (by decide +kernel)
theorem tw_252 : Cond.methodLink "MonitorWays" (59 : Nat) ({ cls := "MonitorWays$Machine", name := "allows", desc := "(II)Z" } : Jvm.MethodName) ∈ wtbl := tin_2 (List.mem_of_getElem? (i := 12) (by decide +kernel)) (by decide +kernel)
theorem tw_253 : Cond.instanceMethod ({ cls := "MonitorWays$Machine", name := "allows", desc := "(II)Z" } : Jvm.MethodName) ∈ wtbl := tin_2 (List.mem_of_getElem? (i := 13) (by decide +kernel)) (by decide +kernel)
theorem tw_254 : Cond.selects "MonitorWays$Machine" ({ cls := "MonitorWays$Machine", name := "allows", desc := "(II)Z" } : Jvm.MethodName) ({ cls := "MonitorWays$Machine", name := "allows", desc := "(II)Z" } : Jvm.MethodName) ∈ wtbl := tin_2 (List.mem_of_getElem? (i := 14) (by decide +kernel)) (by decide +kernel)
theorem tw_255 : Cond.code ({ cls := "MonitorWays$Machine", name := "allows", desc := "(II)Z" } : Jvm.MethodName) prog_2_method_3_code (4 : Nat) (Option.some Jvm.ClassFile.FieldType.boolean) ∈ wtbl := tin_2 (List.mem_of_getElem? (i := 15) (by decide +kernel)) (by decide +kernel)
theorem tw_256 : Cond.methodLink "MonitorWays$Machine" (40 : Nat) ({ cls := "MonitorWays$Worker", name := "action", desc := "()I" } : Jvm.MethodName) ∈ wtbl := tin_2 (List.mem_of_getElem? (i := 16) (by decide +kernel)) (by decide +kernel)
theorem tw_257 : Cond.instanceMethod ({ cls := "MonitorWays$Worker", name := "action", desc := "()I" } : Jvm.MethodName) ∈ wtbl := tin_2 (List.mem_of_getElem? (i := 17) (by decide +kernel)) (by decide +kernel)
theorem tw_258 : Cond.selects "MonitorWays$Worker" ({ cls := "MonitorWays$Worker", name := "action", desc := "()I" } : Jvm.MethodName) ({ cls := "MonitorWays$Worker", name := "action", desc := "()I" } : Jvm.MethodName) ∈ wtbl := tin_2 (List.mem_of_getElem? (i := 18) (by decide +kernel)) (by decide +kernel)
theorem tw_259 : Cond.code ({ cls := "MonitorWays$Worker", name := "action", desc := "()I" } : Jvm.MethodName) prog_7_method_4_code (1 : Nat) (Option.some Jvm.ClassFile.FieldType.int) ∈ wtbl := tin_2 (List.mem_of_getElem? (i := 19) (by decide +kernel)) (by decide +kernel)
theorem tw_260 : Cond.methodLink "MonitorWays$Machine" (44 : Nat) ({ cls := "MonitorWays$Machine", name := "monitorUseAllows", desc := "(II)Z" } : Jvm.MethodName) ∈ wtbl := tin_2 (List.mem_of_getElem? (i := 20) (by decide +kernel)) (by decide +kernel)
theorem tw_262 : Cond.instanceMethod ({ cls := "MonitorWays$Machine", name := "monitorUseAllows", desc := "(II)Z" } : Jvm.MethodName) ∈ wtbl := tin_2 (List.mem_of_getElem? (i := 22) (by decide +kernel)) (by decide +kernel)
theorem tw_263 : Cond.code ({ cls := "MonitorWays$Machine", name := "monitorUseAllows", desc := "(II)Z" } : Jvm.MethodName) prog_2_method_4_code (6 : Nat) (Option.some Jvm.ClassFile.FieldType.boolean) ∈ wtbl := tin_2 (List.mem_of_getElem? (i := 23) (by decide +kernel)) (by decide +kernel)
theorem tw_264 : Cond.methodLink "MonitorWays$Machine" (55 : Nat) ({ cls := "MonitorWays$Machine", name := "monitorOf", desc := "(LMonitorWays$Worker;)LMonitorWays$Monitor;" } : Jvm.MethodName) ∈ wtbl := tin_2 (List.mem_of_getElem? (i := 24) (by decide +kernel)) (by decide +kernel)
theorem tw_266 : Cond.instanceMethod ({ cls := "MonitorWays$Machine", name := "monitorOf", desc := "(LMonitorWays$Worker;)LMonitorWays$Monitor;" } : Jvm.MethodName) ∈ wtbl := tin_2 (List.mem_of_getElem? (i := 26) (by decide +kernel)) (by decide +kernel)
theorem tw_267 : Cond.code ({ cls := "MonitorWays$Machine", name := "monitorOf", desc := "(LMonitorWays$Worker;)LMonitorWays$Monitor;" } : Jvm.MethodName) prog_2_method_18_code (2 : Nat) (Option.some (Jvm.ClassFile.FieldType.object "MonitorWays$Monitor")) ∈ wtbl := tin_2 (List.mem_of_getElem? (i := 27) (by decide +kernel)) (by decide +kernel)
theorem tw_268 : Cond.methodLink "MonitorWays$Machine" (76 : Nat) ({ cls := "MonitorWays$Worker", name := "operand", desc := "()I" } : Jvm.MethodName) ∈ wtbl := tin_2 (List.mem_of_getElem? (i := 28) (by decide +kernel)) (by decide +kernel)
theorem tw_269 : Cond.instanceMethod ({ cls := "MonitorWays$Worker", name := "operand", desc := "()I" } : Jvm.MethodName) ∈ wtbl := tin_2 (List.mem_of_getElem? (i := 29) (by decide +kernel)) (by decide +kernel)
theorem tw_270 : Cond.selects "MonitorWays$Worker" ({ cls := "MonitorWays$Worker", name := "operand", desc := "()I" } : Jvm.MethodName) ({ cls := "MonitorWays$Worker", name := "operand", desc := "()I" } : Jvm.MethodName) ∈ wtbl := tin_2 (List.mem_of_getElem? (i := 30) (by decide +kernel)) (by decide +kernel)
theorem tw_271 : Cond.code ({ cls := "MonitorWays$Worker", name := "operand", desc := "()I" } : Jvm.MethodName) prog_7_method_5_code (1 : Nat) (Option.some Jvm.ClassFile.FieldType.int) ∈ wtbl := tin_2 (List.mem_of_getElem? (i := 31) (by decide +kernel)) (by decide +kernel)
theorem tw_272 : Cond.methodLink "MonitorWays$Machine" (59 : Nat) ({ cls := "MonitorWays$Monitor", name := "isFree", desc := "()Z" } : Jvm.MethodName) ∈ wtbl := tin_2 (List.mem_of_getElem? (i := 32) (by decide +kernel)) (by decide +kernel)
theorem tw_273 : Cond.instanceMethod ({ cls := "MonitorWays$Monitor", name := "isFree", desc := "()Z" } : Jvm.MethodName) ∈ wtbl := tin_2 (List.mem_of_getElem? (i := 33) (by decide +kernel)) (by decide +kernel)
theorem tw_274 : Cond.selects "MonitorWays$Monitor" ({ cls := "MonitorWays$Monitor", name := "isFree", desc := "()Z" } : Jvm.MethodName) ({ cls := "MonitorWays$Monitor", name := "isFree", desc := "()Z" } : Jvm.MethodName) ∈ wtbl := tin_2 (List.mem_of_getElem? (i := 34) (by decide +kernel)) (by decide +kernel)
theorem tw_275 : Cond.code ({ cls := "MonitorWays$Monitor", name := "isFree", desc := "()Z" } : Jvm.MethodName) prog_3_method_3_code (1 : Nat) (Option.some Jvm.ClassFile.FieldType.boolean) ∈ wtbl := tin_2 (List.mem_of_getElem? (i := 35) (by decide +kernel)) (by decide +kernel)
theorem tw_276 : Cond.methodLink "MonitorWays$Machine" (48 : Nat) ({ cls := "MonitorWays$Machine", name := "plainActionAllows", desc := "(LMonitorWays$Worker;I)Z" } : Jvm.MethodName) ∈ wtbl := tin_2 (List.mem_of_getElem? (i := 36) (by decide +kernel)) (by decide +kernel)
theorem tw_278 : Cond.instanceMethod ({ cls := "MonitorWays$Machine", name := "plainActionAllows", desc := "(LMonitorWays$Worker;I)Z" } : Jvm.MethodName) ∈ wtbl := tin_2 (List.mem_of_getElem? (i := 38) (by decide +kernel)) (by decide +kernel)
theorem tw_279 : Cond.code ({ cls := "MonitorWays$Machine", name := "plainActionAllows", desc := "(LMonitorWays$Worker;I)Z" } : Jvm.MethodName) prog_2_method_5_code (3 : Nat) (Option.some Jvm.ClassFile.FieldType.boolean) ∈ wtbl := tin_2 (List.mem_of_getElem? (i := 39) (by decide +kernel)) (by decide +kernel)
theorem tw_280 : Cond.methodLink "MonitorWays$Machine" (79 : Nat) ({ cls := "MonitorWays$Machine", name := "hasEnded", desc := "(I)Z" } : Jvm.MethodName) ∈ wtbl := tin_2 (List.mem_of_getElem? (i := 40) (by decide +kernel)) (by decide +kernel)
theorem tw_281 : Cond.instanceMethod ({ cls := "MonitorWays$Machine", name := "hasEnded", desc := "(I)Z" } : Jvm.MethodName) ∈ wtbl := tin_2 (List.mem_of_getElem? (i := 41) (by decide +kernel)) (by decide +kernel)
theorem tw_282 : Cond.selects "MonitorWays$Machine" ({ cls := "MonitorWays$Machine", name := "hasEnded", desc := "(I)Z" } : Jvm.MethodName) ({ cls := "MonitorWays$Machine", name := "hasEnded", desc := "(I)Z" } : Jvm.MethodName) ∈ wtbl := tin_2 (List.mem_of_getElem? (i := 42) (by decide +kernel)) (by decide +kernel)
theorem tw_283 : Cond.code ({ cls := "MonitorWays$Machine", name := "hasEnded", desc := "(I)Z" } : Jvm.MethodName) prog_2_method_19_code (2 : Nat) (Option.some Jvm.ClassFile.FieldType.boolean) ∈ wtbl := tin_2 (List.mem_of_getElem? (i := 43) (by decide +kernel)) (by decide +kernel)
theorem tw_284 : Cond.methodLink "MonitorWays$Machine" (52 : Nat) ({ cls := "MonitorWays$Machine", name := "waitingAllows", desc := "(LMonitorWays$Worker;I)Z" } : Jvm.MethodName) ∈ wtbl := tin_2 (List.mem_of_getElem? (i := 44) (by decide +kernel)) (by decide +kernel)
theorem tw_286 : Cond.instanceMethod ({ cls := "MonitorWays$Machine", name := "waitingAllows", desc := "(LMonitorWays$Worker;I)Z" } : Jvm.MethodName) ∈ wtbl := tin_2 (List.mem_of_getElem? (i := 46) (by decide +kernel)) (by decide +kernel)
theorem tw_287 : Cond.code ({ cls := "MonitorWays$Machine", name := "waitingAllows", desc := "(LMonitorWays$Worker;I)Z" } : Jvm.MethodName) prog_2_method_6_code (3 : Nat) (Option.some Jvm.ClassFile.FieldType.boolean) ∈ wtbl := tin_2 (List.mem_of_getElem? (i := 47) (by decide +kernel)) (by decide +kernel)
theorem tw_288 : Cond.methodLink "MonitorWays$Machine" (66 : Nat) ({ cls := "MonitorWays$Machine", name := "mayStray", desc := "(LMonitorWays$Worker;)Z" } : Jvm.MethodName) ∈ wtbl := tin_2 (List.mem_of_getElem? (i := 48) (by decide +kernel)) (by decide +kernel)
theorem tw_290 : Cond.instanceMethod ({ cls := "MonitorWays$Machine", name := "mayStray", desc := "(LMonitorWays$Worker;)Z" } : Jvm.MethodName) ∈ wtbl := tin_2 (List.mem_of_getElem? (i := 50) (by decide +kernel)) (by decide +kernel)
theorem tw_291 : Cond.code ({ cls := "MonitorWays$Machine", name := "mayStray", desc := "(LMonitorWays$Worker;)Z" } : Jvm.MethodName) prog_2_method_7_code (2 : Nat) (Option.some Jvm.ClassFile.FieldType.boolean) ∈ wtbl := tin_2 (List.mem_of_getElem? (i := 51) (by decide +kernel)) (by decide +kernel)
theorem tw_292 : Cond.methodLink "MonitorWays" (62 : Nat) ({ cls := "MonitorWays$Machine", name := "take", desc := "(II)V" } : Jvm.MethodName) ∈ wtbl := tin_2 (List.mem_of_getElem? (i := 52) (by decide +kernel)) (by decide +kernel)
theorem tw_293 : Cond.instanceMethod ({ cls := "MonitorWays$Machine", name := "take", desc := "(II)V" } : Jvm.MethodName) ∈ wtbl := tin_2 (List.mem_of_getElem? (i := 53) (by decide +kernel)) (by decide +kernel)
theorem tw_294 : Cond.selects "MonitorWays$Machine" ({ cls := "MonitorWays$Machine", name := "take", desc := "(II)V" } : Jvm.MethodName) ({ cls := "MonitorWays$Machine", name := "take", desc := "(II)V" } : Jvm.MethodName) ∈ wtbl := tin_2 (List.mem_of_getElem? (i := 54) (by decide +kernel)) (by decide +kernel)
theorem tw_295 : Cond.code ({ cls := "MonitorWays$Machine", name := "take", desc := "(II)V" } : Jvm.MethodName) prog_2_method_8_code (4 : Nat) (Option.none : Option Jvm.ClassFile.FieldType) ∈ wtbl := tin_2 (List.mem_of_getElem? (i := 55) (by decide +kernel)) (by decide +kernel)
theorem tw_296 : Cond.methodLink "MonitorWays$Machine" (86 : Nat) ({ cls := "MonitorWays$Machine", name := "useMonitor", desc := "(II)V" } : Jvm.MethodName) ∈ wtbl := tin_2 (List.mem_of_getElem? (i := 56) (by decide +kernel)) (by decide +kernel)
theorem tw_298 : Cond.instanceMethod ({ cls := "MonitorWays$Machine", name := "useMonitor", desc := "(II)V" } : Jvm.MethodName) ∈ wtbl := tin_2 (List.mem_of_getElem? (i := 58) (by decide +kernel)) (by decide +kernel)
theorem tw_299 : Cond.code ({ cls := "MonitorWays$Machine", name := "useMonitor", desc := "(II)V" } : Jvm.MethodName) prog_2_method_9_code (7 : Nat) (Option.none : Option Jvm.ClassFile.FieldType) ∈ wtbl := tin_2 (List.mem_of_getElem? (i := 59) (by decide +kernel)) (by decide +kernel)
theorem tw_300 : Cond.methodLink "MonitorWays$Machine" (108 : Nat) ({ cls := "MonitorWays$Monitor", name := "own", desc := "(II)V" } : Jvm.MethodName) ∈ wtbl := tin_2 (List.mem_of_getElem? (i := 60) (by decide +kernel)) (by decide +kernel)
theorem tw_301 : Cond.instanceMethod ({ cls := "MonitorWays$Monitor", name := "own", desc := "(II)V" } : Jvm.MethodName) ∈ wtbl := tin_2 (List.mem_of_getElem? (i := 61) (by decide +kernel)) (by decide +kernel)
theorem tw_302 : Cond.selects "MonitorWays$Monitor" ({ cls := "MonitorWays$Monitor", name := "own", desc := "(II)V" } : Jvm.MethodName) ({ cls := "MonitorWays$Monitor", name := "own", desc := "(II)V" } : Jvm.MethodName) ∈ wtbl := tin_2 (List.mem_of_getElem? (i := 62) (by decide +kernel)) (by decide +kernel)
theorem tw_303 : Cond.code ({ cls := "MonitorWays$Monitor", name := "own", desc := "(II)V" } : Jvm.MethodName) prog_3_method_5_code (3 : Nat) (Option.none : Option Jvm.ClassFile.FieldType) ∈ wtbl := tin_2 (List.mem_of_getElem? (i := 63) (by decide +kernel)) (by decide +kernel)
theorem tw_304 : Cond.methodLink "MonitorWays$Machine" (111 : Nat) ({ cls := "MonitorWays$Worker", name := "put", desc := "(I)V" } : Jvm.MethodName) ∈ wtbl := tin_2 (List.mem_of_getElem? (i := 64) (by decide +kernel)) (by decide +kernel)
theorem tw_305 : Cond.instanceMethod ({ cls := "MonitorWays$Worker", name := "put", desc := "(I)V" } : Jvm.MethodName) ∈ wtbl := tin_2 (List.mem_of_getElem? (i := 65) (by decide +kernel)) (by decide +kernel)
theorem tw_306 : Cond.selects "MonitorWays$Worker" ({ cls := "MonitorWays$Worker", name := "put", desc := "(I)V" } : Jvm.MethodName) ({ cls := "MonitorWays$Worker", name := "put", desc := "(I)V" } : Jvm.MethodName) ∈ wtbl := tin_2 (List.mem_of_getElem? (i := 66) (by decide +kernel)) (by decide +kernel)
theorem tw_307 : Cond.code ({ cls := "MonitorWays$Worker", name := "put", desc := "(I)V" } : Jvm.MethodName) prog_7_method_6_code (2 : Nat) (Option.none : Option Jvm.ClassFile.FieldType) ∈ wtbl := tin_2 (List.mem_of_getElem? (i := 67) (by decide +kernel)) (by decide +kernel)
theorem tw_308 : Cond.methodLink "MonitorWays$Machine" (114 : Nat) ({ cls := "MonitorWays$Monitor", name := "leaveOnce", desc := "()V" } : Jvm.MethodName) ∈ wtbl := tin_2 (List.mem_of_getElem? (i := 68) (by decide +kernel)) (by decide +kernel)
theorem tw_309 : Cond.instanceMethod ({ cls := "MonitorWays$Monitor", name := "leaveOnce", desc := "()V" } : Jvm.MethodName) ∈ wtbl := tin_2 (List.mem_of_getElem? (i := 69) (by decide +kernel)) (by decide +kernel)
theorem tw_310 : Cond.selects "MonitorWays$Monitor" ({ cls := "MonitorWays$Monitor", name := "leaveOnce", desc := "()V" } : Jvm.MethodName) ({ cls := "MonitorWays$Monitor", name := "leaveOnce", desc := "()V" } : Jvm.MethodName) ∈ wtbl := tin_2 (List.mem_of_getElem? (i := 70) (by decide +kernel)) (by decide +kernel)
theorem tw_311 : Cond.code ({ cls := "MonitorWays$Monitor", name := "leaveOnce", desc := "()V" } : Jvm.MethodName) prog_3_method_6_code (1 : Nat) (Option.none : Option Jvm.ClassFile.FieldType) ∈ wtbl := tin_2 (List.mem_of_getElem? (i := 71) (by decide +kernel)) (by decide +kernel)
theorem tw_312 : Cond.methodLink "MonitorWays$Machine" (117 : Nat) ({ cls := "MonitorWays$Machine", name := "notifyWaiter", desc := "(LMonitorWays$Monitor;I)V" } : Jvm.MethodName) ∈ wtbl := tin_2 (List.mem_of_getElem? (i := 72) (by decide +kernel)) (by decide +kernel)
theorem tw_314 : Cond.instanceMethod ({ cls := "MonitorWays$Machine", name := "notifyWaiter", desc := "(LMonitorWays$Monitor;I)V" } : Jvm.MethodName) ∈ wtbl := tin_2 (List.mem_of_getElem? (i := 74) (by decide +kernel)) (by decide +kernel)
theorem tw_315 : Cond.code ({ cls := "MonitorWays$Machine", name := "notifyWaiter", desc := "(LMonitorWays$Monitor;I)V" } : Jvm.MethodName) prog_2_method_11_code (4 : Nat) (Option.none : Option Jvm.ClassFile.FieldType) ∈ wtbl := tin_2 (List.mem_of_getElem? (i := 75) (by decide +kernel)) (by decide +kernel)
theorem tw_316 : Cond.methodLink "MonitorWays$Machine" (140 : Nat) ({ cls := "MonitorWays$Monitor", name := "waiterAt", desc := "(I)I" } : Jvm.MethodName) ∈ wtbl := tin_2 (List.mem_of_getElem? (i := 76) (by decide +kernel)) (by decide +kernel)
theorem tw_317 : Cond.instanceMethod ({ cls := "MonitorWays$Monitor", name := "waiterAt", desc := "(I)I" } : Jvm.MethodName) ∈ wtbl := tin_2 (List.mem_of_getElem? (i := 77) (by decide +kernel)) (by decide +kernel)
theorem tw_318 : Cond.selects "MonitorWays$Monitor" ({ cls := "MonitorWays$Monitor", name := "waiterAt", desc := "(I)I" } : Jvm.MethodName) ({ cls := "MonitorWays$Monitor", name := "waiterAt", desc := "(I)I" } : Jvm.MethodName) ∈ wtbl := tin_2 (List.mem_of_getElem? (i := 78) (by decide +kernel)) (by decide +kernel)
theorem tw_319 : Cond.code ({ cls := "MonitorWays$Monitor", name := "waiterAt", desc := "(I)I" } : Jvm.MethodName) prog_3_method_7_code (2 : Nat) (Option.some Jvm.ClassFile.FieldType.int) ∈ wtbl := tin_2 (List.mem_of_getElem? (i := 79) (by decide +kernel)) (by decide +kernel)
theorem tw_320 : Cond.methodLink "MonitorWays$Machine" (144 : Nat) ({ cls := "MonitorWays$Monitor", name := "dropWaiter", desc := "(I)V" } : Jvm.MethodName) ∈ wtbl := tin_2 (List.mem_of_getElem? (i := 80) (by decide +kernel)) (by decide +kernel)
theorem tw_321 : Cond.instanceMethod ({ cls := "MonitorWays$Monitor", name := "dropWaiter", desc := "(I)V" } : Jvm.MethodName) ∈ wtbl := tin_2 (List.mem_of_getElem? (i := 81) (by decide +kernel)) (by decide +kernel)
theorem tw_322 : Cond.selects "MonitorWays$Monitor" ({ cls := "MonitorWays$Monitor", name := "dropWaiter", desc := "(I)V" } : Jvm.MethodName) ({ cls := "MonitorWays$Monitor", name := "dropWaiter", desc := "(I)V" } : Jvm.MethodName) ∈ wtbl := tin_2 (List.mem_of_getElem? (i := 82) (by decide +kernel)) (by decide +kernel)
theorem tw_323 : Cond.code ({ cls := "MonitorWays$Monitor", name := "dropWaiter", desc := "(I)V" } : Jvm.MethodName) prog_3_method_9_code (4 : Nat) (Option.none : Option Jvm.ClassFile.FieldType) ∈ wtbl := tin_2 (List.mem_of_getElem? (i := 83) (by decide +kernel)) (by decide +kernel)
theorem tw_324 : Cond.methodLink "MonitorWays$Machine" (121 : Nat) ({ cls := "MonitorWays$Worker", name := "takeInterrupt", desc := "()Z" } : Jvm.MethodName) ∈ wtbl := tin_2 (List.mem_of_getElem? (i := 84) (by decide +kernel)) (by decide +kernel)
theorem tw_325 : Cond.instanceMethod ({ cls := "MonitorWays$Worker", name := "takeInterrupt", desc := "()Z" } : Jvm.MethodName) ∈ wtbl := tin_2 (List.mem_of_getElem? (i := 85) (by decide +kernel)) (by decide +kernel)
theorem tw_326 : Cond.selects "MonitorWays$Worker" ({ cls := "MonitorWays$Worker", name := "takeInterrupt", desc := "()Z" } : Jvm.MethodName) ({ cls := "MonitorWays$Worker", name := "takeInterrupt", desc := "()Z" } : Jvm.MethodName) ∈ wtbl := tin_2 (List.mem_of_getElem? (i := 86) (by decide +kernel)) (by decide +kernel)
theorem tw_327 : Cond.code ({ cls := "MonitorWays$Worker", name := "takeInterrupt", desc := "()Z" } : Jvm.MethodName) prog_7_method_7_code (2 : Nat) (Option.some Jvm.ClassFile.FieldType.boolean) ∈ wtbl := tin_2 (List.mem_of_getElem? (i := 87) (by decide +kernel)) (by decide +kernel)
theorem tw_328 : Cond.methodLink "MonitorWays$Machine" (124 : Nat) ({ cls := "MonitorWays$Machine", name := "goIntoSet", desc := "(ILMonitorWays$Monitor;)V" } : Jvm.MethodName) ∈ wtbl := tin_2 (List.mem_of_getElem? (i := 88) (by decide +kernel)) (by decide +kernel)
theorem tw_330 : Cond.instanceMethod ({ cls := "MonitorWays$Machine", name := "goIntoSet", desc := "(ILMonitorWays$Monitor;)V" } : Jvm.MethodName) ∈ wtbl := tin_2 (List.mem_of_getElem? (i := 90) (by decide +kernel)) (by decide +kernel)
theorem tw_331 : Cond.code ({ cls := "MonitorWays$Machine", name := "goIntoSet", desc := "(ILMonitorWays$Monitor;)V" } : Jvm.MethodName) prog_2_method_10_code (3 : Nat) (Option.none : Option Jvm.ClassFile.FieldType) ∈ wtbl := tin_2 (List.mem_of_getElem? (i := 91) (by decide +kernel)) (by decide +kernel)
theorem tw_332 : Cond.methodLink "MonitorWays$Machine" (134 : Nat) ({ cls := "MonitorWays$Monitor", name := "setFree", desc := "()V" } : Jvm.MethodName) ∈ wtbl := tin_2 (List.mem_of_getElem? (i := 92) (by decide +kernel)) (by decide +kernel)
theorem tw_333 : Cond.methodLink "MonitorWays$Machine" (137 : Nat) ({ cls := "MonitorWays$Monitor", name := "addWaiter", desc := "(I)V" } : Jvm.MethodName) ∈ wtbl := tin_2 (List.mem_of_getElem? (i := 93) (by decide +kernel)) (by decide +kernel)
theorem tw_334 : Cond.instanceMethod ({ cls := "MonitorWays$Monitor", name := "addWaiter", desc := "(I)V" } : Jvm.MethodName) ∈ wtbl := tin_2 (List.mem_of_getElem? (i := 94) (by decide +kernel)) (by decide +kernel)
theorem tw_335 : Cond.selects "MonitorWays$Monitor" ({ cls := "MonitorWays$Monitor", name := "addWaiter", desc := "(I)V" } : Jvm.MethodName) ({ cls := "MonitorWays$Monitor", name := "addWaiter", desc := "(I)V" } : Jvm.MethodName) ∈ wtbl := tin_2 (List.mem_of_getElem? (i := 95) (by decide +kernel)) (by decide +kernel)
theorem tw_336 : Cond.code ({ cls := "MonitorWays$Monitor", name := "addWaiter", desc := "(I)V" } : Jvm.MethodName) prog_3_method_8_code (2 : Nat) (Option.none : Option Jvm.ClassFile.FieldType) ∈ wtbl := tin_2 (List.mem_of_getElem? (i := 96) (by decide +kernel)) (by decide +kernel)
theorem tw_337 : Cond.methodLink "MonitorWays$Machine" (128 : Nat) ({ cls := "MonitorWays$Worker", name := "runOn", desc := "()V" } : Jvm.MethodName) ∈ wtbl := tin_2 (List.mem_of_getElem? (i := 97) (by decide +kernel)) (by decide +kernel)
theorem tw_338 : Cond.instanceMethod ({ cls := "MonitorWays$Worker", name := "runOn", desc := "()V" } : Jvm.MethodName) ∈ wtbl := tin_2 (List.mem_of_getElem? (i := 98) (by decide +kernel)) (by decide +kernel)
theorem tw_339 : Cond.selects "MonitorWays$Worker" ({ cls := "MonitorWays$Worker", name := "runOn", desc := "()V" } : Jvm.MethodName) ({ cls := "MonitorWays$Worker", name := "runOn", desc := "()V" } : Jvm.MethodName) ∈ wtbl := tin_2 (List.mem_of_getElem? (i := 99) (by decide +kernel)) (by decide +kernel)
theorem tw_340 : Cond.code ({ cls := "MonitorWays$Worker", name := "runOn", desc := "()V" } : Jvm.MethodName) prog_7_method_3_code (1 : Nat) (Option.none : Option Jvm.ClassFile.FieldType) ∈ wtbl := tin_2 (List.mem_of_getElem? (i := 100) (by decide +kernel)) (by decide +kernel)
theorem tw_341 : Cond.methodLink "MonitorWays$Machine" (90 : Nat) ({ cls := "MonitorWays$Machine", name := "doPlainAction", desc := "(LMonitorWays$Worker;)V" } : Jvm.MethodName) ∈ wtbl := tin_2 (List.mem_of_getElem? (i := 101) (by decide +kernel)) (by decide +kernel)
theorem tw_343 : Cond.instanceMethod ({ cls := "MonitorWays$Machine", name := "doPlainAction", desc := "(LMonitorWays$Worker;)V" } : Jvm.MethodName) ∈ wtbl := tin_2 (List.mem_of_getElem? (i := 103) (by decide +kernel)) (by decide +kernel)
theorem tw_344 : Cond.code ({ cls := "MonitorWays$Machine", name := "doPlainAction", desc := "(LMonitorWays$Worker;)V" } : Jvm.MethodName) prog_2_method_15_code (2 : Nat) (Option.none : Option Jvm.ClassFile.FieldType) ∈ wtbl := tin_2 (List.mem_of_getElem? (i := 104) (by decide +kernel)) (by decide +kernel)
theorem tw_345 : Cond.methodLink "MonitorWays$Machine" (147 : Nat) ({ cls := "MonitorWays$Machine", name := "interrupt", desc := "(LMonitorWays$Worker;)V" } : Jvm.MethodName) ∈ wtbl := tin_2 (List.mem_of_getElem? (i := 105) (by decide +kernel)) (by decide +kernel)
theorem tw_347 : Cond.instanceMethod ({ cls := "MonitorWays$Machine", name := "interrupt", desc := "(LMonitorWays$Worker;)V" } : Jvm.MethodName) ∈ wtbl := tin_2 (List.mem_of_getElem? (i := 107) (by decide +kernel)) (by decide +kernel)
theorem tw_348 : Cond.code ({ cls := "MonitorWays$Machine", name := "interrupt", desc := "(LMonitorWays$Worker;)V" } : Jvm.MethodName) prog_2_method_16_code (2 : Nat) (Option.none : Option Jvm.ClassFile.FieldType) ∈ wtbl := tin_2 (List.mem_of_getElem? (i := 108) (by decide +kernel)) (by decide +kernel)
theorem tw_349 : Cond.methodLink "MonitorWays$Machine" (153 : Nat) ({ cls := "MonitorWays$Machine", name := "unpark", desc := "(LMonitorWays$Worker;)V" } : Jvm.MethodName) ∈ wtbl := tin_2 (List.mem_of_getElem? (i := 109) (by decide +kernel)) (by decide +kernel)
theorem tw_351 : Cond.instanceMethod ({ cls := "MonitorWays$Machine", name := "unpark", desc := "(LMonitorWays$Worker;)V" } : Jvm.MethodName) ∈ wtbl := tin_2 (List.mem_of_getElem? (i := 111) (by decide +kernel)) (by decide +kernel)
theorem tw_352 : Cond.code ({ cls := "MonitorWays$Machine", name := "unpark", desc := "(LMonitorWays$Worker;)V" } : Jvm.MethodName) prog_2_method_17_code (2 : Nat) (Option.none : Option Jvm.ClassFile.FieldType) ∈ wtbl := tin_2 (List.mem_of_getElem? (i := 112) (by decide +kernel)) (by decide +kernel)
theorem tw_353 : Cond.methodLink "MonitorWays$Machine" (94 : Nat) ({ cls := "MonitorWays$Machine", name := "leaveSetAlone", desc := "(II)V" } : Jvm.MethodName) ∈ wtbl := tin_2 (List.mem_of_getElem? (i := 113) (by decide +kernel)) (by decide +kernel)
theorem tw_355 : Cond.instanceMethod ({ cls := "MonitorWays$Machine", name := "leaveSetAlone", desc := "(II)V" } : Jvm.MethodName) ∈ wtbl := tin_2 (List.mem_of_getElem? (i := 115) (by decide +kernel)) (by decide +kernel)
theorem tw_356 : Cond.code ({ cls := "MonitorWays$Machine", name := "leaveSetAlone", desc := "(II)V" } : Jvm.MethodName) prog_2_method_12_code (4 : Nat) (Option.none : Option Jvm.ClassFile.FieldType) ∈ wtbl := tin_2 (List.mem_of_getElem? (i := 116) (by decide +kernel)) (by decide +kernel)
theorem tw_357 : Cond.methodLink "MonitorWays$Machine" (97 : Nat) ({ cls := "MonitorWays$Machine", name := "comeBack", desc := "(I)V" } : Jvm.MethodName) ∈ wtbl := tin_2 (List.mem_of_getElem? (i := 117) (by decide +kernel)) (by decide +kernel)
theorem tw_359 : Cond.instanceMethod ({ cls := "MonitorWays$Machine", name := "comeBack", desc := "(I)V" } : Jvm.MethodName) ∈ wtbl := tin_2 (List.mem_of_getElem? (i := 119) (by decide +kernel)) (by decide +kernel)
theorem tw_360 : Cond.code ({ cls := "MonitorWays$Machine", name := "comeBack", desc := "(I)V" } : Jvm.MethodName) prog_2_method_13_code (3 : Nat) (Option.none : Option Jvm.ClassFile.FieldType) ∈ wtbl := tin_2 (List.mem_of_getElem? (i := 120) (by decide +kernel)) (by decide +kernel)
theorem tw_361 : Cond.methodLink "MonitorWays$Machine" (101 : Nat) ({ cls := "MonitorWays$Machine", name := "stopParking", desc := "(LMonitorWays$Worker;I)V" } : Jvm.MethodName) ∈ wtbl := tin_2 (List.mem_of_getElem? (i := 121) (by decide +kernel)) (by decide +kernel)
theorem tw_363 : Cond.instanceMethod ({ cls := "MonitorWays$Machine", name := "stopParking", desc := "(LMonitorWays$Worker;I)V" } : Jvm.MethodName) ∈ wtbl := tin_2 (List.mem_of_getElem? (i := 123) (by decide +kernel)) (by decide +kernel)
theorem tw_364 : Cond.code ({ cls := "MonitorWays$Machine", name := "stopParking", desc := "(LMonitorWays$Worker;I)V" } : Jvm.MethodName) prog_2_method_14_code (3 : Nat) (Option.none : Option Jvm.ClassFile.FieldType) ∈ wtbl := tin_2 (List.mem_of_getElem? (i := 124) (by decide +kernel)) (by decide +kernel)
theorem tw_365 : Cond.methodLink "MonitorWaysLaw" (31 : Nat) ({ cls := "MonitorWays", name := "allowed", desc := "(II)Z" } : Jvm.MethodName) ∈ wtbl := tin_2 (List.mem_of_getElem? (i := 125) (by decide +kernel)) (by decide +kernel)
theorem tw_366 : Cond.instanceMethod ({ cls := "MonitorWays", name := "allowed", desc := "(II)Z" } : Jvm.MethodName) ∈ wtbl := tin_2 (List.mem_of_getElem? (i := 126) (by decide +kernel)) (by decide +kernel)
theorem tw_367 : Cond.selects "MonitorWays" ({ cls := "MonitorWays", name := "allowed", desc := "(II)Z" } : Jvm.MethodName) ({ cls := "MonitorWays", name := "allowed", desc := "(II)Z" } : Jvm.MethodName) ∈ wtbl := tin_2 (List.mem_of_getElem? (i := 127) (by decide +kernel)) (by decide +kernel)
theorem tw_368 : Cond.code ({ cls := "MonitorWays", name := "allowed", desc := "(II)Z" } : Jvm.MethodName) prog_1_method_4_code (3 : Nat) (Option.some Jvm.ClassFile.FieldType.boolean) ∈ wtbl := tin_2 (List.mem_of_getElem? (i := 128) (by decide +kernel)) (by decide +kernel)
theorem tw_369 : Cond.methodLink "MonitorWaysLaw" (36 : Nat) ({ cls := "MonitorWays", name := "reset", desc := "()I" } : Jvm.MethodName) ∈ wtbl := tin_2 (List.mem_of_getElem? (i := 129) (by decide +kernel)) (by decide +kernel)
theorem tw_370 : Cond.instanceMethod ({ cls := "MonitorWays", name := "reset", desc := "()I" } : Jvm.MethodName) ∈ wtbl := tin_2 (List.mem_of_getElem? (i := 130) (by decide +kernel)) (by decide +kernel)
theorem tw_371 : Cond.selects "MonitorWays" ({ cls := "MonitorWays", name := "reset", desc := "()I" } : Jvm.MethodName) ({ cls := "MonitorWays", name := "reset", desc := "()I" } : Jvm.MethodName) ∈ wtbl := tin_2 (List.mem_of_getElem? (i := 131) (by decide +kernel)) (by decide +kernel)
theorem tw_372 : Cond.code ({ cls := "MonitorWays", name := "reset", desc := "()I" } : Jvm.MethodName) prog_1_method_5_code (2 : Nat) (Option.some Jvm.ClassFile.FieldType.int) ∈ wtbl := tin_2 (List.mem_of_getElem? (i := 132) (by decide +kernel)) (by decide +kernel)
theorem tw_373 : Cond.methodLink "MonitorWaysLaw" (41 : Nat) ({ cls := "MonitorWays", name := "state", desc := "(I)I" } : Jvm.MethodName) ∈ wtbl := tin_2 (List.mem_of_getElem? (i := 133) (by decide +kernel)) (by decide +kernel)
theorem tw_374 : Cond.instanceMethod ({ cls := "MonitorWays", name := "state", desc := "(I)I" } : Jvm.MethodName) ∈ wtbl := tin_2 (List.mem_of_getElem? (i := 134) (by decide +kernel)) (by decide +kernel)
theorem tw_375 : Cond.selects "MonitorWays" ({ cls := "MonitorWays", name := "state", desc := "(I)I" } : Jvm.MethodName) ({ cls := "MonitorWays", name := "state", desc := "(I)I" } : Jvm.MethodName) ∈ wtbl := tin_2 (List.mem_of_getElem? (i := 135) (by decide +kernel)) (by decide +kernel)
theorem tw_376 : Cond.code ({ cls := "MonitorWays", name := "state", desc := "(I)I" } : Jvm.MethodName) prog_1_method_6_code (2 : Nat) (Option.some Jvm.ClassFile.FieldType.int) ∈ wtbl := tin_2 (List.mem_of_getElem? (i := 136) (by decide +kernel)) (by decide +kernel)
theorem tw_377 : Cond.methodLink "MonitorWays" (72 : Nat) ({ cls := "MonitorWays$Worker", name := "stateNumber", desc := "()I" } : Jvm.MethodName) ∈ wtbl := tin_2 (List.mem_of_getElem? (i := 137) (by decide +kernel)) (by decide +kernel)
theorem tw_378 : Cond.instanceMethod ({ cls := "MonitorWays$Worker", name := "stateNumber", desc := "()I" } : Jvm.MethodName) ∈ wtbl := tin_2 (List.mem_of_getElem? (i := 138) (by decide +kernel)) (by decide +kernel)
theorem tw_379 : Cond.selects "MonitorWays$Worker" ({ cls := "MonitorWays$Worker", name := "stateNumber", desc := "()I" } : Jvm.MethodName) ({ cls := "MonitorWays$Worker", name := "stateNumber", desc := "()I" } : Jvm.MethodName) ∈ wtbl := tin_2 (List.mem_of_getElem? (i := 139) (by decide +kernel)) (by decide +kernel)
theorem tw_380 : Cond.code ({ cls := "MonitorWays$Worker", name := "stateNumber", desc := "()I" } : Jvm.MethodName) prog_7_method_8_code (1 : Nat) (Option.some Jvm.ClassFile.FieldType.int) ∈ wtbl := tin_2 (List.mem_of_getElem? (i := 140) (by decide +kernel)) (by decide +kernel)
theorem tw_381 : Cond.methodLink "MonitorWaysLaw" (46 : Nat) ({ cls := "MonitorWays", name := "letter", desc := "(II)I" } : Jvm.MethodName) ∈ wtbl := tin_2 (List.mem_of_getElem? (i := 141) (by decide +kernel)) (by decide +kernel)
theorem tw_382 : Cond.instanceMethod ({ cls := "MonitorWays", name := "letter", desc := "(II)I" } : Jvm.MethodName) ∈ wtbl := tin_2 (List.mem_of_getElem? (i := 142) (by decide +kernel)) (by decide +kernel)
theorem tw_383 : Cond.selects "MonitorWays" ({ cls := "MonitorWays", name := "letter", desc := "(II)I" } : Jvm.MethodName) ({ cls := "MonitorWays", name := "letter", desc := "(II)I" } : Jvm.MethodName) ∈ wtbl := tin_2 (List.mem_of_getElem? (i := 143) (by decide +kernel)) (by decide +kernel)
theorem tw_384 : Cond.code ({ cls := "MonitorWays", name := "letter", desc := "(II)I" } : Jvm.MethodName) prog_1_method_7_code (3 : Nat) (Option.some Jvm.ClassFile.FieldType.int) ∈ wtbl := tin_2 (List.mem_of_getElem? (i := 144) (by decide +kernel)) (by decide +kernel)
theorem tw_385 : Cond.methodLink "MonitorWays" (78 : Nat) ({ cls := "MonitorWays$Worker", name := "letterAt", desc := "(I)I" } : Jvm.MethodName) ∈ wtbl := tin_2 (List.mem_of_getElem? (i := 145) (by decide +kernel)) (by decide +kernel)
theorem tw_386 : Cond.instanceMethod ({ cls := "MonitorWays$Worker", name := "letterAt", desc := "(I)I" } : Jvm.MethodName) ∈ wtbl := tin_2 (List.mem_of_getElem? (i := 146) (by decide +kernel)) (by decide +kernel)
theorem tw_387 : Cond.selects "MonitorWays$Worker" ({ cls := "MonitorWays$Worker", name := "letterAt", desc := "(I)I" } : Jvm.MethodName) ({ cls := "MonitorWays$Worker", name := "letterAt", desc := "(I)I" } : Jvm.MethodName) ∈ wtbl := tin_2 (List.mem_of_getElem? (i := 147) (by decide +kernel)) (by decide +kernel)
theorem tw_388 : Cond.code ({ cls := "MonitorWays$Worker", name := "letterAt", desc := "(I)I" } : Jvm.MethodName) prog_7_method_9_code (5 : Nat) (Option.some Jvm.ClassFile.FieldType.int) ∈ wtbl := tin_2 (List.mem_of_getElem? (i := 148) (by decide +kernel)) (by decide +kernel)
theorem tw_389 : Cond.methodLink "MonitorWays$Worker" (50 : Nat) ({ cls := "MonitorWays$Worker", name := "letterCount", desc := "()I" } : Jvm.MethodName) ∈ wtbl := tin_2 (List.mem_of_getElem? (i := 149) (by decide +kernel)) (by decide +kernel)
theorem tw_391 : Cond.instanceMethod ({ cls := "MonitorWays$Worker", name := "letterCount", desc := "()I" } : Jvm.MethodName) ∈ wtbl := tin_2 (List.mem_of_getElem? (i := 151) (by decide +kernel)) (by decide +kernel)
theorem tw_392 : Cond.code ({ cls := "MonitorWays$Worker", name := "letterCount", desc := "()I" } : Jvm.MethodName) prog_7_method_10_code (3 : Nat) (Option.some Jvm.ClassFile.FieldType.int) ∈ wtbl := tin_2 (List.mem_of_getElem? (i := 152) (by decide +kernel)) (by decide +kernel)
theorem tw_393 : Cond.methodLink "MonitorWaysLaw" (50 : Nat) ({ cls := "MonitorWays", name := "owner", desc := "(I)I" } : Jvm.MethodName) ∈ wtbl := tin_2 (List.mem_of_getElem? (i := 153) (by decide +kernel)) (by decide +kernel)
theorem tw_394 : Cond.instanceMethod ({ cls := "MonitorWays", name := "owner", desc := "(I)I" } : Jvm.MethodName) ∈ wtbl := tin_2 (List.mem_of_getElem? (i := 154) (by decide +kernel)) (by decide +kernel)
theorem tw_395 : Cond.selects "MonitorWays" ({ cls := "MonitorWays", name := "owner", desc := "(I)I" } : Jvm.MethodName) ({ cls := "MonitorWays", name := "owner", desc := "(I)I" } : Jvm.MethodName) ∈ wtbl := tin_2 (List.mem_of_getElem? (i := 155) (by decide +kernel)) (by decide +kernel)
theorem tw_396 : Cond.code ({ cls := "MonitorWays", name := "owner", desc := "(I)I" } : Jvm.MethodName) prog_1_method_8_code (2 : Nat) (Option.some Jvm.ClassFile.FieldType.int) ∈ wtbl := tin_2 (List.mem_of_getElem? (i := 156) (by decide +kernel)) (by decide +kernel)
theorem tw_397 : Cond.methodLink "MonitorWays" (89 : Nat) ({ cls := "MonitorWays$Monitor", name := "isFree", desc := "()Z" } : Jvm.MethodName) ∈ wtbl := tin_2 (List.mem_of_getElem? (i := 157) (by decide +kernel)) (by decide +kernel)
theorem tw_398 : Cond.methodLink "MonitorWaysLaw" (54 : Nat) ({ cls := "MonitorWays", name := "held", desc := "(I)I" } : Jvm.MethodName) ∈ wtbl := tin_2 (List.mem_of_getElem? (i := 158) (by decide +kernel)) (by decide +kernel)
theorem tw_399 : Cond.instanceMethod ({ cls := "MonitorWays", name := "held", desc := "(I)I" } : Jvm.MethodName) ∈ wtbl := tin_2 (List.mem_of_getElem? (i := 159) (by decide +kernel)) (by decide +kernel)
theorem tw_400 : Cond.selects "MonitorWays" ({ cls := "MonitorWays", name := "held", desc := "(I)I" } : Jvm.MethodName) ({ cls := "MonitorWays", name := "held", desc := "(I)I" } : Jvm.MethodName) ∈ wtbl := tin_2 (List.mem_of_getElem? (i := 160) (by decide +kernel)) (by decide +kernel)
theorem tw_401 : Cond.code ({ cls := "MonitorWays", name := "held", desc := "(I)I" } : Jvm.MethodName) prog_1_method_9_code (2 : Nat) (Option.some Jvm.ClassFile.FieldType.int) ∈ wtbl := tin_2 (List.mem_of_getElem? (i := 161) (by decide +kernel)) (by decide +kernel)
theorem tw_402 : Cond.methodLink "MonitorWaysLaw" (58 : Nat) ({ cls := "MonitorWays", name := "inSet", desc := "(II)I" } : Jvm.MethodName) ∈ wtbl := tin_2 (List.mem_of_getElem? (i := 162) (by decide +kernel)) (by decide +kernel)
theorem tw_403 : Cond.instanceMethod ({ cls := "MonitorWays", name := "inSet", desc := "(II)I" } : Jvm.MethodName) ∈ wtbl := tin_2 (List.mem_of_getElem? (i := 163) (by decide +kernel)) (by decide +kernel)
theorem tw_404 : Cond.selects "MonitorWays" ({ cls := "MonitorWays", name := "inSet", desc := "(II)I" } : Jvm.MethodName) ({ cls := "MonitorWays", name := "inSet", desc := "(II)I" } : Jvm.MethodName) ∈ wtbl := tin_2 (List.mem_of_getElem? (i := 164) (by decide +kernel)) (by decide +kernel)
theorem tw_405 : Cond.code ({ cls := "MonitorWays", name := "inSet", desc := "(II)I" } : Jvm.MethodName) prog_1_method_10_code (3 : Nat) (Option.some Jvm.ClassFile.FieldType.int) ∈ wtbl := tin_2 (List.mem_of_getElem? (i := 165) (by decide +kernel)) (by decide +kernel)
theorem tw_406 : Cond.methodLink "MonitorWays" (101 : Nat) ({ cls := "MonitorWays$Monitor", name := "waiterAt", desc := "(I)I" } : Jvm.MethodName) ∈ wtbl := tin_2 (List.mem_of_getElem? (i := 166) (by decide +kernel)) (by decide +kernel)
theorem tw_407 : Cond.methodLink "MonitorWaysLaw" (62 : Nat) ({ cls := "MonitorWays", name := "explore", desc := "()I" } : Jvm.MethodName) ∈ wtbl := tin_2 (List.mem_of_getElem? (i := 167) (by decide +kernel)) (by decide +kernel)
theorem tw_408 : Cond.instanceMethod ({ cls := "MonitorWays", name := "explore", desc := "()I" } : Jvm.MethodName) ∈ wtbl := tin_2 (List.mem_of_getElem? (i := 168) (by decide +kernel)) (by decide +kernel)
theorem tw_409 : Cond.selects "MonitorWays" ({ cls := "MonitorWays", name := "explore", desc := "()I" } : Jvm.MethodName) ({ cls := "MonitorWays", name := "explore", desc := "()I" } : Jvm.MethodName) ∈ wtbl := tin_2 (List.mem_of_getElem? (i := 169) (by decide +kernel)) (by decide +kernel)
theorem tw_410 : Cond.code ({ cls := "MonitorWays", name := "explore", desc := "()I" } : Jvm.MethodName) prog_1_method_11_code (1 : Nat) (Option.some Jvm.ClassFile.FieldType.int) ∈ wtbl := tin_2 (List.mem_of_getElem? (i := 170) (by decide +kernel)) (by decide +kernel)
theorem tw_411 : Cond.methodLink "MonitorWays" (108 : Nat) ({ cls := "MonitorWays$Search", name := "goThrough", desc := "()V" } : Jvm.MethodName) ∈ wtbl := tin_2 (List.mem_of_getElem? (i := 171) (by decide +kernel)) (by decide +kernel)
theorem tw_412 : Cond.instanceMethod ({ cls := "MonitorWays$Search", name := "goThrough", desc := "()V" } : Jvm.MethodName) ∈ wtbl := tin_2 (List.mem_of_getElem? (i := 172) (by decide +kernel)) (by decide +kernel)
theorem tw_413 : Cond.selects "MonitorWays$Search" ({ cls := "MonitorWays$Search", name := "goThrough", desc := "()V" } : Jvm.MethodName) ({ cls := "MonitorWays$Search", name := "goThrough", desc := "()V" } : Jvm.MethodName) ∈ wtbl := tin_2 (List.mem_of_getElem? (i := 173) (by decide +kernel)) (by decide +kernel)
theorem tw_414 : Cond.code ({ cls := "MonitorWays$Search", name := "goThrough", desc := "()V" } : Jvm.MethodName) prog_5_method_3_code (3 : Nat) (Option.none : Option Jvm.ClassFile.FieldType) ∈ wtbl := tin_2 (List.mem_of_getElem? (i := 174) (by decide +kernel)) (by decide +kernel)
theorem tw_415 : Cond.methodLink "MonitorWays$Search" (50 : Nat) ({ cls := "MonitorWays$States", name := "clear", desc := "()V" } : Jvm.MethodName) ∈ wtbl := tin_2 (List.mem_of_getElem? (i := 175) (by decide +kernel)) (by decide +kernel)
theorem tw_416 : Cond.instanceMethod ({ cls := "MonitorWays$States", name := "clear", desc := "()V" } : Jvm.MethodName) ∈ wtbl := tin_2 (List.mem_of_getElem? (i := 176) (by decide +kernel)) (by decide +kernel)
theorem tw_417 : Cond.selects "MonitorWays$States" ({ cls := "MonitorWays$States", name := "clear", desc := "()V" } : Jvm.MethodName) ({ cls := "MonitorWays$States", name := "clear", desc := "()V" } : Jvm.MethodName) ∈ wtbl := tin_2 (List.mem_of_getElem? (i := 177) (by decide +kernel)) (by decide +kernel)
theorem tw_418 : Cond.code ({ cls := "MonitorWays$States", name := "clear", desc := "()V" } : Jvm.MethodName) prog_6_method_2_code (1 : Nat) (Option.none : Option Jvm.ClassFile.FieldType) ∈ wtbl := tin_2 (List.mem_of_getElem? (i := 178) (by decide +kernel)) (by decide +kernel)
theorem tw_419 : Cond.methodLink "MonitorWays$States" (27 : Nat) ({ cls := "java/util/Arrays", name := "fill", desc := "([II)V" } : Jvm.MethodName) ∈ wtbl := tin_2 (List.mem_of_getElem? (i := 179) (by decide +kernel)) (by decide +kernel)
theorem tw_420 : Cond.static ({ cls := "java/util/Arrays", name := "fill", desc := "([II)V" } : Jvm.MethodName) ∈ wtbl := tin_2 (List.mem_of_getElem? (i := 180) (by decide +kernel)) (by decide +kernel)
theorem tw_421 : Cond.code ({ cls := "java/util/Arrays", name := "fill", desc := "([II)V" } : Jvm.MethodName) prog_13_method_103_code (4 : Nat) (Option.none : Option Jvm.ClassFile.FieldType) ∈ wtbl := tin_2 (List.mem_of_getElem? (i := 181) (by decide +kernel)) (by decide +kernel)
theorem tw_422 : Cond.methodLink "MonitorWays$Search" (53 : Nat) ({ cls := "MonitorWays$Machine", name := "begin", desc := "()V" } : Jvm.MethodName) ∈ wtbl := tin_2 (List.mem_of_getElem? (i := 182) (by decide +kernel)) (by decide +kernel)
theorem tw_423 : Cond.methodLink "MonitorWays$Search" (58 : Nat) ({ cls := "MonitorWays$States", name := "keep", desc := "(LMonitorWays$Machine;)Z" } : Jvm.MethodName) ∈ wtbl := tin_2 (List.mem_of_getElem? (i := 183) (by decide +kernel)) (by decide +kernel)
theorem tw_424 : Cond.instanceMethod ({ cls := "MonitorWays$States", name := "keep", desc := "(LMonitorWays$Machine;)Z" } : Jvm.MethodName) ∈ wtbl := tin_2 (List.mem_of_getElem? (i := 184) (by decide +kernel)) (by decide +kernel)
theorem tw_425 : Cond.selects "MonitorWays$States" ({ cls := "MonitorWays$States", name := "keep", desc := "(LMonitorWays$Machine;)Z" } : Jvm.MethodName) ({ cls := "MonitorWays$States", name := "keep", desc := "(LMonitorWays$Machine;)Z" } : Jvm.MethodName) ∈ wtbl := tin_2 (List.mem_of_getElem? (i := 185) (by decide +kernel)) (by decide +kernel)
theorem tw_426 : Cond.code ({ cls := "MonitorWays$States", name := "keep", desc := "(LMonitorWays$Machine;)Z" } : Jvm.MethodName) prog_6_method_4_code (3 : Nat) (Option.some Jvm.ClassFile.FieldType.boolean) ∈ wtbl := tin_2 (List.mem_of_getElem? (i := 186) (by decide +kernel)) (by decide +kernel)
theorem tw_427 : Cond.methodLink "MonitorWays$States" (33 : Nat) ({ cls := "MonitorWays$States", name := "grow", desc := "()V" } : Jvm.MethodName) ∈ wtbl := tin_2 (List.mem_of_getElem? (i := 187) (by decide +kernel)) (by decide +kernel)
theorem tw_429 : Cond.instanceMethod ({ cls := "MonitorWays$States", name := "grow", desc := "()V" } : Jvm.MethodName) ∈ wtbl := tin_2 (List.mem_of_getElem? (i := 189) (by decide +kernel)) (by decide +kernel)
theorem tw_430 : Cond.code ({ cls := "MonitorWays$States", name := "grow", desc := "()V" } : Jvm.MethodName) prog_6_method_7_code (2 : Nat) (Option.none : Option Jvm.ClassFile.FieldType) ∈ wtbl := tin_2 (List.mem_of_getElem? (i := 190) (by decide +kernel)) (by decide +kernel)
theorem tw_431 : Cond.methodLink "MonitorWays$States" (49 : Nat) ({ cls := "java/util/Arrays", name := "copyOf", desc := "([JI)[J" } : Jvm.MethodName) ∈ wtbl := tin_2 (List.mem_of_getElem? (i := 191) (by decide +kernel)) (by decide +kernel)
theorem tw_432 : Cond.static ({ cls := "java/util/Arrays", name := "copyOf", desc := "([JI)[J" } : Jvm.MethodName) ∈ wtbl := tin_2 (List.mem_of_getElem? (i := 192) (by decide +kernel)) (by decide +kernel)
theorem tw_433 : Cond.code ({ cls := "java/util/Arrays", name := "copyOf", desc := "([JI)[J" } : Jvm.MethodName) prog_13_method_124_code (3 : Nat) (Option.some (Jvm.ClassFile.FieldType.array Jvm.ClassFile.FieldType.long)) ∈ wtbl := tin_2 (List.mem_of_getElem? (i := 193) (by decide +kernel)) (by decide +kernel)
theorem tw_434 : Cond.methodLink "java/util/Arrays" (319 : Nat) ({ cls := "[J", name := "clone", desc := "()Ljava/lang/Object;" } : Jvm.MethodName) ∈ wtbl := tin_2 (List.mem_of_getElem? (i := 194) (by decide +kernel)) (by decide +kernel)
theorem tw_435 : Cond.sameMethod "[J" "java/lang/Object" "clone" "()Ljava/lang/Object;" ∈ wtbl := tin_2 (List.mem_of_getElem? (i := 195) (by decide +kernel)) (by decide +kernel)
theorem tw_436 : Cond.native ({ cls := "java/lang/Object", name := "clone", desc := "()Ljava/lang/Object;" } : Jvm.MethodName) ∈ wtbl := tin_2 (List.mem_of_getElem? (i := 196) (by decide +kernel)) (by decide +kernel)
theorem tw_437 : Cond.instanceMethod ({ cls := "java/lang/Object", name := "clone", desc := "()Ljava/lang/Object;" } : Jvm.MethodName) ∈ wtbl := tin_2 (List.mem_of_getElem? (i := 197) (by decide +kernel)) (by decide +kernel)
theorem tw_438 : Cond.selects "[J" ({ cls := "[J", name := "clone", desc := "()Ljava/lang/Object;" } : Jvm.MethodName) ({ cls := "java/lang/Object", name := "clone", desc := "()Ljava/lang/Object;" } : Jvm.MethodName) ∈ wtbl := tin_2 (List.mem_of_getElem? (i := 198) (by decide +kernel)) (by decide +kernel)
theorem tw_440 : Cond.classLink "java/util/Arrays" (320 : Nat) "[J" ∈ wtbl := tin_2 (List.mem_of_getElem? (i := 200) (by decide +kernel)) (by decide +kernel)
theorem tw_441 : Cond.methodLink "java/util/Arrays" (304 : Nat) ({ cls := "java/lang/Math", name := "min", desc := "(II)I" } : Jvm.MethodName) ∈ wtbl := tin_2 (List.mem_of_getElem? (i := 201) (by decide +kernel)) (by decide +kernel)
theorem tw_442 : Cond.static ({ cls := "java/lang/Math", name := "min", desc := "(II)I" } : Jvm.MethodName) ∈ wtbl := tin_2 (List.mem_of_getElem? (i := 202) (by decide +kernel)) (by decide +kernel)
theorem tw_443 : Cond.code ({ cls := "java/lang/Math", name := "min", desc := "(II)I" } : Jvm.MethodName) prog_11_method_69_code (2 : Nat) (Option.some Jvm.ClassFile.FieldType.int) ∈ wtbl := tin_2 (List.mem_of_getElem? (i := 203) (by decide +kernel)) (by decide +kernel)
theorem tw_444 : Cond.methodLink "java/util/Arrays" (150 : Nat) ({ cls := "java/lang/System", name := "arraycopy", desc := "(Ljava/lang/Object;ILjava/lang/Object;II)V" } : Jvm.MethodName) ∈ wtbl := tin_2 (List.mem_of_getElem? (i := 204) (by decide +kernel)) (by decide +kernel)
theorem tw_445 : Cond.static ({ cls := "java/lang/System", name := "arraycopy", desc := "(Ljava/lang/Object;ILjava/lang/Object;II)V" } : Jvm.MethodName) ∈ wtbl := tin_2 (List.mem_of_getElem? (i := 205) (by decide +kernel)) (by decide +kernel)
theorem tw_446 : Cond.native ({ cls := "java/lang/System", name := "arraycopy", desc := "(Ljava/lang/Object;ILjava/lang/Object;II)V" } : Jvm.MethodName) ∈ wtbl := tin_2 (List.mem_of_getElem? (i := 206) (by decide +kernel)) (by decide +kernel)
theorem tw_447 : Cond.methodLink "MonitorWays$States" (42 : Nat) ({ cls := "MonitorWays$States", name := "slotOf", desc := "(I)I" } : Jvm.MethodName) ∈ wtbl := tin_2 (List.mem_of_getElem? (i := 207) (by decide +kernel)) (by decide +kernel)
theorem tw_449 : Cond.instanceMethod ({ cls := "MonitorWays$States", name := "slotOf", desc := "(I)I" } : Jvm.MethodName) ∈ wtbl := tin_2 (List.mem_of_getElem? (i := 209) (by decide +kernel)) (by decide +kernel)
theorem tw_450 : Cond.code ({ cls := "MonitorWays$States", name := "slotOf", desc := "(I)I" } : Jvm.MethodName) prog_6_method_8_code (5 : Nat) (Option.some Jvm.ClassFile.FieldType.int) ∈ wtbl := tin_2 (List.mem_of_getElem? (i := 210) (by decide +kernel)) (by decide +kernel)
theorem tw_451 : Cond.methodLink "MonitorWays$States" (53 : Nat) ({ cls := "MonitorWays$States", name := "hashOf", desc := "(I)I" } : Jvm.MethodName) ∈ wtbl := tin_2 (List.mem_of_getElem? (i := 211) (by decide +kernel)) (by decide +kernel)
theorem tw_453 : Cond.instanceMethod ({ cls := "MonitorWays$States", name := "hashOf", desc := "(I)I" } : Jvm.MethodName) ∈ wtbl := tin_2 (List.mem_of_getElem? (i := 213) (by decide +kernel)) (by decide +kernel)
theorem tw_454 : Cond.code ({ cls := "MonitorWays$States", name := "hashOf", desc := "(I)I" } : Jvm.MethodName) prog_6_method_9_code (5 : Nat) (Option.some Jvm.ClassFile.FieldType.int) ∈ wtbl := tin_2 (List.mem_of_getElem? (i := 214) (by decide +kernel)) (by decide +kernel)
theorem tw_455 : Cond.constantLong "MonitorWays$States" (60 : Nat) (-7046029254386353131 : Int64) ∈ wtbl := tin_2 (List.mem_of_getElem? (i := 215) (by decide +kernel)) (by decide +kernel)
theorem tw_456 : Cond.methodLink "MonitorWays$States" (56 : Nat) ({ cls := "MonitorWays$States", name := "areSame", desc := "(II)Z" } : Jvm.MethodName) ∈ wtbl := tin_2 (List.mem_of_getElem? (i := 216) (by decide +kernel)) (by decide +kernel)
theorem tw_458 : Cond.instanceMethod ({ cls := "MonitorWays$States", name := "areSame", desc := "(II)Z" } : Jvm.MethodName) ∈ wtbl := tin_2 (List.mem_of_getElem? (i := 218) (by decide +kernel)) (by decide +kernel)
theorem tw_459 : Cond.code ({ cls := "MonitorWays$States", name := "areSame", desc := "(II)Z" } : Jvm.MethodName) prog_6_method_10_code (4 : Nat) (Option.some Jvm.ClassFile.FieldType.boolean) ∈ wtbl := tin_2 (List.mem_of_getElem? (i := 219) (by decide +kernel)) (by decide +kernel)
theorem tw_460 : Cond.methodLink "MonitorWays$States" (36 : Nat) ({ cls := "MonitorWays$Machine", name := "wordOf", desc := "(I)J" } : Jvm.MethodName) ∈ wtbl := tin_2 (List.mem_of_getElem? (i := 220) (by decide +kernel)) (by decide +kernel)
theorem tw_461 : Cond.instanceMethod ({ cls := "MonitorWays$Machine", name := "wordOf", desc := "(I)J" } : Jvm.MethodName) ∈ wtbl := tin_2 (List.mem_of_getElem? (i := 221) (by decide +kernel)) (by decide +kernel)
theorem tw_462 : Cond.selects "MonitorWays$Machine" ({ cls := "MonitorWays$Machine", name := "wordOf", desc := "(I)J" } : Jvm.MethodName) ({ cls := "MonitorWays$Machine", name := "wordOf", desc := "(I)J" } : Jvm.MethodName) ∈ wtbl := tin_2 (List.mem_of_getElem? (i := 222) (by decide +kernel)) (by decide +kernel)
theorem tw_463 : Cond.code ({ cls := "MonitorWays$Machine", name := "wordOf", desc := "(I)J" } : Jvm.MethodName) prog_2_method_21_code (4 : Nat) (Option.some Jvm.ClassFile.FieldType.long) ∈ wtbl := tin_2 (List.mem_of_getElem? (i := 223) (by decide +kernel)) (by decide +kernel)
theorem tw_464 : Cond.methodLink "MonitorWays$Machine" (162 : Nat) ({ cls := "MonitorWays$Worker", name := "packed", desc := "()J" } : Jvm.MethodName) ∈ wtbl := tin_2 (List.mem_of_getElem? (i := 224) (by decide +kernel)) (by decide +kernel)
theorem tw_465 : Cond.instanceMethod ({ cls := "MonitorWays$Worker", name := "packed", desc := "()J" } : Jvm.MethodName) ∈ wtbl := tin_2 (List.mem_of_getElem? (i := 225) (by decide +kernel)) (by decide +kernel)
theorem tw_466 : Cond.selects "MonitorWays$Worker" ({ cls := "MonitorWays$Worker", name := "packed", desc := "()J" } : Jvm.MethodName) ({ cls := "MonitorWays$Worker", name := "packed", desc := "()J" } : Jvm.MethodName) ∈ wtbl := tin_2 (List.mem_of_getElem? (i := 226) (by decide +kernel)) (by decide +kernel)
theorem tw_467 : Cond.code ({ cls := "MonitorWays$Worker", name := "packed", desc := "()J" } : Jvm.MethodName) prog_7_method_12_code (3 : Nat) (Option.some Jvm.ClassFile.FieldType.long) ∈ wtbl := tin_2 (List.mem_of_getElem? (i := 227) (by decide +kernel)) (by decide +kernel)
theorem tw_468 : Cond.methodLink "MonitorWays$Machine" (165 : Nat) ({ cls := "MonitorWays$Monitor", name := "packed", desc := "()J" } : Jvm.MethodName) ∈ wtbl := tin_2 (List.mem_of_getElem? (i := 228) (by decide +kernel)) (by decide +kernel)
theorem tw_469 : Cond.instanceMethod ({ cls := "MonitorWays$Monitor", name := "packed", desc := "()J" } : Jvm.MethodName) ∈ wtbl := tin_2 (List.mem_of_getElem? (i := 229) (by decide +kernel)) (by decide +kernel)
theorem tw_470 : Cond.selects "MonitorWays$Monitor" ({ cls := "MonitorWays$Monitor", name := "packed", desc := "()J" } : Jvm.MethodName) ({ cls := "MonitorWays$Monitor", name := "packed", desc := "()J" } : Jvm.MethodName) ∈ wtbl := tin_2 (List.mem_of_getElem? (i := 230) (by decide +kernel)) (by decide +kernel)
theorem tw_471 : Cond.code ({ cls := "MonitorWays$Monitor", name := "packed", desc := "()J" } : Jvm.MethodName) prog_3_method_10_code (3 : Nat) (Option.some Jvm.ClassFile.FieldType.long) ∈ wtbl := tin_2 (List.mem_of_getElem? (i := 231) (by decide +kernel)) (by decide +kernel)
theorem tw_472 : Cond.methodLink "MonitorWays$Search" (62 : Nat) ({ cls := "MonitorWays$States", name := "size", desc := "()I" } : Jvm.MethodName) ∈ wtbl := tin_2 (List.mem_of_getElem? (i := 232) (by decide +kernel)) (by decide +kernel)
theorem tw_473 : Cond.instanceMethod ({ cls := "MonitorWays$States", name := "size", desc := "()I" } : Jvm.MethodName) ∈ wtbl := tin_2 (List.mem_of_getElem? (i := 233) (by decide +kernel)) (by decide +kernel)
theorem tw_474 : Cond.selects "MonitorWays$States" ({ cls := "MonitorWays$States", name := "size", desc := "()I" } : Jvm.MethodName) ({ cls := "MonitorWays$States", name := "size", desc := "()I" } : Jvm.MethodName) ∈ wtbl := tin_2 (List.mem_of_getElem? (i := 234) (by decide +kernel)) (by decide +kernel)
theorem tw_475 : Cond.code ({ cls := "MonitorWays$States", name := "size", desc := "()I" } : Jvm.MethodName) prog_6_method_3_code (1 : Nat) (Option.some Jvm.ClassFile.FieldType.int) ∈ wtbl := tin_2 (List.mem_of_getElem? (i := 235) (by decide +kernel)) (by decide +kernel)
theorem tw_476 : Cond.methodLink "MonitorWays$Search" (66 : Nat) ({ cls := "MonitorWays$Search", name := "visit", desc := "(I)Z" } : Jvm.MethodName) ∈ wtbl := tin_2 (List.mem_of_getElem? (i := 236) (by decide +kernel)) (by decide +kernel)
theorem tw_478 : Cond.instanceMethod ({ cls := "MonitorWays$Search", name := "visit", desc := "(I)Z" } : Jvm.MethodName) ∈ wtbl := tin_2 (List.mem_of_getElem? (i := 238) (by decide +kernel)) (by decide +kernel)
theorem tw_479 : Cond.code ({ cls := "MonitorWays$Search", name := "visit", desc := "(I)Z" } : Jvm.MethodName) prog_5_method_4_code (5 : Nat) (Option.some Jvm.ClassFile.FieldType.boolean) ∈ wtbl := tin_2 (List.mem_of_getElem? (i := 239) (by decide +kernel)) (by decide +kernel)
theorem tw_480 : Cond.methodLink "MonitorWays$Search" (76 : Nat) ({ cls := "MonitorWays$States", name := "restore", desc := "(ILMonitorWays$Machine;)V" } : Jvm.MethodName) ∈ wtbl := tin_3 (List.mem_of_getElem? (i := 0) (by decide +kernel)) (by decide +kernel)
theorem tw_481 : Cond.instanceMethod ({ cls := "MonitorWays$States", name := "restore", desc := "(ILMonitorWays$Machine;)V" } : Jvm.MethodName) ∈ wtbl := tin_3 (List.mem_of_getElem? (i := 1) (by decide +kernel)) (by decide +kernel)
theorem tw_482 : Cond.selects "MonitorWays$States" ({ cls := "MonitorWays$States", name := "restore", desc := "(ILMonitorWays$Machine;)V" } : Jvm.MethodName) ({ cls := "MonitorWays$States", name := "restore", desc := "(ILMonitorWays$Machine;)V" } : Jvm.MethodName) ∈ wtbl := tin_3 (List.mem_of_getElem? (i := 2) (by decide +kernel)) (by decide +kernel)
theorem tw_483 : Cond.code ({ cls := "MonitorWays$States", name := "restore", desc := "(ILMonitorWays$Machine;)V" } : Jvm.MethodName) prog_6_method_5_code (4 : Nat) (Option.none : Option Jvm.ClassFile.FieldType) ∈ wtbl := tin_3 (List.mem_of_getElem? (i := 3) (by decide +kernel)) (by decide +kernel)
theorem tw_484 : Cond.methodLink "MonitorWays$States" (45 : Nat) ({ cls := "MonitorWays$Machine", name := "unpackWord", desc := "(IJ)V" } : Jvm.MethodName) ∈ wtbl := tin_3 (List.mem_of_getElem? (i := 4) (by decide +kernel)) (by decide +kernel)
theorem tw_485 : Cond.instanceMethod ({ cls := "MonitorWays$Machine", name := "unpackWord", desc := "(IJ)V" } : Jvm.MethodName) ∈ wtbl := tin_3 (List.mem_of_getElem? (i := 5) (by decide +kernel)) (by decide +kernel)
theorem tw_486 : Cond.selects "MonitorWays$Machine" ({ cls := "MonitorWays$Machine", name := "unpackWord", desc := "(IJ)V" } : Jvm.MethodName) ({ cls := "MonitorWays$Machine", name := "unpackWord", desc := "(IJ)V" } : Jvm.MethodName) ∈ wtbl := tin_3 (List.mem_of_getElem? (i := 6) (by decide +kernel)) (by decide +kernel)
theorem tw_487 : Cond.code ({ cls := "MonitorWays$Machine", name := "unpackWord", desc := "(IJ)V" } : Jvm.MethodName) prog_2_method_22_code (4 : Nat) (Option.none : Option Jvm.ClassFile.FieldType) ∈ wtbl := tin_3 (List.mem_of_getElem? (i := 7) (by decide +kernel)) (by decide +kernel)
theorem tw_488 : Cond.methodLink "MonitorWays$Machine" (166 : Nat) ({ cls := "MonitorWays$Worker", name := "unpack", desc := "(J)V" } : Jvm.MethodName) ∈ wtbl := tin_3 (List.mem_of_getElem? (i := 8) (by decide +kernel)) (by decide +kernel)
theorem tw_489 : Cond.instanceMethod ({ cls := "MonitorWays$Worker", name := "unpack", desc := "(J)V" } : Jvm.MethodName) ∈ wtbl := tin_3 (List.mem_of_getElem? (i := 9) (by decide +kernel)) (by decide +kernel)
theorem tw_490 : Cond.selects "MonitorWays$Worker" ({ cls := "MonitorWays$Worker", name := "unpack", desc := "(J)V" } : Jvm.MethodName) ({ cls := "MonitorWays$Worker", name := "unpack", desc := "(J)V" } : Jvm.MethodName) ∈ wtbl := tin_3 (List.mem_of_getElem? (i := 10) (by decide +kernel)) (by decide +kernel)
theorem tw_491 : Cond.code ({ cls := "MonitorWays$Worker", name := "unpack", desc := "(J)V" } : Jvm.MethodName) prog_7_method_13_code (5 : Nat) (Option.none : Option Jvm.ClassFile.FieldType) ∈ wtbl := tin_3 (List.mem_of_getElem? (i := 11) (by decide +kernel)) (by decide +kernel)
theorem tw_492 : Cond.constant "MonitorWays$Worker" (56 : Nat) (8388607 : Int32) ∈ wtbl := tin_3 (List.mem_of_getElem? (i := 12) (by decide +kernel)) (by decide +kernel)
theorem tw_493 : Cond.methodLink "MonitorWays$Machine" (170 : Nat) ({ cls := "MonitorWays$Monitor", name := "unpack", desc := "(J)V" } : Jvm.MethodName) ∈ wtbl := tin_3 (List.mem_of_getElem? (i := 13) (by decide +kernel)) (by decide +kernel)
theorem tw_494 : Cond.instanceMethod ({ cls := "MonitorWays$Monitor", name := "unpack", desc := "(J)V" } : Jvm.MethodName) ∈ wtbl := tin_3 (List.mem_of_getElem? (i := 14) (by decide +kernel)) (by decide +kernel)
theorem tw_495 : Cond.selects "MonitorWays$Monitor" ({ cls := "MonitorWays$Monitor", name := "unpack", desc := "(J)V" } : Jvm.MethodName) ({ cls := "MonitorWays$Monitor", name := "unpack", desc := "(J)V" } : Jvm.MethodName) ∈ wtbl := tin_3 (List.mem_of_getElem? (i := 15) (by decide +kernel)) (by decide +kernel)
theorem tw_496 : Cond.code ({ cls := "MonitorWays$Monitor", name := "unpack", desc := "(J)V" } : Jvm.MethodName) prog_3_method_11_code (5 : Nat) (Option.none : Option Jvm.ClassFile.FieldType) ∈ wtbl := tin_3 (List.mem_of_getElem? (i := 16) (by decide +kernel)) (by decide +kernel)
theorem tw_497 : Cond.constant "MonitorWays$Monitor" (28 : Nat) (131071 : Int32) ∈ wtbl := tin_3 (List.mem_of_getElem? (i := 17) (by decide +kernel)) (by decide +kernel)
theorem tw_498 : Cond.methodLink "MonitorWays$Monitor" (29 : Nat) ({ cls := "java/lang/Math", name := "min", desc := "(II)I" } : Jvm.MethodName) ∈ wtbl := tin_3 (List.mem_of_getElem? (i := 18) (by decide +kernel)) (by decide +kernel)
theorem tw_499 : Cond.methodLink "MonitorWays$Search" (80 : Nat) ({ cls := "MonitorWays$Machine", name := "allows", desc := "(II)Z" } : Jvm.MethodName) ∈ wtbl := tin_3 (List.mem_of_getElem? (i := 19) (by decide +kernel)) (by decide +kernel)
theorem tw_500 : Cond.methodLink "MonitorWays$Search" (84 : Nat) ({ cls := "MonitorWays$Machine", name := "take", desc := "(II)V" } : Jvm.MethodName) ∈ wtbl := tin_3 (List.mem_of_getElem? (i := 20) (by decide +kernel)) (by decide +kernel)
theorem tw_501 : Cond.methodLink "MonitorWays$Search" (88 : Nat) ({ cls := "java/lang/Math", name := "max", desc := "(II)I" } : Jvm.MethodName) ∈ wtbl := tin_3 (List.mem_of_getElem? (i := 21) (by decide +kernel)) (by decide +kernel)
theorem tw_502 : Cond.static ({ cls := "java/lang/Math", name := "max", desc := "(II)I" } : Jvm.MethodName) ∈ wtbl := tin_3 (List.mem_of_getElem? (i := 22) (by decide +kernel)) (by decide +kernel)
theorem tw_503 : Cond.code ({ cls := "java/lang/Math", name := "max", desc := "(II)I" } : Jvm.MethodName) prog_11_method_65_code (2 : Nat) (Option.some Jvm.ClassFile.FieldType.int) ∈ wtbl := tin_3 (List.mem_of_getElem? (i := 23) (by decide +kernel)) (by decide +kernel)
theorem tw_504 : Cond.methodLink "MonitorWays$Search" (94 : Nat) ({ cls := "MonitorWays$Search", name := "noteFinal", desc := "()V" } : Jvm.MethodName) ∈ wtbl := tin_3 (List.mem_of_getElem? (i := 24) (by decide +kernel)) (by decide +kernel)
theorem tw_506 : Cond.instanceMethod ({ cls := "MonitorWays$Search", name := "noteFinal", desc := "()V" } : Jvm.MethodName) ∈ wtbl := tin_3 (List.mem_of_getElem? (i := 26) (by decide +kernel)) (by decide +kernel)
theorem tw_507 : Cond.code ({ cls := "MonitorWays$Search", name := "noteFinal", desc := "()V" } : Jvm.MethodName) prog_5_method_5_code (3 : Nat) (Option.none : Option Jvm.ClassFile.FieldType) ∈ wtbl := tin_3 (List.mem_of_getElem? (i := 27) (by decide +kernel)) (by decide +kernel)
theorem tw_508 : Cond.methodLink "MonitorWays$Search" (97 : Nat) ({ cls := "MonitorWays$Machine", name := "hasEnded", desc := "(I)Z" } : Jvm.MethodName) ∈ wtbl := tin_3 (List.mem_of_getElem? (i := 28) (by decide +kernel)) (by decide +kernel)
theorem tw_509 : Cond.methodLink "MonitorWays$Search" (100 : Nat) ({ cls := "MonitorWays$Machine", name := "outcomeNumber", desc := "()J" } : Jvm.MethodName) ∈ wtbl := tin_3 (List.mem_of_getElem? (i := 29) (by decide +kernel)) (by decide +kernel)
theorem tw_510 : Cond.instanceMethod ({ cls := "MonitorWays$Machine", name := "outcomeNumber", desc := "()J" } : Jvm.MethodName) ∈ wtbl := tin_3 (List.mem_of_getElem? (i := 30) (by decide +kernel)) (by decide +kernel)
theorem tw_511 : Cond.selects "MonitorWays$Machine" ({ cls := "MonitorWays$Machine", name := "outcomeNumber", desc := "()J" } : Jvm.MethodName) ({ cls := "MonitorWays$Machine", name := "outcomeNumber", desc := "()J" } : Jvm.MethodName) ∈ wtbl := tin_3 (List.mem_of_getElem? (i := 31) (by decide +kernel)) (by decide +kernel)
theorem tw_512 : Cond.code ({ cls := "MonitorWays$Machine", name := "outcomeNumber", desc := "()J" } : Jvm.MethodName) prog_2_method_20_code (4 : Nat) (Option.some Jvm.ClassFile.FieldType.long) ∈ wtbl := tin_3 (List.mem_of_getElem? (i := 32) (by decide +kernel)) (by decide +kernel)
theorem tw_513 : Cond.constantLong "MonitorWays$Machine" (156 : Nat) (48611 : Int64) ∈ wtbl := tin_3 (List.mem_of_getElem? (i := 33) (by decide +kernel)) (by decide +kernel)
theorem tw_514 : Cond.methodLink "MonitorWays$Machine" (158 : Nat) ({ cls := "MonitorWays$Worker", name := "outcomePart", desc := "()J" } : Jvm.MethodName) ∈ wtbl := tin_3 (List.mem_of_getElem? (i := 34) (by decide +kernel)) (by decide +kernel)
theorem tw_515 : Cond.instanceMethod ({ cls := "MonitorWays$Worker", name := "outcomePart", desc := "()J" } : Jvm.MethodName) ∈ wtbl := tin_3 (List.mem_of_getElem? (i := 35) (by decide +kernel)) (by decide +kernel)
theorem tw_516 : Cond.selects "MonitorWays$Worker" ({ cls := "MonitorWays$Worker", name := "outcomePart", desc := "()J" } : Jvm.MethodName) ({ cls := "MonitorWays$Worker", name := "outcomePart", desc := "()J" } : Jvm.MethodName) ∈ wtbl := tin_3 (List.mem_of_getElem? (i := 36) (by decide +kernel)) (by decide +kernel)
theorem tw_517 : Cond.code ({ cls := "MonitorWays$Worker", name := "outcomePart", desc := "()J" } : Jvm.MethodName) prog_7_method_11_code (1 : Nat) (Option.some Jvm.ClassFile.FieldType.long) ∈ wtbl := tin_3 (List.mem_of_getElem? (i := 37) (by decide +kernel)) (by decide +kernel)
theorem tw_518 : Cond.constantLong "MonitorWays$Worker" (54 : Nat) (12 : Int64) ∈ wtbl := tin_3 (List.mem_of_getElem? (i := 38) (by decide +kernel)) (by decide +kernel)
theorem tw_519 : Cond.methodLink "MonitorWays$Search" (104 : Nat) ({ cls := "MonitorWays$Search", name := "noteOutcome", desc := "(J)V" } : Jvm.MethodName) ∈ wtbl := tin_3 (List.mem_of_getElem? (i := 39) (by decide +kernel)) (by decide +kernel)
theorem tw_521 : Cond.instanceMethod ({ cls := "MonitorWays$Search", name := "noteOutcome", desc := "(J)V" } : Jvm.MethodName) ∈ wtbl := tin_3 (List.mem_of_getElem? (i := 41) (by decide +kernel)) (by decide +kernel)
theorem tw_522 : Cond.code ({ cls := "MonitorWays$Search", name := "noteOutcome", desc := "(J)V" } : Jvm.MethodName) prog_5_method_6_code (4 : Nat) (Option.none : Option Jvm.ClassFile.FieldType) ∈ wtbl := tin_3 (List.mem_of_getElem? (i := 42) (by decide +kernel)) (by decide +kernel)
theorem tw_523 : Cond.methodLink "MonitorWays$Search" (108 : Nat) ({ cls := "MonitorWays$Search", name := "lessThan", desc := "(J)I" } : Jvm.MethodName) ∈ wtbl := tin_3 (List.mem_of_getElem? (i := 43) (by decide +kernel)) (by decide +kernel)
theorem tw_525 : Cond.instanceMethod ({ cls := "MonitorWays$Search", name := "lessThan", desc := "(J)I" } : Jvm.MethodName) ∈ wtbl := tin_3 (List.mem_of_getElem? (i := 45) (by decide +kernel)) (by decide +kernel)
theorem tw_526 : Cond.code ({ cls := "MonitorWays$Search", name := "lessThan", desc := "(J)I" } : Jvm.MethodName) prog_5_method_7_code (7 : Nat) (Option.some Jvm.ClassFile.FieldType.int) ∈ wtbl := tin_3 (List.mem_of_getElem? (i := 46) (by decide +kernel)) (by decide +kernel)
theorem tw_527 : Cond.methodLink "MonitorWays$Search" (112 : Nat) ({ cls := "java/util/Arrays", name := "copyOf", desc := "([JI)[J" } : Jvm.MethodName) ∈ wtbl := tin_3 (List.mem_of_getElem? (i := 47) (by decide +kernel)) (by decide +kernel)
theorem tw_528 : Cond.methodLink "MonitorWays$Search" (118 : Nat) ({ cls := "java/lang/System", name := "arraycopy", desc := "(Ljava/lang/Object;ILjava/lang/Object;II)V" } : Jvm.MethodName) ∈ wtbl := tin_3 (List.mem_of_getElem? (i := 48) (by decide +kernel)) (by decide +kernel)
theorem tw_529 : Cond.methodLink "MonitorWays$Search" (73 : Nat) ({ cls := "MonitorWays$Search", name := "forget", desc := "()V" } : Jvm.MethodName) ∈ wtbl := tin_3 (List.mem_of_getElem? (i := 49) (by decide +kernel)) (by decide +kernel)
theorem tw_530 : Cond.methodLink "MonitorWaysLaw" (66 : Nat) ({ cls := "MonitorWays", name := "outcome", desc := "(I)J" } : Jvm.MethodName) ∈ wtbl := tin_3 (List.mem_of_getElem? (i := 50) (by decide +kernel)) (by decide +kernel)
theorem tw_531 : Cond.instanceMethod ({ cls := "MonitorWays", name := "outcome", desc := "(I)J" } : Jvm.MethodName) ∈ wtbl := tin_3 (List.mem_of_getElem? (i := 51) (by decide +kernel)) (by decide +kernel)
theorem tw_532 : Cond.selects "MonitorWays" ({ cls := "MonitorWays", name := "outcome", desc := "(I)J" } : Jvm.MethodName) ({ cls := "MonitorWays", name := "outcome", desc := "(I)J" } : Jvm.MethodName) ∈ wtbl := tin_3 (List.mem_of_getElem? (i := 52) (by decide +kernel)) (by decide +kernel)
theorem tw_533 : Cond.code ({ cls := "MonitorWays", name := "outcome", desc := "(I)J" } : Jvm.MethodName) prog_1_method_12_code (2 : Nat) (Option.some Jvm.ClassFile.FieldType.long) ∈ wtbl := tin_3 (List.mem_of_getElem? (i := 53) (by decide +kernel)) (by decide +kernel)
theorem tw_534 : Cond.methodLink "MonitorWays" (114 : Nat) ({ cls := "MonitorWays$Search", name := "outcomeAt", desc := "(I)J" } : Jvm.MethodName) ∈ wtbl := tin_3 (List.mem_of_getElem? (i := 54) (by decide +kernel)) (by decide +kernel)
theorem tw_535 : Cond.instanceMethod ({ cls := "MonitorWays$Search", name := "outcomeAt", desc := "(I)J" } : Jvm.MethodName) ∈ wtbl := tin_3 (List.mem_of_getElem? (i := 55) (by decide +kernel)) (by decide +kernel)
theorem tw_536 : Cond.selects "MonitorWays$Search" ({ cls := "MonitorWays$Search", name := "outcomeAt", desc := "(I)J" } : Jvm.MethodName) ({ cls := "MonitorWays$Search", name := "outcomeAt", desc := "(I)J" } : Jvm.MethodName) ∈ wtbl := tin_3 (List.mem_of_getElem? (i := 56) (by decide +kernel)) (by decide +kernel)
theorem tw_537 : Cond.code ({ cls := "MonitorWays$Search", name := "outcomeAt", desc := "(I)J" } : Jvm.MethodName) prog_5_method_8_code (2 : Nat) (Option.some Jvm.ClassFile.FieldType.long) ∈ wtbl := tin_3 (List.mem_of_getElem? (i := 57) (by decide +kernel)) (by decide +kernel)
theorem tw_538 : Cond.constantLong "MonitorWays$Search" (124 : Nat) (-1 : Int64) ∈ wtbl := tin_3 (List.mem_of_getElem? (i := 58) (by decide +kernel)) (by decide +kernel)
theorem tw_539 : Cond.methodLink "MonitorWaysLaw" (71 : Nat) ({ cls := "MonitorWays", name := "mayBlock", desc := "(I)Z" } : Jvm.MethodName) ∈ wtbl := tin_3 (List.mem_of_getElem? (i := 59) (by decide +kernel)) (by decide +kernel)
theorem tw_540 : Cond.instanceMethod ({ cls := "MonitorWays", name := "mayBlock", desc := "(I)Z" } : Jvm.MethodName) ∈ wtbl := tin_3 (List.mem_of_getElem? (i := 60) (by decide +kernel)) (by decide +kernel)
theorem tw_541 : Cond.selects "MonitorWays" ({ cls := "MonitorWays", name := "mayBlock", desc := "(I)Z" } : Jvm.MethodName) ({ cls := "MonitorWays", name := "mayBlock", desc := "(I)Z" } : Jvm.MethodName) ∈ wtbl := tin_3 (List.mem_of_getElem? (i := 61) (by decide +kernel)) (by decide +kernel)
theorem tw_542 : Cond.code ({ cls := "MonitorWays", name := "mayBlock", desc := "(I)Z" } : Jvm.MethodName) prog_1_method_13_code (2 : Nat) (Option.some Jvm.ClassFile.FieldType.boolean) ∈ wtbl := tin_3 (List.mem_of_getElem? (i := 62) (by decide +kernel)) (by decide +kernel)
theorem tw_543 : Cond.methodLink "MonitorWaysLaw" (76 : Nat) ({ cls := "MonitorWays", name := "count", desc := "(I)I" } : Jvm.MethodName) ∈ wtbl := tin_3 (List.mem_of_getElem? (i := 63) (by decide +kernel)) (by decide +kernel)
theorem tw_544 : Cond.instanceMethod ({ cls := "MonitorWays", name := "count", desc := "(I)I" } : Jvm.MethodName) ∈ wtbl := tin_3 (List.mem_of_getElem? (i := 64) (by decide +kernel)) (by decide +kernel)
theorem tw_545 : Cond.selects "MonitorWays" ({ cls := "MonitorWays", name := "count", desc := "(I)I" } : Jvm.MethodName) ({ cls := "MonitorWays", name := "count", desc := "(I)I" } : Jvm.MethodName) ∈ wtbl := tin_3 (List.mem_of_getElem? (i := 65) (by decide +kernel)) (by decide +kernel)
theorem tw_546 : Cond.code ({ cls := "MonitorWays", name := "count", desc := "(I)I" } : Jvm.MethodName) prog_1_method_14_code (2 : Nat) (Option.some Jvm.ClassFile.FieldType.int) ∈ wtbl := tin_3 (List.mem_of_getElem? (i := 66) (by decide +kernel)) (by decide +kernel)
theorem tw_547 : Cond.methodLink "MonitorWaysLaw" (9 : Nat) ({ cls := "MonitorWaysLaw", name := "cell", desc := "([II)I" } : Jvm.MethodName) ∈ wtbl := tin_3 (List.mem_of_getElem? (i := 67) (by decide +kernel)) (by decide +kernel)
theorem tw_548 : Cond.static ({ cls := "MonitorWaysLaw", name := "cell", desc := "([II)I" } : Jvm.MethodName) ∈ wtbl := tin_3 (List.mem_of_getElem? (i := 68) (by decide +kernel)) (by decide +kernel)
theorem tw_549 : Cond.code ({ cls := "MonitorWaysLaw", name := "cell", desc := "([II)I" } : Jvm.MethodName) method_2_code (2 : Nat) (Option.some Jvm.ClassFile.FieldType.int) ∈ wtbl := tin_3 (List.mem_of_getElem? (i := 69) (by decide +kernel)) (by decide +kernel)
theorem tw_550 : Cond.classLink "MonitorWaysLaw" (18 : Nat) "MonitorWaysModel" ∈ wtbl := tin_3 (List.mem_of_getElem? (i := 70) (by decide +kernel)) (by decide +kernel)
theorem tw_551 : Cond.instantiable "MonitorWaysModel" (27 : Nat) ∈ wtbl := tin_3 (List.mem_of_getElem? (i := 71) (by decide +kernel)) (by decide +kernel)
theorem tw_552 : Cond.methodLink "MonitorWaysLaw" (20 : Nat) ({ cls := "MonitorWaysModel", name := "<init>", desc := "(I)V" } : Jvm.MethodName) ∈ wtbl := tin_3 (List.mem_of_getElem? (i := 72) (by decide +kernel)) (by decide +kernel)
theorem tw_553 : Cond.instanceMethod ({ cls := "MonitorWaysModel", name := "<init>", desc := "(I)V" } : Jvm.MethodName) ∈ wtbl := tin_3 (List.mem_of_getElem? (i := 73) (by decide +kernel)) (by decide +kernel)
theorem tw_554 : Cond.code ({ cls := "MonitorWaysModel", name := "<init>", desc := "(I)V" } : Jvm.MethodName) prog_9_method_1_code (2 : Nat) (Option.none : Option Jvm.ClassFile.FieldType) ∈ wtbl := tin_3 (List.mem_of_getElem? (i := 74) (by decide +kernel)) (by decide +kernel)
theorem tw_555 : Cond.methodLink "MonitorWaysModel" (1 : Nat) ({ cls := "java/lang/Object", name := "<init>", desc := "()V" } : Jvm.MethodName) ∈ wtbl := tin_3 (List.mem_of_getElem? (i := 75) (by decide +kernel)) (by decide +kernel)
theorem tw_556 : Cond.methodLink "MonitorWaysModel" (73 : Nat) ({ cls := "MonitorWaysModel", name := "reset", desc := "()I" } : Jvm.MethodName) ∈ wtbl := tin_3 (List.mem_of_getElem? (i := 76) (by decide +kernel)) (by decide +kernel)
theorem tw_557 : Cond.instanceMethod ({ cls := "MonitorWaysModel", name := "reset", desc := "()I" } : Jvm.MethodName) ∈ wtbl := tin_3 (List.mem_of_getElem? (i := 77) (by decide +kernel)) (by decide +kernel)
theorem tw_558 : Cond.selects "MonitorWaysModel" ({ cls := "MonitorWaysModel", name := "reset", desc := "()I" } : Jvm.MethodName) ({ cls := "MonitorWaysModel", name := "reset", desc := "()I" } : Jvm.MethodName) ∈ wtbl := tin_3 (List.mem_of_getElem? (i := 78) (by decide +kernel)) (by decide +kernel)
theorem tw_559 : Cond.code ({ cls := "MonitorWaysModel", name := "reset", desc := "()I" } : Jvm.MethodName) prog_9_method_29_code (2 : Nat) (Option.some Jvm.ClassFile.FieldType.int) ∈ wtbl := tin_3 (List.mem_of_getElem? (i := 79) (by decide +kernel)) (by decide +kernel)
theorem tw_560 : Cond.methodLink "MonitorWaysModel" (184 : Nat) ({ cls := "MonitorWaysModel", name := "first", desc := "()V" } : Jvm.MethodName) ∈ wtbl := tin_3 (List.mem_of_getElem? (i := 80) (by decide +kernel)) (by decide +kernel)
theorem tw_562 : Cond.instanceMethod ({ cls := "MonitorWaysModel", name := "first", desc := "()V" } : Jvm.MethodName) ∈ wtbl := tin_3 (List.mem_of_getElem? (i := 82) (by decide +kernel)) (by decide +kernel)
theorem tw_563 : Cond.code ({ cls := "MonitorWaysModel", name := "first", desc := "()V" } : Jvm.MethodName) prog_9_method_3_code (2 : Nat) (Option.none : Option Jvm.ClassFile.FieldType) ∈ wtbl := tin_3 (List.mem_of_getElem? (i := 83) (by decide +kernel)) (by decide +kernel)
theorem tw_564 : Cond.methodLink "MonitorWaysModel" (178 : Nat) ({ cls := "MonitorWaysModel", name := "pack", desc := "([JI)V" } : Jvm.MethodName) ∈ wtbl := tin_3 (List.mem_of_getElem? (i := 84) (by decide +kernel)) (by decide +kernel)
theorem tw_566 : Cond.instanceMethod ({ cls := "MonitorWaysModel", name := "pack", desc := "([JI)V" } : Jvm.MethodName) ∈ wtbl := tin_3 (List.mem_of_getElem? (i := 86) (by decide +kernel)) (by decide +kernel)
theorem tw_567 : Cond.code ({ cls := "MonitorWaysModel", name := "pack", desc := "([JI)V" } : Jvm.MethodName) prog_9_method_6_code (7 : Nat) (Option.none : Option Jvm.ClassFile.FieldType) ∈ wtbl := tin_3 (List.mem_of_getElem? (i := 87) (by decide +kernel)) (by decide +kernel)
theorem tw_568 : Cond.methodLink "MonitorWaysModel" (83 : Nat) ({ cls := "MonitorWaysModel", name := "threadPacked", desc := "(I)J" } : Jvm.MethodName) ∈ wtbl := tin_3 (List.mem_of_getElem? (i := 88) (by decide +kernel)) (by decide +kernel)
theorem tw_570 : Cond.instanceMethod ({ cls := "MonitorWaysModel", name := "threadPacked", desc := "(I)J" } : Jvm.MethodName) ∈ wtbl := tin_3 (List.mem_of_getElem? (i := 90) (by decide +kernel)) (by decide +kernel)
theorem tw_571 : Cond.code ({ cls := "MonitorWaysModel", name := "threadPacked", desc := "(I)J" } : Jvm.MethodName) prog_9_method_4_code (4 : Nat) (Option.some Jvm.ClassFile.FieldType.long) ∈ wtbl := tin_3 (List.mem_of_getElem? (i := 91) (by decide +kernel)) (by decide +kernel)
theorem tw_572 : Cond.constantLong "MonitorWaysModel" (77 : Nat) (8 : Int64) ∈ wtbl := tin_3 (List.mem_of_getElem? (i := 92) (by decide +kernel)) (by decide +kernel)
theorem tw_573 : Cond.constantLong "MonitorWaysModel" (81 : Nat) (4 : Int64) ∈ wtbl := tin_3 (List.mem_of_getElem? (i := 93) (by decide +kernel)) (by decide +kernel)
theorem tw_574 : Cond.fieldLink "MonitorWaysModel" (69 : Nat) "MonitorWaysModel" "loose" "Z" ∈ wtbl := tin_3 (List.mem_of_getElem? (i := 94) (by decide +kernel)) (by decide +kernel)
theorem tw_575 : Cond.fieldLink "MonitorWaysModel" (7 : Nat) "MonitorWaysModel" "actions" "[I" ∈ wtbl := tin_3 (List.mem_of_getElem? (i := 95) (by decide +kernel)) (by decide +kernel)
theorem tw_576 : Cond.fieldLink "MonitorWaysModel" (13 : Nat) "MonitorWaysModel" "operands" "[I" ∈ wtbl := tin_3 (List.mem_of_getElem? (i := 96) (by decide +kernel)) (by decide +kernel)
theorem tw_577 : Cond.fieldLink "MonitorWaysModel" (16 : Nat) "MonitorWaysModel" "lengths" "[I" ∈ wtbl := tin_3 (List.mem_of_getElem? (i := 97) (by decide +kernel)) (by decide +kernel)
theorem tw_578 : Cond.fieldLink "MonitorWaysModel" (19 : Nat) "MonitorWaysModel" "place" "[I" ∈ wtbl := tin_3 (List.mem_of_getElem? (i := 98) (by decide +kernel)) (by decide +kernel)
theorem tw_579 : Cond.fieldLink "MonitorWaysModel" (22 : Nat) "MonitorWaysModel" "status" "[I" ∈ wtbl := tin_3 (List.mem_of_getElem? (i := 99) (by decide +kernel)) (by decide +kernel)
theorem tw_580 : Cond.fieldLink "MonitorWaysModel" (25 : Nat) "MonitorWaysModel" "kept" "[I" ∈ wtbl := tin_3 (List.mem_of_getElem? (i := 100) (by decide +kernel)) (by decide +kernel)
theorem tw_581 : Cond.fieldLink "MonitorWaysModel" (28 : Nat) "MonitorWaysModel" "letters" "[I" ∈ wtbl := tin_3 (List.mem_of_getElem? (i := 101) (by decide +kernel)) (by decide +kernel)
theorem tw_582 : Cond.fieldLink "MonitorWaysModel" (31 : Nat) "MonitorWaysModel" "result" "[J" ∈ wtbl := tin_3 (List.mem_of_getElem? (i := 102) (by decide +kernel)) (by decide +kernel)
theorem tw_583 : Cond.fieldLink "MonitorWaysModel" (35 : Nat) "MonitorWaysModel" "interrupted" "[Z" ∈ wtbl := tin_3 (List.mem_of_getElem? (i := 103) (by decide +kernel)) (by decide +kernel)
theorem tw_584 : Cond.fieldLink "MonitorWaysModel" (39 : Nat) "MonitorWaysModel" "permit" "[Z" ∈ wtbl := tin_3 (List.mem_of_getElem? (i := 104) (by decide +kernel)) (by decide +kernel)
theorem tw_585 : Cond.fieldLink "MonitorWaysModel" (42 : Nat) "MonitorWaysModel" "odd" "[Z" ∈ wtbl := tin_3 (List.mem_of_getElem? (i := 105) (by decide +kernel)) (by decide +kernel)
theorem tw_586 : Cond.fieldLink "MonitorWaysModel" (45 : Nat) "MonitorWaysModel" "owner" "[I" ∈ wtbl := tin_3 (List.mem_of_getElem? (i := 106) (by decide +kernel)) (by decide +kernel)
theorem tw_587 : Cond.fieldLink "MonitorWaysModel" (48 : Nat) "MonitorWaysModel" "count" "[I" ∈ wtbl := tin_3 (List.mem_of_getElem? (i := 107) (by decide +kernel)) (by decide +kernel)
theorem tw_588 : Cond.fieldLink "MonitorWaysModel" (51 : Nat) "MonitorWaysModel" "size" "[I" ∈ wtbl := tin_3 (List.mem_of_getElem? (i := 108) (by decide +kernel)) (by decide +kernel)
theorem tw_589 : Cond.fieldLink "MonitorWaysModel" (54 : Nat) "MonitorWaysModel" "set" "[I" ∈ wtbl := tin_3 (List.mem_of_getElem? (i := 109) (by decide +kernel)) (by decide +kernel)
theorem tw_590 : Cond.fieldLink "MonitorWaysModel" (57 : Nat) "MonitorWaysModel" "present" "[J" ∈ wtbl := tin_3 (List.mem_of_getElem? (i := 110) (by decide +kernel)) (by decide +kernel)
theorem tw_591 : Cond.fieldLink "MonitorWaysModel" (181 : Nat) "MonitorWaysModel" "choices" "I" ∈ wtbl := tin_3 (List.mem_of_getElem? (i := 111) (by decide +kernel)) (by decide +kernel)
theorem tw_592 : Cond.fieldLink "MonitorWaysModel" (60 : Nat) "MonitorWaysModel" "met" "[J" ∈ wtbl := tin_3 (List.mem_of_getElem? (i := 112) (by decide +kernel)) (by decide +kernel)
theorem tw_593 : Cond.fieldLink "MonitorWaysModel" (165 : Nat) "MonitorWaysModel" "states" "I" ∈ wtbl := tin_3 (List.mem_of_getElem? (i := 113) (by decide +kernel)) (by decide +kernel)
theorem tw_594 : Cond.fieldLink "MonitorWaysModel" (162 : Nat) "MonitorWaysModel" "finals" "I" ∈ wtbl := tin_3 (List.mem_of_getElem? (i := 114) (by decide +kernel)) (by decide +kernel)
theorem tw_595 : Cond.fieldLink "MonitorWaysModel" (159 : Nat) "MonitorWaysModel" "allEnded" "I" ∈ wtbl := tin_3 (List.mem_of_getElem? (i := 115) (by decide +kernel)) (by decide +kernel)
theorem tw_596 : Cond.fieldLink "MonitorWaysModel" (156 : Nat) "MonitorWaysModel" "most" "I" ∈ wtbl := tin_3 (List.mem_of_getElem? (i := 116) (by decide +kernel)) (by decide +kernel)
theorem tw_597 : Cond.fieldLink "MonitorWaysModel" (152 : Nat) "MonitorWaysModel" "found" "I" ∈ wtbl := tin_3 (List.mem_of_getElem? (i := 117) (by decide +kernel)) (by decide +kernel)
theorem tw_598 : Cond.fieldLink "MonitorWaysModel" (63 : Nat) "MonitorWaysModel" "outcomes" "[J" ∈ wtbl := tin_3 (List.mem_of_getElem? (i := 118) (by decide +kernel)) (by decide +kernel)
theorem tw_599 : Cond.fieldLink "MonitorWaysModel" (66 : Nat) "MonitorWaysModel" "blocks" "[Z" ∈ wtbl := tin_3 (List.mem_of_getElem? (i := 119) (by decide +kernel)) (by decide +kernel)
theorem tw_600 : Cond.laysFinal "MonitorWaysModel" "MonitorWaysModel" "loose" "Z" ∈ wtbl := tin_3 (List.mem_of_getElem? (i := 120) (by decide +kernel)) (by decide +kernel)
theorem tw_601 : Cond.soleField "MonitorWaysModel" "loose" ∈ wtbl := tin_3 (List.mem_of_getElem? (i := 121) (by decide +kernel)) (by decide +kernel)
theorem tw_602 : Cond.laysFinal "MonitorWaysModel" "MonitorWaysModel" "actions" "[I" ∈ wtbl := tin_3 (List.mem_of_getElem? (i := 122) (by decide +kernel)) (by decide +kernel)
theorem tw_603 : Cond.soleField "MonitorWaysModel" "actions" ∈ wtbl := tin_3 (List.mem_of_getElem? (i := 123) (by decide +kernel)) (by decide +kernel)
theorem tw_604 : Cond.laysFinal "MonitorWaysModel" "MonitorWaysModel" "operands" "[I" ∈ wtbl := tin_3 (List.mem_of_getElem? (i := 124) (by decide +kernel)) (by decide +kernel)
theorem tw_605 : Cond.soleField "MonitorWaysModel" "operands" ∈ wtbl := tin_3 (List.mem_of_getElem? (i := 125) (by decide +kernel)) (by decide +kernel)
theorem tw_606 : Cond.laysFinal "MonitorWaysModel" "MonitorWaysModel" "lengths" "[I" ∈ wtbl := tin_3 (List.mem_of_getElem? (i := 126) (by decide +kernel)) (by decide +kernel)
theorem tw_607 : Cond.soleField "MonitorWaysModel" "lengths" ∈ wtbl := tin_3 (List.mem_of_getElem? (i := 127) (by decide +kernel)) (by decide +kernel)
theorem tw_608 : Cond.laysFinal "MonitorWaysModel" "MonitorWaysModel" "place" "[I" ∈ wtbl := tin_3 (List.mem_of_getElem? (i := 128) (by decide +kernel)) (by decide +kernel)
theorem tw_609 : Cond.soleField "MonitorWaysModel" "place" ∈ wtbl := tin_3 (List.mem_of_getElem? (i := 129) (by decide +kernel)) (by decide +kernel)
theorem tw_610 : Cond.laysFinal "MonitorWaysModel" "MonitorWaysModel" "status" "[I" ∈ wtbl := tin_3 (List.mem_of_getElem? (i := 130) (by decide +kernel)) (by decide +kernel)
theorem tw_611 : Cond.soleField "MonitorWaysModel" "status" ∈ wtbl := tin_3 (List.mem_of_getElem? (i := 131) (by decide +kernel)) (by decide +kernel)
theorem tw_612 : Cond.laysFinal "MonitorWaysModel" "MonitorWaysModel" "kept" "[I" ∈ wtbl := tin_3 (List.mem_of_getElem? (i := 132) (by decide +kernel)) (by decide +kernel)
theorem tw_613 : Cond.soleField "MonitorWaysModel" "kept" ∈ wtbl := tin_3 (List.mem_of_getElem? (i := 133) (by decide +kernel)) (by decide +kernel)
theorem tw_614 : Cond.laysFinal "MonitorWaysModel" "MonitorWaysModel" "letters" "[I" ∈ wtbl := tin_3 (List.mem_of_getElem? (i := 134) (by decide +kernel)) (by decide +kernel)
theorem tw_615 : Cond.soleField "MonitorWaysModel" "letters" ∈ wtbl := tin_3 (List.mem_of_getElem? (i := 135) (by decide +kernel)) (by decide +kernel)
theorem tw_616 : Cond.laysFinal "MonitorWaysModel" "MonitorWaysModel" "result" "[J" ∈ wtbl := tin_3 (List.mem_of_getElem? (i := 136) (by decide +kernel)) (by decide +kernel)
theorem tw_617 : Cond.soleField "MonitorWaysModel" "result" ∈ wtbl := tin_3 (List.mem_of_getElem? (i := 137) (by decide +kernel)) (by decide +kernel)
theorem tw_618 : Cond.laysFinal "MonitorWaysModel" "MonitorWaysModel" "interrupted" "[Z" ∈ wtbl := tin_3 (List.mem_of_getElem? (i := 138) (by decide +kernel)) (by decide +kernel)
theorem tw_619 : Cond.soleField "MonitorWaysModel" "interrupted" ∈ wtbl := tin_3 (List.mem_of_getElem? (i := 139) (by decide +kernel)) (by decide +kernel)
theorem tw_620 : Cond.laysFinal "MonitorWaysModel" "MonitorWaysModel" "permit" "[Z" ∈ wtbl := tin_3 (List.mem_of_getElem? (i := 140) (by decide +kernel)) (by decide +kernel)
theorem tw_621 : Cond.soleField "MonitorWaysModel" "permit" ∈ wtbl := tin_3 (List.mem_of_getElem? (i := 141) (by decide +kernel)) (by decide +kernel)
theorem tw_622 : Cond.laysFinal "MonitorWaysModel" "MonitorWaysModel" "odd" "[Z" ∈ wtbl := tin_3 (List.mem_of_getElem? (i := 142) (by decide +kernel)) (by decide +kernel)
theorem tw_623 : Cond.soleField "MonitorWaysModel" "odd" ∈ wtbl := tin_3 (List.mem_of_getElem? (i := 143) (by decide +kernel)) (by decide +kernel)
theorem tw_624 : Cond.laysFinal "MonitorWaysModel" "MonitorWaysModel" "owner" "[I" ∈ wtbl := tin_3 (List.mem_of_getElem? (i := 144) (by decide +kernel)) (by decide +kernel)
theorem tw_625 : Cond.soleField "MonitorWaysModel" "owner" ∈ wtbl := tin_3 (List.mem_of_getElem? (i := 145) (by decide +kernel)) (by decide +kernel)
theorem tw_626 : Cond.laysFinal "MonitorWaysModel" "MonitorWaysModel" "count" "[I" ∈ wtbl := tin_3 (List.mem_of_getElem? (i := 146) (by decide +kernel)) (by decide +kernel)
theorem tw_627 : Cond.soleField "MonitorWaysModel" "count" ∈ wtbl := tin_3 (List.mem_of_getElem? (i := 147) (by decide +kernel)) (by decide +kernel)
theorem tw_628 : Cond.laysFinal "MonitorWaysModel" "MonitorWaysModel" "size" "[I" ∈ wtbl := tin_3 (List.mem_of_getElem? (i := 148) (by decide +kernel)) (by decide +kernel)
theorem tw_629 : Cond.soleField "MonitorWaysModel" "size" ∈ wtbl := tin_3 (List.mem_of_getElem? (i := 149) (by decide +kernel)) (by decide +kernel)
theorem tw_630 : Cond.laysFinal "MonitorWaysModel" "MonitorWaysModel" "set" "[I" ∈ wtbl := tin_3 (List.mem_of_getElem? (i := 150) (by decide +kernel)) (by decide +kernel)
theorem tw_631 : Cond.soleField "MonitorWaysModel" "set" ∈ wtbl := tin_3 (List.mem_of_getElem? (i := 151) (by decide +kernel)) (by decide +kernel)
theorem tw_632 : Cond.laysFinal "MonitorWaysModel" "MonitorWaysModel" "present" "[J" ∈ wtbl := tin_3 (List.mem_of_getElem? (i := 152) (by decide +kernel)) (by decide +kernel)
theorem tw_633 : Cond.soleField "MonitorWaysModel" "present" ∈ wtbl := tin_3 (List.mem_of_getElem? (i := 153) (by decide +kernel)) (by decide +kernel)
theorem tw_634 : Cond.lays "MonitorWaysModel" "MonitorWaysModel" "choices" "I" ∈ wtbl := tin_3 (List.mem_of_getElem? (i := 154) (by decide +kernel)) (by decide +kernel)
theorem tw_635 : Cond.soleField "MonitorWaysModel" "choices" ∈ wtbl := tin_3 (List.mem_of_getElem? (i := 155) (by decide +kernel)) (by decide +kernel)
theorem tw_636 : Cond.laysFinal "MonitorWaysModel" "MonitorWaysModel" "met" "[J" ∈ wtbl := tin_3 (List.mem_of_getElem? (i := 156) (by decide +kernel)) (by decide +kernel)
theorem tw_637 : Cond.soleField "MonitorWaysModel" "met" ∈ wtbl := tin_3 (List.mem_of_getElem? (i := 157) (by decide +kernel)) (by decide +kernel)
theorem tw_638 : Cond.lays "MonitorWaysModel" "MonitorWaysModel" "states" "I" ∈ wtbl := tin_3 (List.mem_of_getElem? (i := 158) (by decide +kernel)) (by decide +kernel)
theorem tw_639 : Cond.soleField "MonitorWaysModel" "states" ∈ wtbl := tin_3 (List.mem_of_getElem? (i := 159) (by decide +kernel)) (by decide +kernel)
theorem tw_640 : Cond.lays "MonitorWaysModel" "MonitorWaysModel" "finals" "I" ∈ wtbl := tin_3 (List.mem_of_getElem? (i := 160) (by decide +kernel)) (by decide +kernel)
theorem tw_641 : Cond.soleField "MonitorWaysModel" "finals" ∈ wtbl := tin_3 (List.mem_of_getElem? (i := 161) (by decide +kernel)) (by decide +kernel)
theorem tw_642 : Cond.lays "MonitorWaysModel" "MonitorWaysModel" "allEnded" "I" ∈ wtbl := tin_3 (List.mem_of_getElem? (i := 162) (by decide +kernel)) (by decide +kernel)
theorem tw_643 : Cond.soleField "MonitorWaysModel" "allEnded" ∈ wtbl := tin_3 (List.mem_of_getElem? (i := 163) (by decide +kernel)) (by decide +kernel)
theorem tw_644 : Cond.lays "MonitorWaysModel" "MonitorWaysModel" "most" "I" ∈ wtbl := tin_3 (List.mem_of_getElem? (i := 164) (by decide +kernel)) (by decide +kernel)
theorem tw_645 : Cond.soleField "MonitorWaysModel" "most" ∈ wtbl := tin_3 (List.mem_of_getElem? (i := 165) (by decide +kernel)) (by decide +kernel)
theorem tw_646 : Cond.lays "MonitorWaysModel" "MonitorWaysModel" "found" "I" ∈ wtbl := tin_3 (List.mem_of_getElem? (i := 166) (by decide +kernel)) (by decide +kernel)
theorem tw_647 : Cond.soleField "MonitorWaysModel" "found" ∈ wtbl := tin_3 (List.mem_of_getElem? (i := 167) (by decide +kernel)) (by decide +kernel)
theorem tw_648 : Cond.laysFinal "MonitorWaysModel" "MonitorWaysModel" "outcomes" "[J" ∈ wtbl := tin_3 (List.mem_of_getElem? (i := 168) (by decide +kernel)) (by decide +kernel)
theorem tw_649 : Cond.soleField "MonitorWaysModel" "outcomes" ∈ wtbl := tin_3 (List.mem_of_getElem? (i := 169) (by decide +kernel)) (by decide +kernel)
theorem tw_650 : Cond.laysFinal "MonitorWaysModel" "MonitorWaysModel" "blocks" "[Z" ∈ wtbl := tin_3 (List.mem_of_getElem? (i := 170) (by decide +kernel)) (by decide +kernel)
theorem tw_651 : Cond.soleField "MonitorWaysModel" "blocks" ∈ wtbl := tin_3 (List.mem_of_getElem? (i := 171) (by decide +kernel)) (by decide +kernel)
theorem tw_652 : Cond.lays "MonitorWaysModel" "MonitorWaysModel" "overfull" "Z" ∈ wtbl := tin_3 (List.mem_of_getElem? (i := 172) (by decide +kernel)) (by decide +kernel)
theorem tw_653 : Cond.soleField "MonitorWaysModel" "overfull" ∈ wtbl := tin_3 (List.mem_of_getElem? (i := 173) (by decide +kernel)) (by decide +kernel)
theorem tw_654 : Cond.superclass "MonitorWaysModel" "java/lang/Object" ∈ wtbl := tin_3 (List.mem_of_getElem? (i := 174) (by decide +kernel)) (by decide +kernel)
theorem tw_655 : Cond.methodLink "MonitorWaysLaw" (25 : Nat) ({ cls := "MonitorWaysModel", name := "act", desc := "(III)I" } : Jvm.MethodName) ∈ wtbl := tin_3 (List.mem_of_getElem? (i := 175) (by decide +kernel)) (by decide +kernel)
theorem tw_656 : Cond.instanceMethod ({ cls := "MonitorWaysModel", name := "act", desc := "(III)I" } : Jvm.MethodName) ∈ wtbl := tin_3 (List.mem_of_getElem? (i := 176) (by decide +kernel)) (by decide +kernel)
theorem tw_657 : Cond.selects "MonitorWaysModel" ({ cls := "MonitorWaysModel", name := "act", desc := "(III)I" } : Jvm.MethodName) ({ cls := "MonitorWaysModel", name := "act", desc := "(III)I" } : Jvm.MethodName) ∈ wtbl := tin_3 (List.mem_of_getElem? (i := 177) (by decide +kernel)) (by decide +kernel)
theorem tw_658 : Cond.code ({ cls := "MonitorWaysModel", name := "act", desc := "(III)I" } : Jvm.MethodName) prog_9_method_25_code (5 : Nat) (Option.some Jvm.ClassFile.FieldType.int) ∈ wtbl := tin_3 (List.mem_of_getElem? (i := 178) (by decide +kernel)) (by decide +kernel)
theorem tw_659 : Cond.methodLink "MonitorWaysModel" (146 : Nat) ({ cls := "MonitorWaysModel", name := "out", desc := "(II)Z" } : Jvm.MethodName) ∈ wtbl := tin_3 (List.mem_of_getElem? (i := 179) (by decide +kernel)) (by decide +kernel)
theorem tw_660 : Cond.static ({ cls := "MonitorWaysModel", name := "out", desc := "(II)Z" } : Jvm.MethodName) ∈ wtbl := tin_3 (List.mem_of_getElem? (i := 180) (by decide +kernel)) (by decide +kernel)
theorem tw_661 : Cond.code ({ cls := "MonitorWaysModel", name := "out", desc := "(II)Z" } : Jvm.MethodName) prog_9_method_2_code (2 : Nat) (Option.some Jvm.ClassFile.FieldType.boolean) ∈ wtbl := tin_3 (List.mem_of_getElem? (i := 181) (by decide +kernel)) (by decide +kernel)
theorem tw_662 : Cond.methodLink "MonitorWaysModel" (149 : Nat) ({ cls := "MonitorWaysModel", name := "forget", desc := "()V" } : Jvm.MethodName) ∈ wtbl := tin_3 (List.mem_of_getElem? (i := 182) (by decide +kernel)) (by decide +kernel)
theorem tw_664 : Cond.instanceMethod ({ cls := "MonitorWaysModel", name := "forget", desc := "()V" } : Jvm.MethodName) ∈ wtbl := tin_3 (List.mem_of_getElem? (i := 184) (by decide +kernel)) (by decide +kernel)
theorem tw_665 : Cond.code ({ cls := "MonitorWaysModel", name := "forget", desc := "()V" } : Jvm.MethodName) prog_9_method_26_code (2 : Nat) (Option.none : Option Jvm.ClassFile.FieldType) ∈ wtbl := tin_3 (List.mem_of_getElem? (i := 185) (by decide +kernel)) (by decide +kernel)
theorem tw_666 : Cond.methodLink "MonitorWaysLaw" (30 : Nat) ({ cls := "MonitorWaysModel", name := "choose", desc := "(II)I" } : Jvm.MethodName) ∈ wtbl := tin_3 (List.mem_of_getElem? (i := 186) (by decide +kernel)) (by decide +kernel)
theorem tw_667 : Cond.instanceMethod ({ cls := "MonitorWaysModel", name := "choose", desc := "(II)I" } : Jvm.MethodName) ∈ wtbl := tin_3 (List.mem_of_getElem? (i := 187) (by decide +kernel)) (by decide +kernel)
theorem tw_668 : Cond.selects "MonitorWaysModel" ({ cls := "MonitorWaysModel", name := "choose", desc := "(II)I" } : Jvm.MethodName) ({ cls := "MonitorWaysModel", name := "choose", desc := "(II)I" } : Jvm.MethodName) ∈ wtbl := tin_3 (List.mem_of_getElem? (i := 188) (by decide +kernel)) (by decide +kernel)
theorem tw_669 : Cond.code ({ cls := "MonitorWaysModel", name := "choose", desc := "(II)I" } : Jvm.MethodName) prog_9_method_27_code (3 : Nat) (Option.some Jvm.ClassFile.FieldType.int) ∈ wtbl := tin_3 (List.mem_of_getElem? (i := 189) (by decide +kernel)) (by decide +kernel)
theorem tw_670 : Cond.methodLink "MonitorWaysModel" (168 : Nat) ({ cls := "MonitorWaysModel", name := "unpack", desc := "([JI)V" } : Jvm.MethodName) ∈ wtbl := tin_3 (List.mem_of_getElem? (i := 190) (by decide +kernel)) (by decide +kernel)
theorem tw_672 : Cond.instanceMethod ({ cls := "MonitorWaysModel", name := "unpack", desc := "([JI)V" } : Jvm.MethodName) ∈ wtbl := tin_3 (List.mem_of_getElem? (i := 192) (by decide +kernel)) (by decide +kernel)
theorem tw_673 : Cond.code ({ cls := "MonitorWaysModel", name := "unpack", desc := "([JI)V" } : Jvm.MethodName) prog_9_method_7_code (7 : Nat) (Option.none : Option Jvm.ClassFile.FieldType) ∈ wtbl := tin_3 (List.mem_of_getElem? (i := 193) (by decide +kernel)) (by decide +kernel)
theorem tw_674 : Cond.methodLink "MonitorWaysModel" (87 : Nat) ({ cls := "MonitorWaysModel", name := "threadUnpacked", desc := "(IJ)V" } : Jvm.MethodName) ∈ wtbl := tin_3 (List.mem_of_getElem? (i := 194) (by decide +kernel)) (by decide +kernel)
theorem tw_676 : Cond.instanceMethod ({ cls := "MonitorWaysModel", name := "threadUnpacked", desc := "(IJ)V" } : Jvm.MethodName) ∈ wtbl := tin_3 (List.mem_of_getElem? (i := 196) (by decide +kernel)) (by decide +kernel)
theorem tw_677 : Cond.code ({ cls := "MonitorWaysModel", name := "threadUnpacked", desc := "(IJ)V" } : Jvm.MethodName) prog_9_method_5_code (6 : Nat) (Option.none : Option Jvm.ClassFile.FieldType) ∈ wtbl := tin_3 (List.mem_of_getElem? (i := 197) (by decide +kernel)) (by decide +kernel)
theorem tw_678 : Cond.constantLong "MonitorWaysModel" (79 : Nat) (2 : Int64) ∈ wtbl := tin_3 (List.mem_of_getElem? (i := 198) (by decide +kernel)) (by decide +kernel)
theorem tw_679 : Cond.methodLink "MonitorWaysModel" (172 : Nat) ({ cls := "MonitorWaysModel", name := "may", desc := "(II)Z" } : Jvm.MethodName) ∈ wtbl := tin_3 (List.mem_of_getElem? (i := 199) (by decide +kernel)) (by decide +kernel)
theorem tw_681 : Cond.instanceMethod ({ cls := "MonitorWaysModel", name := "may", desc := "(II)Z" } : Jvm.MethodName) ∈ wtbl := tin_3 (List.mem_of_getElem? (i := 201) (by decide +kernel)) (by decide +kernel)
theorem tw_682 : Cond.code ({ cls := "MonitorWaysModel", name := "may", desc := "(II)Z" } : Jvm.MethodName) prog_9_method_13_code (3 : Nat) (Option.some Jvm.ClassFile.FieldType.boolean) ∈ wtbl := tin_3 (List.mem_of_getElem? (i := 202) (by decide +kernel)) (by decide +kernel)
theorem tw_683 : Cond.methodLink "MonitorWaysModel" (98 : Nat) ({ cls := "MonitorWaysModel", name := "runningMay", desc := "(II)Z" } : Jvm.MethodName) ∈ wtbl := tin_3 (List.mem_of_getElem? (i := 203) (by decide +kernel)) (by decide +kernel)
theorem tw_685 : Cond.instanceMethod ({ cls := "MonitorWaysModel", name := "runningMay", desc := "(II)Z" } : Jvm.MethodName) ∈ wtbl := tin_3 (List.mem_of_getElem? (i := 205) (by decide +kernel)) (by decide +kernel)
theorem tw_686 : Cond.code ({ cls := "MonitorWaysModel", name := "runningMay", desc := "(II)Z" } : Jvm.MethodName) prog_9_method_12_code (6 : Nat) (Option.some Jvm.ClassFile.FieldType.boolean) ∈ wtbl := tin_3 (List.mem_of_getElem? (i := 206) (by decide +kernel)) (by decide +kernel)
theorem tw_687 : Cond.methodLink "MonitorWaysModel" (91 : Nat) ({ cls := "MonitorWaysModel", name := "action", desc := "(I)I" } : Jvm.MethodName) ∈ wtbl := tin_3 (List.mem_of_getElem? (i := 207) (by decide +kernel)) (by decide +kernel)
theorem tw_689 : Cond.instanceMethod ({ cls := "MonitorWaysModel", name := "action", desc := "(I)I" } : Jvm.MethodName) ∈ wtbl := tin_3 (List.mem_of_getElem? (i := 209) (by decide +kernel)) (by decide +kernel)
theorem tw_690 : Cond.code ({ cls := "MonitorWaysModel", name := "action", desc := "(I)I" } : Jvm.MethodName) prog_9_method_8_code (2 : Nat) (Option.some Jvm.ClassFile.FieldType.int) ∈ wtbl := tin_3 (List.mem_of_getElem? (i := 210) (by decide +kernel)) (by decide +kernel)
theorem tw_691 : Cond.methodLink "MonitorWaysModel" (95 : Nat) ({ cls := "MonitorWaysModel", name := "operand", desc := "(I)I" } : Jvm.MethodName) ∈ wtbl := tin_3 (List.mem_of_getElem? (i := 211) (by decide +kernel)) (by decide +kernel)
theorem tw_693 : Cond.instanceMethod ({ cls := "MonitorWaysModel", name := "operand", desc := "(I)I" } : Jvm.MethodName) ∈ wtbl := tin_3 (List.mem_of_getElem? (i := 213) (by decide +kernel)) (by decide +kernel)
theorem tw_694 : Cond.code ({ cls := "MonitorWaysModel", name := "operand", desc := "(I)I" } : Jvm.MethodName) prog_9_method_9_code (2 : Nat) (Option.some Jvm.ClassFile.FieldType.int) ∈ wtbl := tin_3 (List.mem_of_getElem? (i := 214) (by decide +kernel)) (by decide +kernel)
theorem tw_695 : Cond.methodLink "MonitorWaysModel" (102 : Nat) ({ cls := "MonitorWaysModel", name := "timed", desc := "(I)Z" } : Jvm.MethodName) ∈ wtbl := tin_3 (List.mem_of_getElem? (i := 215) (by decide +kernel)) (by decide +kernel)
theorem tw_697 : Cond.instanceMethod ({ cls := "MonitorWaysModel", name := "timed", desc := "(I)Z" } : Jvm.MethodName) ∈ wtbl := tin_3 (List.mem_of_getElem? (i := 217) (by decide +kernel)) (by decide +kernel)
theorem tw_698 : Cond.code ({ cls := "MonitorWaysModel", name := "timed", desc := "(I)Z" } : Jvm.MethodName) prog_9_method_11_code (2 : Nat) (Option.some Jvm.ClassFile.FieldType.boolean) ∈ wtbl := tin_3 (List.mem_of_getElem? (i := 218) (by decide +kernel)) (by decide +kernel)
theorem tw_699 : Cond.methodLink "MonitorWaysModel" (106 : Nat) ({ cls := "MonitorWaysModel", name := "waitedOn", desc := "(I)I" } : Jvm.MethodName) ∈ wtbl := tin_3 (List.mem_of_getElem? (i := 219) (by decide +kernel)) (by decide +kernel)
theorem tw_701 : Cond.instanceMethod ({ cls := "MonitorWaysModel", name := "waitedOn", desc := "(I)I" } : Jvm.MethodName) ∈ wtbl := tin_3 (List.mem_of_getElem? (i := 221) (by decide +kernel)) (by decide +kernel)
theorem tw_702 : Cond.code ({ cls := "MonitorWaysModel", name := "waitedOn", desc := "(I)I" } : Jvm.MethodName) prog_9_method_10_code (2 : Nat) (Option.some Jvm.ClassFile.FieldType.int) ∈ wtbl := tin_3 (List.mem_of_getElem? (i := 222) (by decide +kernel)) (by decide +kernel)
theorem tw_703 : Cond.methodLink "MonitorWaysModel" (175 : Nat) ({ cls := "MonitorWaysModel", name := "perform", desc := "(II)V" } : Jvm.MethodName) ∈ wtbl := tin_3 (List.mem_of_getElem? (i := 223) (by decide +kernel)) (by decide +kernel)
theorem tw_705 : Cond.instanceMethod ({ cls := "MonitorWaysModel", name := "perform", desc := "(II)V" } : Jvm.MethodName) ∈ wtbl := tin_3 (List.mem_of_getElem? (i := 225) (by decide +kernel)) (by decide +kernel)
theorem tw_706 : Cond.code ({ cls := "MonitorWaysModel", name := "perform", desc := "(II)V" } : Jvm.MethodName) prog_9_method_24_code (4 : Nat) (Option.none : Option Jvm.ClassFile.FieldType) ∈ wtbl := tin_3 (List.mem_of_getElem? (i := 226) (by decide +kernel)) (by decide +kernel)
theorem tw_707 : Cond.methodLink "MonitorWaysModel" (143 : Nat) ({ cls := "MonitorWaysModel", name := "doAction", desc := "(II)V" } : Jvm.MethodName) ∈ wtbl := tin_3 (List.mem_of_getElem? (i := 227) (by decide +kernel)) (by decide +kernel)
theorem tw_709 : Cond.instanceMethod ({ cls := "MonitorWaysModel", name := "doAction", desc := "(II)V" } : Jvm.MethodName) ∈ wtbl := tin_3 (List.mem_of_getElem? (i := 229) (by decide +kernel)) (by decide +kernel)
theorem tw_710 : Cond.code ({ cls := "MonitorWaysModel", name := "doAction", desc := "(II)V" } : Jvm.MethodName) prog_9_method_23_code (5 : Nat) (Option.none : Option Jvm.ClassFile.FieldType) ∈ wtbl := tin_3 (List.mem_of_getElem? (i := 230) (by decide +kernel)) (by decide +kernel)
theorem tw_711 : Cond.methodLink "MonitorWaysModel" (135 : Nat) ({ cls := "MonitorWaysModel", name := "monitorAction", desc := "(IIII)V" } : Jvm.MethodName) ∈ wtbl := tin_3 (List.mem_of_getElem? (i := 231) (by decide +kernel)) (by decide +kernel)
theorem tw_713 : Cond.instanceMethod ({ cls := "MonitorWaysModel", name := "monitorAction", desc := "(IIII)V" } : Jvm.MethodName) ∈ wtbl := tin_3 (List.mem_of_getElem? (i := 233) (by decide +kernel)) (by decide +kernel)
theorem tw_714 : Cond.code ({ cls := "MonitorWaysModel", name := "monitorAction", desc := "(IIII)V" } : Jvm.MethodName) prog_9_method_19_code (5 : Nat) (Option.none : Option Jvm.ClassFile.FieldType) ∈ wtbl := tin_3 (List.mem_of_getElem? (i := 234) (by decide +kernel)) (by decide +kernel)
theorem tw_715 : Cond.methodLink "MonitorWaysModel" (115 : Nat) ({ cls := "MonitorWaysModel", name := "put", desc := "(II)V" } : Jvm.MethodName) ∈ wtbl := tin_3 (List.mem_of_getElem? (i := 235) (by decide +kernel)) (by decide +kernel)
theorem tw_717 : Cond.instanceMethod ({ cls := "MonitorWaysModel", name := "put", desc := "(II)V" } : Jvm.MethodName) ∈ wtbl := tin_3 (List.mem_of_getElem? (i := 237) (by decide +kernel)) (by decide +kernel)
theorem tw_718 : Cond.code ({ cls := "MonitorWaysModel", name := "put", desc := "(II)V" } : Jvm.MethodName) prog_9_method_14_code (3 : Nat) (Option.none : Option Jvm.ClassFile.FieldType) ∈ wtbl := tin_3 (List.mem_of_getElem? (i := 238) (by decide +kernel)) (by decide +kernel)
theorem tw_719 : Cond.constantLong "MonitorWaysModel" (109 : Nat) (12 : Int64) ∈ wtbl := tin_3 (List.mem_of_getElem? (i := 239) (by decide +kernel)) (by decide +kernel)
theorem tw_720 : Cond.methodLink "MonitorWaysModel" (119 : Nat) ({ cls := "MonitorWaysModel", name := "waitOn", desc := "(II)V" } : Jvm.MethodName) ∈ wtbl := tin_4 (List.mem_of_getElem? (i := 0) (by decide +kernel)) (by decide +kernel)
theorem tw_722 : Cond.instanceMethod ({ cls := "MonitorWaysModel", name := "waitOn", desc := "(II)V" } : Jvm.MethodName) ∈ wtbl := tin_4 (List.mem_of_getElem? (i := 2) (by decide +kernel)) (by decide +kernel)
theorem tw_723 : Cond.code ({ cls := "MonitorWaysModel", name := "waitOn", desc := "(II)V" } : Jvm.MethodName) prog_9_method_18_code (3 : Nat) (Option.none : Option Jvm.ClassFile.FieldType) ∈ wtbl := tin_4 (List.mem_of_getElem? (i := 3) (by decide +kernel)) (by decide +kernel)
theorem tw_724 : Cond.methodLink "MonitorWaysModel" (122 : Nat) ({ cls := "MonitorWaysModel", name := "notified", desc := "(I)V" } : Jvm.MethodName) ∈ wtbl := tin_4 (List.mem_of_getElem? (i := 4) (by decide +kernel)) (by decide +kernel)
theorem tw_726 : Cond.instanceMethod ({ cls := "MonitorWaysModel", name := "notified", desc := "(I)V" } : Jvm.MethodName) ∈ wtbl := tin_4 (List.mem_of_getElem? (i := 6) (by decide +kernel)) (by decide +kernel)
theorem tw_727 : Cond.code ({ cls := "MonitorWaysModel", name := "notified", desc := "(I)V" } : Jvm.MethodName) prog_9_method_17_code (2 : Nat) (Option.none : Option Jvm.ClassFile.FieldType) ∈ wtbl := tin_4 (List.mem_of_getElem? (i := 7) (by decide +kernel)) (by decide +kernel)
theorem tw_728 : Cond.methodLink "MonitorWaysModel" (111 : Nat) ({ cls := "MonitorWaysModel", name := "leaveSet", desc := "(I)V" } : Jvm.MethodName) ∈ wtbl := tin_4 (List.mem_of_getElem? (i := 8) (by decide +kernel)) (by decide +kernel)
theorem tw_730 : Cond.instanceMethod ({ cls := "MonitorWaysModel", name := "leaveSet", desc := "(I)V" } : Jvm.MethodName) ∈ wtbl := tin_4 (List.mem_of_getElem? (i := 10) (by decide +kernel)) (by decide +kernel)
theorem tw_731 : Cond.code ({ cls := "MonitorWaysModel", name := "leaveSet", desc := "(I)V" } : Jvm.MethodName) prog_9_method_16_code (5 : Nat) (Option.none : Option Jvm.ClassFile.FieldType) ∈ wtbl := tin_4 (List.mem_of_getElem? (i := 11) (by decide +kernel)) (by decide +kernel)
theorem tw_732 : Cond.methodLink "MonitorWaysModel" (139 : Nat) ({ cls := "MonitorWaysModel", name := "otherAction", desc := "(III)V" } : Jvm.MethodName) ∈ wtbl := tin_4 (List.mem_of_getElem? (i := 12) (by decide +kernel)) (by decide +kernel)
theorem tw_734 : Cond.instanceMethod ({ cls := "MonitorWaysModel", name := "otherAction", desc := "(III)V" } : Jvm.MethodName) ∈ wtbl := tin_4 (List.mem_of_getElem? (i := 14) (by decide +kernel)) (by decide +kernel)
theorem tw_735 : Cond.code ({ cls := "MonitorWaysModel", name := "otherAction", desc := "(III)V" } : Jvm.MethodName) prog_9_method_21_code (4 : Nat) (Option.none : Option Jvm.ClassFile.FieldType) ∈ wtbl := tin_4 (List.mem_of_getElem? (i := 15) (by decide +kernel)) (by decide +kernel)
theorem tw_736 : Cond.methodLink "MonitorWaysModel" (125 : Nat) ({ cls := "MonitorWaysModel", name := "unpark", desc := "(I)V" } : Jvm.MethodName) ∈ wtbl := tin_4 (List.mem_of_getElem? (i := 16) (by decide +kernel)) (by decide +kernel)
theorem tw_738 : Cond.instanceMethod ({ cls := "MonitorWaysModel", name := "unpark", desc := "(I)V" } : Jvm.MethodName) ∈ wtbl := tin_4 (List.mem_of_getElem? (i := 18) (by decide +kernel)) (by decide +kernel)
theorem tw_739 : Cond.code ({ cls := "MonitorWaysModel", name := "unpark", desc := "(I)V" } : Jvm.MethodName) prog_9_method_22_code (2 : Nat) (Option.none : Option Jvm.ClassFile.FieldType) ∈ wtbl := tin_4 (List.mem_of_getElem? (i := 19) (by decide +kernel)) (by decide +kernel)
theorem tw_740 : Cond.methodLink "MonitorWaysModel" (132 : Nat) ({ cls := "MonitorWaysModel", name := "run", desc := "(I)V" } : Jvm.MethodName) ∈ wtbl := tin_4 (List.mem_of_getElem? (i := 20) (by decide +kernel)) (by decide +kernel)
theorem tw_742 : Cond.instanceMethod ({ cls := "MonitorWaysModel", name := "run", desc := "(I)V" } : Jvm.MethodName) ∈ wtbl := tin_4 (List.mem_of_getElem? (i := 22) (by decide +kernel)) (by decide +kernel)
theorem tw_743 : Cond.code ({ cls := "MonitorWaysModel", name := "run", desc := "(I)V" } : Jvm.MethodName) prog_9_method_15_code (2 : Nat) (Option.none : Option Jvm.ClassFile.FieldType) ∈ wtbl := tin_4 (List.mem_of_getElem? (i := 23) (by decide +kernel)) (by decide +kernel)
theorem tw_744 : Cond.methodLink "MonitorWaysModel" (128 : Nat) ({ cls := "MonitorWaysModel", name := "brokenOr", desc := "(IZ)V" } : Jvm.MethodName) ∈ wtbl := tin_4 (List.mem_of_getElem? (i := 24) (by decide +kernel)) (by decide +kernel)
theorem tw_746 : Cond.instanceMethod ({ cls := "MonitorWaysModel", name := "brokenOr", desc := "(IZ)V" } : Jvm.MethodName) ∈ wtbl := tin_4 (List.mem_of_getElem? (i := 26) (by decide +kernel)) (by decide +kernel)
theorem tw_747 : Cond.code ({ cls := "MonitorWaysModel", name := "brokenOr", desc := "(IZ)V" } : Jvm.MethodName) prog_9_method_20_code (3 : Nat) (Option.none : Option Jvm.ClassFile.FieldType) ∈ wtbl := tin_4 (List.mem_of_getElem? (i := 27) (by decide +kernel)) (by decide +kernel)
theorem tw_748 : Cond.methodLink "MonitorWaysLaw" (35 : Nat) ({ cls := "MonitorWaysModel", name := "allowed", desc := "(II)Z" } : Jvm.MethodName) ∈ wtbl := tin_4 (List.mem_of_getElem? (i := 28) (by decide +kernel)) (by decide +kernel)
theorem tw_749 : Cond.instanceMethod ({ cls := "MonitorWaysModel", name := "allowed", desc := "(II)Z" } : Jvm.MethodName) ∈ wtbl := tin_4 (List.mem_of_getElem? (i := 29) (by decide +kernel)) (by decide +kernel)
theorem tw_750 : Cond.selects "MonitorWaysModel" ({ cls := "MonitorWaysModel", name := "allowed", desc := "(II)Z" } : Jvm.MethodName) ({ cls := "MonitorWaysModel", name := "allowed", desc := "(II)Z" } : Jvm.MethodName) ∈ wtbl := tin_4 (List.mem_of_getElem? (i := 30) (by decide +kernel)) (by decide +kernel)
theorem tw_751 : Cond.code ({ cls := "MonitorWaysModel", name := "allowed", desc := "(II)Z" } : Jvm.MethodName) prog_9_method_28_code (3 : Nat) (Option.some Jvm.ClassFile.FieldType.boolean) ∈ wtbl := tin_4 (List.mem_of_getElem? (i := 31) (by decide +kernel)) (by decide +kernel)
theorem tw_752 : Cond.methodLink "MonitorWaysLaw" (40 : Nat) ({ cls := "MonitorWaysModel", name := "reset", desc := "()I" } : Jvm.MethodName) ∈ wtbl := tin_4 (List.mem_of_getElem? (i := 32) (by decide +kernel)) (by decide +kernel)
theorem tw_753 : Cond.methodLink "MonitorWaysLaw" (45 : Nat) ({ cls := "MonitorWaysModel", name := "state", desc := "(I)I" } : Jvm.MethodName) ∈ wtbl := tin_4 (List.mem_of_getElem? (i := 33) (by decide +kernel)) (by decide +kernel)
theorem tw_754 : Cond.instanceMethod ({ cls := "MonitorWaysModel", name := "state", desc := "(I)I" } : Jvm.MethodName) ∈ wtbl := tin_4 (List.mem_of_getElem? (i := 34) (by decide +kernel)) (by decide +kernel)
theorem tw_755 : Cond.selects "MonitorWaysModel" ({ cls := "MonitorWaysModel", name := "state", desc := "(I)I" } : Jvm.MethodName) ({ cls := "MonitorWaysModel", name := "state", desc := "(I)I" } : Jvm.MethodName) ∈ wtbl := tin_4 (List.mem_of_getElem? (i := 35) (by decide +kernel)) (by decide +kernel)
theorem tw_756 : Cond.code ({ cls := "MonitorWaysModel", name := "state", desc := "(I)I" } : Jvm.MethodName) prog_9_method_30_code (2 : Nat) (Option.some Jvm.ClassFile.FieldType.int) ∈ wtbl := tin_4 (List.mem_of_getElem? (i := 36) (by decide +kernel)) (by decide +kernel)
theorem tw_757 : Cond.methodLink "MonitorWaysLaw" (49 : Nat) ({ cls := "MonitorWaysModel", name := "letter", desc := "(II)I" } : Jvm.MethodName) ∈ wtbl := tin_4 (List.mem_of_getElem? (i := 37) (by decide +kernel)) (by decide +kernel)
theorem tw_758 : Cond.instanceMethod ({ cls := "MonitorWaysModel", name := "letter", desc := "(II)I" } : Jvm.MethodName) ∈ wtbl := tin_4 (List.mem_of_getElem? (i := 38) (by decide +kernel)) (by decide +kernel)
theorem tw_759 : Cond.selects "MonitorWaysModel" ({ cls := "MonitorWaysModel", name := "letter", desc := "(II)I" } : Jvm.MethodName) ({ cls := "MonitorWaysModel", name := "letter", desc := "(II)I" } : Jvm.MethodName) ∈ wtbl := tin_4 (List.mem_of_getElem? (i := 39) (by decide +kernel)) (by decide +kernel)
theorem tw_760 : Cond.code ({ cls := "MonitorWaysModel", name := "letter", desc := "(II)I" } : Jvm.MethodName) prog_9_method_31_code (6 : Nat) (Option.some Jvm.ClassFile.FieldType.int) ∈ wtbl := tin_4 (List.mem_of_getElem? (i := 40) (by decide +kernel)) (by decide +kernel)
theorem tw_761 : Cond.methodLink "MonitorWaysLaw" (53 : Nat) ({ cls := "MonitorWaysModel", name := "owner", desc := "(I)I" } : Jvm.MethodName) ∈ wtbl := tin_4 (List.mem_of_getElem? (i := 41) (by decide +kernel)) (by decide +kernel)
theorem tw_762 : Cond.instanceMethod ({ cls := "MonitorWaysModel", name := "owner", desc := "(I)I" } : Jvm.MethodName) ∈ wtbl := tin_4 (List.mem_of_getElem? (i := 42) (by decide +kernel)) (by decide +kernel)
theorem tw_763 : Cond.selects "MonitorWaysModel" ({ cls := "MonitorWaysModel", name := "owner", desc := "(I)I" } : Jvm.MethodName) ({ cls := "MonitorWaysModel", name := "owner", desc := "(I)I" } : Jvm.MethodName) ∈ wtbl := tin_4 (List.mem_of_getElem? (i := 43) (by decide +kernel)) (by decide +kernel)
theorem tw_764 : Cond.code ({ cls := "MonitorWaysModel", name := "owner", desc := "(I)I" } : Jvm.MethodName) prog_9_method_32_code (2 : Nat) (Option.some Jvm.ClassFile.FieldType.int) ∈ wtbl := tin_4 (List.mem_of_getElem? (i := 44) (by decide +kernel)) (by decide +kernel)
theorem tw_765 : Cond.methodLink "MonitorWaysLaw" (57 : Nat) ({ cls := "MonitorWaysModel", name := "held", desc := "(I)I" } : Jvm.MethodName) ∈ wtbl := tin_4 (List.mem_of_getElem? (i := 45) (by decide +kernel)) (by decide +kernel)
theorem tw_766 : Cond.instanceMethod ({ cls := "MonitorWaysModel", name := "held", desc := "(I)I" } : Jvm.MethodName) ∈ wtbl := tin_4 (List.mem_of_getElem? (i := 46) (by decide +kernel)) (by decide +kernel)
theorem tw_767 : Cond.selects "MonitorWaysModel" ({ cls := "MonitorWaysModel", name := "held", desc := "(I)I" } : Jvm.MethodName) ({ cls := "MonitorWaysModel", name := "held", desc := "(I)I" } : Jvm.MethodName) ∈ wtbl := tin_4 (List.mem_of_getElem? (i := 47) (by decide +kernel)) (by decide +kernel)
theorem tw_768 : Cond.code ({ cls := "MonitorWaysModel", name := "held", desc := "(I)I" } : Jvm.MethodName) prog_9_method_33_code (2 : Nat) (Option.some Jvm.ClassFile.FieldType.int) ∈ wtbl := tin_4 (List.mem_of_getElem? (i := 48) (by decide +kernel)) (by decide +kernel)
theorem tw_769 : Cond.methodLink "MonitorWaysLaw" (61 : Nat) ({ cls := "MonitorWaysModel", name := "inSet", desc := "(II)I" } : Jvm.MethodName) ∈ wtbl := tin_4 (List.mem_of_getElem? (i := 49) (by decide +kernel)) (by decide +kernel)
theorem tw_770 : Cond.instanceMethod ({ cls := "MonitorWaysModel", name := "inSet", desc := "(II)I" } : Jvm.MethodName) ∈ wtbl := tin_4 (List.mem_of_getElem? (i := 50) (by decide +kernel)) (by decide +kernel)
theorem tw_771 : Cond.selects "MonitorWaysModel" ({ cls := "MonitorWaysModel", name := "inSet", desc := "(II)I" } : Jvm.MethodName) ({ cls := "MonitorWaysModel", name := "inSet", desc := "(II)I" } : Jvm.MethodName) ∈ wtbl := tin_4 (List.mem_of_getElem? (i := 51) (by decide +kernel)) (by decide +kernel)
theorem tw_772 : Cond.code ({ cls := "MonitorWaysModel", name := "inSet", desc := "(II)I" } : Jvm.MethodName) prog_9_method_34_code (3 : Nat) (Option.some Jvm.ClassFile.FieldType.int) ∈ wtbl := tin_4 (List.mem_of_getElem? (i := 52) (by decide +kernel)) (by decide +kernel)
theorem tw_773 : Cond.methodLink "MonitorWaysLaw" (65 : Nat) ({ cls := "MonitorWaysModel", name := "explore", desc := "()I" } : Jvm.MethodName) ∈ wtbl := tin_4 (List.mem_of_getElem? (i := 53) (by decide +kernel)) (by decide +kernel)
theorem tw_774 : Cond.instanceMethod ({ cls := "MonitorWaysModel", name := "explore", desc := "()I" } : Jvm.MethodName) ∈ wtbl := tin_4 (List.mem_of_getElem? (i := 54) (by decide +kernel)) (by decide +kernel)
theorem tw_775 : Cond.selects "MonitorWaysModel" ({ cls := "MonitorWaysModel", name := "explore", desc := "()I" } : Jvm.MethodName) ({ cls := "MonitorWaysModel", name := "explore", desc := "()I" } : Jvm.MethodName) ∈ wtbl := tin_4 (List.mem_of_getElem? (i := 55) (by decide +kernel)) (by decide +kernel)
theorem tw_776 : Cond.code ({ cls := "MonitorWaysModel", name := "explore", desc := "()I" } : Jvm.MethodName) prog_9_method_38_code (2 : Nat) (Option.some Jvm.ClassFile.FieldType.int) ∈ wtbl := tin_4 (List.mem_of_getElem? (i := 56) (by decide +kernel)) (by decide +kernel)
theorem tw_777 : Cond.methodLink "MonitorWaysModel" (189 : Nat) ({ cls := "MonitorWaysModel", name := "meet", desc := "()V" } : Jvm.MethodName) ∈ wtbl := tin_4 (List.mem_of_getElem? (i := 57) (by decide +kernel)) (by decide +kernel)
theorem tw_779 : Cond.instanceMethod ({ cls := "MonitorWaysModel", name := "meet", desc := "()V" } : Jvm.MethodName) ∈ wtbl := tin_4 (List.mem_of_getElem? (i := 59) (by decide +kernel)) (by decide +kernel)
theorem tw_780 : Cond.code ({ cls := "MonitorWaysModel", name := "meet", desc := "()V" } : Jvm.MethodName) prog_9_method_35_code (4 : Nat) (Option.none : Option Jvm.ClassFile.FieldType) ∈ wtbl := tin_4 (List.mem_of_getElem? (i := 60) (by decide +kernel)) (by decide +kernel)
theorem tw_781 : Cond.methodLink "MonitorWaysModel" (195 : Nat) ({ cls := "MonitorWaysModel", name := "goOn", desc := "(I)V" } : Jvm.MethodName) ∈ wtbl := tin_4 (List.mem_of_getElem? (i := 61) (by decide +kernel)) (by decide +kernel)
theorem tw_783 : Cond.instanceMethod ({ cls := "MonitorWaysModel", name := "goOn", desc := "(I)V" } : Jvm.MethodName) ∈ wtbl := tin_4 (List.mem_of_getElem? (i := 63) (by decide +kernel)) (by decide +kernel)
theorem tw_784 : Cond.code ({ cls := "MonitorWaysModel", name := "goOn", desc := "(I)V" } : Jvm.MethodName) prog_9_method_37_code (4 : Nat) (Option.none : Option Jvm.ClassFile.FieldType) ∈ wtbl := tin_4 (List.mem_of_getElem? (i := 64) (by decide +kernel)) (by decide +kernel)
theorem tw_785 : Cond.methodLink "MonitorWaysModel" (192 : Nat) ({ cls := "MonitorWaysModel", name := "noteFinal", desc := "()V" } : Jvm.MethodName) ∈ wtbl := tin_4 (List.mem_of_getElem? (i := 65) (by decide +kernel)) (by decide +kernel)
theorem tw_787 : Cond.instanceMethod ({ cls := "MonitorWaysModel", name := "noteFinal", desc := "()V" } : Jvm.MethodName) ∈ wtbl := tin_4 (List.mem_of_getElem? (i := 67) (by decide +kernel)) (by decide +kernel)
theorem tw_788 : Cond.code ({ cls := "MonitorWaysModel", name := "noteFinal", desc := "()V" } : Jvm.MethodName) prog_9_method_36_code (8 : Nat) (Option.none : Option Jvm.ClassFile.FieldType) ∈ wtbl := tin_4 (List.mem_of_getElem? (i := 68) (by decide +kernel)) (by decide +kernel)
theorem tw_789 : Cond.constantLong "MonitorWaysModel" (187 : Nat) (48611 : Int64) ∈ wtbl := tin_4 (List.mem_of_getElem? (i := 69) (by decide +kernel)) (by decide +kernel)
theorem tw_790 : Cond.methodLink "MonitorWaysLaw" (70 : Nat) ({ cls := "MonitorWaysModel", name := "outcome", desc := "(I)J" } : Jvm.MethodName) ∈ wtbl := tin_4 (List.mem_of_getElem? (i := 70) (by decide +kernel)) (by decide +kernel)
theorem tw_791 : Cond.instanceMethod ({ cls := "MonitorWaysModel", name := "outcome", desc := "(I)J" } : Jvm.MethodName) ∈ wtbl := tin_4 (List.mem_of_getElem? (i := 71) (by decide +kernel)) (by decide +kernel)
theorem tw_792 : Cond.selects "MonitorWaysModel" ({ cls := "MonitorWaysModel", name := "outcome", desc := "(I)J" } : Jvm.MethodName) ({ cls := "MonitorWaysModel", name := "outcome", desc := "(I)J" } : Jvm.MethodName) ∈ wtbl := tin_4 (List.mem_of_getElem? (i := 72) (by decide +kernel)) (by decide +kernel)
theorem tw_793 : Cond.code ({ cls := "MonitorWaysModel", name := "outcome", desc := "(I)J" } : Jvm.MethodName) prog_9_method_39_code (2 : Nat) (Option.some Jvm.ClassFile.FieldType.long) ∈ wtbl := tin_4 (List.mem_of_getElem? (i := 73) (by decide +kernel)) (by decide +kernel)
theorem tw_794 : Cond.constantLong "MonitorWaysModel" (198 : Nat) (-1 : Int64) ∈ wtbl := tin_4 (List.mem_of_getElem? (i := 74) (by decide +kernel)) (by decide +kernel)
theorem tw_795 : Cond.methodLink "MonitorWaysLaw" (75 : Nat) ({ cls := "MonitorWaysModel", name := "mayBlock", desc := "(I)Z" } : Jvm.MethodName) ∈ wtbl := tin_4 (List.mem_of_getElem? (i := 75) (by decide +kernel)) (by decide +kernel)
theorem tw_796 : Cond.instanceMethod ({ cls := "MonitorWaysModel", name := "mayBlock", desc := "(I)Z" } : Jvm.MethodName) ∈ wtbl := tin_4 (List.mem_of_getElem? (i := 76) (by decide +kernel)) (by decide +kernel)
theorem tw_797 : Cond.selects "MonitorWaysModel" ({ cls := "MonitorWaysModel", name := "mayBlock", desc := "(I)Z" } : Jvm.MethodName) ({ cls := "MonitorWaysModel", name := "mayBlock", desc := "(I)Z" } : Jvm.MethodName) ∈ wtbl := tin_4 (List.mem_of_getElem? (i := 77) (by decide +kernel)) (by decide +kernel)
theorem tw_798 : Cond.code ({ cls := "MonitorWaysModel", name := "mayBlock", desc := "(I)Z" } : Jvm.MethodName) prog_9_method_40_code (2 : Nat) (Option.some Jvm.ClassFile.FieldType.boolean) ∈ wtbl := tin_4 (List.mem_of_getElem? (i := 78) (by decide +kernel)) (by decide +kernel)
theorem tw_799 : Cond.methodLink "MonitorWaysLaw" (79 : Nat) ({ cls := "MonitorWaysModel", name := "count", desc := "(I)I" } : Jvm.MethodName) ∈ wtbl := tin_4 (List.mem_of_getElem? (i := 79) (by decide +kernel)) (by decide +kernel)
theorem tw_800 : Cond.instanceMethod ({ cls := "MonitorWaysModel", name := "count", desc := "(I)I" } : Jvm.MethodName) ∈ wtbl := tin_4 (List.mem_of_getElem? (i := 80) (by decide +kernel)) (by decide +kernel)
theorem tw_801 : Cond.selects "MonitorWaysModel" ({ cls := "MonitorWaysModel", name := "count", desc := "(I)I" } : Jvm.MethodName) ({ cls := "MonitorWaysModel", name := "count", desc := "(I)I" } : Jvm.MethodName) ∈ wtbl := tin_4 (List.mem_of_getElem? (i := 81) (by decide +kernel)) (by decide +kernel)
theorem tw_802 : Cond.code ({ cls := "MonitorWaysModel", name := "count", desc := "(I)I" } : Jvm.MethodName) prog_9_method_41_code (2 : Nat) (Option.some Jvm.ClassFile.FieldType.int) ∈ wtbl := tin_4 (List.mem_of_getElem? (i := 82) (by decide +kernel)) (by decide +kernel)
theorem inX0 : ∀ w ∈ u_ws "MonitorWays$Machine" TX0 3, w ∈ wtbl := by decide +kernel
theorem inX1 : ∀ w ∈ u_ws "MonitorWays$Monitor" TX1 4, w ∈ wtbl := by decide +kernel
theorem inX2 : ∀ w ∈ u_ws "MonitorWays$Program" TX2 3, w ∈ wtbl := by decide +kernel
theorem inX3 : ∀ w ∈ u_ws "MonitorWays$Search" TX3 11, w ∈ wtbl := by decide +kernel
theorem inX4 : ∀ w ∈ u_ws "MonitorWays$States" TX4 3, w ∈ wtbl := by decide +kernel
theorem inX5 : ∀ w ∈ u_ws "MonitorWays$Worker" TX5 8, w ∈ wtbl := by decide +kernel
theorem inX6 : ∀ w ∈ u_ws "MonitorWays" TX6 4, w ∈ wtbl := by decide +kernel
theorem inX7 : ∀ w ∈ u_ws "MonitorWaysModel" TX7 27, w ∈ wtbl := by decide +kernel
theorem ts_0 : Cond.selects "MonitorWays" ({ cls := "MonitorWays", name := "beginAnew", desc := "()V" } : MethodName) ({ cls := "MonitorWays", name := "beginAnew", desc := "()V" } : MethodName) ∈ wtbl := tin_p (List.mem_of_getElem? (i := 0) (by decide +kernel)) (by decide +kernel)
theorem ts_1 : Cond.selects "MonitorWays$Machine" ({ cls := "MonitorWays$Machine", name := "monitorUseAllows", desc := "(II)Z" } : MethodName) ({ cls := "MonitorWays$Machine", name := "monitorUseAllows", desc := "(II)Z" } : MethodName) ∈ wtbl := tin_p (List.mem_of_getElem? (i := 1) (by decide +kernel)) (by decide +kernel)
theorem ts_2 : Cond.selects "MonitorWays$Machine" ({ cls := "MonitorWays$Machine", name := "monitorOf", desc := "(LMonitorWays$Worker;)LMonitorWays$Monitor;" } : MethodName) ({ cls := "MonitorWays$Machine", name := "monitorOf", desc := "(LMonitorWays$Worker;)LMonitorWays$Monitor;" } : MethodName) ∈ wtbl := tin_p (List.mem_of_getElem? (i := 2) (by decide +kernel)) (by decide +kernel)
theorem ts_3 : Cond.selects "MonitorWays$Machine" ({ cls := "MonitorWays$Machine", name := "plainActionAllows", desc := "(LMonitorWays$Worker;I)Z" } : MethodName) ({ cls := "MonitorWays$Machine", name := "plainActionAllows", desc := "(LMonitorWays$Worker;I)Z" } : MethodName) ∈ wtbl := tin_p (List.mem_of_getElem? (i := 3) (by decide +kernel)) (by decide +kernel)
theorem ts_4 : Cond.selects "MonitorWays$Machine" ({ cls := "MonitorWays$Machine", name := "waitingAllows", desc := "(LMonitorWays$Worker;I)Z" } : MethodName) ({ cls := "MonitorWays$Machine", name := "waitingAllows", desc := "(LMonitorWays$Worker;I)Z" } : MethodName) ∈ wtbl := tin_p (List.mem_of_getElem? (i := 4) (by decide +kernel)) (by decide +kernel)
theorem ts_5 : Cond.selects "MonitorWays$Machine" ({ cls := "MonitorWays$Machine", name := "mayStray", desc := "(LMonitorWays$Worker;)Z" } : MethodName) ({ cls := "MonitorWays$Machine", name := "mayStray", desc := "(LMonitorWays$Worker;)Z" } : MethodName) ∈ wtbl := tin_p (List.mem_of_getElem? (i := 5) (by decide +kernel)) (by decide +kernel)
theorem ts_6 : Cond.selects "MonitorWays$Machine" ({ cls := "MonitorWays$Machine", name := "useMonitor", desc := "(II)V" } : MethodName) ({ cls := "MonitorWays$Machine", name := "useMonitor", desc := "(II)V" } : MethodName) ∈ wtbl := tin_p (List.mem_of_getElem? (i := 6) (by decide +kernel)) (by decide +kernel)
theorem ts_7 : Cond.selects "MonitorWays$Machine" ({ cls := "MonitorWays$Machine", name := "notifyWaiter", desc := "(LMonitorWays$Monitor;I)V" } : MethodName) ({ cls := "MonitorWays$Machine", name := "notifyWaiter", desc := "(LMonitorWays$Monitor;I)V" } : MethodName) ∈ wtbl := tin_p (List.mem_of_getElem? (i := 7) (by decide +kernel)) (by decide +kernel)
theorem ts_8 : Cond.selects "MonitorWays$Machine" ({ cls := "MonitorWays$Machine", name := "goIntoSet", desc := "(ILMonitorWays$Monitor;)V" } : MethodName) ({ cls := "MonitorWays$Machine", name := "goIntoSet", desc := "(ILMonitorWays$Monitor;)V" } : MethodName) ∈ wtbl := tin_p (List.mem_of_getElem? (i := 8) (by decide +kernel)) (by decide +kernel)
theorem ts_9 : Cond.selects "MonitorWays$Machine" ({ cls := "MonitorWays$Machine", name := "doPlainAction", desc := "(LMonitorWays$Worker;)V" } : MethodName) ({ cls := "MonitorWays$Machine", name := "doPlainAction", desc := "(LMonitorWays$Worker;)V" } : MethodName) ∈ wtbl := tin_p (List.mem_of_getElem? (i := 9) (by decide +kernel)) (by decide +kernel)
theorem ts_10 : Cond.selects "MonitorWays$Machine" ({ cls := "MonitorWays$Machine", name := "interrupt", desc := "(LMonitorWays$Worker;)V" } : MethodName) ({ cls := "MonitorWays$Machine", name := "interrupt", desc := "(LMonitorWays$Worker;)V" } : MethodName) ∈ wtbl := tin_p (List.mem_of_getElem? (i := 10) (by decide +kernel)) (by decide +kernel)
theorem ts_11 : Cond.selects "MonitorWays$Machine" ({ cls := "MonitorWays$Machine", name := "unpark", desc := "(LMonitorWays$Worker;)V" } : MethodName) ({ cls := "MonitorWays$Machine", name := "unpark", desc := "(LMonitorWays$Worker;)V" } : MethodName) ∈ wtbl := tin_p (List.mem_of_getElem? (i := 11) (by decide +kernel)) (by decide +kernel)
theorem ts_12 : Cond.selects "MonitorWays$Machine" ({ cls := "MonitorWays$Machine", name := "leaveSetAlone", desc := "(II)V" } : MethodName) ({ cls := "MonitorWays$Machine", name := "leaveSetAlone", desc := "(II)V" } : MethodName) ∈ wtbl := tin_p (List.mem_of_getElem? (i := 12) (by decide +kernel)) (by decide +kernel)
theorem ts_13 : Cond.selects "MonitorWays$Machine" ({ cls := "MonitorWays$Machine", name := "comeBack", desc := "(I)V" } : MethodName) ({ cls := "MonitorWays$Machine", name := "comeBack", desc := "(I)V" } : MethodName) ∈ wtbl := tin_p (List.mem_of_getElem? (i := 13) (by decide +kernel)) (by decide +kernel)
theorem ts_14 : Cond.selects "MonitorWays$Machine" ({ cls := "MonitorWays$Machine", name := "stopParking", desc := "(LMonitorWays$Worker;I)V" } : MethodName) ({ cls := "MonitorWays$Machine", name := "stopParking", desc := "(LMonitorWays$Worker;I)V" } : MethodName) ∈ wtbl := tin_p (List.mem_of_getElem? (i := 14) (by decide +kernel)) (by decide +kernel)
theorem ts_15 : Cond.selects "MonitorWays$Worker" ({ cls := "MonitorWays$Worker", name := "letterCount", desc := "()I" } : MethodName) ({ cls := "MonitorWays$Worker", name := "letterCount", desc := "()I" } : MethodName) ∈ wtbl := tin_p (List.mem_of_getElem? (i := 15) (by decide +kernel)) (by decide +kernel)
theorem ts_16 : Cond.selects "MonitorWays$States" ({ cls := "MonitorWays$States", name := "grow", desc := "()V" } : MethodName) ({ cls := "MonitorWays$States", name := "grow", desc := "()V" } : MethodName) ∈ wtbl := tin_p (List.mem_of_getElem? (i := 16) (by decide +kernel)) (by decide +kernel)
theorem ts_17 : Cond.selects "MonitorWays$States" ({ cls := "MonitorWays$States", name := "slotOf", desc := "(I)I" } : MethodName) ({ cls := "MonitorWays$States", name := "slotOf", desc := "(I)I" } : MethodName) ∈ wtbl := tin_p (List.mem_of_getElem? (i := 17) (by decide +kernel)) (by decide +kernel)
theorem ts_18 : Cond.selects "MonitorWays$States" ({ cls := "MonitorWays$States", name := "hashOf", desc := "(I)I" } : MethodName) ({ cls := "MonitorWays$States", name := "hashOf", desc := "(I)I" } : MethodName) ∈ wtbl := tin_p (List.mem_of_getElem? (i := 18) (by decide +kernel)) (by decide +kernel)
theorem ts_19 : Cond.selects "MonitorWays$States" ({ cls := "MonitorWays$States", name := "areSame", desc := "(II)Z" } : MethodName) ({ cls := "MonitorWays$States", name := "areSame", desc := "(II)Z" } : MethodName) ∈ wtbl := tin_p (List.mem_of_getElem? (i := 19) (by decide +kernel)) (by decide +kernel)
theorem ts_20 : Cond.selects "MonitorWays$Search" ({ cls := "MonitorWays$Search", name := "visit", desc := "(I)Z" } : MethodName) ({ cls := "MonitorWays$Search", name := "visit", desc := "(I)Z" } : MethodName) ∈ wtbl := tin_p (List.mem_of_getElem? (i := 20) (by decide +kernel)) (by decide +kernel)
theorem ts_21 : Cond.selects "MonitorWays$Search" ({ cls := "MonitorWays$Search", name := "noteFinal", desc := "()V" } : MethodName) ({ cls := "MonitorWays$Search", name := "noteFinal", desc := "()V" } : MethodName) ∈ wtbl := tin_p (List.mem_of_getElem? (i := 21) (by decide +kernel)) (by decide +kernel)
theorem ts_22 : Cond.selects "MonitorWays$Search" ({ cls := "MonitorWays$Search", name := "noteOutcome", desc := "(J)V" } : MethodName) ({ cls := "MonitorWays$Search", name := "noteOutcome", desc := "(J)V" } : MethodName) ∈ wtbl := tin_p (List.mem_of_getElem? (i := 22) (by decide +kernel)) (by decide +kernel)
theorem ts_23 : Cond.selects "MonitorWays$Search" ({ cls := "MonitorWays$Search", name := "lessThan", desc := "(J)I" } : MethodName) ({ cls := "MonitorWays$Search", name := "lessThan", desc := "(J)I" } : MethodName) ∈ wtbl := tin_p (List.mem_of_getElem? (i := 23) (by decide +kernel)) (by decide +kernel)
theorem ts_24 : Cond.selects "MonitorWaysModel" ({ cls := "MonitorWaysModel", name := "first", desc := "()V" } : MethodName) ({ cls := "MonitorWaysModel", name := "first", desc := "()V" } : MethodName) ∈ wtbl := tin_p (List.mem_of_getElem? (i := 24) (by decide +kernel)) (by decide +kernel)
theorem ts_25 : Cond.selects "MonitorWaysModel" ({ cls := "MonitorWaysModel", name := "pack", desc := "([JI)V" } : MethodName) ({ cls := "MonitorWaysModel", name := "pack", desc := "([JI)V" } : MethodName) ∈ wtbl := tin_p (List.mem_of_getElem? (i := 25) (by decide +kernel)) (by decide +kernel)
theorem ts_26 : Cond.selects "MonitorWaysModel" ({ cls := "MonitorWaysModel", name := "threadPacked", desc := "(I)J" } : MethodName) ({ cls := "MonitorWaysModel", name := "threadPacked", desc := "(I)J" } : MethodName) ∈ wtbl := tin_p (List.mem_of_getElem? (i := 26) (by decide +kernel)) (by decide +kernel)
theorem ts_27 : Cond.selects "MonitorWaysModel" ({ cls := "MonitorWaysModel", name := "forget", desc := "()V" } : MethodName) ({ cls := "MonitorWaysModel", name := "forget", desc := "()V" } : MethodName) ∈ wtbl := tin_p (List.mem_of_getElem? (i := 27) (by decide +kernel)) (by decide +kernel)
theorem ts_28 : Cond.selects "MonitorWaysModel" ({ cls := "MonitorWaysModel", name := "unpack", desc := "([JI)V" } : MethodName) ({ cls := "MonitorWaysModel", name := "unpack", desc := "([JI)V" } : MethodName) ∈ wtbl := tin_p (List.mem_of_getElem? (i := 28) (by decide +kernel)) (by decide +kernel)
theorem ts_29 : Cond.selects "MonitorWaysModel" ({ cls := "MonitorWaysModel", name := "threadUnpacked", desc := "(IJ)V" } : MethodName) ({ cls := "MonitorWaysModel", name := "threadUnpacked", desc := "(IJ)V" } : MethodName) ∈ wtbl := tin_p (List.mem_of_getElem? (i := 29) (by decide +kernel)) (by decide +kernel)
theorem ts_30 : Cond.selects "MonitorWaysModel" ({ cls := "MonitorWaysModel", name := "may", desc := "(II)Z" } : MethodName) ({ cls := "MonitorWaysModel", name := "may", desc := "(II)Z" } : MethodName) ∈ wtbl := tin_p (List.mem_of_getElem? (i := 30) (by decide +kernel)) (by decide +kernel)
theorem ts_31 : Cond.selects "MonitorWaysModel" ({ cls := "MonitorWaysModel", name := "runningMay", desc := "(II)Z" } : MethodName) ({ cls := "MonitorWaysModel", name := "runningMay", desc := "(II)Z" } : MethodName) ∈ wtbl := tin_p (List.mem_of_getElem? (i := 31) (by decide +kernel)) (by decide +kernel)
theorem ts_32 : Cond.selects "MonitorWaysModel" ({ cls := "MonitorWaysModel", name := "action", desc := "(I)I" } : MethodName) ({ cls := "MonitorWaysModel", name := "action", desc := "(I)I" } : MethodName) ∈ wtbl := tin_p (List.mem_of_getElem? (i := 32) (by decide +kernel)) (by decide +kernel)
theorem ts_33 : Cond.selects "MonitorWaysModel" ({ cls := "MonitorWaysModel", name := "operand", desc := "(I)I" } : MethodName) ({ cls := "MonitorWaysModel", name := "operand", desc := "(I)I" } : MethodName) ∈ wtbl := tin_p (List.mem_of_getElem? (i := 33) (by decide +kernel)) (by decide +kernel)
theorem ts_34 : Cond.selects "MonitorWaysModel" ({ cls := "MonitorWaysModel", name := "timed", desc := "(I)Z" } : MethodName) ({ cls := "MonitorWaysModel", name := "timed", desc := "(I)Z" } : MethodName) ∈ wtbl := tin_p (List.mem_of_getElem? (i := 34) (by decide +kernel)) (by decide +kernel)
theorem ts_35 : Cond.selects "MonitorWaysModel" ({ cls := "MonitorWaysModel", name := "waitedOn", desc := "(I)I" } : MethodName) ({ cls := "MonitorWaysModel", name := "waitedOn", desc := "(I)I" } : MethodName) ∈ wtbl := tin_p (List.mem_of_getElem? (i := 35) (by decide +kernel)) (by decide +kernel)
theorem ts_36 : Cond.selects "MonitorWaysModel" ({ cls := "MonitorWaysModel", name := "perform", desc := "(II)V" } : MethodName) ({ cls := "MonitorWaysModel", name := "perform", desc := "(II)V" } : MethodName) ∈ wtbl := tin_p (List.mem_of_getElem? (i := 36) (by decide +kernel)) (by decide +kernel)
theorem ts_37 : Cond.selects "MonitorWaysModel" ({ cls := "MonitorWaysModel", name := "doAction", desc := "(II)V" } : MethodName) ({ cls := "MonitorWaysModel", name := "doAction", desc := "(II)V" } : MethodName) ∈ wtbl := tin_p (List.mem_of_getElem? (i := 37) (by decide +kernel)) (by decide +kernel)
theorem ts_38 : Cond.selects "MonitorWaysModel" ({ cls := "MonitorWaysModel", name := "monitorAction", desc := "(IIII)V" } : MethodName) ({ cls := "MonitorWaysModel", name := "monitorAction", desc := "(IIII)V" } : MethodName) ∈ wtbl := tin_p (List.mem_of_getElem? (i := 38) (by decide +kernel)) (by decide +kernel)
theorem ts_39 : Cond.selects "MonitorWaysModel" ({ cls := "MonitorWaysModel", name := "put", desc := "(II)V" } : MethodName) ({ cls := "MonitorWaysModel", name := "put", desc := "(II)V" } : MethodName) ∈ wtbl := tin_p (List.mem_of_getElem? (i := 39) (by decide +kernel)) (by decide +kernel)
theorem ts_40 : Cond.selects "MonitorWaysModel" ({ cls := "MonitorWaysModel", name := "waitOn", desc := "(II)V" } : MethodName) ({ cls := "MonitorWaysModel", name := "waitOn", desc := "(II)V" } : MethodName) ∈ wtbl := tin_p (List.mem_of_getElem? (i := 40) (by decide +kernel)) (by decide +kernel)
theorem ts_41 : Cond.selects "MonitorWaysModel" ({ cls := "MonitorWaysModel", name := "notified", desc := "(I)V" } : MethodName) ({ cls := "MonitorWaysModel", name := "notified", desc := "(I)V" } : MethodName) ∈ wtbl := tin_p (List.mem_of_getElem? (i := 41) (by decide +kernel)) (by decide +kernel)
theorem ts_42 : Cond.selects "MonitorWaysModel" ({ cls := "MonitorWaysModel", name := "leaveSet", desc := "(I)V" } : MethodName) ({ cls := "MonitorWaysModel", name := "leaveSet", desc := "(I)V" } : MethodName) ∈ wtbl := tin_p (List.mem_of_getElem? (i := 42) (by decide +kernel)) (by decide +kernel)
theorem ts_43 : Cond.selects "MonitorWaysModel" ({ cls := "MonitorWaysModel", name := "otherAction", desc := "(III)V" } : MethodName) ({ cls := "MonitorWaysModel", name := "otherAction", desc := "(III)V" } : MethodName) ∈ wtbl := tin_p (List.mem_of_getElem? (i := 43) (by decide +kernel)) (by decide +kernel)
theorem ts_44 : Cond.selects "MonitorWaysModel" ({ cls := "MonitorWaysModel", name := "unpark", desc := "(I)V" } : MethodName) ({ cls := "MonitorWaysModel", name := "unpark", desc := "(I)V" } : MethodName) ∈ wtbl := tin_p (List.mem_of_getElem? (i := 44) (by decide +kernel)) (by decide +kernel)
theorem ts_45 : Cond.selects "MonitorWaysModel" ({ cls := "MonitorWaysModel", name := "run", desc := "(I)V" } : MethodName) ({ cls := "MonitorWaysModel", name := "run", desc := "(I)V" } : MethodName) ∈ wtbl := tin_p (List.mem_of_getElem? (i := 45) (by decide +kernel)) (by decide +kernel)
theorem ts_46 : Cond.selects "MonitorWaysModel" ({ cls := "MonitorWaysModel", name := "brokenOr", desc := "(IZ)V" } : MethodName) ({ cls := "MonitorWaysModel", name := "brokenOr", desc := "(IZ)V" } : MethodName) ∈ wtbl := tin_p (List.mem_of_getElem? (i := 46) (by decide +kernel)) (by decide +kernel)
theorem ts_47 : Cond.selects "MonitorWaysModel" ({ cls := "MonitorWaysModel", name := "meet", desc := "()V" } : MethodName) ({ cls := "MonitorWaysModel", name := "meet", desc := "()V" } : MethodName) ∈ wtbl := tin_p (List.mem_of_getElem? (i := 47) (by decide +kernel)) (by decide +kernel)
theorem ts_48 : Cond.selects "MonitorWaysModel" ({ cls := "MonitorWaysModel", name := "goOn", desc := "(I)V" } : MethodName) ({ cls := "MonitorWaysModel", name := "goOn", desc := "(I)V" } : MethodName) ∈ wtbl := tin_p (List.mem_of_getElem? (i := 48) (by decide +kernel)) (by decide +kernel)
theorem ts_49 : Cond.selects "MonitorWaysModel" ({ cls := "MonitorWaysModel", name := "noteFinal", desc := "()V" } : MethodName) ({ cls := "MonitorWaysModel", name := "noteFinal", desc := "()V" } : MethodName) ∈ wtbl := tin_p (List.mem_of_getElem? (i := 49) (by decide +kernel)) (by decide +kernel)
end
section
theorem dX0_init_0 : decode cX0_init 0 = .ok (.aload_n 0, 1) := by decide +kernel
theorem dX0_init_1 : decode cX0_init 1 = .ok (.invokespecial 3, 3) := by decide +kernel
theorem dX0_init_4 : decode cX0_init 4 = .ok (.aload_n 0, 1) := by decide +kernel
theorem dX0_init_5 : decode cX0_init 5 = .ok (.iconst 4, 1) := by decide +kernel
theorem dX0_init_6 : decode cX0_init 6 = .ok (.anewarray 9, 3) := by decide +kernel
theorem dX0_init_9 : decode cX0_init 9 = .ok (.putfield 11, 3) := by decide +kernel
theorem dX0_init_12 : decode cX0_init 12 = .ok (.aload_n 0, 1) := by decide +kernel
theorem dX0_init_13 : decode cX0_init 13 = .ok (.iconst 2, 1) := by decide +kernel
theorem dX0_init_14 : decode cX0_init 14 = .ok (.anewarray 17, 3) := by decide +kernel
theorem dX0_init_17 : decode cX0_init 17 = .ok (.putfield 19, 3) := by decide +kernel
theorem dX0_init_20 : decode cX0_init 20 = .ok (.aload_n 0, 1) := by decide +kernel
theorem dX0_init_21 : decode cX0_init 21 = .ok (.iload_n 2, 1) := by decide +kernel
theorem dX0_init_22 : decode cX0_init 22 = .ok (.putfield 23, 3) := by decide +kernel
theorem dX0_init_25 : decode cX0_init 25 = .ok (.iconst 0, 1) := by decide +kernel
theorem dX0_init_26 : decode cX0_init 26 = .ok (.istore_n 3, 1) := by decide +kernel
theorem dX0_init_27 : decode cX0_init 27 = .ok (.iload_n 3, 1) := by decide +kernel
theorem dX0_init_28 : decode cX0_init 28 = .ok (.iconst 4, 1) := by decide +kernel
theorem dX0_init_29 : decode cX0_init 29 = .ok (.if_icmp .ge 25, 3) := by decide +kernel
theorem dX0_init_32 : decode cX0_init 32 = .ok (.aload_n 0, 1) := by decide +kernel
theorem dX0_init_33 : decode cX0_init 33 = .ok (.getfield 11, 3) := by decide +kernel
theorem dX0_init_36 : decode cX0_init 36 = .ok (.iload_n 3, 1) := by decide +kernel
theorem dX0_init_37 : decode cX0_init 37 = .ok (.new 9, 3) := by decide +kernel
theorem dX0_init_40 : decode cX0_init 40 = .ok (.dup, 1) := by decide +kernel
theorem dX0_init_41 : decode cX0_init 41 = .ok (.aload_n 1, 1) := by decide +kernel
theorem dX0_init_42 : decode cX0_init 42 = .ok (.iload_n 3, 1) := by decide +kernel
theorem dX0_init_43 : decode cX0_init 43 = .ok (.aaload, 1) := by decide +kernel
theorem dX0_init_44 : decode cX0_init 44 = .ok (.invokespecial 27, 3) := by decide +kernel
theorem dX0_init_47 : decode cX0_init 47 = .ok (.aastore, 1) := by decide +kernel
theorem dX0_init_48 : decode cX0_init 48 = .ok (.iinc 3 1, 3) := by decide +kernel
theorem dX0_init_51 : decode cX0_init 51 = .ok (.goto (-24), 3) := by decide +kernel
theorem dX0_init_54 : decode cX0_init 54 = .ok (.iconst 0, 1) := by decide +kernel
theorem dX0_init_55 : decode cX0_init 55 = .ok (.istore_n 3, 1) := by decide +kernel
theorem dX0_init_56 : decode cX0_init 56 = .ok (.iload_n 3, 1) := by decide +kernel
theorem dX0_init_57 : decode cX0_init 57 = .ok (.iconst 2, 1) := by decide +kernel
theorem dX0_init_58 : decode cX0_init 58 = .ok (.if_icmp .ge 22, 3) := by decide +kernel
theorem dX0_init_61 : decode cX0_init 61 = .ok (.aload_n 0, 1) := by decide +kernel
theorem dX0_init_62 : decode cX0_init 62 = .ok (.getfield 19, 3) := by decide +kernel
theorem dX0_init_65 : decode cX0_init 65 = .ok (.iload_n 3, 1) := by decide +kernel
theorem dX0_init_66 : decode cX0_init 66 = .ok (.new 17, 3) := by decide +kernel
theorem dX0_init_69 : decode cX0_init 69 = .ok (.dup, 1) := by decide +kernel
theorem dX0_init_70 : decode cX0_init 70 = .ok (.invokespecial 30, 3) := by decide +kernel
theorem dX0_init_73 : decode cX0_init 73 = .ok (.aastore, 1) := by decide +kernel
theorem dX0_init_74 : decode cX0_init 74 = .ok (.iinc 3 1, 3) := by decide +kernel
theorem dX0_init_77 : decode cX0_init 77 = .ok (.goto (-21), 3) := by decide +kernel
theorem dX0_init_80 : decode cX0_init 80 = .ok (.aload_n 0, 1) := by decide +kernel
theorem dX0_init_81 : decode cX0_init 81 = .ok (.invokevirtual 31, 3) := by decide +kernel
theorem dX0_init_84 : decode cX0_init 84 = .ok (.return_, 1) := by decide +kernel
theorem dX0_begin_0 : decode cX0_begin 0 = .ok (.iconst 0, 1) := by decide +kernel
theorem dX0_begin_1 : decode cX0_begin 1 = .ok (.istore_n 1, 1) := by decide +kernel
theorem dX0_begin_2 : decode cX0_begin 2 = .ok (.iload_n 1, 1) := by decide +kernel
theorem dX0_begin_3 : decode cX0_begin 3 = .ok (.iconst 4, 1) := by decide +kernel
theorem dX0_begin_4 : decode cX0_begin 4 = .ok (.if_icmp .ge 18, 3) := by decide +kernel
theorem dX0_begin_7 : decode cX0_begin 7 = .ok (.aload_n 0, 1) := by decide +kernel
theorem dX0_begin_8 : decode cX0_begin 8 = .ok (.getfield 11, 3) := by decide +kernel
theorem dX0_begin_11 : decode cX0_begin 11 = .ok (.iload_n 1, 1) := by decide +kernel
theorem dX0_begin_12 : decode cX0_begin 12 = .ok (.aaload, 1) := by decide +kernel
theorem dX0_begin_13 : decode cX0_begin 13 = .ok (.invokevirtual 34, 3) := by decide +kernel
theorem dX0_begin_16 : decode cX0_begin 16 = .ok (.iinc 1 1, 3) := by decide +kernel
theorem dX0_begin_19 : decode cX0_begin 19 = .ok (.goto (-17), 3) := by decide +kernel
theorem dX0_begin_22 : decode cX0_begin 22 = .ok (.iconst 0, 1) := by decide +kernel
theorem dX0_begin_23 : decode cX0_begin 23 = .ok (.istore_n 1, 1) := by decide +kernel
theorem dX0_begin_24 : decode cX0_begin 24 = .ok (.iload_n 1, 1) := by decide +kernel
theorem dX0_begin_25 : decode cX0_begin 25 = .ok (.iconst 2, 1) := by decide +kernel
theorem dX0_begin_26 : decode cX0_begin 26 = .ok (.if_icmp .ge 18, 3) := by decide +kernel
theorem dX0_begin_29 : decode cX0_begin 29 = .ok (.aload_n 0, 1) := by decide +kernel
theorem dX0_begin_30 : decode cX0_begin 30 = .ok (.getfield 19, 3) := by decide +kernel
theorem dX0_begin_33 : decode cX0_begin 33 = .ok (.iload_n 1, 1) := by decide +kernel
theorem dX0_begin_34 : decode cX0_begin 34 = .ok (.aaload, 1) := by decide +kernel
theorem dX0_begin_35 : decode cX0_begin 35 = .ok (.invokevirtual 35, 3) := by decide +kernel
theorem dX0_begin_38 : decode cX0_begin 38 = .ok (.iinc 1 1, 3) := by decide +kernel
theorem dX0_begin_41 : decode cX0_begin 41 = .ok (.goto (-17), 3) := by decide +kernel
theorem dX0_begin_44 : decode cX0_begin 44 = .ok (.return_, 1) := by decide +kernel
theorem dX0_allows_0 : decode cX0_allows 0 = .ok (.aload_n 0, 1) := by decide +kernel
theorem dX0_allows_1 : decode cX0_allows 1 = .ok (.getfield 11, 3) := by decide +kernel
theorem dX0_allows_4 : decode cX0_allows 4 = .ok (.iload_n 1, 1) := by decide +kernel
theorem dX0_allows_5 : decode cX0_allows 5 = .ok (.aaload, 1) := by decide +kernel
theorem dX0_allows_6 : decode cX0_allows 6 = .ok (.astore_n 3, 1) := by decide +kernel
theorem dX0_allows_7 : decode cX0_allows 7 = .ok (.aload_n 3, 1) := by decide +kernel
theorem dX0_allows_8 : decode cX0_allows 8 = .ok (.getfield 36, 3) := by decide +kernel
theorem dX0_allows_11 : decode cX0_allows 11 = .ok (.tableswitch 112 0 3 #[29, 53, 60, 81], 29) := by decide +kernel
theorem dX0_allows_40 : decode cX0_allows 40 = .ok (.aload_n 3, 1) := by decide +kernel
theorem dX0_allows_41 : decode cX0_allows 41 = .ok (.invokevirtual 40, 3) := by decide +kernel
theorem dX0_allows_44 : decode cX0_allows 44 = .ok (.iconst 5, 1) := by decide +kernel
theorem dX0_allows_45 : decode cX0_allows 45 = .ok (.if_icmp .gt 12, 3) := by decide +kernel
theorem dX0_allows_48 : decode cX0_allows 48 = .ok (.aload_n 0, 1) := by decide +kernel
theorem dX0_allows_49 : decode cX0_allows 49 = .ok (.iload_n 1, 1) := by decide +kernel
theorem dX0_allows_50 : decode cX0_allows 50 = .ok (.iload_n 2, 1) := by decide +kernel
theorem dX0_allows_51 : decode cX0_allows 51 = .ok (.invokevirtual 44, 3) := by decide +kernel
theorem dX0_allows_54 : decode cX0_allows 54 = .ok (.goto 9, 3) := by decide +kernel
theorem dX0_allows_57 : decode cX0_allows 57 = .ok (.aload_n 0, 1) := by decide +kernel
theorem dX0_allows_58 : decode cX0_allows 58 = .ok (.aload_n 3, 1) := by decide +kernel
theorem dX0_allows_59 : decode cX0_allows 59 = .ok (.iload_n 2, 1) := by decide +kernel
theorem dX0_allows_60 : decode cX0_allows 60 = .ok (.invokevirtual 48, 3) := by decide +kernel
theorem dX0_allows_63 : decode cX0_allows 63 = .ok (.ireturn, 1) := by decide +kernel
theorem dX0_allows_64 : decode cX0_allows 64 = .ok (.aload_n 0, 1) := by decide +kernel
theorem dX0_allows_65 : decode cX0_allows 65 = .ok (.aload_n 3, 1) := by decide +kernel
theorem dX0_allows_66 : decode cX0_allows 66 = .ok (.iload_n 2, 1) := by decide +kernel
theorem dX0_allows_67 : decode cX0_allows 67 = .ok (.invokevirtual 52, 3) := by decide +kernel
theorem dX0_allows_70 : decode cX0_allows 70 = .ok (.ireturn, 1) := by decide +kernel
theorem dX0_allows_71 : decode cX0_allows 71 = .ok (.iload_n 2, 1) := by decide +kernel
theorem dX0_allows_72 : decode cX0_allows 72 = .ok (.ifCond .ne 18, 3) := by decide +kernel
theorem dX0_allows_75 : decode cX0_allows 75 = .ok (.aload_n 0, 1) := by decide +kernel
theorem dX0_allows_76 : decode cX0_allows 76 = .ok (.aload_n 3, 1) := by decide +kernel
theorem dX0_allows_77 : decode cX0_allows 77 = .ok (.invokevirtual 55, 3) := by decide +kernel
theorem dX0_allows_80 : decode cX0_allows 80 = .ok (.invokevirtual 59, 3) := by decide +kernel
theorem dX0_allows_83 : decode cX0_allows 83 = .ok (.ifCond .eq 7, 3) := by decide +kernel
theorem dX0_allows_86 : decode cX0_allows 86 = .ok (.iconst 1, 1) := by decide +kernel
theorem dX0_allows_87 : decode cX0_allows 87 = .ok (.goto 4, 3) := by decide +kernel
theorem dX0_allows_90 : decode cX0_allows 90 = .ok (.iconst 0, 1) := by decide +kernel
theorem dX0_allows_91 : decode cX0_allows 91 = .ok (.ireturn, 1) := by decide +kernel
theorem dX0_allows_92 : decode cX0_allows 92 = .ok (.iload_n 2, 1) := by decide +kernel
theorem dX0_allows_93 : decode cX0_allows 93 = .ok (.iconst 1, 1) := by decide +kernel
theorem dX0_allows_94 : decode cX0_allows 94 = .ok (.if_icmp .ne 10, 3) := by decide +kernel
theorem dX0_allows_97 : decode cX0_allows 97 = .ok (.aload_n 3, 1) := by decide +kernel
theorem dX0_allows_98 : decode cX0_allows 98 = .ok (.getfield 63, 3) := by decide +kernel
theorem dX0_allows_101 : decode cX0_allows 101 = .ok (.goto 21, 3) := by decide +kernel
theorem dX0_allows_104 : decode cX0_allows 104 = .ok (.iload_n 2, 1) := by decide +kernel
theorem dX0_allows_105 : decode cX0_allows 105 = .ok (.iconst 3, 1) := by decide +kernel
theorem dX0_allows_106 : decode cX0_allows 106 = .ok (.if_icmp .ne 15, 3) := by decide +kernel
theorem dX0_allows_109 : decode cX0_allows 109 = .ok (.aload_n 0, 1) := by decide +kernel
theorem dX0_allows_110 : decode cX0_allows 110 = .ok (.aload_n 3, 1) := by decide +kernel
theorem dX0_allows_111 : decode cX0_allows 111 = .ok (.invokevirtual 66, 3) := by decide +kernel
theorem dX0_allows_114 : decode cX0_allows 114 = .ok (.ifCond .eq 7, 3) := by decide +kernel
theorem dX0_allows_117 : decode cX0_allows 117 = .ok (.iconst 1, 1) := by decide +kernel
theorem dX0_allows_118 : decode cX0_allows 118 = .ok (.goto 4, 3) := by decide +kernel
theorem dX0_allows_121 : decode cX0_allows 121 = .ok (.iconst 0, 1) := by decide +kernel
theorem dX0_allows_122 : decode cX0_allows 122 = .ok (.ireturn, 1) := by decide +kernel
theorem dX0_allows_123 : decode cX0_allows 123 = .ok (.iconst 0, 1) := by decide +kernel
theorem dX0_allows_124 : decode cX0_allows 124 = .ok (.ireturn, 1) := by decide +kernel
theorem dX0_monitorUseAllows_0 : decode cX0_monitorUseAllows 0 = .ok (.aload_n 0, 1) := by decide +kernel
theorem dX0_monitorUseAllows_1 : decode cX0_monitorUseAllows 1 = .ok (.getfield 11, 3) := by decide +kernel
theorem dX0_monitorUseAllows_4 : decode cX0_monitorUseAllows 4 = .ok (.iload_n 1, 1) := by decide +kernel
theorem dX0_monitorUseAllows_5 : decode cX0_monitorUseAllows 5 = .ok (.aaload, 1) := by decide +kernel
theorem dX0_monitorUseAllows_6 : decode cX0_monitorUseAllows 6 = .ok (.invokevirtual 40, 3) := by decide +kernel
theorem dX0_monitorUseAllows_9 : decode cX0_monitorUseAllows 9 = .ok (.istore_n 3, 1) := by decide +kernel
theorem dX0_monitorUseAllows_10 : decode cX0_monitorUseAllows 10 = .ok (.aload_n 0, 1) := by decide +kernel
theorem dX0_monitorUseAllows_11 : decode cX0_monitorUseAllows 11 = .ok (.aload_n 0, 1) := by decide +kernel
theorem dX0_monitorUseAllows_12 : decode cX0_monitorUseAllows 12 = .ok (.getfield 11, 3) := by decide +kernel
theorem dX0_monitorUseAllows_15 : decode cX0_monitorUseAllows 15 = .ok (.iload_n 1, 1) := by decide +kernel
theorem dX0_monitorUseAllows_16 : decode cX0_monitorUseAllows 16 = .ok (.aaload, 1) := by decide +kernel
theorem dX0_monitorUseAllows_17 : decode cX0_monitorUseAllows 17 = .ok (.invokevirtual 55, 3) := by decide +kernel
theorem dX0_monitorUseAllows_20 : decode cX0_monitorUseAllows 20 = .ok (.astore 4, 2) := by decide +kernel
theorem dX0_monitorUseAllows_22 : decode cX0_monitorUseAllows 22 = .ok (.aload 4, 2) := by decide +kernel
theorem dX0_monitorUseAllows_24 : decode cX0_monitorUseAllows 24 = .ok (.getfield 70, 3) := by decide +kernel
theorem dX0_monitorUseAllows_27 : decode cX0_monitorUseAllows 27 = .ok (.iload_n 1, 1) := by decide +kernel
theorem dX0_monitorUseAllows_28 : decode cX0_monitorUseAllows 28 = .ok (.if_icmp .ne 7, 3) := by decide +kernel
theorem dX0_monitorUseAllows_31 : decode cX0_monitorUseAllows 31 = .ok (.iconst 1, 1) := by decide +kernel
theorem dX0_monitorUseAllows_32 : decode cX0_monitorUseAllows 32 = .ok (.goto 4, 3) := by decide +kernel
theorem dX0_monitorUseAllows_35 : decode cX0_monitorUseAllows 35 = .ok (.iconst 0, 1) := by decide +kernel
theorem dX0_monitorUseAllows_36 : decode cX0_monitorUseAllows 36 = .ok (.istore 5, 2) := by decide +kernel
theorem dX0_monitorUseAllows_38 : decode cX0_monitorUseAllows 38 = .ok (.iload_n 3, 1) := by decide +kernel
theorem dX0_monitorUseAllows_39 : decode cX0_monitorUseAllows 39 = .ok (.iconst 4, 1) := by decide +kernel
theorem dX0_monitorUseAllows_40 : decode cX0_monitorUseAllows 40 = .ok (.if_icmp .ne 32, 3) := by decide +kernel
theorem dX0_monitorUseAllows_43 : decode cX0_monitorUseAllows 43 = .ok (.iload 5, 2) := by decide +kernel
theorem dX0_monitorUseAllows_45 : decode cX0_monitorUseAllows 45 = .ok (.ifCond .eq 27, 3) := by decide +kernel
theorem dX0_monitorUseAllows_48 : decode cX0_monitorUseAllows 48 = .ok (.aload 4, 2) := by decide +kernel
theorem dX0_monitorUseAllows_50 : decode cX0_monitorUseAllows 50 = .ok (.getfield 73, 3) := by decide +kernel
theorem dX0_monitorUseAllows_53 : decode cX0_monitorUseAllows 53 = .ok (.ifCond .le 19, 3) := by decide +kernel
theorem dX0_monitorUseAllows_56 : decode cX0_monitorUseAllows 56 = .ok (.iload_n 2, 1) := by decide +kernel
theorem dX0_monitorUseAllows_57 : decode cX0_monitorUseAllows 57 = .ok (.iconst 1, 1) := by decide +kernel
theorem dX0_monitorUseAllows_58 : decode cX0_monitorUseAllows 58 = .ok (.if_icmp .eq 8, 3) := by decide +kernel
theorem dX0_monitorUseAllows_61 : decode cX0_monitorUseAllows 61 = .ok (.iload_n 2, 1) := by decide +kernel
theorem dX0_monitorUseAllows_62 : decode cX0_monitorUseAllows 62 = .ok (.iconst 2, 1) := by decide +kernel
theorem dX0_monitorUseAllows_63 : decode cX0_monitorUseAllows 63 = .ok (.if_icmp .ne 7, 3) := by decide +kernel
theorem dX0_monitorUseAllows_66 : decode cX0_monitorUseAllows 66 = .ok (.iconst 1, 1) := by decide +kernel
theorem dX0_monitorUseAllows_67 : decode cX0_monitorUseAllows 67 = .ok (.goto 4, 3) := by decide +kernel
theorem dX0_monitorUseAllows_70 : decode cX0_monitorUseAllows 70 = .ok (.iconst 0, 1) := by decide +kernel
theorem dX0_monitorUseAllows_71 : decode cX0_monitorUseAllows 71 = .ok (.ireturn, 1) := by decide +kernel
theorem dX0_monitorUseAllows_72 : decode cX0_monitorUseAllows 72 = .ok (.iload_n 2, 1) := by decide +kernel
theorem dX0_monitorUseAllows_73 : decode cX0_monitorUseAllows 73 = .ok (.ifCond .ne 24, 3) := by decide +kernel
theorem dX0_monitorUseAllows_76 : decode cX0_monitorUseAllows 76 = .ok (.iload_n 3, 1) := by decide +kernel
theorem dX0_monitorUseAllows_77 : decode cX0_monitorUseAllows 77 = .ok (.ifCond .ne 16, 3) := by decide +kernel
theorem dX0_monitorUseAllows_80 : decode cX0_monitorUseAllows 80 = .ok (.iload 5, 2) := by decide +kernel
theorem dX0_monitorUseAllows_82 : decode cX0_monitorUseAllows 82 = .ok (.ifCond .ne 11, 3) := by decide +kernel
theorem dX0_monitorUseAllows_85 : decode cX0_monitorUseAllows 85 = .ok (.aload 4, 2) := by decide +kernel
theorem dX0_monitorUseAllows_87 : decode cX0_monitorUseAllows 87 = .ok (.invokevirtual 59, 3) := by decide +kernel
theorem dX0_monitorUseAllows_90 : decode cX0_monitorUseAllows 90 = .ok (.ifCond .eq 7, 3) := by decide +kernel
theorem dX0_monitorUseAllows_93 : decode cX0_monitorUseAllows 93 = .ok (.iconst 1, 1) := by decide +kernel
theorem dX0_monitorUseAllows_94 : decode cX0_monitorUseAllows 94 = .ok (.goto 4, 3) := by decide +kernel
theorem dX0_monitorUseAllows_97 : decode cX0_monitorUseAllows 97 = .ok (.iconst 0, 1) := by decide +kernel
theorem dX0_monitorUseAllows_98 : decode cX0_monitorUseAllows 98 = .ok (.ireturn, 1) := by decide +kernel
theorem dX0_plainActionAllows_0 : decode cX0_plainActionAllows 0 = .ok (.aload_n 1, 1) := by decide +kernel
theorem dX0_plainActionAllows_1 : decode cX0_plainActionAllows 1 = .ok (.invokevirtual 40, 3) := by decide +kernel
theorem dX0_plainActionAllows_4 : decode cX0_plainActionAllows 4 = .ok (.bipush 9, 2) := by decide +kernel
theorem dX0_plainActionAllows_6 : decode cX0_plainActionAllows 6 = .ok (.if_icmp .ne 31, 3) := by decide +kernel
theorem dX0_plainActionAllows_9 : decode cX0_plainActionAllows 9 = .ok (.aload_n 1, 1) := by decide +kernel
theorem dX0_plainActionAllows_10 : decode cX0_plainActionAllows 10 = .ok (.getfield 63, 3) := by decide +kernel
theorem dX0_plainActionAllows_13 : decode cX0_plainActionAllows 13 = .ok (.ifCond .ne 24, 3) := by decide +kernel
theorem dX0_plainActionAllows_16 : decode cX0_plainActionAllows 16 = .ok (.iload_n 2, 1) := by decide +kernel
theorem dX0_plainActionAllows_17 : decode cX0_plainActionAllows 17 = .ok (.ifCond .ne 18, 3) := by decide +kernel
theorem dX0_plainActionAllows_20 : decode cX0_plainActionAllows 20 = .ok (.aload_n 0, 1) := by decide +kernel
theorem dX0_plainActionAllows_21 : decode cX0_plainActionAllows 21 = .ok (.aload_n 1, 1) := by decide +kernel
theorem dX0_plainActionAllows_22 : decode cX0_plainActionAllows 22 = .ok (.invokevirtual 76, 3) := by decide +kernel
theorem dX0_plainActionAllows_25 : decode cX0_plainActionAllows 25 = .ok (.invokevirtual 79, 3) := by decide +kernel
theorem dX0_plainActionAllows_28 : decode cX0_plainActionAllows 28 = .ok (.ifCond .eq 7, 3) := by decide +kernel
theorem dX0_plainActionAllows_31 : decode cX0_plainActionAllows 31 = .ok (.iconst 1, 1) := by decide +kernel
theorem dX0_plainActionAllows_32 : decode cX0_plainActionAllows 32 = .ok (.goto 4, 3) := by decide +kernel
theorem dX0_plainActionAllows_35 : decode cX0_plainActionAllows 35 = .ok (.iconst 0, 1) := by decide +kernel
theorem dX0_plainActionAllows_36 : decode cX0_plainActionAllows 36 = .ok (.ireturn, 1) := by decide +kernel
theorem dX0_plainActionAllows_37 : decode cX0_plainActionAllows 37 = .ok (.iload_n 2, 1) := by decide +kernel
theorem dX0_plainActionAllows_38 : decode cX0_plainActionAllows 38 = .ok (.ifCond .ne 7, 3) := by decide +kernel
theorem dX0_plainActionAllows_41 : decode cX0_plainActionAllows 41 = .ok (.iconst 1, 1) := by decide +kernel
theorem dX0_plainActionAllows_42 : decode cX0_plainActionAllows 42 = .ok (.goto 4, 3) := by decide +kernel
theorem dX0_plainActionAllows_45 : decode cX0_plainActionAllows 45 = .ok (.iconst 0, 1) := by decide +kernel
theorem dX0_plainActionAllows_46 : decode cX0_plainActionAllows 46 = .ok (.ireturn, 1) := by decide +kernel
theorem dX0_waitingAllows_0 : decode cX0_waitingAllows 0 = .ok (.iload_n 2, 1) := by decide +kernel
theorem dX0_waitingAllows_1 : decode cX0_waitingAllows 1 = .ok (.tableswitch 52 1 3 #[27, 32, 38], 27) := by decide +kernel
theorem dX0_waitingAllows_28 : decode cX0_waitingAllows 28 = .ok (.aload_n 1, 1) := by decide +kernel
theorem dX0_waitingAllows_29 : decode cX0_waitingAllows 29 = .ok (.getfield 63, 3) := by decide +kernel
theorem dX0_waitingAllows_32 : decode cX0_waitingAllows 32 = .ok (.ireturn, 1) := by decide +kernel
theorem dX0_waitingAllows_33 : decode cX0_waitingAllows 33 = .ok (.aload_n 0, 1) := by decide +kernel
theorem dX0_waitingAllows_34 : decode cX0_waitingAllows 34 = .ok (.aload_n 1, 1) := by decide +kernel
theorem dX0_waitingAllows_35 : decode cX0_waitingAllows 35 = .ok (.invokevirtual 66, 3) := by decide +kernel
theorem dX0_waitingAllows_38 : decode cX0_waitingAllows 38 = .ok (.ireturn, 1) := by decide +kernel
theorem dX0_waitingAllows_39 : decode cX0_waitingAllows 39 = .ok (.aload_n 1, 1) := by decide +kernel
theorem dX0_waitingAllows_40 : decode cX0_waitingAllows 40 = .ok (.invokevirtual 40, 3) := by decide +kernel
theorem dX0_waitingAllows_43 : decode cX0_waitingAllows 43 = .ok (.iconst 3, 1) := by decide +kernel
theorem dX0_waitingAllows_44 : decode cX0_waitingAllows 44 = .ok (.if_icmp .ne 7, 3) := by decide +kernel
theorem dX0_waitingAllows_47 : decode cX0_waitingAllows 47 = .ok (.iconst 1, 1) := by decide +kernel
theorem dX0_waitingAllows_48 : decode cX0_waitingAllows 48 = .ok (.goto 4, 3) := by decide +kernel
theorem dX0_waitingAllows_51 : decode cX0_waitingAllows 51 = .ok (.iconst 0, 1) := by decide +kernel
theorem dX0_waitingAllows_52 : decode cX0_waitingAllows 52 = .ok (.ireturn, 1) := by decide +kernel
theorem dX0_waitingAllows_53 : decode cX0_waitingAllows 53 = .ok (.iconst 0, 1) := by decide +kernel
theorem dX0_waitingAllows_54 : decode cX0_waitingAllows 54 = .ok (.ireturn, 1) := by decide +kernel
theorem dX0_mayStray_0 : decode cX0_mayStray 0 = .ok (.aload_n 0, 1) := by decide +kernel
theorem dX0_mayStray_1 : decode cX0_mayStray 1 = .ok (.getfield 23, 3) := by decide +kernel
theorem dX0_mayStray_4 : decode cX0_mayStray 4 = .ok (.ifCond .eq 14, 3) := by decide +kernel
theorem dX0_mayStray_7 : decode cX0_mayStray 7 = .ok (.aload_n 1, 1) := by decide +kernel
theorem dX0_mayStray_8 : decode cX0_mayStray 8 = .ok (.getfield 83, 3) := by decide +kernel
theorem dX0_mayStray_11 : decode cX0_mayStray 11 = .ok (.ifCond .ne 7, 3) := by decide +kernel
theorem dX0_mayStray_14 : decode cX0_mayStray 14 = .ok (.iconst 1, 1) := by decide +kernel
theorem dX0_mayStray_15 : decode cX0_mayStray 15 = .ok (.goto 4, 3) := by decide +kernel
theorem dX0_mayStray_18 : decode cX0_mayStray 18 = .ok (.iconst 0, 1) := by decide +kernel
theorem dX0_mayStray_19 : decode cX0_mayStray 19 = .ok (.ireturn, 1) := by decide +kernel
theorem dX0_take_0 : decode cX0_take 0 = .ok (.aload_n 0, 1) := by decide +kernel
theorem dX0_take_1 : decode cX0_take 1 = .ok (.getfield 11, 3) := by decide +kernel
theorem dX0_take_4 : decode cX0_take 4 = .ok (.iload_n 1, 1) := by decide +kernel
theorem dX0_take_5 : decode cX0_take 5 = .ok (.aaload, 1) := by decide +kernel
theorem dX0_take_6 : decode cX0_take 6 = .ok (.astore_n 3, 1) := by decide +kernel
theorem dX0_take_7 : decode cX0_take 7 = .ok (.aload_n 3, 1) := by decide +kernel
theorem dX0_take_8 : decode cX0_take 8 = .ok (.getfield 36, 3) := by decide +kernel
theorem dX0_take_11 : decode cX0_take 11 = .ok (.tableswitch 80 0 3 #[29, 54, 63, 71], 29) := by decide +kernel
theorem dX0_take_40 : decode cX0_take 40 = .ok (.aload_n 3, 1) := by decide +kernel
theorem dX0_take_41 : decode cX0_take 41 = .ok (.invokevirtual 40, 3) := by decide +kernel
theorem dX0_take_44 : decode cX0_take 44 = .ok (.iconst 5, 1) := by decide +kernel
theorem dX0_take_45 : decode cX0_take 45 = .ok (.if_icmp .gt 12, 3) := by decide +kernel
theorem dX0_take_48 : decode cX0_take 48 = .ok (.aload_n 0, 1) := by decide +kernel
theorem dX0_take_49 : decode cX0_take 49 = .ok (.iload_n 1, 1) := by decide +kernel
theorem dX0_take_50 : decode cX0_take 50 = .ok (.iload_n 2, 1) := by decide +kernel
theorem dX0_take_51 : decode cX0_take 51 = .ok (.invokevirtual 86, 3) := by decide +kernel
theorem dX0_take_54 : decode cX0_take 54 = .ok (.goto 37, 3) := by decide +kernel
theorem dX0_take_57 : decode cX0_take 57 = .ok (.aload_n 0, 1) := by decide +kernel
theorem dX0_take_58 : decode cX0_take 58 = .ok (.aload_n 3, 1) := by decide +kernel
theorem dX0_take_59 : decode cX0_take 59 = .ok (.invokevirtual 90, 3) := by decide +kernel
theorem dX0_take_62 : decode cX0_take 62 = .ok (.goto 29, 3) := by decide +kernel
theorem dX0_take_65 : decode cX0_take 65 = .ok (.aload_n 0, 1) := by decide +kernel
theorem dX0_take_66 : decode cX0_take 66 = .ok (.iload_n 1, 1) := by decide +kernel
theorem dX0_take_67 : decode cX0_take 67 = .ok (.iload_n 2, 1) := by decide +kernel
theorem dX0_take_68 : decode cX0_take 68 = .ok (.invokevirtual 94, 3) := by decide +kernel
theorem dX0_take_71 : decode cX0_take 71 = .ok (.goto 20, 3) := by decide +kernel
theorem dX0_take_74 : decode cX0_take 74 = .ok (.aload_n 0, 1) := by decide +kernel
theorem dX0_take_75 : decode cX0_take 75 = .ok (.iload_n 1, 1) := by decide +kernel
theorem dX0_take_76 : decode cX0_take 76 = .ok (.invokevirtual 97, 3) := by decide +kernel
theorem dX0_take_79 : decode cX0_take 79 = .ok (.goto 12, 3) := by decide +kernel
theorem dX0_take_82 : decode cX0_take 82 = .ok (.aload_n 0, 1) := by decide +kernel
theorem dX0_take_83 : decode cX0_take 83 = .ok (.aload_n 3, 1) := by decide +kernel
theorem dX0_take_84 : decode cX0_take 84 = .ok (.iload_n 2, 1) := by decide +kernel
theorem dX0_take_85 : decode cX0_take 85 = .ok (.invokevirtual 101, 3) := by decide +kernel
theorem dX0_take_88 : decode cX0_take 88 = .ok (.goto 3, 3) := by decide +kernel
theorem dX0_take_91 : decode cX0_take 91 = .ok (.return_, 1) := by decide +kernel
theorem dX0_useMonitor_0 : decode cX0_useMonitor 0 = .ok (.aload_n 0, 1) := by decide +kernel
theorem dX0_useMonitor_1 : decode cX0_useMonitor 1 = .ok (.getfield 11, 3) := by decide +kernel
theorem dX0_useMonitor_4 : decode cX0_useMonitor 4 = .ok (.iload_n 1, 1) := by decide +kernel
theorem dX0_useMonitor_5 : decode cX0_useMonitor 5 = .ok (.aaload, 1) := by decide +kernel
theorem dX0_useMonitor_6 : decode cX0_useMonitor 6 = .ok (.astore_n 3, 1) := by decide +kernel
theorem dX0_useMonitor_7 : decode cX0_useMonitor 7 = .ok (.aload_n 0, 1) := by decide +kernel
theorem dX0_useMonitor_8 : decode cX0_useMonitor 8 = .ok (.aload_n 3, 1) := by decide +kernel
theorem dX0_useMonitor_9 : decode cX0_useMonitor 9 = .ok (.invokevirtual 55, 3) := by decide +kernel
theorem dX0_useMonitor_12 : decode cX0_useMonitor 12 = .ok (.astore 4, 2) := by decide +kernel
theorem dX0_useMonitor_14 : decode cX0_useMonitor 14 = .ok (.aload_n 3, 1) := by decide +kernel
theorem dX0_useMonitor_15 : decode cX0_useMonitor 15 = .ok (.invokevirtual 40, 3) := by decide +kernel
theorem dX0_useMonitor_18 : decode cX0_useMonitor 18 = .ok (.istore 5, 2) := by decide +kernel
theorem dX0_useMonitor_20 : decode cX0_useMonitor 20 = .ok (.iload 5, 2) := by decide +kernel
theorem dX0_useMonitor_22 : decode cX0_useMonitor 22 = .ok (.ifCond .ne 19, 3) := by decide +kernel
theorem dX0_useMonitor_25 : decode cX0_useMonitor 25 = .ok (.aload 4, 2) := by decide +kernel
theorem dX0_useMonitor_27 : decode cX0_useMonitor 27 = .ok (.iload_n 1, 1) := by decide +kernel
theorem dX0_useMonitor_28 : decode cX0_useMonitor 28 = .ok (.aload 4, 2) := by decide +kernel
theorem dX0_useMonitor_30 : decode cX0_useMonitor 30 = .ok (.getfield 105, 3) := by decide +kernel
theorem dX0_useMonitor_33 : decode cX0_useMonitor 33 = .ok (.iconst 1, 1) := by decide +kernel
theorem dX0_useMonitor_34 : decode cX0_useMonitor 34 = .ok (.iadd, 1) := by decide +kernel
theorem dX0_useMonitor_35 : decode cX0_useMonitor 35 = .ok (.invokevirtual 108, 3) := by decide +kernel
theorem dX0_useMonitor_38 : decode cX0_useMonitor 38 = .ok (.goto 122, 3) := by decide +kernel
theorem dX0_useMonitor_41 : decode cX0_useMonitor 41 = .ok (.aload 4, 2) := by decide +kernel
theorem dX0_useMonitor_43 : decode cX0_useMonitor 43 = .ok (.getfield 70, 3) := by decide +kernel
theorem dX0_useMonitor_46 : decode cX0_useMonitor 46 = .ok (.iload_n 1, 1) := by decide +kernel
theorem dX0_useMonitor_47 : decode cX0_useMonitor 47 = .ok (.if_icmp .eq 11, 3) := by decide +kernel
theorem dX0_useMonitor_50 : decode cX0_useMonitor 50 = .ok (.aload_n 3, 1) := by decide +kernel
theorem dX0_useMonitor_51 : decode cX0_useMonitor 51 = .ok (.iconst 0, 1) := by decide +kernel
theorem dX0_useMonitor_52 : decode cX0_useMonitor 52 = .ok (.invokevirtual 111, 3) := by decide +kernel
theorem dX0_useMonitor_55 : decode cX0_useMonitor 55 = .ok (.goto 105, 3) := by decide +kernel
theorem dX0_useMonitor_58 : decode cX0_useMonitor 58 = .ok (.iload 5, 2) := by decide +kernel
theorem dX0_useMonitor_60 : decode cX0_useMonitor 60 = .ok (.iconst 1, 1) := by decide +kernel
theorem dX0_useMonitor_61 : decode cX0_useMonitor 61 = .ok (.if_icmp .ne 11, 3) := by decide +kernel
theorem dX0_useMonitor_64 : decode cX0_useMonitor 64 = .ok (.aload 4, 2) := by decide +kernel
theorem dX0_useMonitor_66 : decode cX0_useMonitor 66 = .ok (.invokevirtual 114, 3) := by decide +kernel
theorem dX0_useMonitor_69 : decode cX0_useMonitor 69 = .ok (.goto 91, 3) := by decide +kernel
theorem dX0_useMonitor_72 : decode cX0_useMonitor 72 = .ok (.iload 5, 2) := by decide +kernel
theorem dX0_useMonitor_74 : decode cX0_useMonitor 74 = .ok (.iconst 4, 1) := by decide +kernel
theorem dX0_useMonitor_75 : decode cX0_useMonitor 75 = .ok (.if_icmp .ne 28, 3) := by decide +kernel
theorem dX0_useMonitor_78 : decode cX0_useMonitor 78 = .ok (.aload_n 0, 1) := by decide +kernel
theorem dX0_useMonitor_79 : decode cX0_useMonitor 79 = .ok (.aload 4, 2) := by decide +kernel
theorem dX0_useMonitor_81 : decode cX0_useMonitor 81 = .ok (.iload_n 2, 1) := by decide +kernel
theorem dX0_useMonitor_82 : decode cX0_useMonitor 82 = .ok (.iconst 1, 1) := by decide +kernel
theorem dX0_useMonitor_83 : decode cX0_useMonitor 83 = .ok (.if_icmp .ne 7, 3) := by decide +kernel
theorem dX0_useMonitor_86 : decode cX0_useMonitor 86 = .ok (.iconst 0, 1) := by decide +kernel
theorem dX0_useMonitor_87 : decode cX0_useMonitor 87 = .ok (.goto 10, 3) := by decide +kernel
theorem dX0_useMonitor_90 : decode cX0_useMonitor 90 = .ok (.aload 4, 2) := by decide +kernel
theorem dX0_useMonitor_92 : decode cX0_useMonitor 92 = .ok (.getfield 73, 3) := by decide +kernel
theorem dX0_useMonitor_95 : decode cX0_useMonitor 95 = .ok (.iconst 1, 1) := by decide +kernel
theorem dX0_useMonitor_96 : decode cX0_useMonitor 96 = .ok (.isub, 1) := by decide +kernel
theorem dX0_useMonitor_97 : decode cX0_useMonitor 97 = .ok (.invokevirtual 117, 3) := by decide +kernel
theorem dX0_useMonitor_100 : decode cX0_useMonitor 100 = .ok (.goto 60, 3) := by decide +kernel
theorem dX0_useMonitor_103 : decode cX0_useMonitor 103 = .ok (.iload 5, 2) := by decide +kernel
theorem dX0_useMonitor_105 : decode cX0_useMonitor 105 = .ok (.iconst 5, 1) := by decide +kernel
theorem dX0_useMonitor_106 : decode cX0_useMonitor 106 = .ok (.if_icmp .ne 31, 3) := by decide +kernel
theorem dX0_useMonitor_109 : decode cX0_useMonitor 109 = .ok (.aload 4, 2) := by decide +kernel
theorem dX0_useMonitor_111 : decode cX0_useMonitor 111 = .ok (.getfield 73, 3) := by decide +kernel
theorem dX0_useMonitor_114 : decode cX0_useMonitor 114 = .ok (.istore 6, 2) := by decide +kernel
theorem dX0_useMonitor_116 : decode cX0_useMonitor 116 = .ok (.iload 6, 2) := by decide +kernel
theorem dX0_useMonitor_118 : decode cX0_useMonitor 118 = .ok (.ifCond .le 16, 3) := by decide +kernel
theorem dX0_useMonitor_121 : decode cX0_useMonitor 121 = .ok (.aload_n 0, 1) := by decide +kernel
theorem dX0_useMonitor_122 : decode cX0_useMonitor 122 = .ok (.aload 4, 2) := by decide +kernel
theorem dX0_useMonitor_124 : decode cX0_useMonitor 124 = .ok (.iconst 0, 1) := by decide +kernel
theorem dX0_useMonitor_125 : decode cX0_useMonitor 125 = .ok (.invokevirtual 117, 3) := by decide +kernel
theorem dX0_useMonitor_128 : decode cX0_useMonitor 128 = .ok (.iinc 6 (-1), 3) := by decide +kernel
theorem dX0_useMonitor_131 : decode cX0_useMonitor 131 = .ok (.goto (-15), 3) := by decide +kernel
theorem dX0_useMonitor_134 : decode cX0_useMonitor 134 = .ok (.goto 26, 3) := by decide +kernel
theorem dX0_useMonitor_137 : decode cX0_useMonitor 137 = .ok (.aload_n 3, 1) := by decide +kernel
theorem dX0_useMonitor_138 : decode cX0_useMonitor 138 = .ok (.invokevirtual 121, 3) := by decide +kernel
theorem dX0_useMonitor_141 : decode cX0_useMonitor 141 = .ok (.ifCond .eq 11, 3) := by decide +kernel
theorem dX0_useMonitor_144 : decode cX0_useMonitor 144 = .ok (.aload_n 3, 1) := by decide +kernel
theorem dX0_useMonitor_145 : decode cX0_useMonitor 145 = .ok (.iconst 1, 1) := by decide +kernel
theorem dX0_useMonitor_146 : decode cX0_useMonitor 146 = .ok (.invokevirtual 111, 3) := by decide +kernel
theorem dX0_useMonitor_149 : decode cX0_useMonitor 149 = .ok (.goto 11, 3) := by decide +kernel
theorem dX0_useMonitor_152 : decode cX0_useMonitor 152 = .ok (.aload_n 0, 1) := by decide +kernel
theorem dX0_useMonitor_153 : decode cX0_useMonitor 153 = .ok (.iload_n 1, 1) := by decide +kernel
theorem dX0_useMonitor_154 : decode cX0_useMonitor 154 = .ok (.aload 4, 2) := by decide +kernel
theorem dX0_useMonitor_156 : decode cX0_useMonitor 156 = .ok (.invokevirtual 124, 3) := by decide +kernel
theorem dX0_useMonitor_159 : decode cX0_useMonitor 159 = .ok (.return_, 1) := by decide +kernel
theorem dX0_useMonitor_160 : decode cX0_useMonitor 160 = .ok (.aload_n 3, 1) := by decide +kernel
theorem dX0_useMonitor_161 : decode cX0_useMonitor 161 = .ok (.invokevirtual 128, 3) := by decide +kernel
theorem dX0_useMonitor_164 : decode cX0_useMonitor 164 = .ok (.return_, 1) := by decide +kernel
theorem dX0_goIntoSet_0 : decode cX0_goIntoSet 0 = .ok (.aload_n 0, 1) := by decide +kernel
theorem dX0_goIntoSet_1 : decode cX0_goIntoSet 1 = .ok (.getfield 11, 3) := by decide +kernel
theorem dX0_goIntoSet_4 : decode cX0_goIntoSet 4 = .ok (.iload_n 1, 1) := by decide +kernel
theorem dX0_goIntoSet_5 : decode cX0_goIntoSet 5 = .ok (.aaload, 1) := by decide +kernel
theorem dX0_goIntoSet_6 : decode cX0_goIntoSet 6 = .ok (.aload_n 2, 1) := by decide +kernel
theorem dX0_goIntoSet_7 : decode cX0_goIntoSet 7 = .ok (.getfield 105, 3) := by decide +kernel
theorem dX0_goIntoSet_10 : decode cX0_goIntoSet 10 = .ok (.putfield 131, 3) := by decide +kernel
theorem dX0_goIntoSet_13 : decode cX0_goIntoSet 13 = .ok (.aload_n 0, 1) := by decide +kernel
theorem dX0_goIntoSet_14 : decode cX0_goIntoSet 14 = .ok (.getfield 11, 3) := by decide +kernel
theorem dX0_goIntoSet_17 : decode cX0_goIntoSet 17 = .ok (.iload_n 1, 1) := by decide +kernel
theorem dX0_goIntoSet_18 : decode cX0_goIntoSet 18 = .ok (.aaload, 1) := by decide +kernel
theorem dX0_goIntoSet_19 : decode cX0_goIntoSet 19 = .ok (.iconst 1, 1) := by decide +kernel
theorem dX0_goIntoSet_20 : decode cX0_goIntoSet 20 = .ok (.putfield 36, 3) := by decide +kernel
theorem dX0_goIntoSet_23 : decode cX0_goIntoSet 23 = .ok (.aload_n 2, 1) := by decide +kernel
theorem dX0_goIntoSet_24 : decode cX0_goIntoSet 24 = .ok (.invokevirtual 134, 3) := by decide +kernel
theorem dX0_goIntoSet_27 : decode cX0_goIntoSet 27 = .ok (.aload_n 2, 1) := by decide +kernel
theorem dX0_goIntoSet_28 : decode cX0_goIntoSet 28 = .ok (.iload_n 1, 1) := by decide +kernel
theorem dX0_goIntoSet_29 : decode cX0_goIntoSet 29 = .ok (.invokevirtual 137, 3) := by decide +kernel
theorem dX0_goIntoSet_32 : decode cX0_goIntoSet 32 = .ok (.return_, 1) := by decide +kernel
theorem dX0_notifyWaiter_0 : decode cX0_notifyWaiter 0 = .ok (.aload_n 1, 1) := by decide +kernel
theorem dX0_notifyWaiter_1 : decode cX0_notifyWaiter 1 = .ok (.iload_n 2, 1) := by decide +kernel
theorem dX0_notifyWaiter_2 : decode cX0_notifyWaiter 2 = .ok (.invokevirtual 140, 3) := by decide +kernel
theorem dX0_notifyWaiter_5 : decode cX0_notifyWaiter 5 = .ok (.istore_n 3, 1) := by decide +kernel
theorem dX0_notifyWaiter_6 : decode cX0_notifyWaiter 6 = .ok (.iload_n 3, 1) := by decide +kernel
theorem dX0_notifyWaiter_7 : decode cX0_notifyWaiter 7 = .ok (.iconst (-1), 1) := by decide +kernel
theorem dX0_notifyWaiter_8 : decode cX0_notifyWaiter 8 = .ok (.if_icmp .eq 28, 3) := by decide +kernel
theorem dX0_notifyWaiter_11 : decode cX0_notifyWaiter 11 = .ok (.aload_n 1, 1) := by decide +kernel
theorem dX0_notifyWaiter_12 : decode cX0_notifyWaiter 12 = .ok (.iload_n 3, 1) := by decide +kernel
theorem dX0_notifyWaiter_13 : decode cX0_notifyWaiter 13 = .ok (.invokevirtual 144, 3) := by decide +kernel
theorem dX0_notifyWaiter_16 : decode cX0_notifyWaiter 16 = .ok (.aload_n 0, 1) := by decide +kernel
theorem dX0_notifyWaiter_17 : decode cX0_notifyWaiter 17 = .ok (.getfield 11, 3) := by decide +kernel
theorem dX0_notifyWaiter_20 : decode cX0_notifyWaiter 20 = .ok (.iload_n 3, 1) := by decide +kernel
theorem dX0_notifyWaiter_21 : decode cX0_notifyWaiter 21 = .ok (.aaload, 1) := by decide +kernel
theorem dX0_notifyWaiter_22 : decode cX0_notifyWaiter 22 = .ok (.iconst 2, 1) := by decide +kernel
theorem dX0_notifyWaiter_23 : decode cX0_notifyWaiter 23 = .ok (.invokevirtual 111, 3) := by decide +kernel
theorem dX0_notifyWaiter_26 : decode cX0_notifyWaiter 26 = .ok (.aload_n 0, 1) := by decide +kernel
theorem dX0_notifyWaiter_27 : decode cX0_notifyWaiter 27 = .ok (.getfield 11, 3) := by decide +kernel
theorem dX0_notifyWaiter_30 : decode cX0_notifyWaiter 30 = .ok (.iload_n 3, 1) := by decide +kernel
theorem dX0_notifyWaiter_31 : decode cX0_notifyWaiter 31 = .ok (.aaload, 1) := by decide +kernel
theorem dX0_notifyWaiter_32 : decode cX0_notifyWaiter 32 = .ok (.iconst 2, 1) := by decide +kernel
theorem dX0_notifyWaiter_33 : decode cX0_notifyWaiter 33 = .ok (.putfield 36, 3) := by decide +kernel
theorem dX0_notifyWaiter_36 : decode cX0_notifyWaiter 36 = .ok (.return_, 1) := by decide +kernel
theorem dX0_leaveSetAlone_0 : decode cX0_leaveSetAlone 0 = .ok (.aload_n 0, 1) := by decide +kernel
theorem dX0_leaveSetAlone_1 : decode cX0_leaveSetAlone 1 = .ok (.getfield 11, 3) := by decide +kernel
theorem dX0_leaveSetAlone_4 : decode cX0_leaveSetAlone 4 = .ok (.iload_n 1, 1) := by decide +kernel
theorem dX0_leaveSetAlone_5 : decode cX0_leaveSetAlone 5 = .ok (.aaload, 1) := by decide +kernel
theorem dX0_leaveSetAlone_6 : decode cX0_leaveSetAlone 6 = .ok (.astore_n 3, 1) := by decide +kernel
theorem dX0_leaveSetAlone_7 : decode cX0_leaveSetAlone 7 = .ok (.iload_n 2, 1) := by decide +kernel
theorem dX0_leaveSetAlone_8 : decode cX0_leaveSetAlone 8 = .ok (.iconst 1, 1) := by decide +kernel
theorem dX0_leaveSetAlone_9 : decode cX0_leaveSetAlone 9 = .ok (.if_icmp .ne 16, 3) := by decide +kernel
theorem dX0_leaveSetAlone_12 : decode cX0_leaveSetAlone 12 = .ok (.aload_n 3, 1) := by decide +kernel
theorem dX0_leaveSetAlone_13 : decode cX0_leaveSetAlone 13 = .ok (.iconst 0, 1) := by decide +kernel
theorem dX0_leaveSetAlone_14 : decode cX0_leaveSetAlone 14 = .ok (.putfield 63, 3) := by decide +kernel
theorem dX0_leaveSetAlone_17 : decode cX0_leaveSetAlone 17 = .ok (.aload_n 3, 1) := by decide +kernel
theorem dX0_leaveSetAlone_18 : decode cX0_leaveSetAlone 18 = .ok (.iconst 1, 1) := by decide +kernel
theorem dX0_leaveSetAlone_19 : decode cX0_leaveSetAlone 19 = .ok (.invokevirtual 111, 3) := by decide +kernel
theorem dX0_leaveSetAlone_22 : decode cX0_leaveSetAlone 22 = .ok (.goto 21, 3) := by decide +kernel
theorem dX0_leaveSetAlone_25 : decode cX0_leaveSetAlone 25 = .ok (.iload_n 2, 1) := by decide +kernel
theorem dX0_leaveSetAlone_26 : decode cX0_leaveSetAlone 26 = .ok (.iconst 2, 1) := by decide +kernel
theorem dX0_leaveSetAlone_27 : decode cX0_leaveSetAlone 27 = .ok (.if_icmp .ne 11, 3) := by decide +kernel
theorem dX0_leaveSetAlone_30 : decode cX0_leaveSetAlone 30 = .ok (.aload_n 3, 1) := by decide +kernel
theorem dX0_leaveSetAlone_31 : decode cX0_leaveSetAlone 31 = .ok (.iconst 1, 1) := by decide +kernel
theorem dX0_leaveSetAlone_32 : decode cX0_leaveSetAlone 32 = .ok (.putfield 83, 3) := by decide +kernel
theorem dX0_leaveSetAlone_35 : decode cX0_leaveSetAlone 35 = .ok (.goto 8, 3) := by decide +kernel
theorem dX0_leaveSetAlone_38 : decode cX0_leaveSetAlone 38 = .ok (.aload_n 3, 1) := by decide +kernel
theorem dX0_leaveSetAlone_39 : decode cX0_leaveSetAlone 39 = .ok (.iconst 3, 1) := by decide +kernel
theorem dX0_leaveSetAlone_40 : decode cX0_leaveSetAlone 40 = .ok (.invokevirtual 111, 3) := by decide +kernel
theorem dX0_leaveSetAlone_43 : decode cX0_leaveSetAlone 43 = .ok (.aload_n 0, 1) := by decide +kernel
theorem dX0_leaveSetAlone_44 : decode cX0_leaveSetAlone 44 = .ok (.aload_n 3, 1) := by decide +kernel
theorem dX0_leaveSetAlone_45 : decode cX0_leaveSetAlone 45 = .ok (.invokevirtual 55, 3) := by decide +kernel
theorem dX0_leaveSetAlone_48 : decode cX0_leaveSetAlone 48 = .ok (.iload_n 1, 1) := by decide +kernel
theorem dX0_leaveSetAlone_49 : decode cX0_leaveSetAlone 49 = .ok (.invokevirtual 144, 3) := by decide +kernel
theorem dX0_leaveSetAlone_52 : decode cX0_leaveSetAlone 52 = .ok (.aload_n 3, 1) := by decide +kernel
theorem dX0_leaveSetAlone_53 : decode cX0_leaveSetAlone 53 = .ok (.iconst 2, 1) := by decide +kernel
theorem dX0_leaveSetAlone_54 : decode cX0_leaveSetAlone 54 = .ok (.putfield 36, 3) := by decide +kernel
theorem dX0_leaveSetAlone_57 : decode cX0_leaveSetAlone 57 = .ok (.return_, 1) := by decide +kernel
theorem dX0_comeBack_0 : decode cX0_comeBack 0 = .ok (.aload_n 0, 1) := by decide +kernel
theorem dX0_comeBack_1 : decode cX0_comeBack 1 = .ok (.getfield 11, 3) := by decide +kernel
theorem dX0_comeBack_4 : decode cX0_comeBack 4 = .ok (.iload_n 1, 1) := by decide +kernel
theorem dX0_comeBack_5 : decode cX0_comeBack 5 = .ok (.aaload, 1) := by decide +kernel
theorem dX0_comeBack_6 : decode cX0_comeBack 6 = .ok (.astore_n 2, 1) := by decide +kernel
theorem dX0_comeBack_7 : decode cX0_comeBack 7 = .ok (.aload_n 0, 1) := by decide +kernel
theorem dX0_comeBack_8 : decode cX0_comeBack 8 = .ok (.aload_n 2, 1) := by decide +kernel
theorem dX0_comeBack_9 : decode cX0_comeBack 9 = .ok (.invokevirtual 55, 3) := by decide +kernel
theorem dX0_comeBack_12 : decode cX0_comeBack 12 = .ok (.iload_n 1, 1) := by decide +kernel
theorem dX0_comeBack_13 : decode cX0_comeBack 13 = .ok (.aload_n 2, 1) := by decide +kernel
theorem dX0_comeBack_14 : decode cX0_comeBack 14 = .ok (.getfield 131, 3) := by decide +kernel
theorem dX0_comeBack_17 : decode cX0_comeBack 17 = .ok (.invokevirtual 108, 3) := by decide +kernel
theorem dX0_comeBack_20 : decode cX0_comeBack 20 = .ok (.aload_n 2, 1) := by decide +kernel
theorem dX0_comeBack_21 : decode cX0_comeBack 21 = .ok (.iconst 0, 1) := by decide +kernel
theorem dX0_comeBack_22 : decode cX0_comeBack 22 = .ok (.putfield 131, 3) := by decide +kernel
theorem dX0_comeBack_25 : decode cX0_comeBack 25 = .ok (.aload_n 2, 1) := by decide +kernel
theorem dX0_comeBack_26 : decode cX0_comeBack 26 = .ok (.invokevirtual 128, 3) := by decide +kernel
theorem dX0_comeBack_29 : decode cX0_comeBack 29 = .ok (.return_, 1) := by decide +kernel
theorem dX0_stopParking_0 : decode cX0_stopParking 0 = .ok (.iload_n 2, 1) := by decide +kernel
theorem dX0_stopParking_1 : decode cX0_stopParking 1 = .ok (.iconst 3, 1) := by decide +kernel
theorem dX0_stopParking_2 : decode cX0_stopParking 2 = .ok (.if_icmp .ne 8, 3) := by decide +kernel
theorem dX0_stopParking_5 : decode cX0_stopParking 5 = .ok (.aload_n 1, 1) := by decide +kernel
theorem dX0_stopParking_6 : decode cX0_stopParking 6 = .ok (.iconst 1, 1) := by decide +kernel
theorem dX0_stopParking_7 : decode cX0_stopParking 7 = .ok (.putfield 83, 3) := by decide +kernel
theorem dX0_stopParking_10 : decode cX0_stopParking 10 = .ok (.aload_n 1, 1) := by decide +kernel
theorem dX0_stopParking_11 : decode cX0_stopParking 11 = .ok (.invokevirtual 128, 3) := by decide +kernel
theorem dX0_stopParking_14 : decode cX0_stopParking 14 = .ok (.return_, 1) := by decide +kernel
theorem dX0_doPlainAction_0 : decode cX0_doPlainAction 0 = .ok (.aload_n 1, 1) := by decide +kernel
theorem dX0_doPlainAction_1 : decode cX0_doPlainAction 1 = .ok (.invokevirtual 40, 3) := by decide +kernel
theorem dX0_doPlainAction_4 : decode cX0_doPlainAction 4 = .ok (.tableswitch 152 6 12 #[44, 60, 88, 104, 104, 119, 133], 44) := by decide +kernel
theorem dX0_doPlainAction_48 : decode cX0_doPlainAction 48 = .ok (.aload_n 0, 1) := by decide +kernel
theorem dX0_doPlainAction_49 : decode cX0_doPlainAction 49 = .ok (.aload_n 0, 1) := by decide +kernel
theorem dX0_doPlainAction_50 : decode cX0_doPlainAction 50 = .ok (.getfield 11, 3) := by decide +kernel
theorem dX0_doPlainAction_53 : decode cX0_doPlainAction 53 = .ok (.aload_n 1, 1) := by decide +kernel
theorem dX0_doPlainAction_54 : decode cX0_doPlainAction 54 = .ok (.invokevirtual 76, 3) := by decide +kernel
theorem dX0_doPlainAction_57 : decode cX0_doPlainAction 57 = .ok (.aaload, 1) := by decide +kernel
theorem dX0_doPlainAction_58 : decode cX0_doPlainAction 58 = .ok (.invokevirtual 147, 3) := by decide +kernel
theorem dX0_doPlainAction_61 : decode cX0_doPlainAction 61 = .ok (.goto 95, 3) := by decide +kernel
theorem dX0_doPlainAction_64 : decode cX0_doPlainAction 64 = .ok (.aload_n 1, 1) := by decide +kernel
theorem dX0_doPlainAction_65 : decode cX0_doPlainAction 65 = .ok (.getfield 150, 3) := by decide +kernel
theorem dX0_doPlainAction_68 : decode cX0_doPlainAction 68 = .ok (.ifCond .ne 16, 3) := by decide +kernel
theorem dX0_doPlainAction_71 : decode cX0_doPlainAction 71 = .ok (.aload_n 1, 1) := by decide +kernel
theorem dX0_doPlainAction_72 : decode cX0_doPlainAction 72 = .ok (.getfield 63, 3) := by decide +kernel
theorem dX0_doPlainAction_75 : decode cX0_doPlainAction 75 = .ok (.ifCond .ne 9, 3) := by decide +kernel
theorem dX0_doPlainAction_78 : decode cX0_doPlainAction 78 = .ok (.aload_n 1, 1) := by decide +kernel
theorem dX0_doPlainAction_79 : decode cX0_doPlainAction 79 = .ok (.iconst 3, 1) := by decide +kernel
theorem dX0_doPlainAction_80 : decode cX0_doPlainAction 80 = .ok (.putfield 36, 3) := by decide +kernel
theorem dX0_doPlainAction_83 : decode cX0_doPlainAction 83 = .ok (.return_, 1) := by decide +kernel
theorem dX0_doPlainAction_84 : decode cX0_doPlainAction 84 = .ok (.aload_n 1, 1) := by decide +kernel
theorem dX0_doPlainAction_85 : decode cX0_doPlainAction 85 = .ok (.iconst 0, 1) := by decide +kernel
theorem dX0_doPlainAction_86 : decode cX0_doPlainAction 86 = .ok (.putfield 150, 3) := by decide +kernel
theorem dX0_doPlainAction_89 : decode cX0_doPlainAction 89 = .ok (.goto 67, 3) := by decide +kernel
theorem dX0_doPlainAction_92 : decode cX0_doPlainAction 92 = .ok (.aload_n 0, 1) := by decide +kernel
theorem dX0_doPlainAction_93 : decode cX0_doPlainAction 93 = .ok (.aload_n 0, 1) := by decide +kernel
theorem dX0_doPlainAction_94 : decode cX0_doPlainAction 94 = .ok (.getfield 11, 3) := by decide +kernel
theorem dX0_doPlainAction_97 : decode cX0_doPlainAction 97 = .ok (.aload_n 1, 1) := by decide +kernel
theorem dX0_doPlainAction_98 : decode cX0_doPlainAction 98 = .ok (.invokevirtual 76, 3) := by decide +kernel
theorem dX0_doPlainAction_101 : decode cX0_doPlainAction 101 = .ok (.aaload, 1) := by decide +kernel
theorem dX0_doPlainAction_102 : decode cX0_doPlainAction 102 = .ok (.invokevirtual 153, 3) := by decide +kernel
theorem dX0_doPlainAction_105 : decode cX0_doPlainAction 105 = .ok (.goto 51, 3) := by decide +kernel
theorem dX0_doPlainAction_108 : decode cX0_doPlainAction 108 = .ok (.aload_n 1, 1) := by decide +kernel
theorem dX0_doPlainAction_109 : decode cX0_doPlainAction 109 = .ok (.invokevirtual 121, 3) := by decide +kernel
theorem dX0_doPlainAction_112 : decode cX0_doPlainAction 112 = .ok (.ifCond .eq 44, 3) := by decide +kernel
theorem dX0_doPlainAction_115 : decode cX0_doPlainAction 115 = .ok (.aload_n 1, 1) := by decide +kernel
theorem dX0_doPlainAction_116 : decode cX0_doPlainAction 116 = .ok (.iconst 1, 1) := by decide +kernel
theorem dX0_doPlainAction_117 : decode cX0_doPlainAction 117 = .ok (.invokevirtual 111, 3) := by decide +kernel
theorem dX0_doPlainAction_120 : decode cX0_doPlainAction 120 = .ok (.goto 36, 3) := by decide +kernel
theorem dX0_doPlainAction_123 : decode cX0_doPlainAction 123 = .ok (.aload_n 1, 1) := by decide +kernel
theorem dX0_doPlainAction_124 : decode cX0_doPlainAction 124 = .ok (.bipush 8, 2) := by decide +kernel
theorem dX0_doPlainAction_126 : decode cX0_doPlainAction 126 = .ok (.aload_n 1, 1) := by decide +kernel
theorem dX0_doPlainAction_127 : decode cX0_doPlainAction 127 = .ok (.invokevirtual 76, 3) := by decide +kernel
theorem dX0_doPlainAction_130 : decode cX0_doPlainAction 130 = .ok (.iadd, 1) := by decide +kernel
theorem dX0_doPlainAction_131 : decode cX0_doPlainAction 131 = .ok (.invokevirtual 111, 3) := by decide +kernel
theorem dX0_doPlainAction_134 : decode cX0_doPlainAction 134 = .ok (.goto 22, 3) := by decide +kernel
theorem dX0_doPlainAction_137 : decode cX0_doPlainAction 137 = .ok (.aload_n 1, 1) := by decide +kernel
theorem dX0_doPlainAction_138 : decode cX0_doPlainAction 138 = .ok (.aload_n 1, 1) := by decide +kernel
theorem dX0_doPlainAction_139 : decode cX0_doPlainAction 139 = .ok (.invokevirtual 121, 3) := by decide +kernel
theorem dX0_doPlainAction_142 : decode cX0_doPlainAction 142 = .ok (.ifCond .eq 7, 3) := by decide +kernel
theorem dX0_doPlainAction_145 : decode cX0_doPlainAction 145 = .ok (.iconst 4, 1) := by decide +kernel
theorem dX0_doPlainAction_146 : decode cX0_doPlainAction 146 = .ok (.goto 4, 3) := by decide +kernel
theorem dX0_doPlainAction_149 : decode cX0_doPlainAction 149 = .ok (.iconst 5, 1) := by decide +kernel
theorem dX0_doPlainAction_150 : decode cX0_doPlainAction 150 = .ok (.invokevirtual 111, 3) := by decide +kernel
theorem dX0_doPlainAction_153 : decode cX0_doPlainAction 153 = .ok (.goto 3, 3) := by decide +kernel
theorem dX0_doPlainAction_156 : decode cX0_doPlainAction 156 = .ok (.aload_n 1, 1) := by decide +kernel
theorem dX0_doPlainAction_157 : decode cX0_doPlainAction 157 = .ok (.invokevirtual 128, 3) := by decide +kernel
theorem dX0_doPlainAction_160 : decode cX0_doPlainAction 160 = .ok (.return_, 1) := by decide +kernel
theorem dX0_interrupt_0 : decode cX0_interrupt 0 = .ok (.aload_n 1, 1) := by decide +kernel
theorem dX0_interrupt_1 : decode cX0_interrupt 1 = .ok (.getfield 36, 3) := by decide +kernel
theorem dX0_interrupt_4 : decode cX0_interrupt 4 = .ok (.iconst 4, 1) := by decide +kernel
theorem dX0_interrupt_5 : decode cX0_interrupt 5 = .ok (.if_icmp .eq 8, 3) := by decide +kernel
theorem dX0_interrupt_8 : decode cX0_interrupt 8 = .ok (.aload_n 1, 1) := by decide +kernel
theorem dX0_interrupt_9 : decode cX0_interrupt 9 = .ok (.iconst 1, 1) := by decide +kernel
theorem dX0_interrupt_10 : decode cX0_interrupt 10 = .ok (.putfield 63, 3) := by decide +kernel
theorem dX0_interrupt_13 : decode cX0_interrupt 13 = .ok (.return_, 1) := by decide +kernel
theorem dX0_unpark_0 : decode cX0_unpark 0 = .ok (.aload_n 1, 1) := by decide +kernel
theorem dX0_unpark_1 : decode cX0_unpark 1 = .ok (.getfield 36, 3) := by decide +kernel
theorem dX0_unpark_4 : decode cX0_unpark 4 = .ok (.iconst 3, 1) := by decide +kernel
theorem dX0_unpark_5 : decode cX0_unpark 5 = .ok (.if_icmp .ne 10, 3) := by decide +kernel
theorem dX0_unpark_8 : decode cX0_unpark 8 = .ok (.aload_n 1, 1) := by decide +kernel
theorem dX0_unpark_9 : decode cX0_unpark 9 = .ok (.invokevirtual 128, 3) := by decide +kernel
theorem dX0_unpark_12 : decode cX0_unpark 12 = .ok (.goto 16, 3) := by decide +kernel
theorem dX0_unpark_15 : decode cX0_unpark 15 = .ok (.aload_n 1, 1) := by decide +kernel
theorem dX0_unpark_16 : decode cX0_unpark 16 = .ok (.getfield 36, 3) := by decide +kernel
theorem dX0_unpark_19 : decode cX0_unpark 19 = .ok (.iconst 4, 1) := by decide +kernel
theorem dX0_unpark_20 : decode cX0_unpark 20 = .ok (.if_icmp .eq 8, 3) := by decide +kernel
theorem dX0_unpark_23 : decode cX0_unpark 23 = .ok (.aload_n 1, 1) := by decide +kernel
theorem dX0_unpark_24 : decode cX0_unpark 24 = .ok (.iconst 1, 1) := by decide +kernel
theorem dX0_unpark_25 : decode cX0_unpark 25 = .ok (.putfield 150, 3) := by decide +kernel
theorem dX0_unpark_28 : decode cX0_unpark 28 = .ok (.return_, 1) := by decide +kernel
theorem dX0_monitorOf_0 : decode cX0_monitorOf 0 = .ok (.aload_n 0, 1) := by decide +kernel
theorem dX0_monitorOf_1 : decode cX0_monitorOf 1 = .ok (.getfield 19, 3) := by decide +kernel
theorem dX0_monitorOf_4 : decode cX0_monitorOf 4 = .ok (.aload_n 1, 1) := by decide +kernel
theorem dX0_monitorOf_5 : decode cX0_monitorOf 5 = .ok (.invokevirtual 76, 3) := by decide +kernel
theorem dX0_monitorOf_8 : decode cX0_monitorOf 8 = .ok (.aaload, 1) := by decide +kernel
theorem dX0_monitorOf_9 : decode cX0_monitorOf 9 = .ok (.areturn, 1) := by decide +kernel
theorem dX0_hasEnded_0 : decode cX0_hasEnded 0 = .ok (.aload_n 0, 1) := by decide +kernel
theorem dX0_hasEnded_1 : decode cX0_hasEnded 1 = .ok (.getfield 11, 3) := by decide +kernel
theorem dX0_hasEnded_4 : decode cX0_hasEnded 4 = .ok (.iload_n 1, 1) := by decide +kernel
theorem dX0_hasEnded_5 : decode cX0_hasEnded 5 = .ok (.aaload, 1) := by decide +kernel
theorem dX0_hasEnded_6 : decode cX0_hasEnded 6 = .ok (.getfield 36, 3) := by decide +kernel
theorem dX0_hasEnded_9 : decode cX0_hasEnded 9 = .ok (.iconst 4, 1) := by decide +kernel
theorem dX0_hasEnded_10 : decode cX0_hasEnded 10 = .ok (.if_icmp .ne 7, 3) := by decide +kernel
theorem dX0_hasEnded_13 : decode cX0_hasEnded 13 = .ok (.iconst 1, 1) := by decide +kernel
theorem dX0_hasEnded_14 : decode cX0_hasEnded 14 = .ok (.goto 4, 3) := by decide +kernel
theorem dX0_hasEnded_17 : decode cX0_hasEnded 17 = .ok (.iconst 0, 1) := by decide +kernel
theorem dX0_hasEnded_18 : decode cX0_hasEnded 18 = .ok (.ireturn, 1) := by decide +kernel
theorem dX0_outcomeNumber_0 : decode cX0_outcomeNumber 0 = .ok (.lconst 0, 1) := by decide +kernel
theorem dX0_outcomeNumber_1 : decode cX0_outcomeNumber 1 = .ok (.lstore_n 1, 1) := by decide +kernel
theorem dX0_outcomeNumber_2 : decode cX0_outcomeNumber 2 = .ok (.iconst 0, 1) := by decide +kernel
theorem dX0_outcomeNumber_3 : decode cX0_outcomeNumber 3 = .ok (.istore_n 3, 1) := by decide +kernel
theorem dX0_outcomeNumber_4 : decode cX0_outcomeNumber 4 = .ok (.iload_n 3, 1) := by decide +kernel
theorem dX0_outcomeNumber_5 : decode cX0_outcomeNumber 5 = .ok (.iconst 4, 1) := by decide +kernel
theorem dX0_outcomeNumber_6 : decode cX0_outcomeNumber 6 = .ok (.if_icmp .ge 25, 3) := by decide +kernel
theorem dX0_outcomeNumber_9 : decode cX0_outcomeNumber 9 = .ok (.lload_n 1, 1) := by decide +kernel
theorem dX0_outcomeNumber_10 : decode cX0_outcomeNumber 10 = .ok (.ldc2_w 156, 3) := by decide +kernel
theorem dX0_outcomeNumber_13 : decode cX0_outcomeNumber 13 = .ok (.lmul, 1) := by decide +kernel
theorem dX0_outcomeNumber_14 : decode cX0_outcomeNumber 14 = .ok (.aload_n 0, 1) := by decide +kernel
theorem dX0_outcomeNumber_15 : decode cX0_outcomeNumber 15 = .ok (.getfield 11, 3) := by decide +kernel
theorem dX0_outcomeNumber_18 : decode cX0_outcomeNumber 18 = .ok (.iload_n 3, 1) := by decide +kernel
theorem dX0_outcomeNumber_19 : decode cX0_outcomeNumber 19 = .ok (.aaload, 1) := by decide +kernel
theorem dX0_outcomeNumber_20 : decode cX0_outcomeNumber 20 = .ok (.invokevirtual 158, 3) := by decide +kernel
theorem dX0_outcomeNumber_23 : decode cX0_outcomeNumber 23 = .ok (.ladd, 1) := by decide +kernel
theorem dX0_outcomeNumber_24 : decode cX0_outcomeNumber 24 = .ok (.lstore_n 1, 1) := by decide +kernel
theorem dX0_outcomeNumber_25 : decode cX0_outcomeNumber 25 = .ok (.iinc 3 1, 3) := by decide +kernel
theorem dX0_outcomeNumber_28 : decode cX0_outcomeNumber 28 = .ok (.goto (-24), 3) := by decide +kernel
theorem dX0_outcomeNumber_31 : decode cX0_outcomeNumber 31 = .ok (.lload_n 1, 1) := by decide +kernel
theorem dX0_outcomeNumber_32 : decode cX0_outcomeNumber 32 = .ok (.lreturn, 1) := by decide +kernel
theorem dX0_wordOf_0 : decode cX0_wordOf 0 = .ok (.aload_n 0, 1) := by decide +kernel
theorem dX0_wordOf_1 : decode cX0_wordOf 1 = .ok (.getfield 11, 3) := by decide +kernel
theorem dX0_wordOf_4 : decode cX0_wordOf 4 = .ok (.iload_n 1, 1) := by decide +kernel
theorem dX0_wordOf_5 : decode cX0_wordOf 5 = .ok (.aaload, 1) := by decide +kernel
theorem dX0_wordOf_6 : decode cX0_wordOf 6 = .ok (.invokevirtual 162, 3) := by decide +kernel
theorem dX0_wordOf_9 : decode cX0_wordOf 9 = .ok (.lstore_n 2, 1) := by decide +kernel
theorem dX0_wordOf_10 : decode cX0_wordOf 10 = .ok (.iload_n 1, 1) := by decide +kernel
theorem dX0_wordOf_11 : decode cX0_wordOf 11 = .ok (.iconst 2, 1) := by decide +kernel
theorem dX0_wordOf_12 : decode cX0_wordOf 12 = .ok (.if_icmp .ge 20, 3) := by decide +kernel
theorem dX0_wordOf_15 : decode cX0_wordOf 15 = .ok (.lload_n 2, 1) := by decide +kernel
theorem dX0_wordOf_16 : decode cX0_wordOf 16 = .ok (.aload_n 0, 1) := by decide +kernel
theorem dX0_wordOf_17 : decode cX0_wordOf 17 = .ok (.getfield 19, 3) := by decide +kernel
theorem dX0_wordOf_20 : decode cX0_wordOf 20 = .ok (.iload_n 1, 1) := by decide +kernel
theorem dX0_wordOf_21 : decode cX0_wordOf 21 = .ok (.aaload, 1) := by decide +kernel
theorem dX0_wordOf_22 : decode cX0_wordOf 22 = .ok (.invokevirtual 165, 3) := by decide +kernel
theorem dX0_wordOf_25 : decode cX0_wordOf 25 = .ok (.bipush 40, 2) := by decide +kernel
theorem dX0_wordOf_27 : decode cX0_wordOf 27 = .ok (.lshl, 1) := by decide +kernel
theorem dX0_wordOf_28 : decode cX0_wordOf 28 = .ok (.lor, 1) := by decide +kernel
theorem dX0_wordOf_29 : decode cX0_wordOf 29 = .ok (.goto 4, 3) := by decide +kernel
theorem dX0_wordOf_32 : decode cX0_wordOf 32 = .ok (.lload_n 2, 1) := by decide +kernel
theorem dX0_wordOf_33 : decode cX0_wordOf 33 = .ok (.lreturn, 1) := by decide +kernel
theorem dX0_unpackWord_0 : decode cX0_unpackWord 0 = .ok (.aload_n 0, 1) := by decide +kernel
theorem dX0_unpackWord_1 : decode cX0_unpackWord 1 = .ok (.getfield 11, 3) := by decide +kernel
theorem dX0_unpackWord_4 : decode cX0_unpackWord 4 = .ok (.iload_n 1, 1) := by decide +kernel
theorem dX0_unpackWord_5 : decode cX0_unpackWord 5 = .ok (.aaload, 1) := by decide +kernel
theorem dX0_unpackWord_6 : decode cX0_unpackWord 6 = .ok (.lload_n 2, 1) := by decide +kernel
theorem dX0_unpackWord_7 : decode cX0_unpackWord 7 = .ok (.invokevirtual 166, 3) := by decide +kernel
theorem dX0_unpackWord_10 : decode cX0_unpackWord 10 = .ok (.iload_n 1, 1) := by decide +kernel
theorem dX0_unpackWord_11 : decode cX0_unpackWord 11 = .ok (.iconst 2, 1) := by decide +kernel
theorem dX0_unpackWord_12 : decode cX0_unpackWord 12 = .ok (.if_icmp .ge 16, 3) := by decide +kernel
theorem dX0_unpackWord_15 : decode cX0_unpackWord 15 = .ok (.aload_n 0, 1) := by decide +kernel
theorem dX0_unpackWord_16 : decode cX0_unpackWord 16 = .ok (.getfield 19, 3) := by decide +kernel
theorem dX0_unpackWord_19 : decode cX0_unpackWord 19 = .ok (.iload_n 1, 1) := by decide +kernel
theorem dX0_unpackWord_20 : decode cX0_unpackWord 20 = .ok (.aaload, 1) := by decide +kernel
theorem dX0_unpackWord_21 : decode cX0_unpackWord 21 = .ok (.lload_n 2, 1) := by decide +kernel
theorem dX0_unpackWord_22 : decode cX0_unpackWord 22 = .ok (.bipush 40, 2) := by decide +kernel
theorem dX0_unpackWord_24 : decode cX0_unpackWord 24 = .ok (.lushr, 1) := by decide +kernel
theorem dX0_unpackWord_25 : decode cX0_unpackWord 25 = .ok (.invokevirtual 170, 3) := by decide +kernel
theorem dX0_unpackWord_28 : decode cX0_unpackWord 28 = .ok (.return_, 1) := by decide +kernel
theorem dX1_init_0 : decode cX1_init 0 = .ok (.aload_n 0, 1) := by decide +kernel
theorem dX1_init_1 : decode cX1_init 1 = .ok (.invokespecial 3, 3) := by decide +kernel
theorem dX1_init_4 : decode cX1_init 4 = .ok (.aload_n 0, 1) := by decide +kernel
theorem dX1_init_5 : decode cX1_init 5 = .ok (.iconst 4, 1) := by decide +kernel
theorem dX1_init_6 : decode cX1_init 6 = .ok (.newarray .int, 2) := by decide +kernel
theorem dX1_init_8 : decode cX1_init 8 = .ok (.putfield 9, 3) := by decide +kernel
theorem dX1_init_11 : decode cX1_init 11 = .ok (.return_, 1) := by decide +kernel
theorem dX1_begin_0 : decode cX1_begin 0 = .ok (.aload_n 0, 1) := by decide +kernel
theorem dX1_begin_1 : decode cX1_begin 1 = .ok (.invokevirtual 15, 3) := by decide +kernel
theorem dX1_begin_4 : decode cX1_begin 4 = .ok (.aload_n 0, 1) := by decide +kernel
theorem dX1_begin_5 : decode cX1_begin 5 = .ok (.iconst 0, 1) := by decide +kernel
theorem dX1_begin_6 : decode cX1_begin 6 = .ok (.putfield 18, 3) := by decide +kernel
theorem dX1_begin_9 : decode cX1_begin 9 = .ok (.return_, 1) := by decide +kernel
theorem dX1_isFree_0 : decode cX1_isFree 0 = .ok (.aload_n 0, 1) := by decide +kernel
theorem dX1_isFree_1 : decode cX1_isFree 1 = .ok (.getfield 22, 3) := by decide +kernel
theorem dX1_isFree_4 : decode cX1_isFree 4 = .ok (.iconst (-1), 1) := by decide +kernel
theorem dX1_isFree_5 : decode cX1_isFree 5 = .ok (.if_icmp .ne 7, 3) := by decide +kernel
theorem dX1_isFree_8 : decode cX1_isFree 8 = .ok (.iconst 1, 1) := by decide +kernel
theorem dX1_isFree_9 : decode cX1_isFree 9 = .ok (.goto 4, 3) := by decide +kernel
theorem dX1_isFree_12 : decode cX1_isFree 12 = .ok (.iconst 0, 1) := by decide +kernel
theorem dX1_isFree_13 : decode cX1_isFree 13 = .ok (.ireturn, 1) := by decide +kernel
theorem dX1_setFree_0 : decode cX1_setFree 0 = .ok (.aload_n 0, 1) := by decide +kernel
theorem dX1_setFree_1 : decode cX1_setFree 1 = .ok (.iconst (-1), 1) := by decide +kernel
theorem dX1_setFree_2 : decode cX1_setFree 2 = .ok (.putfield 22, 3) := by decide +kernel
theorem dX1_setFree_5 : decode cX1_setFree 5 = .ok (.aload_n 0, 1) := by decide +kernel
theorem dX1_setFree_6 : decode cX1_setFree 6 = .ok (.iconst 0, 1) := by decide +kernel
theorem dX1_setFree_7 : decode cX1_setFree 7 = .ok (.putfield 25, 3) := by decide +kernel
theorem dX1_setFree_10 : decode cX1_setFree 10 = .ok (.return_, 1) := by decide +kernel
theorem dX1_own_0 : decode cX1_own 0 = .ok (.aload_n 0, 1) := by decide +kernel
theorem dX1_own_1 : decode cX1_own 1 = .ok (.iload_n 1, 1) := by decide +kernel
theorem dX1_own_2 : decode cX1_own 2 = .ok (.putfield 22, 3) := by decide +kernel
theorem dX1_own_5 : decode cX1_own 5 = .ok (.aload_n 0, 1) := by decide +kernel
theorem dX1_own_6 : decode cX1_own 6 = .ok (.iload_n 2, 1) := by decide +kernel
theorem dX1_own_7 : decode cX1_own 7 = .ok (.putfield 25, 3) := by decide +kernel
theorem dX1_own_10 : decode cX1_own 10 = .ok (.return_, 1) := by decide +kernel
theorem dX1_leaveOnce_0 : decode cX1_leaveOnce 0 = .ok (.aload_n 0, 1) := by decide +kernel
theorem dX1_leaveOnce_1 : decode cX1_leaveOnce 1 = .ok (.dup, 1) := by decide +kernel
theorem dX1_leaveOnce_2 : decode cX1_leaveOnce 2 = .ok (.getfield 25, 3) := by decide +kernel
theorem dX1_leaveOnce_5 : decode cX1_leaveOnce 5 = .ok (.iconst 1, 1) := by decide +kernel
theorem dX1_leaveOnce_6 : decode cX1_leaveOnce 6 = .ok (.isub, 1) := by decide +kernel
theorem dX1_leaveOnce_7 : decode cX1_leaveOnce 7 = .ok (.putfield 25, 3) := by decide +kernel
theorem dX1_leaveOnce_10 : decode cX1_leaveOnce 10 = .ok (.aload_n 0, 1) := by decide +kernel
theorem dX1_leaveOnce_11 : decode cX1_leaveOnce 11 = .ok (.getfield 25, 3) := by decide +kernel
theorem dX1_leaveOnce_14 : decode cX1_leaveOnce 14 = .ok (.ifCond .gt 7, 3) := by decide +kernel
theorem dX1_leaveOnce_17 : decode cX1_leaveOnce 17 = .ok (.aload_n 0, 1) := by decide +kernel
theorem dX1_leaveOnce_18 : decode cX1_leaveOnce 18 = .ok (.invokevirtual 15, 3) := by decide +kernel
theorem dX1_leaveOnce_21 : decode cX1_leaveOnce 21 = .ok (.return_, 1) := by decide +kernel
theorem dX1_waiterAt_0 : decode cX1_waiterAt 0 = .ok (.iload_n 1, 1) := by decide +kernel
theorem dX1_waiterAt_1 : decode cX1_waiterAt 1 = .ok (.ifCond .lt 20, 3) := by decide +kernel
theorem dX1_waiterAt_4 : decode cX1_waiterAt 4 = .ok (.iload_n 1, 1) := by decide +kernel
theorem dX1_waiterAt_5 : decode cX1_waiterAt 5 = .ok (.aload_n 0, 1) := by decide +kernel
theorem dX1_waiterAt_6 : decode cX1_waiterAt 6 = .ok (.getfield 18, 3) := by decide +kernel
theorem dX1_waiterAt_9 : decode cX1_waiterAt 9 = .ok (.if_icmp .ge 12, 3) := by decide +kernel
theorem dX1_waiterAt_12 : decode cX1_waiterAt 12 = .ok (.aload_n 0, 1) := by decide +kernel
theorem dX1_waiterAt_13 : decode cX1_waiterAt 13 = .ok (.getfield 9, 3) := by decide +kernel
theorem dX1_waiterAt_16 : decode cX1_waiterAt 16 = .ok (.iload_n 1, 1) := by decide +kernel
theorem dX1_waiterAt_17 : decode cX1_waiterAt 17 = .ok (.iaload, 1) := by decide +kernel
theorem dX1_waiterAt_18 : decode cX1_waiterAt 18 = .ok (.goto 4, 3) := by decide +kernel
theorem dX1_waiterAt_21 : decode cX1_waiterAt 21 = .ok (.iconst (-1), 1) := by decide +kernel
theorem dX1_waiterAt_22 : decode cX1_waiterAt 22 = .ok (.ireturn, 1) := by decide +kernel
theorem dX1_addWaiter_0 : decode cX1_addWaiter 0 = .ok (.aload_n 0, 1) := by decide +kernel
theorem dX1_addWaiter_1 : decode cX1_addWaiter 1 = .ok (.getfield 18, 3) := by decide +kernel
theorem dX1_addWaiter_4 : decode cX1_addWaiter 4 = .ok (.iconst 4, 1) := by decide +kernel
theorem dX1_addWaiter_5 : decode cX1_addWaiter 5 = .ok (.if_icmp .ge 23, 3) := by decide +kernel
theorem dX1_addWaiter_8 : decode cX1_addWaiter 8 = .ok (.aload_n 0, 1) := by decide +kernel
theorem dX1_addWaiter_9 : decode cX1_addWaiter 9 = .ok (.getfield 9, 3) := by decide +kernel
theorem dX1_addWaiter_12 : decode cX1_addWaiter 12 = .ok (.aload_n 0, 1) := by decide +kernel
theorem dX1_addWaiter_13 : decode cX1_addWaiter 13 = .ok (.getfield 18, 3) := by decide +kernel
theorem dX1_addWaiter_16 : decode cX1_addWaiter 16 = .ok (.iload_n 1, 1) := by decide +kernel
theorem dX1_addWaiter_17 : decode cX1_addWaiter 17 = .ok (.iastore, 1) := by decide +kernel
theorem dX1_addWaiter_18 : decode cX1_addWaiter 18 = .ok (.aload_n 0, 1) := by decide +kernel
theorem dX1_addWaiter_19 : decode cX1_addWaiter 19 = .ok (.dup, 1) := by decide +kernel
theorem dX1_addWaiter_20 : decode cX1_addWaiter 20 = .ok (.getfield 18, 3) := by decide +kernel
theorem dX1_addWaiter_23 : decode cX1_addWaiter 23 = .ok (.iconst 1, 1) := by decide +kernel
theorem dX1_addWaiter_24 : decode cX1_addWaiter 24 = .ok (.iadd, 1) := by decide +kernel
theorem dX1_addWaiter_25 : decode cX1_addWaiter 25 = .ok (.putfield 18, 3) := by decide +kernel
theorem dX1_addWaiter_28 : decode cX1_addWaiter 28 = .ok (.return_, 1) := by decide +kernel
theorem dX1_dropWaiter_0 : decode cX1_dropWaiter 0 = .ok (.iconst 0, 1) := by decide +kernel
theorem dX1_dropWaiter_1 : decode cX1_dropWaiter 1 = .ok (.istore_n 2, 1) := by decide +kernel
theorem dX1_dropWaiter_2 : decode cX1_dropWaiter 2 = .ok (.iconst 0, 1) := by decide +kernel
theorem dX1_dropWaiter_3 : decode cX1_dropWaiter 3 = .ok (.istore_n 3, 1) := by decide +kernel
theorem dX1_dropWaiter_4 : decode cX1_dropWaiter 4 = .ok (.iload_n 3, 1) := by decide +kernel
theorem dX1_dropWaiter_5 : decode cX1_dropWaiter 5 = .ok (.aload_n 0, 1) := by decide +kernel
theorem dX1_dropWaiter_6 : decode cX1_dropWaiter 6 = .ok (.getfield 18, 3) := by decide +kernel
theorem dX1_dropWaiter_9 : decode cX1_dropWaiter 9 = .ok (.if_icmp .ge 34, 3) := by decide +kernel
theorem dX1_dropWaiter_12 : decode cX1_dropWaiter 12 = .ok (.aload_n 0, 1) := by decide +kernel
theorem dX1_dropWaiter_13 : decode cX1_dropWaiter 13 = .ok (.getfield 9, 3) := by decide +kernel
theorem dX1_dropWaiter_16 : decode cX1_dropWaiter 16 = .ok (.iload_n 3, 1) := by decide +kernel
theorem dX1_dropWaiter_17 : decode cX1_dropWaiter 17 = .ok (.iaload, 1) := by decide +kernel
theorem dX1_dropWaiter_18 : decode cX1_dropWaiter 18 = .ok (.iload_n 1, 1) := by decide +kernel
theorem dX1_dropWaiter_19 : decode cX1_dropWaiter 19 = .ok (.if_icmp .eq 18, 3) := by decide +kernel
theorem dX1_dropWaiter_22 : decode cX1_dropWaiter 22 = .ok (.aload_n 0, 1) := by decide +kernel
theorem dX1_dropWaiter_23 : decode cX1_dropWaiter 23 = .ok (.getfield 9, 3) := by decide +kernel
theorem dX1_dropWaiter_26 : decode cX1_dropWaiter 26 = .ok (.iload_n 2, 1) := by decide +kernel
theorem dX1_dropWaiter_27 : decode cX1_dropWaiter 27 = .ok (.aload_n 0, 1) := by decide +kernel
theorem dX1_dropWaiter_28 : decode cX1_dropWaiter 28 = .ok (.getfield 9, 3) := by decide +kernel
theorem dX1_dropWaiter_31 : decode cX1_dropWaiter 31 = .ok (.iload_n 3, 1) := by decide +kernel
theorem dX1_dropWaiter_32 : decode cX1_dropWaiter 32 = .ok (.iaload, 1) := by decide +kernel
theorem dX1_dropWaiter_33 : decode cX1_dropWaiter 33 = .ok (.iastore, 1) := by decide +kernel
theorem dX1_dropWaiter_34 : decode cX1_dropWaiter 34 = .ok (.iinc 2 1, 3) := by decide +kernel
theorem dX1_dropWaiter_37 : decode cX1_dropWaiter 37 = .ok (.iinc 3 1, 3) := by decide +kernel
theorem dX1_dropWaiter_40 : decode cX1_dropWaiter 40 = .ok (.goto (-36), 3) := by decide +kernel
theorem dX1_dropWaiter_43 : decode cX1_dropWaiter 43 = .ok (.aload_n 0, 1) := by decide +kernel
theorem dX1_dropWaiter_44 : decode cX1_dropWaiter 44 = .ok (.iload_n 2, 1) := by decide +kernel
theorem dX1_dropWaiter_45 : decode cX1_dropWaiter 45 = .ok (.putfield 18, 3) := by decide +kernel
theorem dX1_dropWaiter_48 : decode cX1_dropWaiter 48 = .ok (.return_, 1) := by decide +kernel
theorem dX1_packed_0 : decode cX1_packed 0 = .ok (.aload_n 0, 1) := by decide +kernel
theorem dX1_packed_1 : decode cX1_packed 1 = .ok (.getfield 22, 3) := by decide +kernel
theorem dX1_packed_4 : decode cX1_packed 4 = .ok (.iconst 1, 1) := by decide +kernel
theorem dX1_packed_5 : decode cX1_packed 5 = .ok (.iadd, 1) := by decide +kernel
theorem dX1_packed_6 : decode cX1_packed 6 = .ok (.aload_n 0, 1) := by decide +kernel
theorem dX1_packed_7 : decode cX1_packed 7 = .ok (.getfield 25, 3) := by decide +kernel
theorem dX1_packed_10 : decode cX1_packed 10 = .ok (.iconst 3, 1) := by decide +kernel
theorem dX1_packed_11 : decode cX1_packed 11 = .ok (.ishl, 1) := by decide +kernel
theorem dX1_packed_12 : decode cX1_packed 12 = .ok (.ior, 1) := by decide +kernel
theorem dX1_packed_13 : decode cX1_packed 13 = .ok (.aload_n 0, 1) := by decide +kernel
theorem dX1_packed_14 : decode cX1_packed 14 = .ok (.getfield 18, 3) := by decide +kernel
theorem dX1_packed_17 : decode cX1_packed 17 = .ok (.bipush 6, 2) := by decide +kernel
theorem dX1_packed_19 : decode cX1_packed 19 = .ok (.ishl, 1) := by decide +kernel
theorem dX1_packed_20 : decode cX1_packed 20 = .ok (.ior, 1) := by decide +kernel
theorem dX1_packed_21 : decode cX1_packed 21 = .ok (.istore_n 1, 1) := by decide +kernel
theorem dX1_packed_22 : decode cX1_packed 22 = .ok (.iconst 0, 1) := by decide +kernel
theorem dX1_packed_23 : decode cX1_packed 23 = .ok (.istore_n 2, 1) := by decide +kernel
theorem dX1_packed_24 : decode cX1_packed 24 = .ok (.iload_n 2, 1) := by decide +kernel
theorem dX1_packed_25 : decode cX1_packed 25 = .ok (.aload_n 0, 1) := by decide +kernel
theorem dX1_packed_26 : decode cX1_packed 26 = .ok (.getfield 18, 3) := by decide +kernel
theorem dX1_packed_29 : decode cX1_packed 29 = .ok (.if_icmp .ge 25, 3) := by decide +kernel
theorem dX1_packed_32 : decode cX1_packed 32 = .ok (.iload_n 1, 1) := by decide +kernel
theorem dX1_packed_33 : decode cX1_packed 33 = .ok (.aload_n 0, 1) := by decide +kernel
theorem dX1_packed_34 : decode cX1_packed 34 = .ok (.getfield 9, 3) := by decide +kernel
theorem dX1_packed_37 : decode cX1_packed 37 = .ok (.iload_n 2, 1) := by decide +kernel
theorem dX1_packed_38 : decode cX1_packed 38 = .ok (.iaload, 1) := by decide +kernel
theorem dX1_packed_39 : decode cX1_packed 39 = .ok (.bipush 9, 2) := by decide +kernel
theorem dX1_packed_41 : decode cX1_packed 41 = .ok (.iconst 2, 1) := by decide +kernel
theorem dX1_packed_42 : decode cX1_packed 42 = .ok (.iload_n 2, 1) := by decide +kernel
theorem dX1_packed_43 : decode cX1_packed 43 = .ok (.imul, 1) := by decide +kernel
theorem dX1_packed_44 : decode cX1_packed 44 = .ok (.iadd, 1) := by decide +kernel
theorem dX1_packed_45 : decode cX1_packed 45 = .ok (.ishl, 1) := by decide +kernel
theorem dX1_packed_46 : decode cX1_packed 46 = .ok (.ior, 1) := by decide +kernel
theorem dX1_packed_47 : decode cX1_packed 47 = .ok (.istore_n 1, 1) := by decide +kernel
theorem dX1_packed_48 : decode cX1_packed 48 = .ok (.iinc 2 1, 3) := by decide +kernel
theorem dX1_packed_51 : decode cX1_packed 51 = .ok (.goto (-27), 3) := by decide +kernel
theorem dX1_packed_54 : decode cX1_packed 54 = .ok (.iload_n 1, 1) := by decide +kernel
theorem dX1_packed_55 : decode cX1_packed 55 = .ok (.i2l, 1) := by decide +kernel
theorem dX1_packed_56 : decode cX1_packed 56 = .ok (.lreturn, 1) := by decide +kernel
theorem dX1_unpack_0 : decode cX1_unpack 0 = .ok (.lload_n 1, 1) := by decide +kernel
theorem dX1_unpack_1 : decode cX1_unpack 1 = .ok (.l2i, 1) := by decide +kernel
theorem dX1_unpack_2 : decode cX1_unpack 2 = .ok (.ldc 28, 2) := by decide +kernel
theorem dX1_unpack_4 : decode cX1_unpack 4 = .ok (.iand, 1) := by decide +kernel
theorem dX1_unpack_5 : decode cX1_unpack 5 = .ok (.istore_n 3, 1) := by decide +kernel
theorem dX1_unpack_6 : decode cX1_unpack 6 = .ok (.aload_n 0, 1) := by decide +kernel
theorem dX1_unpack_7 : decode cX1_unpack 7 = .ok (.iload_n 3, 1) := by decide +kernel
theorem dX1_unpack_8 : decode cX1_unpack 8 = .ok (.bipush 7, 2) := by decide +kernel
theorem dX1_unpack_10 : decode cX1_unpack 10 = .ok (.iand, 1) := by decide +kernel
theorem dX1_unpack_11 : decode cX1_unpack 11 = .ok (.iconst 1, 1) := by decide +kernel
theorem dX1_unpack_12 : decode cX1_unpack 12 = .ok (.isub, 1) := by decide +kernel
theorem dX1_unpack_13 : decode cX1_unpack 13 = .ok (.putfield 22, 3) := by decide +kernel
theorem dX1_unpack_16 : decode cX1_unpack 16 = .ok (.aload_n 0, 1) := by decide +kernel
theorem dX1_unpack_17 : decode cX1_unpack 17 = .ok (.iload_n 3, 1) := by decide +kernel
theorem dX1_unpack_18 : decode cX1_unpack 18 = .ok (.iconst 3, 1) := by decide +kernel
theorem dX1_unpack_19 : decode cX1_unpack 19 = .ok (.ishr, 1) := by decide +kernel
theorem dX1_unpack_20 : decode cX1_unpack 20 = .ok (.bipush 7, 2) := by decide +kernel
theorem dX1_unpack_22 : decode cX1_unpack 22 = .ok (.iand, 1) := by decide +kernel
theorem dX1_unpack_23 : decode cX1_unpack 23 = .ok (.putfield 25, 3) := by decide +kernel
theorem dX1_unpack_26 : decode cX1_unpack 26 = .ok (.aload_n 0, 1) := by decide +kernel
theorem dX1_unpack_27 : decode cX1_unpack 27 = .ok (.iload_n 3, 1) := by decide +kernel
theorem dX1_unpack_28 : decode cX1_unpack 28 = .ok (.bipush 6, 2) := by decide +kernel
theorem dX1_unpack_30 : decode cX1_unpack 30 = .ok (.ishr, 1) := by decide +kernel
theorem dX1_unpack_31 : decode cX1_unpack 31 = .ok (.bipush 7, 2) := by decide +kernel
theorem dX1_unpack_33 : decode cX1_unpack 33 = .ok (.iand, 1) := by decide +kernel
theorem dX1_unpack_34 : decode cX1_unpack 34 = .ok (.iconst 4, 1) := by decide +kernel
theorem dX1_unpack_35 : decode cX1_unpack 35 = .ok (.invokestatic 29, 3) := by decide +kernel
theorem dX1_unpack_38 : decode cX1_unpack 38 = .ok (.putfield 18, 3) := by decide +kernel
theorem dX1_unpack_41 : decode cX1_unpack 41 = .ok (.iconst 0, 1) := by decide +kernel
theorem dX1_unpack_42 : decode cX1_unpack 42 = .ok (.istore 4, 2) := by decide +kernel
theorem dX1_unpack_44 : decode cX1_unpack 44 = .ok (.iload 4, 2) := by decide +kernel
theorem dX1_unpack_46 : decode cX1_unpack 46 = .ok (.aload_n 0, 1) := by decide +kernel
theorem dX1_unpack_47 : decode cX1_unpack 47 = .ok (.getfield 18, 3) := by decide +kernel
theorem dX1_unpack_50 : decode cX1_unpack 50 = .ok (.if_icmp .ge 27, 3) := by decide +kernel
theorem dX1_unpack_53 : decode cX1_unpack 53 = .ok (.aload_n 0, 1) := by decide +kernel
theorem dX1_unpack_54 : decode cX1_unpack 54 = .ok (.getfield 9, 3) := by decide +kernel
theorem dX1_unpack_57 : decode cX1_unpack 57 = .ok (.iload 4, 2) := by decide +kernel
theorem dX1_unpack_59 : decode cX1_unpack 59 = .ok (.iload_n 3, 1) := by decide +kernel
theorem dX1_unpack_60 : decode cX1_unpack 60 = .ok (.bipush 9, 2) := by decide +kernel
theorem dX1_unpack_62 : decode cX1_unpack 62 = .ok (.iconst 2, 1) := by decide +kernel
theorem dX1_unpack_63 : decode cX1_unpack 63 = .ok (.iload 4, 2) := by decide +kernel
theorem dX1_unpack_65 : decode cX1_unpack 65 = .ok (.imul, 1) := by decide +kernel
theorem dX1_unpack_66 : decode cX1_unpack 66 = .ok (.iadd, 1) := by decide +kernel
theorem dX1_unpack_67 : decode cX1_unpack 67 = .ok (.ishr, 1) := by decide +kernel
theorem dX1_unpack_68 : decode cX1_unpack 68 = .ok (.iconst 3, 1) := by decide +kernel
theorem dX1_unpack_69 : decode cX1_unpack 69 = .ok (.iand, 1) := by decide +kernel
theorem dX1_unpack_70 : decode cX1_unpack 70 = .ok (.iastore, 1) := by decide +kernel
theorem dX1_unpack_71 : decode cX1_unpack 71 = .ok (.iinc 4 1, 3) := by decide +kernel
theorem dX1_unpack_74 : decode cX1_unpack 74 = .ok (.goto (-30), 3) := by decide +kernel
theorem dX1_unpack_77 : decode cX1_unpack 77 = .ok (.return_, 1) := by decide +kernel
theorem dX2_init_0 : decode cX2_init 0 = .ok (.aload_n 0, 1) := by decide +kernel
theorem dX2_init_1 : decode cX2_init 1 = .ok (.invokespecial 3, 3) := by decide +kernel
theorem dX2_init_4 : decode cX2_init 4 = .ok (.aload_n 0, 1) := by decide +kernel
theorem dX2_init_5 : decode cX2_init 5 = .ok (.bipush 6, 2) := by decide +kernel
theorem dX2_init_7 : decode cX2_init 7 = .ok (.newarray .int, 2) := by decide +kernel
theorem dX2_init_9 : decode cX2_init 9 = .ok (.putfield 9, 3) := by decide +kernel
theorem dX2_init_12 : decode cX2_init 12 = .ok (.aload_n 0, 1) := by decide +kernel
theorem dX2_init_13 : decode cX2_init 13 = .ok (.bipush 6, 2) := by decide +kernel
theorem dX2_init_15 : decode cX2_init 15 = .ok (.newarray .int, 2) := by decide +kernel
theorem dX2_init_17 : decode cX2_init 17 = .ok (.putfield 15, 3) := by decide +kernel
theorem dX2_init_20 : decode cX2_init 20 = .ok (.return_, 1) := by decide +kernel
theorem dX2_add_0 : decode cX2_add 0 = .ok (.aload_n 0, 1) := by decide +kernel
theorem dX2_add_1 : decode cX2_add 1 = .ok (.getfield 18, 3) := by decide +kernel
theorem dX2_add_4 : decode cX2_add 4 = .ok (.bipush 6, 2) := by decide +kernel
theorem dX2_add_6 : decode cX2_add 6 = .ok (.if_icmp .ge 33, 3) := by decide +kernel
theorem dX2_add_9 : decode cX2_add 9 = .ok (.aload_n 0, 1) := by decide +kernel
theorem dX2_add_10 : decode cX2_add 10 = .ok (.getfield 9, 3) := by decide +kernel
theorem dX2_add_13 : decode cX2_add 13 = .ok (.aload_n 0, 1) := by decide +kernel
theorem dX2_add_14 : decode cX2_add 14 = .ok (.getfield 18, 3) := by decide +kernel
theorem dX2_add_17 : decode cX2_add 17 = .ok (.iload_n 1, 1) := by decide +kernel
theorem dX2_add_18 : decode cX2_add 18 = .ok (.iastore, 1) := by decide +kernel
theorem dX2_add_19 : decode cX2_add 19 = .ok (.aload_n 0, 1) := by decide +kernel
theorem dX2_add_20 : decode cX2_add 20 = .ok (.getfield 15, 3) := by decide +kernel
theorem dX2_add_23 : decode cX2_add 23 = .ok (.aload_n 0, 1) := by decide +kernel
theorem dX2_add_24 : decode cX2_add 24 = .ok (.getfield 18, 3) := by decide +kernel
theorem dX2_add_27 : decode cX2_add 27 = .ok (.iload_n 2, 1) := by decide +kernel
theorem dX2_add_28 : decode cX2_add 28 = .ok (.iastore, 1) := by decide +kernel
theorem dX2_add_29 : decode cX2_add 29 = .ok (.aload_n 0, 1) := by decide +kernel
theorem dX2_add_30 : decode cX2_add 30 = .ok (.dup, 1) := by decide +kernel
theorem dX2_add_31 : decode cX2_add 31 = .ok (.getfield 18, 3) := by decide +kernel
theorem dX2_add_34 : decode cX2_add 34 = .ok (.iconst 1, 1) := by decide +kernel
theorem dX2_add_35 : decode cX2_add 35 = .ok (.iadd, 1) := by decide +kernel
theorem dX2_add_36 : decode cX2_add 36 = .ok (.putfield 18, 3) := by decide +kernel
theorem dX2_add_39 : decode cX2_add 39 = .ok (.return_, 1) := by decide +kernel
theorem dX5_init_0 : decode cX5_init 0 = .ok (.aload_n 0, 1) := by decide +kernel
theorem dX5_init_1 : decode cX5_init 1 = .ok (.invokespecial 3, 3) := by decide +kernel
theorem dX5_init_4 : decode cX5_init 4 = .ok (.aload_n 0, 1) := by decide +kernel
theorem dX5_init_5 : decode cX5_init 5 = .ok (.aload_n 1, 1) := by decide +kernel
theorem dX5_init_6 : decode cX5_init 6 = .ok (.putfield 9, 3) := by decide +kernel
theorem dX5_init_9 : decode cX5_init 9 = .ok (.return_, 1) := by decide +kernel
theorem dX5_begin_0 : decode cX5_begin 0 = .ok (.aload_n 0, 1) := by decide +kernel
theorem dX5_begin_1 : decode cX5_begin 1 = .ok (.iconst 0, 1) := by decide +kernel
theorem dX5_begin_2 : decode cX5_begin 2 = .ok (.putfield 15, 3) := by decide +kernel
theorem dX5_begin_5 : decode cX5_begin 5 = .ok (.aload_n 0, 1) := by decide +kernel
theorem dX5_begin_6 : decode cX5_begin 6 = .ok (.aload_n 0, 1) := by decide +kernel
theorem dX5_begin_7 : decode cX5_begin 7 = .ok (.getfield 9, 3) := by decide +kernel
theorem dX5_begin_10 : decode cX5_begin 10 = .ok (.getfield 19, 3) := by decide +kernel
theorem dX5_begin_13 : decode cX5_begin 13 = .ok (.ifCond .le 7, 3) := by decide +kernel
theorem dX5_begin_16 : decode cX5_begin 16 = .ok (.iconst 0, 1) := by decide +kernel
theorem dX5_begin_17 : decode cX5_begin 17 = .ok (.goto 4, 3) := by decide +kernel
theorem dX5_begin_20 : decode cX5_begin 20 = .ok (.iconst 4, 1) := by decide +kernel
theorem dX5_begin_21 : decode cX5_begin 21 = .ok (.putfield 24, 3) := by decide +kernel
theorem dX5_begin_24 : decode cX5_begin 24 = .ok (.aload_n 0, 1) := by decide +kernel
theorem dX5_begin_25 : decode cX5_begin 25 = .ok (.iconst 0, 1) := by decide +kernel
theorem dX5_begin_26 : decode cX5_begin 26 = .ok (.putfield 27, 3) := by decide +kernel
theorem dX5_begin_29 : decode cX5_begin 29 = .ok (.aload_n 0, 1) := by decide +kernel
theorem dX5_begin_30 : decode cX5_begin 30 = .ok (.iconst 0, 1) := by decide +kernel
theorem dX5_begin_31 : decode cX5_begin 31 = .ok (.putfield 30, 3) := by decide +kernel
theorem dX5_begin_34 : decode cX5_begin 34 = .ok (.aload_n 0, 1) := by decide +kernel
theorem dX5_begin_35 : decode cX5_begin 35 = .ok (.iconst 0, 1) := by decide +kernel
theorem dX5_begin_36 : decode cX5_begin 36 = .ok (.putfield 34, 3) := by decide +kernel
theorem dX5_begin_39 : decode cX5_begin 39 = .ok (.aload_n 0, 1) := by decide +kernel
theorem dX5_begin_40 : decode cX5_begin 40 = .ok (.iconst 0, 1) := by decide +kernel
theorem dX5_begin_41 : decode cX5_begin 41 = .ok (.putfield 37, 3) := by decide +kernel
theorem dX5_begin_44 : decode cX5_begin 44 = .ok (.aload_n 0, 1) := by decide +kernel
theorem dX5_begin_45 : decode cX5_begin 45 = .ok (.iconst 1, 1) := by decide +kernel
theorem dX5_begin_46 : decode cX5_begin 46 = .ok (.putfield 40, 3) := by decide +kernel
theorem dX5_begin_49 : decode cX5_begin 49 = .ok (.return_, 1) := by decide +kernel
theorem dX5_runOn_0 : decode cX5_runOn 0 = .ok (.aload_n 0, 1) := by decide +kernel
theorem dX5_runOn_1 : decode cX5_runOn 1 = .ok (.dup, 1) := by decide +kernel
theorem dX5_runOn_2 : decode cX5_runOn 2 = .ok (.getfield 15, 3) := by decide +kernel
theorem dX5_runOn_5 : decode cX5_runOn 5 = .ok (.iconst 1, 1) := by decide +kernel
theorem dX5_runOn_6 : decode cX5_runOn 6 = .ok (.iadd, 1) := by decide +kernel
theorem dX5_runOn_7 : decode cX5_runOn 7 = .ok (.putfield 15, 3) := by decide +kernel
theorem dX5_runOn_10 : decode cX5_runOn 10 = .ok (.aload_n 0, 1) := by decide +kernel
theorem dX5_runOn_11 : decode cX5_runOn 11 = .ok (.aload_n 0, 1) := by decide +kernel
theorem dX5_runOn_12 : decode cX5_runOn 12 = .ok (.getfield 15, 3) := by decide +kernel
theorem dX5_runOn_15 : decode cX5_runOn 15 = .ok (.aload_n 0, 1) := by decide +kernel
theorem dX5_runOn_16 : decode cX5_runOn 16 = .ok (.getfield 9, 3) := by decide +kernel
theorem dX5_runOn_19 : decode cX5_runOn 19 = .ok (.getfield 19, 3) := by decide +kernel
theorem dX5_runOn_22 : decode cX5_runOn 22 = .ok (.if_icmp .ge 7, 3) := by decide +kernel
theorem dX5_runOn_25 : decode cX5_runOn 25 = .ok (.iconst 0, 1) := by decide +kernel
theorem dX5_runOn_26 : decode cX5_runOn 26 = .ok (.goto 4, 3) := by decide +kernel
theorem dX5_runOn_29 : decode cX5_runOn 29 = .ok (.iconst 4, 1) := by decide +kernel
theorem dX5_runOn_30 : decode cX5_runOn 30 = .ok (.putfield 24, 3) := by decide +kernel
theorem dX5_runOn_33 : decode cX5_runOn 33 = .ok (.return_, 1) := by decide +kernel
theorem dX5_action_0 : decode cX5_action 0 = .ok (.aload_n 0, 1) := by decide +kernel
theorem dX5_action_1 : decode cX5_action 1 = .ok (.getfield 9, 3) := by decide +kernel
theorem dX5_action_4 : decode cX5_action 4 = .ok (.getfield 43, 3) := by decide +kernel
theorem dX5_action_7 : decode cX5_action 7 = .ok (.aload_n 0, 1) := by decide +kernel
theorem dX5_action_8 : decode cX5_action 8 = .ok (.getfield 15, 3) := by decide +kernel
theorem dX5_action_11 : decode cX5_action 11 = .ok (.iaload, 1) := by decide +kernel
theorem dX5_action_12 : decode cX5_action 12 = .ok (.ireturn, 1) := by decide +kernel
theorem dX5_operand_0 : decode cX5_operand 0 = .ok (.aload_n 0, 1) := by decide +kernel
theorem dX5_operand_1 : decode cX5_operand 1 = .ok (.getfield 9, 3) := by decide +kernel
theorem dX5_operand_4 : decode cX5_operand 4 = .ok (.getfield 47, 3) := by decide +kernel
theorem dX5_operand_7 : decode cX5_operand 7 = .ok (.aload_n 0, 1) := by decide +kernel
theorem dX5_operand_8 : decode cX5_operand 8 = .ok (.getfield 15, 3) := by decide +kernel
theorem dX5_operand_11 : decode cX5_operand 11 = .ok (.iaload, 1) := by decide +kernel
theorem dX5_operand_12 : decode cX5_operand 12 = .ok (.ireturn, 1) := by decide +kernel
theorem dX5_put_0 : decode cX5_put 0 = .ok (.aload_n 0, 1) := by decide +kernel
theorem dX5_put_1 : decode cX5_put 1 = .ok (.aload_n 0, 1) := by decide +kernel
theorem dX5_put_2 : decode cX5_put 2 = .ok (.getfield 40, 3) := by decide +kernel
theorem dX5_put_5 : decode cX5_put 5 = .ok (.bipush 12, 2) := by decide +kernel
theorem dX5_put_7 : decode cX5_put 7 = .ok (.imul, 1) := by decide +kernel
theorem dX5_put_8 : decode cX5_put 8 = .ok (.iload_n 1, 1) := by decide +kernel
theorem dX5_put_9 : decode cX5_put 9 = .ok (.iadd, 1) := by decide +kernel
theorem dX5_put_10 : decode cX5_put 10 = .ok (.putfield 40, 3) := by decide +kernel
theorem dX5_put_13 : decode cX5_put 13 = .ok (.return_, 1) := by decide +kernel
theorem dX5_takeInterrupt_0 : decode cX5_takeInterrupt 0 = .ok (.aload_n 0, 1) := by decide +kernel
theorem dX5_takeInterrupt_1 : decode cX5_takeInterrupt 1 = .ok (.getfield 30, 3) := by decide +kernel
theorem dX5_takeInterrupt_4 : decode cX5_takeInterrupt 4 = .ok (.istore_n 1, 1) := by decide +kernel
theorem dX5_takeInterrupt_5 : decode cX5_takeInterrupt 5 = .ok (.aload_n 0, 1) := by decide +kernel
theorem dX5_takeInterrupt_6 : decode cX5_takeInterrupt 6 = .ok (.iconst 0, 1) := by decide +kernel
theorem dX5_takeInterrupt_7 : decode cX5_takeInterrupt 7 = .ok (.putfield 30, 3) := by decide +kernel
theorem dX5_takeInterrupt_10 : decode cX5_takeInterrupt 10 = .ok (.iload_n 1, 1) := by decide +kernel
theorem dX5_takeInterrupt_11 : decode cX5_takeInterrupt 11 = .ok (.ireturn, 1) := by decide +kernel
theorem dX5_stateNumber_0 : decode cX5_stateNumber 0 = .ok (.aload_n 0, 1) := by decide +kernel
theorem dX5_stateNumber_1 : decode cX5_stateNumber 1 = .ok (.getfield 24, 3) := by decide +kernel
theorem dX5_stateNumber_4 : decode cX5_stateNumber 4 = .ok (.aload_n 0, 1) := by decide +kernel
theorem dX5_stateNumber_5 : decode cX5_stateNumber 5 = .ok (.getfield 30, 3) := by decide +kernel
theorem dX5_stateNumber_8 : decode cX5_stateNumber 8 = .ok (.ifCond .eq 8, 3) := by decide +kernel
theorem dX5_stateNumber_11 : decode cX5_stateNumber 11 = .ok (.bipush 8, 2) := by decide +kernel
theorem dX5_stateNumber_13 : decode cX5_stateNumber 13 = .ok (.goto 4, 3) := by decide +kernel
theorem dX5_stateNumber_16 : decode cX5_stateNumber 16 = .ok (.iconst 0, 1) := by decide +kernel
theorem dX5_stateNumber_17 : decode cX5_stateNumber 17 = .ok (.iadd, 1) := by decide +kernel
theorem dX5_stateNumber_18 : decode cX5_stateNumber 18 = .ok (.aload_n 0, 1) := by decide +kernel
theorem dX5_stateNumber_19 : decode cX5_stateNumber 19 = .ok (.getfield 34, 3) := by decide +kernel
theorem dX5_stateNumber_22 : decode cX5_stateNumber 22 = .ok (.ifCond .eq 8, 3) := by decide +kernel
theorem dX5_stateNumber_25 : decode cX5_stateNumber 25 = .ok (.bipush 16, 2) := by decide +kernel
theorem dX5_stateNumber_27 : decode cX5_stateNumber 27 = .ok (.goto 4, 3) := by decide +kernel
theorem dX5_stateNumber_30 : decode cX5_stateNumber 30 = .ok (.iconst 0, 1) := by decide +kernel
theorem dX5_stateNumber_31 : decode cX5_stateNumber 31 = .ok (.iadd, 1) := by decide +kernel
theorem dX5_stateNumber_32 : decode cX5_stateNumber 32 = .ok (.ireturn, 1) := by decide +kernel
theorem dX5_letterAt_0 : decode cX5_letterAt 0 = .ok (.aload_n 0, 1) := by decide +kernel
theorem dX5_letterAt_1 : decode cX5_letterAt 1 = .ok (.invokevirtual 50, 3) := by decide +kernel
theorem dX5_letterAt_4 : decode cX5_letterAt 4 = .ok (.istore_n 2, 1) := by decide +kernel
theorem dX5_letterAt_5 : decode cX5_letterAt 5 = .ok (.iload_n 1, 1) := by decide +kernel
theorem dX5_letterAt_6 : decode cX5_letterAt 6 = .ok (.ifCond .lt 8, 3) := by decide +kernel
theorem dX5_letterAt_9 : decode cX5_letterAt 9 = .ok (.iload_n 1, 1) := by decide +kernel
theorem dX5_letterAt_10 : decode cX5_letterAt 10 = .ok (.iload_n 2, 1) := by decide +kernel
theorem dX5_letterAt_11 : decode cX5_letterAt 11 = .ok (.if_icmp .lt 5, 3) := by decide +kernel
theorem dX5_letterAt_14 : decode cX5_letterAt 14 = .ok (.iconst (-1), 1) := by decide +kernel
theorem dX5_letterAt_15 : decode cX5_letterAt 15 = .ok (.ireturn, 1) := by decide +kernel
theorem dX5_letterAt_16 : decode cX5_letterAt 16 = .ok (.aload_n 0, 1) := by decide +kernel
theorem dX5_letterAt_17 : decode cX5_letterAt 17 = .ok (.getfield 40, 3) := by decide +kernel
theorem dX5_letterAt_20 : decode cX5_letterAt 20 = .ok (.istore_n 3, 1) := by decide +kernel
theorem dX5_letterAt_21 : decode cX5_letterAt 21 = .ok (.iload_n 2, 1) := by decide +kernel
theorem dX5_letterAt_22 : decode cX5_letterAt 22 = .ok (.iconst 1, 1) := by decide +kernel
theorem dX5_letterAt_23 : decode cX5_letterAt 23 = .ok (.isub, 1) := by decide +kernel
theorem dX5_letterAt_24 : decode cX5_letterAt 24 = .ok (.istore 4, 2) := by decide +kernel
theorem dX5_letterAt_26 : decode cX5_letterAt 26 = .ok (.iload 4, 2) := by decide +kernel
theorem dX5_letterAt_28 : decode cX5_letterAt 28 = .ok (.iload_n 1, 1) := by decide +kernel
theorem dX5_letterAt_29 : decode cX5_letterAt 29 = .ok (.if_icmp .le 14, 3) := by decide +kernel
theorem dX5_letterAt_32 : decode cX5_letterAt 32 = .ok (.iload_n 3, 1) := by decide +kernel
theorem dX5_letterAt_33 : decode cX5_letterAt 33 = .ok (.bipush 12, 2) := by decide +kernel
theorem dX5_letterAt_35 : decode cX5_letterAt 35 = .ok (.idiv, 1) := by decide +kernel
theorem dX5_letterAt_36 : decode cX5_letterAt 36 = .ok (.istore_n 3, 1) := by decide +kernel
theorem dX5_letterAt_37 : decode cX5_letterAt 37 = .ok (.iinc 4 (-1), 3) := by decide +kernel
theorem dX5_letterAt_40 : decode cX5_letterAt 40 = .ok (.goto (-14), 3) := by decide +kernel
theorem dX5_letterAt_43 : decode cX5_letterAt 43 = .ok (.iload_n 3, 1) := by decide +kernel
theorem dX5_letterAt_44 : decode cX5_letterAt 44 = .ok (.bipush 12, 2) := by decide +kernel
theorem dX5_letterAt_46 : decode cX5_letterAt 46 = .ok (.irem, 1) := by decide +kernel
theorem dX5_letterAt_47 : decode cX5_letterAt 47 = .ok (.ireturn, 1) := by decide +kernel
theorem dX5_letterCount_0 : decode cX5_letterCount 0 = .ok (.iconst 0, 1) := by decide +kernel
theorem dX5_letterCount_1 : decode cX5_letterCount 1 = .ok (.istore_n 1, 1) := by decide +kernel
theorem dX5_letterCount_2 : decode cX5_letterCount 2 = .ok (.aload_n 0, 1) := by decide +kernel
theorem dX5_letterCount_3 : decode cX5_letterCount 3 = .ok (.getfield 40, 3) := by decide +kernel
theorem dX5_letterCount_6 : decode cX5_letterCount 6 = .ok (.istore_n 2, 1) := by decide +kernel
theorem dX5_letterCount_7 : decode cX5_letterCount 7 = .ok (.iload_n 2, 1) := by decide +kernel
theorem dX5_letterCount_8 : decode cX5_letterCount 8 = .ok (.bipush 12, 2) := by decide +kernel
theorem dX5_letterCount_10 : decode cX5_letterCount 10 = .ok (.if_icmp .lt 20, 3) := by decide +kernel
theorem dX5_letterCount_13 : decode cX5_letterCount 13 = .ok (.iload_n 1, 1) := by decide +kernel
theorem dX5_letterCount_14 : decode cX5_letterCount 14 = .ok (.bipush 6, 2) := by decide +kernel
theorem dX5_letterCount_16 : decode cX5_letterCount 16 = .ok (.if_icmp .ge 14, 3) := by decide +kernel
theorem dX5_letterCount_19 : decode cX5_letterCount 19 = .ok (.iinc 1 1, 3) := by decide +kernel
theorem dX5_letterCount_22 : decode cX5_letterCount 22 = .ok (.iload_n 2, 1) := by decide +kernel
theorem dX5_letterCount_23 : decode cX5_letterCount 23 = .ok (.bipush 12, 2) := by decide +kernel
theorem dX5_letterCount_25 : decode cX5_letterCount 25 = .ok (.idiv, 1) := by decide +kernel
theorem dX5_letterCount_26 : decode cX5_letterCount 26 = .ok (.istore_n 2, 1) := by decide +kernel
theorem dX5_letterCount_27 : decode cX5_letterCount 27 = .ok (.goto (-20), 3) := by decide +kernel
theorem dX5_letterCount_30 : decode cX5_letterCount 30 = .ok (.iload_n 1, 1) := by decide +kernel
theorem dX5_letterCount_31 : decode cX5_letterCount 31 = .ok (.ireturn, 1) := by decide +kernel
theorem dX5_outcomePart_0 : decode cX5_outcomePart 0 = .ok (.aload_n 0, 1) := by decide +kernel
theorem dX5_outcomePart_1 : decode cX5_outcomePart 1 = .ok (.getfield 40, 3) := by decide +kernel
theorem dX5_outcomePart_4 : decode cX5_outcomePart 4 = .ok (.i2l, 1) := by decide +kernel
theorem dX5_outcomePart_5 : decode cX5_outcomePart 5 = .ok (.ldc2_w 54, 3) := by decide +kernel
theorem dX5_outcomePart_8 : decode cX5_outcomePart 8 = .ok (.lmul, 1) := by decide +kernel
theorem dX5_outcomePart_9 : decode cX5_outcomePart 9 = .ok (.aload_n 0, 1) := by decide +kernel
theorem dX5_outcomePart_10 : decode cX5_outcomePart 10 = .ok (.getfield 24, 3) := by decide +kernel
theorem dX5_outcomePart_13 : decode cX5_outcomePart 13 = .ok (.iconst 4, 1) := by decide +kernel
theorem dX5_outcomePart_14 : decode cX5_outcomePart 14 = .ok (.if_icmp .ne 8, 3) := by decide +kernel
theorem dX5_outcomePart_17 : decode cX5_outcomePart 17 = .ok (.bipush 6, 2) := by decide +kernel
theorem dX5_outcomePart_19 : decode cX5_outcomePart 19 = .ok (.goto 5, 3) := by decide +kernel
theorem dX5_outcomePart_22 : decode cX5_outcomePart 22 = .ok (.bipush 7, 2) := by decide +kernel
theorem dX5_outcomePart_24 : decode cX5_outcomePart 24 = .ok (.i2l, 1) := by decide +kernel
theorem dX5_outcomePart_25 : decode cX5_outcomePart 25 = .ok (.ladd, 1) := by decide +kernel
theorem dX5_outcomePart_26 : decode cX5_outcomePart 26 = .ok (.lreturn, 1) := by decide +kernel
theorem dX5_packed_0 : decode cX5_packed 0 = .ok (.aload_n 0, 1) := by decide +kernel
theorem dX5_packed_1 : decode cX5_packed 1 = .ok (.getfield 30, 3) := by decide +kernel
theorem dX5_packed_4 : decode cX5_packed 4 = .ok (.ifCond .eq 7, 3) := by decide +kernel
theorem dX5_packed_7 : decode cX5_packed 7 = .ok (.iconst 1, 1) := by decide +kernel
theorem dX5_packed_8 : decode cX5_packed 8 = .ok (.goto 4, 3) := by decide +kernel
theorem dX5_packed_11 : decode cX5_packed 11 = .ok (.iconst 0, 1) := by decide +kernel
theorem dX5_packed_12 : decode cX5_packed 12 = .ok (.aload_n 0, 1) := by decide +kernel
theorem dX5_packed_13 : decode cX5_packed 13 = .ok (.getfield 34, 3) := by decide +kernel
theorem dX5_packed_16 : decode cX5_packed 16 = .ok (.ifCond .eq 7, 3) := by decide +kernel
theorem dX5_packed_19 : decode cX5_packed 19 = .ok (.iconst 2, 1) := by decide +kernel
theorem dX5_packed_20 : decode cX5_packed 20 = .ok (.goto 4, 3) := by decide +kernel
theorem dX5_packed_23 : decode cX5_packed 23 = .ok (.iconst 0, 1) := by decide +kernel
theorem dX5_packed_24 : decode cX5_packed 24 = .ok (.ior, 1) := by decide +kernel
theorem dX5_packed_25 : decode cX5_packed 25 = .ok (.aload_n 0, 1) := by decide +kernel
theorem dX5_packed_26 : decode cX5_packed 26 = .ok (.getfield 37, 3) := by decide +kernel
theorem dX5_packed_29 : decode cX5_packed 29 = .ok (.ifCond .eq 7, 3) := by decide +kernel
theorem dX5_packed_32 : decode cX5_packed 32 = .ok (.iconst 4, 1) := by decide +kernel
theorem dX5_packed_33 : decode cX5_packed 33 = .ok (.goto 4, 3) := by decide +kernel
theorem dX5_packed_36 : decode cX5_packed 36 = .ok (.iconst 0, 1) := by decide +kernel
theorem dX5_packed_37 : decode cX5_packed 37 = .ok (.ior, 1) := by decide +kernel
theorem dX5_packed_38 : decode cX5_packed 38 = .ok (.istore_n 1, 1) := by decide +kernel
theorem dX5_packed_39 : decode cX5_packed 39 = .ok (.aload_n 0, 1) := by decide +kernel
theorem dX5_packed_40 : decode cX5_packed 40 = .ok (.getfield 24, 3) := by decide +kernel
theorem dX5_packed_43 : decode cX5_packed 43 = .ok (.aload_n 0, 1) := by decide +kernel
theorem dX5_packed_44 : decode cX5_packed 44 = .ok (.getfield 15, 3) := by decide +kernel
theorem dX5_packed_47 : decode cX5_packed 47 = .ok (.iconst 3, 1) := by decide +kernel
theorem dX5_packed_48 : decode cX5_packed 48 = .ok (.ishl, 1) := by decide +kernel
theorem dX5_packed_49 : decode cX5_packed 49 = .ok (.ior, 1) := by decide +kernel
theorem dX5_packed_50 : decode cX5_packed 50 = .ok (.aload_n 0, 1) := by decide +kernel
theorem dX5_packed_51 : decode cX5_packed 51 = .ok (.getfield 27, 3) := by decide +kernel
theorem dX5_packed_54 : decode cX5_packed 54 = .ok (.bipush 6, 2) := by decide +kernel
theorem dX5_packed_56 : decode cX5_packed 56 = .ok (.ishl, 1) := by decide +kernel
theorem dX5_packed_57 : decode cX5_packed 57 = .ok (.ior, 1) := by decide +kernel
theorem dX5_packed_58 : decode cX5_packed 58 = .ok (.iload_n 1, 1) := by decide +kernel
theorem dX5_packed_59 : decode cX5_packed 59 = .ok (.bipush 9, 2) := by decide +kernel
theorem dX5_packed_61 : decode cX5_packed 61 = .ok (.ishl, 1) := by decide +kernel
theorem dX5_packed_62 : decode cX5_packed 62 = .ok (.ior, 1) := by decide +kernel
theorem dX5_packed_63 : decode cX5_packed 63 = .ok (.istore_n 2, 1) := by decide +kernel
theorem dX5_packed_64 : decode cX5_packed 64 = .ok (.aload_n 0, 1) := by decide +kernel
theorem dX5_packed_65 : decode cX5_packed 65 = .ok (.getfield 40, 3) := by decide +kernel
theorem dX5_packed_68 : decode cX5_packed 68 = .ok (.i2l, 1) := by decide +kernel
theorem dX5_packed_69 : decode cX5_packed 69 = .ok (.bipush 12, 2) := by decide +kernel
theorem dX5_packed_71 : decode cX5_packed 71 = .ok (.lshl, 1) := by decide +kernel
theorem dX5_packed_72 : decode cX5_packed 72 = .ok (.iload_n 2, 1) := by decide +kernel
theorem dX5_packed_73 : decode cX5_packed 73 = .ok (.i2l, 1) := by decide +kernel
theorem dX5_packed_74 : decode cX5_packed 74 = .ok (.lor, 1) := by decide +kernel
theorem dX5_packed_75 : decode cX5_packed 75 = .ok (.lreturn, 1) := by decide +kernel
theorem dX5_unpack_0 : decode cX5_unpack 0 = .ok (.lload_n 1, 1) := by decide +kernel
theorem dX5_unpack_1 : decode cX5_unpack 1 = .ok (.l2i, 1) := by decide +kernel
theorem dX5_unpack_2 : decode cX5_unpack 2 = .ok (.sipush 4095, 3) := by decide +kernel
theorem dX5_unpack_5 : decode cX5_unpack 5 = .ok (.iand, 1) := by decide +kernel
theorem dX5_unpack_6 : decode cX5_unpack 6 = .ok (.istore_n 3, 1) := by decide +kernel
theorem dX5_unpack_7 : decode cX5_unpack 7 = .ok (.iload_n 3, 1) := by decide +kernel
theorem dX5_unpack_8 : decode cX5_unpack 8 = .ok (.bipush 9, 2) := by decide +kernel
theorem dX5_unpack_10 : decode cX5_unpack 10 = .ok (.ishr, 1) := by decide +kernel
theorem dX5_unpack_11 : decode cX5_unpack 11 = .ok (.istore 4, 2) := by decide +kernel
theorem dX5_unpack_13 : decode cX5_unpack 13 = .ok (.aload_n 0, 1) := by decide +kernel
theorem dX5_unpack_14 : decode cX5_unpack 14 = .ok (.iload_n 3, 1) := by decide +kernel
theorem dX5_unpack_15 : decode cX5_unpack 15 = .ok (.bipush 7, 2) := by decide +kernel
theorem dX5_unpack_17 : decode cX5_unpack 17 = .ok (.iand, 1) := by decide +kernel
theorem dX5_unpack_18 : decode cX5_unpack 18 = .ok (.putfield 24, 3) := by decide +kernel
theorem dX5_unpack_21 : decode cX5_unpack 21 = .ok (.aload_n 0, 1) := by decide +kernel
theorem dX5_unpack_22 : decode cX5_unpack 22 = .ok (.iload_n 3, 1) := by decide +kernel
theorem dX5_unpack_23 : decode cX5_unpack 23 = .ok (.iconst 3, 1) := by decide +kernel
theorem dX5_unpack_24 : decode cX5_unpack 24 = .ok (.ishr, 1) := by decide +kernel
theorem dX5_unpack_25 : decode cX5_unpack 25 = .ok (.bipush 7, 2) := by decide +kernel
theorem dX5_unpack_27 : decode cX5_unpack 27 = .ok (.iand, 1) := by decide +kernel
theorem dX5_unpack_28 : decode cX5_unpack 28 = .ok (.putfield 15, 3) := by decide +kernel
theorem dX5_unpack_31 : decode cX5_unpack 31 = .ok (.aload_n 0, 1) := by decide +kernel
theorem dX5_unpack_32 : decode cX5_unpack 32 = .ok (.iload_n 3, 1) := by decide +kernel
theorem dX5_unpack_33 : decode cX5_unpack 33 = .ok (.bipush 6, 2) := by decide +kernel
theorem dX5_unpack_35 : decode cX5_unpack 35 = .ok (.ishr, 1) := by decide +kernel
theorem dX5_unpack_36 : decode cX5_unpack 36 = .ok (.bipush 7, 2) := by decide +kernel
theorem dX5_unpack_38 : decode cX5_unpack 38 = .ok (.iand, 1) := by decide +kernel
theorem dX5_unpack_39 : decode cX5_unpack 39 = .ok (.putfield 27, 3) := by decide +kernel
theorem dX5_unpack_42 : decode cX5_unpack 42 = .ok (.aload_n 0, 1) := by decide +kernel
theorem dX5_unpack_43 : decode cX5_unpack 43 = .ok (.iload 4, 2) := by decide +kernel
theorem dX5_unpack_45 : decode cX5_unpack 45 = .ok (.iconst 1, 1) := by decide +kernel
theorem dX5_unpack_46 : decode cX5_unpack 46 = .ok (.iand, 1) := by decide +kernel
theorem dX5_unpack_47 : decode cX5_unpack 47 = .ok (.ifCond .eq 7, 3) := by decide +kernel
theorem dX5_unpack_50 : decode cX5_unpack 50 = .ok (.iconst 1, 1) := by decide +kernel
theorem dX5_unpack_51 : decode cX5_unpack 51 = .ok (.goto 4, 3) := by decide +kernel
theorem dX5_unpack_54 : decode cX5_unpack 54 = .ok (.iconst 0, 1) := by decide +kernel
theorem dX5_unpack_55 : decode cX5_unpack 55 = .ok (.putfield 30, 3) := by decide +kernel
theorem dX5_unpack_58 : decode cX5_unpack 58 = .ok (.aload_n 0, 1) := by decide +kernel
theorem dX5_unpack_59 : decode cX5_unpack 59 = .ok (.iload 4, 2) := by decide +kernel
theorem dX5_unpack_61 : decode cX5_unpack 61 = .ok (.iconst 2, 1) := by decide +kernel
theorem dX5_unpack_62 : decode cX5_unpack 62 = .ok (.iand, 1) := by decide +kernel
theorem dX5_unpack_63 : decode cX5_unpack 63 = .ok (.ifCond .eq 7, 3) := by decide +kernel
theorem dX5_unpack_66 : decode cX5_unpack 66 = .ok (.iconst 1, 1) := by decide +kernel
theorem dX5_unpack_67 : decode cX5_unpack 67 = .ok (.goto 4, 3) := by decide +kernel
theorem dX5_unpack_70 : decode cX5_unpack 70 = .ok (.iconst 0, 1) := by decide +kernel
theorem dX5_unpack_71 : decode cX5_unpack 71 = .ok (.putfield 34, 3) := by decide +kernel
theorem dX5_unpack_74 : decode cX5_unpack 74 = .ok (.aload_n 0, 1) := by decide +kernel
theorem dX5_unpack_75 : decode cX5_unpack 75 = .ok (.iload 4, 2) := by decide +kernel
theorem dX5_unpack_77 : decode cX5_unpack 77 = .ok (.iconst 4, 1) := by decide +kernel
theorem dX5_unpack_78 : decode cX5_unpack 78 = .ok (.iand, 1) := by decide +kernel
theorem dX5_unpack_79 : decode cX5_unpack 79 = .ok (.ifCond .eq 7, 3) := by decide +kernel
theorem dX5_unpack_82 : decode cX5_unpack 82 = .ok (.iconst 1, 1) := by decide +kernel
theorem dX5_unpack_83 : decode cX5_unpack 83 = .ok (.goto 4, 3) := by decide +kernel
theorem dX5_unpack_86 : decode cX5_unpack 86 = .ok (.iconst 0, 1) := by decide +kernel
theorem dX5_unpack_87 : decode cX5_unpack 87 = .ok (.putfield 37, 3) := by decide +kernel
theorem dX5_unpack_90 : decode cX5_unpack 90 = .ok (.aload_n 0, 1) := by decide +kernel
theorem dX5_unpack_91 : decode cX5_unpack 91 = .ok (.lload_n 1, 1) := by decide +kernel
theorem dX5_unpack_92 : decode cX5_unpack 92 = .ok (.bipush 12, 2) := by decide +kernel
theorem dX5_unpack_94 : decode cX5_unpack 94 = .ok (.lushr, 1) := by decide +kernel
theorem dX5_unpack_95 : decode cX5_unpack 95 = .ok (.l2i, 1) := by decide +kernel
theorem dX5_unpack_96 : decode cX5_unpack 96 = .ok (.ldc 56, 2) := by decide +kernel
theorem dX5_unpack_98 : decode cX5_unpack 98 = .ok (.iand, 1) := by decide +kernel
theorem dX5_unpack_99 : decode cX5_unpack 99 = .ok (.putfield 40, 3) := by decide +kernel
theorem dX5_unpack_102 : decode cX5_unpack 102 = .ok (.return_, 1) := by decide +kernel
end
section
theorem dX6_init_0 : decode cX6_init 0 = .ok (.aload_n 0, 1) := by decide +kernel
theorem dX6_init_1 : decode cX6_init 1 = .ok (.invokespecial 1, 3) := by decide +kernel
theorem dX6_init_4 : decode cX6_init 4 = .ok (.iconst 4, 1) := by decide +kernel
theorem dX6_init_5 : decode cX6_init 5 = .ok (.anewarray 9, 3) := by decide +kernel
theorem dX6_init_8 : decode cX6_init 8 = .ok (.astore_n 2, 1) := by decide +kernel
theorem dX6_init_9 : decode cX6_init 9 = .ok (.iconst 0, 1) := by decide +kernel
theorem dX6_init_10 : decode cX6_init 10 = .ok (.istore_n 3, 1) := by decide +kernel
theorem dX6_init_11 : decode cX6_init 11 = .ok (.iload_n 3, 1) := by decide +kernel
theorem dX6_init_12 : decode cX6_init 12 = .ok (.iconst 4, 1) := by decide +kernel
theorem dX6_init_13 : decode cX6_init 13 = .ok (.if_icmp .ge 19, 3) := by decide +kernel
theorem dX6_init_16 : decode cX6_init 16 = .ok (.aload_n 2, 1) := by decide +kernel
theorem dX6_init_17 : decode cX6_init 17 = .ok (.iload_n 3, 1) := by decide +kernel
theorem dX6_init_18 : decode cX6_init 18 = .ok (.new 9, 3) := by decide +kernel
theorem dX6_init_21 : decode cX6_init 21 = .ok (.dup, 1) := by decide +kernel
theorem dX6_init_22 : decode cX6_init 22 = .ok (.invokespecial 11, 3) := by decide +kernel
theorem dX6_init_25 : decode cX6_init 25 = .ok (.aastore, 1) := by decide +kernel
theorem dX6_init_26 : decode cX6_init 26 = .ok (.iinc 3 1, 3) := by decide +kernel
theorem dX6_init_29 : decode cX6_init 29 = .ok (.goto (-18), 3) := by decide +kernel
theorem dX6_init_32 : decode cX6_init 32 = .ok (.iload_n 1, 1) := by decide +kernel
theorem dX6_init_33 : decode cX6_init 33 = .ok (.iconst 1, 1) := by decide +kernel
theorem dX6_init_34 : decode cX6_init 34 = .ok (.if_icmp .ne 7, 3) := by decide +kernel
theorem dX6_init_37 : decode cX6_init 37 = .ok (.iconst 1, 1) := by decide +kernel
theorem dX6_init_38 : decode cX6_init 38 = .ok (.goto 4, 3) := by decide +kernel
theorem dX6_init_41 : decode cX6_init 41 = .ok (.iconst 0, 1) := by decide +kernel
theorem dX6_init_42 : decode cX6_init 42 = .ok (.istore_n 3, 1) := by decide +kernel
theorem dX6_init_43 : decode cX6_init 43 = .ok (.aload_n 0, 1) := by decide +kernel
theorem dX6_init_44 : decode cX6_init 44 = .ok (.aload_n 2, 1) := by decide +kernel
theorem dX6_init_45 : decode cX6_init 45 = .ok (.putfield 12, 3) := by decide +kernel
theorem dX6_init_48 : decode cX6_init 48 = .ok (.aload_n 0, 1) := by decide +kernel
theorem dX6_init_49 : decode cX6_init 49 = .ok (.new 16, 3) := by decide +kernel
theorem dX6_init_52 : decode cX6_init 52 = .ok (.dup, 1) := by decide +kernel
theorem dX6_init_53 : decode cX6_init 53 = .ok (.aload_n 2, 1) := by decide +kernel
theorem dX6_init_54 : decode cX6_init 54 = .ok (.iload_n 3, 1) := by decide +kernel
theorem dX6_init_55 : decode cX6_init 55 = .ok (.invokespecial 18, 3) := by decide +kernel
theorem dX6_init_58 : decode cX6_init 58 = .ok (.putfield 21, 3) := by decide +kernel
theorem dX6_init_61 : decode cX6_init 61 = .ok (.aload_n 0, 1) := by decide +kernel
theorem dX6_init_62 : decode cX6_init 62 = .ok (.new 25, 3) := by decide +kernel
theorem dX6_init_65 : decode cX6_init 65 = .ok (.dup, 1) := by decide +kernel
theorem dX6_init_66 : decode cX6_init 66 = .ok (.new 16, 3) := by decide +kernel
theorem dX6_init_69 : decode cX6_init 69 = .ok (.dup, 1) := by decide +kernel
theorem dX6_init_70 : decode cX6_init 70 = .ok (.aload_n 2, 1) := by decide +kernel
theorem dX6_init_71 : decode cX6_init 71 = .ok (.iload_n 3, 1) := by decide +kernel
theorem dX6_init_72 : decode cX6_init 72 = .ok (.invokespecial 18, 3) := by decide +kernel
theorem dX6_init_75 : decode cX6_init 75 = .ok (.invokespecial 27, 3) := by decide +kernel
theorem dX6_init_78 : decode cX6_init 78 = .ok (.putfield 30, 3) := by decide +kernel
theorem dX6_init_81 : decode cX6_init 81 = .ok (.return_, 1) := by decide +kernel
theorem dX6_act_0 : decode cX6_act 0 = .ok (.iload_n 1, 1) := by decide +kernel
theorem dX6_act_1 : decode cX6_act 1 = .ok (.invokestatic 34, 3) := by decide +kernel
theorem dX6_act_4 : decode cX6_act 4 = .ok (.ifCond .eq 11, 3) := by decide +kernel
theorem dX6_act_7 : decode cX6_act 7 = .ok (.iload_n 2, 1) := by decide +kernel
theorem dX6_act_8 : decode cX6_act 8 = .ok (.iload_n 3, 1) := by decide +kernel
theorem dX6_act_9 : decode cX6_act 9 = .ok (.invokestatic 38, 3) := by decide +kernel
theorem dX6_act_12 : decode cX6_act 12 = .ok (.ifCond .ne 5, 3) := by decide +kernel
theorem dX6_act_15 : decode cX6_act 15 = .ok (.iconst (-1), 1) := by decide +kernel
theorem dX6_act_16 : decode cX6_act 16 = .ok (.ireturn, 1) := by decide +kernel
theorem dX6_act_17 : decode cX6_act 17 = .ok (.aload_n 0, 1) := by decide +kernel
theorem dX6_act_18 : decode cX6_act 18 = .ok (.getfield 12, 3) := by decide +kernel
theorem dX6_act_21 : decode cX6_act 21 = .ok (.iload_n 1, 1) := by decide +kernel
theorem dX6_act_22 : decode cX6_act 22 = .ok (.aaload, 1) := by decide +kernel
theorem dX6_act_23 : decode cX6_act 23 = .ok (.getfield 42, 3) := by decide +kernel
theorem dX6_act_26 : decode cX6_act 26 = .ok (.bipush 6, 2) := by decide +kernel
theorem dX6_act_28 : decode cX6_act 28 = .ok (.if_icmp .lt 6, 3) := by decide +kernel
theorem dX6_act_31 : decode cX6_act 31 = .ok (.bipush (-2), 2) := by decide +kernel
theorem dX6_act_33 : decode cX6_act 33 = .ok (.ireturn, 1) := by decide +kernel
theorem dX6_act_34 : decode cX6_act 34 = .ok (.aload_n 0, 1) := by decide +kernel
theorem dX6_act_35 : decode cX6_act 35 = .ok (.getfield 12, 3) := by decide +kernel
theorem dX6_act_38 : decode cX6_act 38 = .ok (.iload_n 1, 1) := by decide +kernel
theorem dX6_act_39 : decode cX6_act 39 = .ok (.aaload, 1) := by decide +kernel
theorem dX6_act_40 : decode cX6_act 40 = .ok (.iload_n 2, 1) := by decide +kernel
theorem dX6_act_41 : decode cX6_act 41 = .ok (.iload_n 3, 1) := by decide +kernel
theorem dX6_act_42 : decode cX6_act 42 = .ok (.invokevirtual 46, 3) := by decide +kernel
theorem dX6_act_45 : decode cX6_act 45 = .ok (.aload_n 0, 1) := by decide +kernel
theorem dX6_act_46 : decode cX6_act 46 = .ok (.getfield 30, 3) := by decide +kernel
theorem dX6_act_49 : decode cX6_act 49 = .ok (.invokevirtual 50, 3) := by decide +kernel
theorem dX6_act_52 : decode cX6_act 52 = .ok (.aload_n 0, 1) := by decide +kernel
theorem dX6_act_53 : decode cX6_act 53 = .ok (.invokevirtual 53, 3) := by decide +kernel
theorem dX6_act_56 : decode cX6_act 56 = .ok (.aload_n 0, 1) := by decide +kernel
theorem dX6_act_57 : decode cX6_act 57 = .ok (.getfield 12, 3) := by decide +kernel
theorem dX6_act_60 : decode cX6_act 60 = .ok (.iload_n 1, 1) := by decide +kernel
theorem dX6_act_61 : decode cX6_act 61 = .ok (.aaload, 1) := by decide +kernel
theorem dX6_act_62 : decode cX6_act 62 = .ok (.getfield 42, 3) := by decide +kernel
theorem dX6_act_65 : decode cX6_act 65 = .ok (.ireturn, 1) := by decide +kernel
theorem dX6_choose_0 : decode cX6_choose 0 = .ok (.iload_n 1, 1) := by decide +kernel
theorem dX6_choose_1 : decode cX6_choose 1 = .ok (.invokestatic 34, 3) := by decide +kernel
theorem dX6_choose_4 : decode cX6_choose 4 = .ok (.ifCond .eq 10, 3) := by decide +kernel
theorem dX6_choose_7 : decode cX6_choose 7 = .ok (.iload_n 2, 1) := by decide +kernel
theorem dX6_choose_8 : decode cX6_choose 8 = .ok (.invokestatic 56, 3) := by decide +kernel
theorem dX6_choose_11 : decode cX6_choose 11 = .ok (.ifCond .ne 5, 3) := by decide +kernel
theorem dX6_choose_14 : decode cX6_choose 14 = .ok (.iconst (-1), 1) := by decide +kernel
theorem dX6_choose_15 : decode cX6_choose 15 = .ok (.ireturn, 1) := by decide +kernel
theorem dX6_choose_16 : decode cX6_choose 16 = .ok (.aload_n 0, 1) := by decide +kernel
theorem dX6_choose_17 : decode cX6_choose 17 = .ok (.getfield 21, 3) := by decide +kernel
theorem dX6_choose_20 : decode cX6_choose 20 = .ok (.iload_n 1, 1) := by decide +kernel
theorem dX6_choose_21 : decode cX6_choose 21 = .ok (.iload_n 2, 1) := by decide +kernel
theorem dX6_choose_22 : decode cX6_choose 22 = .ok (.invokevirtual 59, 3) := by decide +kernel
theorem dX6_choose_25 : decode cX6_choose 25 = .ok (.ifCond .ne 5, 3) := by decide +kernel
theorem dX6_choose_28 : decode cX6_choose 28 = .ok (.iconst 0, 1) := by decide +kernel
theorem dX6_choose_29 : decode cX6_choose 29 = .ok (.ireturn, 1) := by decide +kernel
theorem dX6_choose_30 : decode cX6_choose 30 = .ok (.aload_n 0, 1) := by decide +kernel
theorem dX6_choose_31 : decode cX6_choose 31 = .ok (.getfield 21, 3) := by decide +kernel
theorem dX6_choose_34 : decode cX6_choose 34 = .ok (.iload_n 1, 1) := by decide +kernel
theorem dX6_choose_35 : decode cX6_choose 35 = .ok (.iload_n 2, 1) := by decide +kernel
theorem dX6_choose_36 : decode cX6_choose 36 = .ok (.invokevirtual 62, 3) := by decide +kernel
theorem dX6_choose_39 : decode cX6_choose 39 = .ok (.aload_n 0, 1) := by decide +kernel
theorem dX6_choose_40 : decode cX6_choose 40 = .ok (.dup, 1) := by decide +kernel
theorem dX6_choose_41 : decode cX6_choose 41 = .ok (.getfield 65, 3) := by decide +kernel
theorem dX6_choose_44 : decode cX6_choose 44 = .ok (.iconst 1, 1) := by decide +kernel
theorem dX6_choose_45 : decode cX6_choose 45 = .ok (.iadd, 1) := by decide +kernel
theorem dX6_choose_46 : decode cX6_choose 46 = .ok (.putfield 65, 3) := by decide +kernel
theorem dX6_choose_49 : decode cX6_choose 49 = .ok (.iconst 1, 1) := by decide +kernel
theorem dX6_choose_50 : decode cX6_choose 50 = .ok (.ireturn, 1) := by decide +kernel
theorem dX6_allowed_0 : decode cX6_allowed 0 = .ok (.iload_n 1, 1) := by decide +kernel
theorem dX6_allowed_1 : decode cX6_allowed 1 = .ok (.invokestatic 34, 3) := by decide +kernel
theorem dX6_allowed_4 : decode cX6_allowed 4 = .ok (.ifCond .eq 26, 3) := by decide +kernel
theorem dX6_allowed_7 : decode cX6_allowed 7 = .ok (.iload_n 2, 1) := by decide +kernel
theorem dX6_allowed_8 : decode cX6_allowed 8 = .ok (.invokestatic 56, 3) := by decide +kernel
theorem dX6_allowed_11 : decode cX6_allowed 11 = .ok (.ifCond .eq 19, 3) := by decide +kernel
theorem dX6_allowed_14 : decode cX6_allowed 14 = .ok (.aload_n 0, 1) := by decide +kernel
theorem dX6_allowed_15 : decode cX6_allowed 15 = .ok (.getfield 21, 3) := by decide +kernel
theorem dX6_allowed_18 : decode cX6_allowed 18 = .ok (.iload_n 1, 1) := by decide +kernel
theorem dX6_allowed_19 : decode cX6_allowed 19 = .ok (.iload_n 2, 1) := by decide +kernel
theorem dX6_allowed_20 : decode cX6_allowed 20 = .ok (.invokevirtual 59, 3) := by decide +kernel
theorem dX6_allowed_23 : decode cX6_allowed 23 = .ok (.ifCond .eq 7, 3) := by decide +kernel
theorem dX6_allowed_26 : decode cX6_allowed 26 = .ok (.iconst 1, 1) := by decide +kernel
theorem dX6_allowed_27 : decode cX6_allowed 27 = .ok (.goto 4, 3) := by decide +kernel
theorem dX6_allowed_30 : decode cX6_allowed 30 = .ok (.iconst 0, 1) := by decide +kernel
theorem dX6_allowed_31 : decode cX6_allowed 31 = .ok (.ireturn, 1) := by decide +kernel
theorem dX6_reset_0 : decode cX6_reset 0 = .ok (.aload_n 0, 1) := by decide +kernel
theorem dX6_reset_1 : decode cX6_reset 1 = .ok (.getfield 65, 3) := by decide +kernel
theorem dX6_reset_4 : decode cX6_reset 4 = .ok (.istore_n 1, 1) := by decide +kernel
theorem dX6_reset_5 : decode cX6_reset 5 = .ok (.aload_n 0, 1) := by decide +kernel
theorem dX6_reset_6 : decode cX6_reset 6 = .ok (.invokevirtual 53, 3) := by decide +kernel
theorem dX6_reset_9 : decode cX6_reset 9 = .ok (.iload_n 1, 1) := by decide +kernel
theorem dX6_reset_10 : decode cX6_reset 10 = .ok (.ireturn, 1) := by decide +kernel
theorem dX6_state_0 : decode cX6_state 0 = .ok (.iload_n 1, 1) := by decide +kernel
theorem dX6_state_1 : decode cX6_state 1 = .ok (.invokestatic 34, 3) := by decide +kernel
theorem dX6_state_4 : decode cX6_state 4 = .ok (.ifCond .eq 18, 3) := by decide +kernel
theorem dX6_state_7 : decode cX6_state 7 = .ok (.aload_n 0, 1) := by decide +kernel
theorem dX6_state_8 : decode cX6_state 8 = .ok (.getfield 21, 3) := by decide +kernel
theorem dX6_state_11 : decode cX6_state 11 = .ok (.getfield 68, 3) := by decide +kernel
theorem dX6_state_14 : decode cX6_state 14 = .ok (.iload_n 1, 1) := by decide +kernel
theorem dX6_state_15 : decode cX6_state 15 = .ok (.aaload, 1) := by decide +kernel
theorem dX6_state_16 : decode cX6_state 16 = .ok (.invokevirtual 72, 3) := by decide +kernel
theorem dX6_state_19 : decode cX6_state 19 = .ok (.goto 4, 3) := by decide +kernel
theorem dX6_state_22 : decode cX6_state 22 = .ok (.iconst (-1), 1) := by decide +kernel
theorem dX6_state_23 : decode cX6_state 23 = .ok (.ireturn, 1) := by decide +kernel
theorem dX6_letter_0 : decode cX6_letter 0 = .ok (.iload_n 1, 1) := by decide +kernel
theorem dX6_letter_1 : decode cX6_letter 1 = .ok (.invokestatic 34, 3) := by decide +kernel
theorem dX6_letter_4 : decode cX6_letter 4 = .ok (.ifCond .eq 19, 3) := by decide +kernel
theorem dX6_letter_7 : decode cX6_letter 7 = .ok (.aload_n 0, 1) := by decide +kernel
theorem dX6_letter_8 : decode cX6_letter 8 = .ok (.getfield 21, 3) := by decide +kernel
theorem dX6_letter_11 : decode cX6_letter 11 = .ok (.getfield 68, 3) := by decide +kernel
theorem dX6_letter_14 : decode cX6_letter 14 = .ok (.iload_n 1, 1) := by decide +kernel
theorem dX6_letter_15 : decode cX6_letter 15 = .ok (.aaload, 1) := by decide +kernel
theorem dX6_letter_16 : decode cX6_letter 16 = .ok (.iload_n 2, 1) := by decide +kernel
theorem dX6_letter_17 : decode cX6_letter 17 = .ok (.invokevirtual 78, 3) := by decide +kernel
theorem dX6_letter_20 : decode cX6_letter 20 = .ok (.goto 4, 3) := by decide +kernel
theorem dX6_letter_23 : decode cX6_letter 23 = .ok (.iconst (-1), 1) := by decide +kernel
theorem dX6_letter_24 : decode cX6_letter 24 = .ok (.ireturn, 1) := by decide +kernel
theorem dX6_owner_0 : decode cX6_owner 0 = .ok (.iload_n 1, 1) := by decide +kernel
theorem dX6_owner_1 : decode cX6_owner 1 = .ok (.invokestatic 82, 3) := by decide +kernel
theorem dX6_owner_4 : decode cX6_owner 4 = .ok (.ifCond .eq 18, 3) := by decide +kernel
theorem dX6_owner_7 : decode cX6_owner 7 = .ok (.aload_n 0, 1) := by decide +kernel
theorem dX6_owner_8 : decode cX6_owner 8 = .ok (.getfield 21, 3) := by decide +kernel
theorem dX6_owner_11 : decode cX6_owner 11 = .ok (.getfield 85, 3) := by decide +kernel
theorem dX6_owner_14 : decode cX6_owner 14 = .ok (.iload_n 1, 1) := by decide +kernel
theorem dX6_owner_15 : decode cX6_owner 15 = .ok (.aaload, 1) := by decide +kernel
theorem dX6_owner_16 : decode cX6_owner 16 = .ok (.invokevirtual 89, 3) := by decide +kernel
theorem dX6_owner_19 : decode cX6_owner 19 = .ok (.ifCond .eq 5, 3) := by decide +kernel
theorem dX6_owner_22 : decode cX6_owner 22 = .ok (.iconst (-1), 1) := by decide +kernel
theorem dX6_owner_23 : decode cX6_owner 23 = .ok (.ireturn, 1) := by decide +kernel
theorem dX6_owner_24 : decode cX6_owner 24 = .ok (.aload_n 0, 1) := by decide +kernel
theorem dX6_owner_25 : decode cX6_owner 25 = .ok (.getfield 21, 3) := by decide +kernel
theorem dX6_owner_28 : decode cX6_owner 28 = .ok (.getfield 85, 3) := by decide +kernel
theorem dX6_owner_31 : decode cX6_owner 31 = .ok (.iload_n 1, 1) := by decide +kernel
theorem dX6_owner_32 : decode cX6_owner 32 = .ok (.aaload, 1) := by decide +kernel
theorem dX6_owner_33 : decode cX6_owner 33 = .ok (.getfield 95, 3) := by decide +kernel
theorem dX6_owner_36 : decode cX6_owner 36 = .ok (.ireturn, 1) := by decide +kernel
theorem dX6_held_0 : decode cX6_held 0 = .ok (.iload_n 1, 1) := by decide +kernel
theorem dX6_held_1 : decode cX6_held 1 = .ok (.invokestatic 82, 3) := by decide +kernel
theorem dX6_held_4 : decode cX6_held 4 = .ok (.ifCond .eq 18, 3) := by decide +kernel
theorem dX6_held_7 : decode cX6_held 7 = .ok (.aload_n 0, 1) := by decide +kernel
theorem dX6_held_8 : decode cX6_held 8 = .ok (.getfield 21, 3) := by decide +kernel
theorem dX6_held_11 : decode cX6_held 11 = .ok (.getfield 85, 3) := by decide +kernel
theorem dX6_held_14 : decode cX6_held 14 = .ok (.iload_n 1, 1) := by decide +kernel
theorem dX6_held_15 : decode cX6_held 15 = .ok (.aaload, 1) := by decide +kernel
theorem dX6_held_16 : decode cX6_held 16 = .ok (.getfield 98, 3) := by decide +kernel
theorem dX6_held_19 : decode cX6_held 19 = .ok (.goto 4, 3) := by decide +kernel
theorem dX6_held_22 : decode cX6_held 22 = .ok (.iconst 0, 1) := by decide +kernel
theorem dX6_held_23 : decode cX6_held 23 = .ok (.ireturn, 1) := by decide +kernel
theorem dX6_inSet_0 : decode cX6_inSet 0 = .ok (.iload_n 1, 1) := by decide +kernel
theorem dX6_inSet_1 : decode cX6_inSet 1 = .ok (.invokestatic 82, 3) := by decide +kernel
theorem dX6_inSet_4 : decode cX6_inSet 4 = .ok (.ifCond .eq 19, 3) := by decide +kernel
theorem dX6_inSet_7 : decode cX6_inSet 7 = .ok (.aload_n 0, 1) := by decide +kernel
theorem dX6_inSet_8 : decode cX6_inSet 8 = .ok (.getfield 21, 3) := by decide +kernel
theorem dX6_inSet_11 : decode cX6_inSet 11 = .ok (.getfield 85, 3) := by decide +kernel
theorem dX6_inSet_14 : decode cX6_inSet 14 = .ok (.iload_n 1, 1) := by decide +kernel
theorem dX6_inSet_15 : decode cX6_inSet 15 = .ok (.aaload, 1) := by decide +kernel
theorem dX6_inSet_16 : decode cX6_inSet 16 = .ok (.iload_n 2, 1) := by decide +kernel
theorem dX6_inSet_17 : decode cX6_inSet 17 = .ok (.invokevirtual 101, 3) := by decide +kernel
theorem dX6_inSet_20 : decode cX6_inSet 20 = .ok (.goto 4, 3) := by decide +kernel
theorem dX6_inSet_23 : decode cX6_inSet 23 = .ok (.iconst (-1), 1) := by decide +kernel
theorem dX6_inSet_24 : decode cX6_inSet 24 = .ok (.ireturn, 1) := by decide +kernel
theorem dX6_explore_0 : decode cX6_explore 0 = .ok (.aload_n 0, 1) := by decide +kernel
theorem dX6_explore_1 : decode cX6_explore 1 = .ok (.getfield 30, 3) := by decide +kernel
theorem dX6_explore_4 : decode cX6_explore 4 = .ok (.getfield 104, 3) := by decide +kernel
theorem dX6_explore_7 : decode cX6_explore 7 = .ok (.ifCond .ne 10, 3) := by decide +kernel
theorem dX6_explore_10 : decode cX6_explore 10 = .ok (.aload_n 0, 1) := by decide +kernel
theorem dX6_explore_11 : decode cX6_explore 11 = .ok (.getfield 30, 3) := by decide +kernel
theorem dX6_explore_14 : decode cX6_explore 14 = .ok (.invokevirtual 108, 3) := by decide +kernel
theorem dX6_explore_17 : decode cX6_explore 17 = .ok (.aload_n 0, 1) := by decide +kernel
theorem dX6_explore_18 : decode cX6_explore 18 = .ok (.getfield 30, 3) := by decide +kernel
theorem dX6_explore_21 : decode cX6_explore 21 = .ok (.getfield 111, 3) := by decide +kernel
theorem dX6_explore_24 : decode cX6_explore 24 = .ok (.ireturn, 1) := by decide +kernel
theorem dX6_outcome_0 : decode cX6_outcome 0 = .ok (.aload_n 0, 1) := by decide +kernel
theorem dX6_outcome_1 : decode cX6_outcome 1 = .ok (.getfield 30, 3) := by decide +kernel
theorem dX6_outcome_4 : decode cX6_outcome 4 = .ok (.iload_n 1, 1) := by decide +kernel
theorem dX6_outcome_5 : decode cX6_outcome 5 = .ok (.invokevirtual 114, 3) := by decide +kernel
theorem dX6_outcome_8 : decode cX6_outcome 8 = .ok (.lreturn, 1) := by decide +kernel
theorem dX6_mayBlock_0 : decode cX6_mayBlock 0 = .ok (.iload_n 1, 1) := by decide +kernel
theorem dX6_mayBlock_1 : decode cX6_mayBlock 1 = .ok (.invokestatic 34, 3) := by decide +kernel
theorem dX6_mayBlock_4 : decode cX6_mayBlock 4 = .ok (.ifCond .eq 19, 3) := by decide +kernel
theorem dX6_mayBlock_7 : decode cX6_mayBlock 7 = .ok (.aload_n 0, 1) := by decide +kernel
theorem dX6_mayBlock_8 : decode cX6_mayBlock 8 = .ok (.getfield 30, 3) := by decide +kernel
theorem dX6_mayBlock_11 : decode cX6_mayBlock 11 = .ok (.getfield 118, 3) := by decide +kernel
theorem dX6_mayBlock_14 : decode cX6_mayBlock 14 = .ok (.iload_n 1, 1) := by decide +kernel
theorem dX6_mayBlock_15 : decode cX6_mayBlock 15 = .ok (.baload, 1) := by decide +kernel
theorem dX6_mayBlock_16 : decode cX6_mayBlock 16 = .ok (.ifCond .eq 7, 3) := by decide +kernel
theorem dX6_mayBlock_19 : decode cX6_mayBlock 19 = .ok (.iconst 1, 1) := by decide +kernel
theorem dX6_mayBlock_20 : decode cX6_mayBlock 20 = .ok (.goto 4, 3) := by decide +kernel
theorem dX6_mayBlock_23 : decode cX6_mayBlock 23 = .ok (.iconst 0, 1) := by decide +kernel
theorem dX6_mayBlock_24 : decode cX6_mayBlock 24 = .ok (.ireturn, 1) := by decide +kernel
theorem dX6_count_0 : decode cX6_count 0 = .ok (.iload_n 1, 1) := by decide +kernel
theorem dX6_count_1 : decode cX6_count 1 = .ok (.tableswitch 72 0 4 #[35, 40, 48, 56, 64], 35) := by decide +kernel
theorem dX6_count_36 : decode cX6_count 36 = .ok (.aload_n 0, 1) := by decide +kernel
theorem dX6_count_37 : decode cX6_count 37 = .ok (.getfield 65, 3) := by decide +kernel
theorem dX6_count_40 : decode cX6_count 40 = .ok (.ireturn, 1) := by decide +kernel
theorem dX6_count_41 : decode cX6_count 41 = .ok (.aload_n 0, 1) := by decide +kernel
theorem dX6_count_42 : decode cX6_count 42 = .ok (.getfield 30, 3) := by decide +kernel
theorem dX6_count_45 : decode cX6_count 45 = .ok (.getfield 122, 3) := by decide +kernel
theorem dX6_count_48 : decode cX6_count 48 = .ok (.ireturn, 1) := by decide +kernel
theorem dX6_count_49 : decode cX6_count 49 = .ok (.aload_n 0, 1) := by decide +kernel
theorem dX6_count_50 : decode cX6_count 50 = .ok (.getfield 30, 3) := by decide +kernel
theorem dX6_count_53 : decode cX6_count 53 = .ok (.getfield 125, 3) := by decide +kernel
theorem dX6_count_56 : decode cX6_count 56 = .ok (.ireturn, 1) := by decide +kernel
theorem dX6_count_57 : decode cX6_count 57 = .ok (.aload_n 0, 1) := by decide +kernel
theorem dX6_count_58 : decode cX6_count 58 = .ok (.getfield 30, 3) := by decide +kernel
theorem dX6_count_61 : decode cX6_count 61 = .ok (.getfield 128, 3) := by decide +kernel
theorem dX6_count_64 : decode cX6_count 64 = .ok (.ireturn, 1) := by decide +kernel
theorem dX6_count_65 : decode cX6_count 65 = .ok (.aload_n 0, 1) := by decide +kernel
theorem dX6_count_66 : decode cX6_count 66 = .ok (.getfield 30, 3) := by decide +kernel
theorem dX6_count_69 : decode cX6_count 69 = .ok (.getfield 131, 3) := by decide +kernel
theorem dX6_count_72 : decode cX6_count 72 = .ok (.ireturn, 1) := by decide +kernel
theorem dX6_count_73 : decode cX6_count 73 = .ok (.iconst (-1), 1) := by decide +kernel
theorem dX6_count_74 : decode cX6_count 74 = .ok (.ireturn, 1) := by decide +kernel
theorem dX6_beginAnew_0 : decode cX6_beginAnew 0 = .ok (.aload_n 0, 1) := by decide +kernel
theorem dX6_beginAnew_1 : decode cX6_beginAnew 1 = .ok (.getfield 21, 3) := by decide +kernel
theorem dX6_beginAnew_4 : decode cX6_beginAnew 4 = .ok (.invokevirtual 134, 3) := by decide +kernel
theorem dX6_beginAnew_7 : decode cX6_beginAnew 7 = .ok (.aload_n 0, 1) := by decide +kernel
theorem dX6_beginAnew_8 : decode cX6_beginAnew 8 = .ok (.iconst 0, 1) := by decide +kernel
theorem dX6_beginAnew_9 : decode cX6_beginAnew 9 = .ok (.putfield 65, 3) := by decide +kernel
theorem dX6_beginAnew_12 : decode cX6_beginAnew 12 = .ok (.return_, 1) := by decide +kernel
theorem dX6_isThread_0 : decode cX6_isThread 0 = .ok (.iload_n 0, 1) := by decide +kernel
theorem dX6_isThread_1 : decode cX6_isThread 1 = .ok (.ifCond .lt 12, 3) := by decide +kernel
theorem dX6_isThread_4 : decode cX6_isThread 4 = .ok (.iload_n 0, 1) := by decide +kernel
theorem dX6_isThread_5 : decode cX6_isThread 5 = .ok (.iconst 4, 1) := by decide +kernel
theorem dX6_isThread_6 : decode cX6_isThread 6 = .ok (.if_icmp .ge 7, 3) := by decide +kernel
theorem dX6_isThread_9 : decode cX6_isThread 9 = .ok (.iconst 1, 1) := by decide +kernel
theorem dX6_isThread_10 : decode cX6_isThread 10 = .ok (.goto 4, 3) := by decide +kernel
theorem dX6_isThread_13 : decode cX6_isThread 13 = .ok (.iconst 0, 1) := by decide +kernel
theorem dX6_isThread_14 : decode cX6_isThread 14 = .ok (.ireturn, 1) := by decide +kernel
theorem dX6_isMonitor_0 : decode cX6_isMonitor 0 = .ok (.iload_n 0, 1) := by decide +kernel
theorem dX6_isMonitor_1 : decode cX6_isMonitor 1 = .ok (.ifCond .lt 12, 3) := by decide +kernel
theorem dX6_isMonitor_4 : decode cX6_isMonitor 4 = .ok (.iload_n 0, 1) := by decide +kernel
theorem dX6_isMonitor_5 : decode cX6_isMonitor 5 = .ok (.iconst 2, 1) := by decide +kernel
theorem dX6_isMonitor_6 : decode cX6_isMonitor 6 = .ok (.if_icmp .ge 7, 3) := by decide +kernel
theorem dX6_isMonitor_9 : decode cX6_isMonitor 9 = .ok (.iconst 1, 1) := by decide +kernel
theorem dX6_isMonitor_10 : decode cX6_isMonitor 10 = .ok (.goto 4, 3) := by decide +kernel
theorem dX6_isMonitor_13 : decode cX6_isMonitor 13 = .ok (.iconst 0, 1) := by decide +kernel
theorem dX6_isMonitor_14 : decode cX6_isMonitor 14 = .ok (.ireturn, 1) := by decide +kernel
theorem dX6_isWay_0 : decode cX6_isWay 0 = .ok (.iload_n 0, 1) := by decide +kernel
theorem dX6_isWay_1 : decode cX6_isWay 1 = .ok (.ifCond .lt 12, 3) := by decide +kernel
theorem dX6_isWay_4 : decode cX6_isWay 4 = .ok (.iload_n 0, 1) := by decide +kernel
theorem dX6_isWay_5 : decode cX6_isWay 5 = .ok (.iconst 4, 1) := by decide +kernel
theorem dX6_isWay_6 : decode cX6_isWay 6 = .ok (.if_icmp .ge 7, 3) := by decide +kernel
theorem dX6_isWay_9 : decode cX6_isWay 9 = .ok (.iconst 1, 1) := by decide +kernel
theorem dX6_isWay_10 : decode cX6_isWay 10 = .ok (.goto 4, 3) := by decide +kernel
theorem dX6_isWay_13 : decode cX6_isWay 13 = .ok (.iconst 0, 1) := by decide +kernel
theorem dX6_isWay_14 : decode cX6_isWay 14 = .ok (.ireturn, 1) := by decide +kernel
theorem dX6_isAction_0 : decode cX6_isAction 0 = .ok (.iload_n 0, 1) := by decide +kernel
theorem dX6_isAction_1 : decode cX6_isAction 1 = .ok (.ifCond .lt 9, 3) := by decide +kernel
theorem dX6_isAction_4 : decode cX6_isAction 4 = .ok (.iload_n 0, 1) := by decide +kernel
theorem dX6_isAction_5 : decode cX6_isAction 5 = .ok (.bipush 12, 2) := by decide +kernel
theorem dX6_isAction_7 : decode cX6_isAction 7 = .ok (.if_icmp .le 5, 3) := by decide +kernel
theorem dX6_isAction_10 : decode cX6_isAction 10 = .ok (.iconst 0, 1) := by decide +kernel
theorem dX6_isAction_11 : decode cX6_isAction 11 = .ok (.ireturn, 1) := by decide +kernel
theorem dX6_isAction_12 : decode cX6_isAction 12 = .ok (.iload_n 0, 1) := by decide +kernel
theorem dX6_isAction_13 : decode cX6_isAction 13 = .ok (.iconst 5, 1) := by decide +kernel
theorem dX6_isAction_14 : decode cX6_isAction 14 = .ok (.if_icmp .gt 8, 3) := by decide +kernel
theorem dX6_isAction_17 : decode cX6_isAction 17 = .ok (.iload_n 1, 1) := by decide +kernel
theorem dX6_isAction_18 : decode cX6_isAction 18 = .ok (.invokestatic 82, 3) := by decide +kernel
theorem dX6_isAction_21 : decode cX6_isAction 21 = .ok (.ireturn, 1) := by decide +kernel
theorem dX6_isAction_22 : decode cX6_isAction 22 = .ok (.iload_n 0, 1) := by decide +kernel
theorem dX6_isAction_23 : decode cX6_isAction 23 = .ok (.bipush 6, 2) := by decide +kernel
theorem dX6_isAction_25 : decode cX6_isAction 25 = .ok (.if_icmp .eq 15, 3) := by decide +kernel
theorem dX6_isAction_28 : decode cX6_isAction 28 = .ok (.iload_n 0, 1) := by decide +kernel
theorem dX6_isAction_29 : decode cX6_isAction 29 = .ok (.bipush 8, 2) := by decide +kernel
theorem dX6_isAction_31 : decode cX6_isAction 31 = .ok (.if_icmp .eq 9, 3) := by decide +kernel
theorem dX6_isAction_34 : decode cX6_isAction 34 = .ok (.iload_n 0, 1) := by decide +kernel
theorem dX6_isAction_35 : decode cX6_isAction 35 = .ok (.bipush 9, 2) := by decide +kernel
theorem dX6_isAction_37 : decode cX6_isAction 37 = .ok (.if_icmp .ne 8, 3) := by decide +kernel
theorem dX6_isAction_40 : decode cX6_isAction 40 = .ok (.iload_n 1, 1) := by decide +kernel
theorem dX6_isAction_41 : decode cX6_isAction 41 = .ok (.invokestatic 34, 3) := by decide +kernel
theorem dX6_isAction_44 : decode cX6_isAction 44 = .ok (.ireturn, 1) := by decide +kernel
theorem dX6_isAction_45 : decode cX6_isAction 45 = .ok (.iload_n 0, 1) := by decide +kernel
theorem dX6_isAction_46 : decode cX6_isAction 46 = .ok (.bipush 11, 2) := by decide +kernel
theorem dX6_isAction_48 : decode cX6_isAction 48 = .ok (.if_icmp .ne 12, 3) := by decide +kernel
theorem dX6_isAction_51 : decode cX6_isAction 51 = .ok (.iload_n 1, 1) := by decide +kernel
theorem dX6_isAction_52 : decode cX6_isAction 52 = .ok (.ifCond .lt 12, 3) := by decide +kernel
theorem dX6_isAction_55 : decode cX6_isAction 55 = .ok (.iload_n 1, 1) := by decide +kernel
theorem dX6_isAction_56 : decode cX6_isAction 56 = .ok (.iconst 4, 1) := by decide +kernel
theorem dX6_isAction_57 : decode cX6_isAction 57 = .ok (.if_icmp .ge 7, 3) := by decide +kernel
theorem dX6_isAction_60 : decode cX6_isAction 60 = .ok (.iconst 1, 1) := by decide +kernel
theorem dX6_isAction_61 : decode cX6_isAction 61 = .ok (.goto 4, 3) := by decide +kernel
theorem dX6_isAction_64 : decode cX6_isAction 64 = .ok (.iconst 0, 1) := by decide +kernel
theorem dX6_isAction_65 : decode cX6_isAction 65 = .ok (.ireturn, 1) := by decide +kernel
theorem dX3_init_0 : decode cX3_init 0 = .ok (.aload_n 0, 1) := by decide +kernel
theorem dX3_init_1 : decode cX3_init 1 = .ok (.invokespecial 3, 3) := by decide +kernel
theorem dX3_init_4 : decode cX3_init 4 = .ok (.aload_n 0, 1) := by decide +kernel
theorem dX3_init_5 : decode cX3_init 5 = .ok (.iconst 4, 1) := by decide +kernel
theorem dX3_init_6 : decode cX3_init 6 = .ok (.newarray .boolean, 2) := by decide +kernel
theorem dX3_init_8 : decode cX3_init 8 = .ok (.putfield 9, 3) := by decide +kernel
theorem dX3_init_11 : decode cX3_init 11 = .ok (.aload_n 0, 1) := by decide +kernel
theorem dX3_init_12 : decode cX3_init 12 = .ok (.new 15, 3) := by decide +kernel
theorem dX3_init_15 : decode cX3_init 15 = .ok (.dup, 1) := by decide +kernel
theorem dX3_init_16 : decode cX3_init 16 = .ok (.invokespecial 17, 3) := by decide +kernel
theorem dX3_init_19 : decode cX3_init 19 = .ok (.putfield 18, 3) := by decide +kernel
theorem dX3_init_22 : decode cX3_init 22 = .ok (.aload_n 0, 1) := by decide +kernel
theorem dX3_init_23 : decode cX3_init 23 = .ok (.bipush 16, 2) := by decide +kernel
theorem dX3_init_25 : decode cX3_init 25 = .ok (.newarray .long, 2) := by decide +kernel
theorem dX3_init_27 : decode cX3_init 27 = .ok (.putfield 22, 3) := by decide +kernel
theorem dX3_init_30 : decode cX3_init 30 = .ok (.aload_n 0, 1) := by decide +kernel
theorem dX3_init_31 : decode cX3_init 31 = .ok (.aload_n 1, 1) := by decide +kernel
theorem dX3_init_32 : decode cX3_init 32 = .ok (.putfield 26, 3) := by decide +kernel
theorem dX3_init_35 : decode cX3_init 35 = .ok (.return_, 1) := by decide +kernel
theorem dX3_forget_0 : decode cX3_forget 0 = .ok (.aload_n 0, 1) := by decide +kernel
theorem dX3_forget_1 : decode cX3_forget 1 = .ok (.iconst 0, 1) := by decide +kernel
theorem dX3_forget_2 : decode cX3_forget 2 = .ok (.putfield 30, 3) := by decide +kernel
theorem dX3_forget_5 : decode cX3_forget 5 = .ok (.aload_n 0, 1) := by decide +kernel
theorem dX3_forget_6 : decode cX3_forget 6 = .ok (.iconst 0, 1) := by decide +kernel
theorem dX3_forget_7 : decode cX3_forget 7 = .ok (.putfield 34, 3) := by decide +kernel
theorem dX3_forget_10 : decode cX3_forget 10 = .ok (.aload_n 0, 1) := by decide +kernel
theorem dX3_forget_11 : decode cX3_forget 11 = .ok (.iconst 0, 1) := by decide +kernel
theorem dX3_forget_12 : decode cX3_forget 12 = .ok (.putfield 38, 3) := by decide +kernel
theorem dX3_forget_15 : decode cX3_forget 15 = .ok (.aload_n 0, 1) := by decide +kernel
theorem dX3_forget_16 : decode cX3_forget 16 = .ok (.iconst 0, 1) := by decide +kernel
theorem dX3_forget_17 : decode cX3_forget 17 = .ok (.putfield 41, 3) := by decide +kernel
theorem dX3_forget_20 : decode cX3_forget 20 = .ok (.aload_n 0, 1) := by decide +kernel
theorem dX3_forget_21 : decode cX3_forget 21 = .ok (.iconst 0, 1) := by decide +kernel
theorem dX3_forget_22 : decode cX3_forget 22 = .ok (.putfield 44, 3) := by decide +kernel
theorem dX3_forget_25 : decode cX3_forget 25 = .ok (.aload_n 0, 1) := by decide +kernel
theorem dX3_forget_26 : decode cX3_forget 26 = .ok (.iconst 0, 1) := by decide +kernel
theorem dX3_forget_27 : decode cX3_forget 27 = .ok (.putfield 47, 3) := by decide +kernel
theorem dX3_forget_30 : decode cX3_forget 30 = .ok (.iconst 0, 1) := by decide +kernel
theorem dX3_forget_31 : decode cX3_forget 31 = .ok (.istore_n 1, 1) := by decide +kernel
theorem dX3_forget_32 : decode cX3_forget 32 = .ok (.iload_n 1, 1) := by decide +kernel
theorem dX3_forget_33 : decode cX3_forget 33 = .ok (.iconst 4, 1) := by decide +kernel
theorem dX3_forget_34 : decode cX3_forget 34 = .ok (.if_icmp .ge 16, 3) := by decide +kernel
theorem dX3_forget_37 : decode cX3_forget 37 = .ok (.aload_n 0, 1) := by decide +kernel
theorem dX3_forget_38 : decode cX3_forget 38 = .ok (.getfield 9, 3) := by decide +kernel
theorem dX3_forget_41 : decode cX3_forget 41 = .ok (.iload_n 1, 1) := by decide +kernel
theorem dX3_forget_42 : decode cX3_forget 42 = .ok (.iconst 0, 1) := by decide +kernel
theorem dX3_forget_43 : decode cX3_forget 43 = .ok (.bastore, 1) := by decide +kernel
theorem dX3_forget_44 : decode cX3_forget 44 = .ok (.iinc 1 1, 3) := by decide +kernel
theorem dX3_forget_47 : decode cX3_forget 47 = .ok (.goto (-15), 3) := by decide +kernel
theorem dX3_forget_50 : decode cX3_forget 50 = .ok (.return_, 1) := by decide +kernel
theorem dX3_goThrough_0 : decode cX3_goThrough 0 = .ok (.aload_n 0, 1) := by decide +kernel
theorem dX3_goThrough_1 : decode cX3_goThrough 1 = .ok (.getfield 18, 3) := by decide +kernel
theorem dX3_goThrough_4 : decode cX3_goThrough 4 = .ok (.invokevirtual 50, 3) := by decide +kernel
theorem dX3_goThrough_7 : decode cX3_goThrough 7 = .ok (.aload_n 0, 1) := by decide +kernel
theorem dX3_goThrough_8 : decode cX3_goThrough 8 = .ok (.getfield 26, 3) := by decide +kernel
theorem dX3_goThrough_11 : decode cX3_goThrough 11 = .ok (.invokevirtual 53, 3) := by decide +kernel
theorem dX3_goThrough_14 : decode cX3_goThrough 14 = .ok (.aload_n 0, 1) := by decide +kernel
theorem dX3_goThrough_15 : decode cX3_goThrough 15 = .ok (.getfield 18, 3) := by decide +kernel
theorem dX3_goThrough_18 : decode cX3_goThrough 18 = .ok (.aload_n 0, 1) := by decide +kernel
theorem dX3_goThrough_19 : decode cX3_goThrough 19 = .ok (.getfield 26, 3) := by decide +kernel
theorem dX3_goThrough_22 : decode cX3_goThrough 22 = .ok (.invokevirtual 58, 3) := by decide +kernel
theorem dX3_goThrough_25 : decode cX3_goThrough 25 = .ok (.istore_n 1, 1) := by decide +kernel
theorem dX3_goThrough_26 : decode cX3_goThrough 26 = .ok (.iconst 0, 1) := by decide +kernel
theorem dX3_goThrough_27 : decode cX3_goThrough 27 = .ok (.istore_n 2, 1) := by decide +kernel
theorem dX3_goThrough_28 : decode cX3_goThrough 28 = .ok (.iload_n 1, 1) := by decide +kernel
theorem dX3_goThrough_29 : decode cX3_goThrough 29 = .ok (.ifCond .eq 33, 3) := by decide +kernel
theorem dX3_goThrough_32 : decode cX3_goThrough 32 = .ok (.iload_n 2, 1) := by decide +kernel
theorem dX3_goThrough_33 : decode cX3_goThrough 33 = .ok (.aload_n 0, 1) := by decide +kernel
theorem dX3_goThrough_34 : decode cX3_goThrough 34 = .ok (.getfield 18, 3) := by decide +kernel
theorem dX3_goThrough_37 : decode cX3_goThrough 37 = .ok (.invokevirtual 62, 3) := by decide +kernel
theorem dX3_goThrough_40 : decode cX3_goThrough 40 = .ok (.if_icmp .ge 22, 3) := by decide +kernel
theorem dX3_goThrough_43 : decode cX3_goThrough 43 = .ok (.iload_n 2, 1) := by decide +kernel
theorem dX3_goThrough_44 : decode cX3_goThrough 44 = .ok (.sipush 3000, 3) := by decide +kernel
theorem dX3_goThrough_47 : decode cX3_goThrough 47 = .ok (.if_icmp .ge 15, 3) := by decide +kernel
theorem dX3_goThrough_50 : decode cX3_goThrough 50 = .ok (.aload_n 0, 1) := by decide +kernel
theorem dX3_goThrough_51 : decode cX3_goThrough 51 = .ok (.iload_n 2, 1) := by decide +kernel
theorem dX3_goThrough_52 : decode cX3_goThrough 52 = .ok (.invokevirtual 66, 3) := by decide +kernel
theorem dX3_goThrough_55 : decode cX3_goThrough 55 = .ok (.istore_n 1, 1) := by decide +kernel
theorem dX3_goThrough_56 : decode cX3_goThrough 56 = .ok (.iinc 2 1, 3) := by decide +kernel
theorem dX3_goThrough_59 : decode cX3_goThrough 59 = .ok (.goto (-31), 3) := by decide +kernel
theorem dX3_goThrough_62 : decode cX3_goThrough 62 = .ok (.iload_n 1, 1) := by decide +kernel
theorem dX3_goThrough_63 : decode cX3_goThrough 63 = .ok (.ifCond .eq 25, 3) := by decide +kernel
theorem dX3_goThrough_66 : decode cX3_goThrough 66 = .ok (.aload_n 0, 1) := by decide +kernel
theorem dX3_goThrough_67 : decode cX3_goThrough 67 = .ok (.aload_n 0, 1) := by decide +kernel
theorem dX3_goThrough_68 : decode cX3_goThrough 68 = .ok (.getfield 18, 3) := by decide +kernel
theorem dX3_goThrough_71 : decode cX3_goThrough 71 = .ok (.invokevirtual 62, 3) := by decide +kernel
theorem dX3_goThrough_74 : decode cX3_goThrough 74 = .ok (.putfield 34, 3) := by decide +kernel
theorem dX3_goThrough_77 : decode cX3_goThrough 77 = .ok (.aload_n 0, 1) := by decide +kernel
theorem dX3_goThrough_78 : decode cX3_goThrough 78 = .ok (.aload_n 0, 1) := by decide +kernel
theorem dX3_goThrough_79 : decode cX3_goThrough 79 = .ok (.getfield 47, 3) := by decide +kernel
theorem dX3_goThrough_82 : decode cX3_goThrough 82 = .ok (.putfield 70, 3) := by decide +kernel
theorem dX3_goThrough_85 : decode cX3_goThrough 85 = .ok (.goto 13, 3) := by decide +kernel
theorem dX3_goThrough_88 : decode cX3_goThrough 88 = .ok (.aload_n 0, 1) := by decide +kernel
theorem dX3_goThrough_89 : decode cX3_goThrough 89 = .ok (.invokevirtual 73, 3) := by decide +kernel
theorem dX3_goThrough_92 : decode cX3_goThrough 92 = .ok (.aload_n 0, 1) := by decide +kernel
theorem dX3_goThrough_93 : decode cX3_goThrough 93 = .ok (.bipush (-2), 2) := by decide +kernel
theorem dX3_goThrough_95 : decode cX3_goThrough 95 = .ok (.putfield 70, 3) := by decide +kernel
theorem dX3_goThrough_98 : decode cX3_goThrough 98 = .ok (.aload_n 0, 1) := by decide +kernel
theorem dX3_goThrough_99 : decode cX3_goThrough 99 = .ok (.iconst 1, 1) := by decide +kernel
theorem dX3_goThrough_100 : decode cX3_goThrough 100 = .ok (.putfield 30, 3) := by decide +kernel
theorem dX3_goThrough_103 : decode cX3_goThrough 103 = .ok (.return_, 1) := by decide +kernel
theorem dX3_visit_0 : decode cX3_visit 0 = .ok (.aload_n 0, 1) := by decide +kernel
theorem dX3_visit_1 : decode cX3_visit 1 = .ok (.getfield 18, 3) := by decide +kernel
theorem dX3_visit_4 : decode cX3_visit 4 = .ok (.iload_n 1, 1) := by decide +kernel
theorem dX3_visit_5 : decode cX3_visit 5 = .ok (.aload_n 0, 1) := by decide +kernel
theorem dX3_visit_6 : decode cX3_visit 6 = .ok (.getfield 26, 3) := by decide +kernel
theorem dX3_visit_9 : decode cX3_visit 9 = .ok (.invokevirtual 76, 3) := by decide +kernel
theorem dX3_visit_12 : decode cX3_visit 12 = .ok (.iconst 0, 1) := by decide +kernel
theorem dX3_visit_13 : decode cX3_visit 13 = .ok (.istore_n 2, 1) := by decide +kernel
theorem dX3_visit_14 : decode cX3_visit 14 = .ok (.iconst 0, 1) := by decide +kernel
theorem dX3_visit_15 : decode cX3_visit 15 = .ok (.istore_n 3, 1) := by decide +kernel
theorem dX3_visit_16 : decode cX3_visit 16 = .ok (.iload_n 3, 1) := by decide +kernel
theorem dX3_visit_17 : decode cX3_visit 17 = .ok (.iconst 4, 1) := by decide +kernel
theorem dX3_visit_18 : decode cX3_visit 18 = .ok (.if_icmp .ge 78, 3) := by decide +kernel
theorem dX3_visit_21 : decode cX3_visit 21 = .ok (.iconst 0, 1) := by decide +kernel
theorem dX3_visit_22 : decode cX3_visit 22 = .ok (.istore 4, 2) := by decide +kernel
theorem dX3_visit_24 : decode cX3_visit 24 = .ok (.iload 4, 2) := by decide +kernel
theorem dX3_visit_26 : decode cX3_visit 26 = .ok (.iconst 4, 1) := by decide +kernel
theorem dX3_visit_27 : decode cX3_visit 27 = .ok (.if_icmp .ge 63, 3) := by decide +kernel
theorem dX3_visit_30 : decode cX3_visit 30 = .ok (.aload_n 0, 1) := by decide +kernel
theorem dX3_visit_31 : decode cX3_visit 31 = .ok (.getfield 26, 3) := by decide +kernel
theorem dX3_visit_34 : decode cX3_visit 34 = .ok (.iload_n 3, 1) := by decide +kernel
theorem dX3_visit_35 : decode cX3_visit 35 = .ok (.iload 4, 2) := by decide +kernel
theorem dX3_visit_37 : decode cX3_visit 37 = .ok (.invokevirtual 80, 3) := by decide +kernel
theorem dX3_visit_40 : decode cX3_visit 40 = .ok (.ifCond .eq 44, 3) := by decide +kernel
theorem dX3_visit_43 : decode cX3_visit 43 = .ok (.iinc 2 1, 3) := by decide +kernel
theorem dX3_visit_46 : decode cX3_visit 46 = .ok (.aload_n 0, 1) := by decide +kernel
theorem dX3_visit_47 : decode cX3_visit 47 = .ok (.getfield 26, 3) := by decide +kernel
theorem dX3_visit_50 : decode cX3_visit 50 = .ok (.iload_n 3, 1) := by decide +kernel
theorem dX3_visit_51 : decode cX3_visit 51 = .ok (.iload 4, 2) := by decide +kernel
theorem dX3_visit_53 : decode cX3_visit 53 = .ok (.invokevirtual 84, 3) := by decide +kernel
theorem dX3_visit_56 : decode cX3_visit 56 = .ok (.aload_n 0, 1) := by decide +kernel
theorem dX3_visit_57 : decode cX3_visit 57 = .ok (.getfield 18, 3) := by decide +kernel
theorem dX3_visit_60 : decode cX3_visit 60 = .ok (.aload_n 0, 1) := by decide +kernel
theorem dX3_visit_61 : decode cX3_visit 61 = .ok (.getfield 26, 3) := by decide +kernel
theorem dX3_visit_64 : decode cX3_visit 64 = .ok (.invokevirtual 58, 3) := by decide +kernel
theorem dX3_visit_67 : decode cX3_visit 67 = .ok (.ifCond .ne 5, 3) := by decide +kernel
theorem dX3_visit_70 : decode cX3_visit 70 = .ok (.iconst 0, 1) := by decide +kernel
theorem dX3_visit_71 : decode cX3_visit 71 = .ok (.ireturn, 1) := by decide +kernel
theorem dX3_visit_72 : decode cX3_visit 72 = .ok (.aload_n 0, 1) := by decide +kernel
theorem dX3_visit_73 : decode cX3_visit 73 = .ok (.getfield 18, 3) := by decide +kernel
theorem dX3_visit_76 : decode cX3_visit 76 = .ok (.iload_n 1, 1) := by decide +kernel
theorem dX3_visit_77 : decode cX3_visit 77 = .ok (.aload_n 0, 1) := by decide +kernel
theorem dX3_visit_78 : decode cX3_visit 78 = .ok (.getfield 26, 3) := by decide +kernel
theorem dX3_visit_81 : decode cX3_visit 81 = .ok (.invokevirtual 76, 3) := by decide +kernel
theorem dX3_visit_84 : decode cX3_visit 84 = .ok (.iinc 4 1, 3) := by decide +kernel
theorem dX3_visit_87 : decode cX3_visit 87 = .ok (.goto (-63), 3) := by decide +kernel
theorem dX3_visit_90 : decode cX3_visit 90 = .ok (.iinc 3 1, 3) := by decide +kernel
theorem dX3_visit_93 : decode cX3_visit 93 = .ok (.goto (-77), 3) := by decide +kernel
theorem dX3_visit_96 : decode cX3_visit 96 = .ok (.aload_n 0, 1) := by decide +kernel
theorem dX3_visit_97 : decode cX3_visit 97 = .ok (.aload_n 0, 1) := by decide +kernel
theorem dX3_visit_98 : decode cX3_visit 98 = .ok (.getfield 44, 3) := by decide +kernel
theorem dX3_visit_101 : decode cX3_visit 101 = .ok (.iload_n 2, 1) := by decide +kernel
theorem dX3_visit_102 : decode cX3_visit 102 = .ok (.invokestatic 88, 3) := by decide +kernel
theorem dX3_visit_105 : decode cX3_visit 105 = .ok (.putfield 44, 3) := by decide +kernel
theorem dX3_visit_108 : decode cX3_visit 108 = .ok (.iload_n 2, 1) := by decide +kernel
theorem dX3_visit_109 : decode cX3_visit 109 = .ok (.ifCond .ne 7, 3) := by decide +kernel
theorem dX3_visit_112 : decode cX3_visit 112 = .ok (.aload_n 0, 1) := by decide +kernel
theorem dX3_visit_113 : decode cX3_visit 113 = .ok (.invokevirtual 94, 3) := by decide +kernel
theorem dX3_visit_116 : decode cX3_visit 116 = .ok (.iconst 1, 1) := by decide +kernel
theorem dX3_visit_117 : decode cX3_visit 117 = .ok (.ireturn, 1) := by decide +kernel
theorem dX3_noteFinal_0 : decode cX3_noteFinal 0 = .ok (.iconst 1, 1) := by decide +kernel
theorem dX3_noteFinal_1 : decode cX3_noteFinal 1 = .ok (.istore_n 1, 1) := by decide +kernel
theorem dX3_noteFinal_2 : decode cX3_noteFinal 2 = .ok (.iconst 0, 1) := by decide +kernel
theorem dX3_noteFinal_3 : decode cX3_noteFinal 3 = .ok (.istore_n 2, 1) := by decide +kernel
theorem dX3_noteFinal_4 : decode cX3_noteFinal 4 = .ok (.iload_n 2, 1) := by decide +kernel
theorem dX3_noteFinal_5 : decode cX3_noteFinal 5 = .ok (.iconst 4, 1) := by decide +kernel
theorem dX3_noteFinal_6 : decode cX3_noteFinal 6 = .ok (.if_icmp .ge 29, 3) := by decide +kernel
theorem dX3_noteFinal_9 : decode cX3_noteFinal 9 = .ok (.aload_n 0, 1) := by decide +kernel
theorem dX3_noteFinal_10 : decode cX3_noteFinal 10 = .ok (.getfield 26, 3) := by decide +kernel
theorem dX3_noteFinal_13 : decode cX3_noteFinal 13 = .ok (.iload_n 2, 1) := by decide +kernel
theorem dX3_noteFinal_14 : decode cX3_noteFinal 14 = .ok (.invokevirtual 97, 3) := by decide +kernel
theorem dX3_noteFinal_17 : decode cX3_noteFinal 17 = .ok (.ifCond .ne 12, 3) := by decide +kernel
theorem dX3_noteFinal_20 : decode cX3_noteFinal 20 = .ok (.aload_n 0, 1) := by decide +kernel
theorem dX3_noteFinal_21 : decode cX3_noteFinal 21 = .ok (.getfield 9, 3) := by decide +kernel
theorem dX3_noteFinal_24 : decode cX3_noteFinal 24 = .ok (.iload_n 2, 1) := by decide +kernel
theorem dX3_noteFinal_25 : decode cX3_noteFinal 25 = .ok (.iconst 1, 1) := by decide +kernel
theorem dX3_noteFinal_26 : decode cX3_noteFinal 26 = .ok (.bastore, 1) := by decide +kernel
theorem dX3_noteFinal_27 : decode cX3_noteFinal 27 = .ok (.iconst 0, 1) := by decide +kernel
theorem dX3_noteFinal_28 : decode cX3_noteFinal 28 = .ok (.istore_n 1, 1) := by decide +kernel
theorem dX3_noteFinal_29 : decode cX3_noteFinal 29 = .ok (.iinc 2 1, 3) := by decide +kernel
theorem dX3_noteFinal_32 : decode cX3_noteFinal 32 = .ok (.goto (-28), 3) := by decide +kernel
theorem dX3_noteFinal_35 : decode cX3_noteFinal 35 = .ok (.aload_n 0, 1) := by decide +kernel
theorem dX3_noteFinal_36 : decode cX3_noteFinal 36 = .ok (.dup, 1) := by decide +kernel
theorem dX3_noteFinal_37 : decode cX3_noteFinal 37 = .ok (.getfield 38, 3) := by decide +kernel
theorem dX3_noteFinal_40 : decode cX3_noteFinal 40 = .ok (.iconst 1, 1) := by decide +kernel
theorem dX3_noteFinal_41 : decode cX3_noteFinal 41 = .ok (.iadd, 1) := by decide +kernel
theorem dX3_noteFinal_42 : decode cX3_noteFinal 42 = .ok (.putfield 38, 3) := by decide +kernel
theorem dX3_noteFinal_45 : decode cX3_noteFinal 45 = .ok (.iload_n 1, 1) := by decide +kernel
theorem dX3_noteFinal_46 : decode cX3_noteFinal 46 = .ok (.ifCond .eq 13, 3) := by decide +kernel
theorem dX3_noteFinal_49 : decode cX3_noteFinal 49 = .ok (.aload_n 0, 1) := by decide +kernel
theorem dX3_noteFinal_50 : decode cX3_noteFinal 50 = .ok (.dup, 1) := by decide +kernel
theorem dX3_noteFinal_51 : decode cX3_noteFinal 51 = .ok (.getfield 41, 3) := by decide +kernel
theorem dX3_noteFinal_54 : decode cX3_noteFinal 54 = .ok (.iconst 1, 1) := by decide +kernel
theorem dX3_noteFinal_55 : decode cX3_noteFinal 55 = .ok (.iadd, 1) := by decide +kernel
theorem dX3_noteFinal_56 : decode cX3_noteFinal 56 = .ok (.putfield 41, 3) := by decide +kernel
theorem dX3_noteFinal_59 : decode cX3_noteFinal 59 = .ok (.aload_n 0, 1) := by decide +kernel
theorem dX3_noteFinal_60 : decode cX3_noteFinal 60 = .ok (.aload_n 0, 1) := by decide +kernel
theorem dX3_noteFinal_61 : decode cX3_noteFinal 61 = .ok (.getfield 26, 3) := by decide +kernel
theorem dX3_noteFinal_64 : decode cX3_noteFinal 64 = .ok (.invokevirtual 100, 3) := by decide +kernel
theorem dX3_noteFinal_67 : decode cX3_noteFinal 67 = .ok (.invokevirtual 104, 3) := by decide +kernel
theorem dX3_noteFinal_70 : decode cX3_noteFinal 70 = .ok (.return_, 1) := by decide +kernel
theorem dX3_noteOutcome_0 : decode cX3_noteOutcome 0 = .ok (.aload_n 0, 1) := by decide +kernel
theorem dX3_noteOutcome_1 : decode cX3_noteOutcome 1 = .ok (.lload_n 1, 1) := by decide +kernel
theorem dX3_noteOutcome_2 : decode cX3_noteOutcome 2 = .ok (.invokevirtual 108, 3) := by decide +kernel
theorem dX3_noteOutcome_5 : decode cX3_noteOutcome 5 = .ok (.istore_n 3, 1) := by decide +kernel
theorem dX3_noteOutcome_6 : decode cX3_noteOutcome 6 = .ok (.iload_n 3, 1) := by decide +kernel
theorem dX3_noteOutcome_7 : decode cX3_noteOutcome 7 = .ok (.aload_n 0, 1) := by decide +kernel
theorem dX3_noteOutcome_8 : decode cX3_noteOutcome 8 = .ok (.getfield 47, 3) := by decide +kernel
theorem dX3_noteOutcome_11 : decode cX3_noteOutcome 11 = .ok (.if_icmp .ge 15, 3) := by decide +kernel
theorem dX3_noteOutcome_14 : decode cX3_noteOutcome 14 = .ok (.aload_n 0, 1) := by decide +kernel
theorem dX3_noteOutcome_15 : decode cX3_noteOutcome 15 = .ok (.getfield 22, 3) := by decide +kernel
theorem dX3_noteOutcome_18 : decode cX3_noteOutcome 18 = .ok (.iload_n 3, 1) := by decide +kernel
theorem dX3_noteOutcome_19 : decode cX3_noteOutcome 19 = .ok (.laload, 1) := by decide +kernel
theorem dX3_noteOutcome_20 : decode cX3_noteOutcome 20 = .ok (.lload_n 1, 1) := by decide +kernel
theorem dX3_noteOutcome_21 : decode cX3_noteOutcome 21 = .ok (.lcmp, 1) := by decide +kernel
theorem dX3_noteOutcome_22 : decode cX3_noteOutcome 22 = .ok (.ifCond .ne 4, 3) := by decide +kernel
theorem dX3_noteOutcome_25 : decode cX3_noteOutcome 25 = .ok (.return_, 1) := by decide +kernel
theorem dX3_noteOutcome_26 : decode cX3_noteOutcome 26 = .ok (.aload_n 0, 1) := by decide +kernel
theorem dX3_noteOutcome_27 : decode cX3_noteOutcome 27 = .ok (.getfield 47, 3) := by decide +kernel
theorem dX3_noteOutcome_30 : decode cX3_noteOutcome 30 = .ok (.aload_n 0, 1) := by decide +kernel
theorem dX3_noteOutcome_31 : decode cX3_noteOutcome 31 = .ok (.getfield 22, 3) := by decide +kernel
theorem dX3_noteOutcome_34 : decode cX3_noteOutcome 34 = .ok (.arraylength, 1) := by decide +kernel
theorem dX3_noteOutcome_35 : decode cX3_noteOutcome 35 = .ok (.if_icmp .lt 21, 3) := by decide +kernel
theorem dX3_noteOutcome_38 : decode cX3_noteOutcome 38 = .ok (.aload_n 0, 1) := by decide +kernel
theorem dX3_noteOutcome_39 : decode cX3_noteOutcome 39 = .ok (.aload_n 0, 1) := by decide +kernel
theorem dX3_noteOutcome_40 : decode cX3_noteOutcome 40 = .ok (.getfield 22, 3) := by decide +kernel
theorem dX3_noteOutcome_43 : decode cX3_noteOutcome 43 = .ok (.aload_n 0, 1) := by decide +kernel
theorem dX3_noteOutcome_44 : decode cX3_noteOutcome 44 = .ok (.getfield 22, 3) := by decide +kernel
theorem dX3_noteOutcome_47 : decode cX3_noteOutcome 47 = .ok (.arraylength, 1) := by decide +kernel
theorem dX3_noteOutcome_48 : decode cX3_noteOutcome 48 = .ok (.iconst 2, 1) := by decide +kernel
theorem dX3_noteOutcome_49 : decode cX3_noteOutcome 49 = .ok (.imul, 1) := by decide +kernel
theorem dX3_noteOutcome_50 : decode cX3_noteOutcome 50 = .ok (.invokestatic 112, 3) := by decide +kernel
theorem dX3_noteOutcome_53 : decode cX3_noteOutcome 53 = .ok (.putfield 22, 3) := by decide +kernel
theorem dX3_noteOutcome_56 : decode cX3_noteOutcome 56 = .ok (.aload_n 0, 1) := by decide +kernel
theorem dX3_noteOutcome_57 : decode cX3_noteOutcome 57 = .ok (.getfield 22, 3) := by decide +kernel
theorem dX3_noteOutcome_60 : decode cX3_noteOutcome 60 = .ok (.iload_n 3, 1) := by decide +kernel
theorem dX3_noteOutcome_61 : decode cX3_noteOutcome 61 = .ok (.aload_n 0, 1) := by decide +kernel
theorem dX3_noteOutcome_62 : decode cX3_noteOutcome 62 = .ok (.getfield 22, 3) := by decide +kernel
theorem dX3_noteOutcome_65 : decode cX3_noteOutcome 65 = .ok (.iload_n 3, 1) := by decide +kernel
theorem dX3_noteOutcome_66 : decode cX3_noteOutcome 66 = .ok (.iconst 1, 1) := by decide +kernel
theorem dX3_noteOutcome_67 : decode cX3_noteOutcome 67 = .ok (.iadd, 1) := by decide +kernel
theorem dX3_noteOutcome_68 : decode cX3_noteOutcome 68 = .ok (.aload_n 0, 1) := by decide +kernel
theorem dX3_noteOutcome_69 : decode cX3_noteOutcome 69 = .ok (.getfield 47, 3) := by decide +kernel
theorem dX3_noteOutcome_72 : decode cX3_noteOutcome 72 = .ok (.iload_n 3, 1) := by decide +kernel
theorem dX3_noteOutcome_73 : decode cX3_noteOutcome 73 = .ok (.isub, 1) := by decide +kernel
theorem dX3_noteOutcome_74 : decode cX3_noteOutcome 74 = .ok (.invokestatic 118, 3) := by decide +kernel
theorem dX3_noteOutcome_77 : decode cX3_noteOutcome 77 = .ok (.aload_n 0, 1) := by decide +kernel
theorem dX3_noteOutcome_78 : decode cX3_noteOutcome 78 = .ok (.getfield 22, 3) := by decide +kernel
theorem dX3_noteOutcome_81 : decode cX3_noteOutcome 81 = .ok (.iload_n 3, 1) := by decide +kernel
theorem dX3_noteOutcome_82 : decode cX3_noteOutcome 82 = .ok (.lload_n 1, 1) := by decide +kernel
theorem dX3_noteOutcome_83 : decode cX3_noteOutcome 83 = .ok (.lastore, 1) := by decide +kernel
theorem dX3_noteOutcome_84 : decode cX3_noteOutcome 84 = .ok (.aload_n 0, 1) := by decide +kernel
theorem dX3_noteOutcome_85 : decode cX3_noteOutcome 85 = .ok (.dup, 1) := by decide +kernel
theorem dX3_noteOutcome_86 : decode cX3_noteOutcome 86 = .ok (.getfield 47, 3) := by decide +kernel
theorem dX3_noteOutcome_89 : decode cX3_noteOutcome 89 = .ok (.iconst 1, 1) := by decide +kernel
theorem dX3_noteOutcome_90 : decode cX3_noteOutcome 90 = .ok (.iadd, 1) := by decide +kernel
theorem dX3_noteOutcome_91 : decode cX3_noteOutcome 91 = .ok (.putfield 47, 3) := by decide +kernel
theorem dX3_noteOutcome_94 : decode cX3_noteOutcome 94 = .ok (.return_, 1) := by decide +kernel
theorem dX3_lessThan_0 : decode cX3_lessThan 0 = .ok (.iconst 0, 1) := by decide +kernel
theorem dX3_lessThan_1 : decode cX3_lessThan 1 = .ok (.istore_n 3, 1) := by decide +kernel
theorem dX3_lessThan_2 : decode cX3_lessThan 2 = .ok (.aload_n 0, 1) := by decide +kernel
theorem dX3_lessThan_3 : decode cX3_lessThan 3 = .ok (.getfield 47, 3) := by decide +kernel
theorem dX3_lessThan_6 : decode cX3_lessThan 6 = .ok (.istore 4, 2) := by decide +kernel
theorem dX3_lessThan_8 : decode cX3_lessThan 8 = .ok (.iconst 0, 1) := by decide +kernel
theorem dX3_lessThan_9 : decode cX3_lessThan 9 = .ok (.istore 5, 2) := by decide +kernel
theorem dX3_lessThan_11 : decode cX3_lessThan 11 = .ok (.iload_n 3, 1) := by decide +kernel
theorem dX3_lessThan_12 : decode cX3_lessThan 12 = .ok (.iload 4, 2) := by decide +kernel
theorem dX3_lessThan_14 : decode cX3_lessThan 14 = .ok (.if_icmp .ge 49, 3) := by decide +kernel
theorem dX3_lessThan_17 : decode cX3_lessThan 17 = .ok (.iload 5, 2) := by decide +kernel
theorem dX3_lessThan_19 : decode cX3_lessThan 19 = .ok (.sipush 3000, 3) := by decide +kernel
theorem dX3_lessThan_22 : decode cX3_lessThan 22 = .ok (.if_icmp .ge 41, 3) := by decide +kernel
theorem dX3_lessThan_25 : decode cX3_lessThan 25 = .ok (.iload_n 3, 1) := by decide +kernel
theorem dX3_lessThan_26 : decode cX3_lessThan 26 = .ok (.iload 4, 2) := by decide +kernel
theorem dX3_lessThan_28 : decode cX3_lessThan 28 = .ok (.iadd, 1) := by decide +kernel
theorem dX3_lessThan_29 : decode cX3_lessThan 29 = .ok (.iconst 2, 1) := by decide +kernel
theorem dX3_lessThan_30 : decode cX3_lessThan 30 = .ok (.idiv, 1) := by decide +kernel
theorem dX3_lessThan_31 : decode cX3_lessThan 31 = .ok (.istore 6, 2) := by decide +kernel
theorem dX3_lessThan_33 : decode cX3_lessThan 33 = .ok (.aload_n 0, 1) := by decide +kernel
theorem dX3_lessThan_34 : decode cX3_lessThan 34 = .ok (.getfield 22, 3) := by decide +kernel
theorem dX3_lessThan_37 : decode cX3_lessThan 37 = .ok (.iload 6, 2) := by decide +kernel
theorem dX3_lessThan_39 : decode cX3_lessThan 39 = .ok (.laload, 1) := by decide +kernel
theorem dX3_lessThan_40 : decode cX3_lessThan 40 = .ok (.lload_n 1, 1) := by decide +kernel
theorem dX3_lessThan_41 : decode cX3_lessThan 41 = .ok (.lcmp, 1) := by decide +kernel
theorem dX3_lessThan_42 : decode cX3_lessThan 42 = .ok (.ifCond .ge 11, 3) := by decide +kernel
theorem dX3_lessThan_45 : decode cX3_lessThan 45 = .ok (.iload 6, 2) := by decide +kernel
theorem dX3_lessThan_47 : decode cX3_lessThan 47 = .ok (.iconst 1, 1) := by decide +kernel
theorem dX3_lessThan_48 : decode cX3_lessThan 48 = .ok (.iadd, 1) := by decide +kernel
theorem dX3_lessThan_49 : decode cX3_lessThan 49 = .ok (.istore_n 3, 1) := by decide +kernel
theorem dX3_lessThan_50 : decode cX3_lessThan 50 = .ok (.goto 7, 3) := by decide +kernel
theorem dX3_lessThan_53 : decode cX3_lessThan 53 = .ok (.iload 6, 2) := by decide +kernel
theorem dX3_lessThan_55 : decode cX3_lessThan 55 = .ok (.istore 4, 2) := by decide +kernel
theorem dX3_lessThan_57 : decode cX3_lessThan 57 = .ok (.iinc 5 1, 3) := by decide +kernel
theorem dX3_lessThan_60 : decode cX3_lessThan 60 = .ok (.goto (-49), 3) := by decide +kernel
theorem dX3_lessThan_63 : decode cX3_lessThan 63 = .ok (.iload_n 3, 1) := by decide +kernel
theorem dX3_lessThan_64 : decode cX3_lessThan 64 = .ok (.ireturn, 1) := by decide +kernel
theorem dX3_outcomeAt_0 : decode cX3_outcomeAt 0 = .ok (.iload_n 1, 1) := by decide +kernel
theorem dX3_outcomeAt_1 : decode cX3_outcomeAt 1 = .ok (.ifCond .lt 20, 3) := by decide +kernel
theorem dX3_outcomeAt_4 : decode cX3_outcomeAt 4 = .ok (.iload_n 1, 1) := by decide +kernel
theorem dX3_outcomeAt_5 : decode cX3_outcomeAt 5 = .ok (.aload_n 0, 1) := by decide +kernel
theorem dX3_outcomeAt_6 : decode cX3_outcomeAt 6 = .ok (.getfield 47, 3) := by decide +kernel
theorem dX3_outcomeAt_9 : decode cX3_outcomeAt 9 = .ok (.if_icmp .ge 12, 3) := by decide +kernel
theorem dX3_outcomeAt_12 : decode cX3_outcomeAt 12 = .ok (.aload_n 0, 1) := by decide +kernel
theorem dX3_outcomeAt_13 : decode cX3_outcomeAt 13 = .ok (.getfield 22, 3) := by decide +kernel
theorem dX3_outcomeAt_16 : decode cX3_outcomeAt 16 = .ok (.iload_n 1, 1) := by decide +kernel
theorem dX3_outcomeAt_17 : decode cX3_outcomeAt 17 = .ok (.laload, 1) := by decide +kernel
theorem dX3_outcomeAt_18 : decode cX3_outcomeAt 18 = .ok (.goto 6, 3) := by decide +kernel
theorem dX3_outcomeAt_21 : decode cX3_outcomeAt 21 = .ok (.ldc2_w 124, 3) := by decide +kernel
theorem dX3_outcomeAt_24 : decode cX3_outcomeAt 24 = .ok (.lreturn, 1) := by decide +kernel
theorem dX4_init_0 : decode cX4_init 0 = .ok (.aload_n 0, 1) := by decide +kernel
theorem dX4_init_1 : decode cX4_init 1 = .ok (.invokespecial 3, 3) := by decide +kernel
theorem dX4_init_4 : decode cX4_init 4 = .ok (.aload_n 0, 1) := by decide +kernel
theorem dX4_init_5 : decode cX4_init 5 = .ok (.bipush 64, 2) := by decide +kernel
theorem dX4_init_7 : decode cX4_init 7 = .ok (.invokestatic 11, 3) := by decide +kernel
theorem dX4_init_10 : decode cX4_init 10 = .ok (.iconst 4, 1) := by decide +kernel
theorem dX4_init_11 : decode cX4_init 11 = .ok (.imul, 1) := by decide +kernel
theorem dX4_init_12 : decode cX4_init 12 = .ok (.newarray .long, 2) := by decide +kernel
theorem dX4_init_14 : decode cX4_init 14 = .ok (.putfield 15, 3) := by decide +kernel
theorem dX4_init_17 : decode cX4_init 17 = .ok (.aload_n 0, 1) := by decide +kernel
theorem dX4_init_18 : decode cX4_init 18 = .ok (.bipush 64, 2) := by decide +kernel
theorem dX4_init_20 : decode cX4_init 20 = .ok (.newarray .int, 2) := by decide +kernel
theorem dX4_init_22 : decode cX4_init 22 = .ok (.putfield 19, 3) := by decide +kernel
theorem dX4_init_25 : decode cX4_init 25 = .ok (.return_, 1) := by decide +kernel
theorem dX4_clear_0 : decode cX4_clear 0 = .ok (.aload_n 0, 1) := by decide +kernel
theorem dX4_clear_1 : decode cX4_clear 1 = .ok (.iconst 0, 1) := by decide +kernel
theorem dX4_clear_2 : decode cX4_clear 2 = .ok (.putfield 23, 3) := by decide +kernel
theorem dX4_clear_5 : decode cX4_clear 5 = .ok (.aload_n 0, 1) := by decide +kernel
theorem dX4_clear_6 : decode cX4_clear 6 = .ok (.getfield 19, 3) := by decide +kernel
theorem dX4_clear_9 : decode cX4_clear 9 = .ok (.iconst 0, 1) := by decide +kernel
theorem dX4_clear_10 : decode cX4_clear 10 = .ok (.invokestatic 27, 3) := by decide +kernel
theorem dX4_clear_13 : decode cX4_clear 13 = .ok (.return_, 1) := by decide +kernel
theorem dX4_size_0 : decode cX4_size 0 = .ok (.aload_n 0, 1) := by decide +kernel
theorem dX4_size_1 : decode cX4_size 1 = .ok (.getfield 23, 3) := by decide +kernel
theorem dX4_size_4 : decode cX4_size 4 = .ok (.ireturn, 1) := by decide +kernel
theorem dX4_keep_0 : decode cX4_keep 0 = .ok (.aload_n 0, 1) := by decide +kernel
theorem dX4_keep_1 : decode cX4_keep 1 = .ok (.getfield 23, 3) := by decide +kernel
theorem dX4_keep_4 : decode cX4_keep 4 = .ok (.aload_n 0, 1) := by decide +kernel
theorem dX4_keep_5 : decode cX4_keep 5 = .ok (.getfield 19, 3) := by decide +kernel
theorem dX4_keep_8 : decode cX4_keep 8 = .ok (.arraylength, 1) := by decide +kernel
theorem dX4_keep_9 : decode cX4_keep 9 = .ok (.invokestatic 11, 3) := by decide +kernel
theorem dX4_keep_12 : decode cX4_keep 12 = .ok (.if_icmp .lt 7, 3) := by decide +kernel
theorem dX4_keep_15 : decode cX4_keep 15 = .ok (.aload_n 0, 1) := by decide +kernel
theorem dX4_keep_16 : decode cX4_keep 16 = .ok (.invokevirtual 33, 3) := by decide +kernel
theorem dX4_keep_19 : decode cX4_keep 19 = .ok (.iconst 0, 1) := by decide +kernel
theorem dX4_keep_20 : decode cX4_keep 20 = .ok (.istore_n 2, 1) := by decide +kernel
theorem dX4_keep_21 : decode cX4_keep 21 = .ok (.iload_n 2, 1) := by decide +kernel
theorem dX4_keep_22 : decode cX4_keep 22 = .ok (.iconst 4, 1) := by decide +kernel
theorem dX4_keep_23 : decode cX4_keep 23 = .ok (.if_icmp .ge 27, 3) := by decide +kernel
theorem dX4_keep_26 : decode cX4_keep 26 = .ok (.aload_n 0, 1) := by decide +kernel
theorem dX4_keep_27 : decode cX4_keep 27 = .ok (.getfield 15, 3) := by decide +kernel
theorem dX4_keep_30 : decode cX4_keep 30 = .ok (.aload_n 0, 1) := by decide +kernel
theorem dX4_keep_31 : decode cX4_keep 31 = .ok (.getfield 23, 3) := by decide +kernel
theorem dX4_keep_34 : decode cX4_keep 34 = .ok (.iconst 4, 1) := by decide +kernel
theorem dX4_keep_35 : decode cX4_keep 35 = .ok (.imul, 1) := by decide +kernel
theorem dX4_keep_36 : decode cX4_keep 36 = .ok (.iload_n 2, 1) := by decide +kernel
theorem dX4_keep_37 : decode cX4_keep 37 = .ok (.iadd, 1) := by decide +kernel
theorem dX4_keep_38 : decode cX4_keep 38 = .ok (.aload_n 1, 1) := by decide +kernel
theorem dX4_keep_39 : decode cX4_keep 39 = .ok (.iload_n 2, 1) := by decide +kernel
theorem dX4_keep_40 : decode cX4_keep 40 = .ok (.invokevirtual 36, 3) := by decide +kernel
theorem dX4_keep_43 : decode cX4_keep 43 = .ok (.lastore, 1) := by decide +kernel
theorem dX4_keep_44 : decode cX4_keep 44 = .ok (.iinc 2 1, 3) := by decide +kernel
theorem dX4_keep_47 : decode cX4_keep 47 = .ok (.goto (-26), 3) := by decide +kernel
theorem dX4_keep_50 : decode cX4_keep 50 = .ok (.aload_n 0, 1) := by decide +kernel
theorem dX4_keep_51 : decode cX4_keep 51 = .ok (.aload_n 0, 1) := by decide +kernel
theorem dX4_keep_52 : decode cX4_keep 52 = .ok (.getfield 23, 3) := by decide +kernel
theorem dX4_keep_55 : decode cX4_keep 55 = .ok (.invokevirtual 42, 3) := by decide +kernel
theorem dX4_keep_58 : decode cX4_keep 58 = .ok (.istore_n 2, 1) := by decide +kernel
theorem dX4_keep_59 : decode cX4_keep 59 = .ok (.aload_n 0, 1) := by decide +kernel
theorem dX4_keep_60 : decode cX4_keep 60 = .ok (.getfield 19, 3) := by decide +kernel
theorem dX4_keep_63 : decode cX4_keep 63 = .ok (.iload_n 2, 1) := by decide +kernel
theorem dX4_keep_64 : decode cX4_keep 64 = .ok (.iaload, 1) := by decide +kernel
theorem dX4_keep_65 : decode cX4_keep 65 = .ok (.ifCond .eq 5, 3) := by decide +kernel
theorem dX4_keep_68 : decode cX4_keep 68 = .ok (.iconst 1, 1) := by decide +kernel
theorem dX4_keep_69 : decode cX4_keep 69 = .ok (.ireturn, 1) := by decide +kernel
theorem dX4_keep_70 : decode cX4_keep 70 = .ok (.aload_n 0, 1) := by decide +kernel
theorem dX4_keep_71 : decode cX4_keep 71 = .ok (.getfield 23, 3) := by decide +kernel
theorem dX4_keep_74 : decode cX4_keep 74 = .ok (.sipush 3000, 3) := by decide +kernel
theorem dX4_keep_77 : decode cX4_keep 77 = .ok (.if_icmp .lt 5, 3) := by decide +kernel
theorem dX4_keep_80 : decode cX4_keep 80 = .ok (.iconst 0, 1) := by decide +kernel
theorem dX4_keep_81 : decode cX4_keep 81 = .ok (.ireturn, 1) := by decide +kernel
theorem dX4_keep_82 : decode cX4_keep 82 = .ok (.aload_n 0, 1) := by decide +kernel
theorem dX4_keep_83 : decode cX4_keep 83 = .ok (.dup, 1) := by decide +kernel
theorem dX4_keep_84 : decode cX4_keep 84 = .ok (.getfield 23, 3) := by decide +kernel
theorem dX4_keep_87 : decode cX4_keep 87 = .ok (.iconst 1, 1) := by decide +kernel
theorem dX4_keep_88 : decode cX4_keep 88 = .ok (.iadd, 1) := by decide +kernel
theorem dX4_keep_89 : decode cX4_keep 89 = .ok (.putfield 23, 3) := by decide +kernel
theorem dX4_keep_92 : decode cX4_keep 92 = .ok (.aload_n 0, 1) := by decide +kernel
theorem dX4_keep_93 : decode cX4_keep 93 = .ok (.getfield 19, 3) := by decide +kernel
theorem dX4_keep_96 : decode cX4_keep 96 = .ok (.iload_n 2, 1) := by decide +kernel
theorem dX4_keep_97 : decode cX4_keep 97 = .ok (.aload_n 0, 1) := by decide +kernel
theorem dX4_keep_98 : decode cX4_keep 98 = .ok (.getfield 23, 3) := by decide +kernel
theorem dX4_keep_101 : decode cX4_keep 101 = .ok (.iastore, 1) := by decide +kernel
theorem dX4_keep_102 : decode cX4_keep 102 = .ok (.iconst 1, 1) := by decide +kernel
theorem dX4_keep_103 : decode cX4_keep 103 = .ok (.ireturn, 1) := by decide +kernel
theorem dX4_restore_0 : decode cX4_restore 0 = .ok (.iconst 0, 1) := by decide +kernel
theorem dX4_restore_1 : decode cX4_restore 1 = .ok (.istore_n 3, 1) := by decide +kernel
theorem dX4_restore_2 : decode cX4_restore 2 = .ok (.iload_n 3, 1) := by decide +kernel
theorem dX4_restore_3 : decode cX4_restore 3 = .ok (.iconst 4, 1) := by decide +kernel
theorem dX4_restore_4 : decode cX4_restore 4 = .ok (.if_icmp .ge 24, 3) := by decide +kernel
theorem dX4_restore_7 : decode cX4_restore 7 = .ok (.aload_n 2, 1) := by decide +kernel
theorem dX4_restore_8 : decode cX4_restore 8 = .ok (.iload_n 3, 1) := by decide +kernel
theorem dX4_restore_9 : decode cX4_restore 9 = .ok (.aload_n 0, 1) := by decide +kernel
theorem dX4_restore_10 : decode cX4_restore 10 = .ok (.getfield 15, 3) := by decide +kernel
theorem dX4_restore_13 : decode cX4_restore 13 = .ok (.iload_n 1, 1) := by decide +kernel
theorem dX4_restore_14 : decode cX4_restore 14 = .ok (.iconst 4, 1) := by decide +kernel
theorem dX4_restore_15 : decode cX4_restore 15 = .ok (.imul, 1) := by decide +kernel
theorem dX4_restore_16 : decode cX4_restore 16 = .ok (.iload_n 3, 1) := by decide +kernel
theorem dX4_restore_17 : decode cX4_restore 17 = .ok (.iadd, 1) := by decide +kernel
theorem dX4_restore_18 : decode cX4_restore 18 = .ok (.laload, 1) := by decide +kernel
theorem dX4_restore_19 : decode cX4_restore 19 = .ok (.invokevirtual 45, 3) := by decide +kernel
theorem dX4_restore_22 : decode cX4_restore 22 = .ok (.iinc 3 1, 3) := by decide +kernel
theorem dX4_restore_25 : decode cX4_restore 25 = .ok (.goto (-23), 3) := by decide +kernel
theorem dX4_restore_28 : decode cX4_restore 28 = .ok (.return_, 1) := by decide +kernel
theorem dX4_roomIn_0 : decode cX4_roomIn 0 = .ok (.iload_n 0, 1) := by decide +kernel
theorem dX4_roomIn_1 : decode cX4_roomIn 1 = .ok (.iconst 4, 1) := by decide +kernel
theorem dX4_roomIn_2 : decode cX4_roomIn 2 = .ok (.idiv, 1) := by decide +kernel
theorem dX4_roomIn_3 : decode cX4_roomIn 3 = .ok (.iconst 3, 1) := by decide +kernel
theorem dX4_roomIn_4 : decode cX4_roomIn 4 = .ok (.imul, 1) := by decide +kernel
theorem dX4_roomIn_5 : decode cX4_roomIn 5 = .ok (.ireturn, 1) := by decide +kernel
theorem dX4_grow_0 : decode cX4_grow 0 = .ok (.aload_n 0, 1) := by decide +kernel
theorem dX4_grow_1 : decode cX4_grow 1 = .ok (.aload_n 0, 1) := by decide +kernel
theorem dX4_grow_2 : decode cX4_grow 2 = .ok (.getfield 19, 3) := by decide +kernel
theorem dX4_grow_5 : decode cX4_grow 5 = .ok (.arraylength, 1) := by decide +kernel
theorem dX4_grow_6 : decode cX4_grow 6 = .ok (.iconst 4, 1) := by decide +kernel
theorem dX4_grow_7 : decode cX4_grow 7 = .ok (.imul, 1) := by decide +kernel
theorem dX4_grow_8 : decode cX4_grow 8 = .ok (.newarray .int, 2) := by decide +kernel
theorem dX4_grow_10 : decode cX4_grow 10 = .ok (.putfield 19, 3) := by decide +kernel
theorem dX4_grow_13 : decode cX4_grow 13 = .ok (.aload_n 0, 1) := by decide +kernel
theorem dX4_grow_14 : decode cX4_grow 14 = .ok (.aload_n 0, 1) := by decide +kernel
theorem dX4_grow_15 : decode cX4_grow 15 = .ok (.getfield 15, 3) := by decide +kernel
theorem dX4_grow_18 : decode cX4_grow 18 = .ok (.aload_n 0, 1) := by decide +kernel
theorem dX4_grow_19 : decode cX4_grow 19 = .ok (.getfield 19, 3) := by decide +kernel
theorem dX4_grow_22 : decode cX4_grow 22 = .ok (.arraylength, 1) := by decide +kernel
theorem dX4_grow_23 : decode cX4_grow 23 = .ok (.invokestatic 11, 3) := by decide +kernel
theorem dX4_grow_26 : decode cX4_grow 26 = .ok (.iconst 4, 1) := by decide +kernel
theorem dX4_grow_27 : decode cX4_grow 27 = .ok (.imul, 1) := by decide +kernel
theorem dX4_grow_28 : decode cX4_grow 28 = .ok (.invokestatic 49, 3) := by decide +kernel
theorem dX4_grow_31 : decode cX4_grow 31 = .ok (.putfield 15, 3) := by decide +kernel
theorem dX4_grow_34 : decode cX4_grow 34 = .ok (.iconst 0, 1) := by decide +kernel
theorem dX4_grow_35 : decode cX4_grow 35 = .ok (.istore_n 1, 1) := by decide +kernel
theorem dX4_grow_36 : decode cX4_grow 36 = .ok (.iload_n 1, 1) := by decide +kernel
theorem dX4_grow_37 : decode cX4_grow 37 = .ok (.aload_n 0, 1) := by decide +kernel
theorem dX4_grow_38 : decode cX4_grow 38 = .ok (.getfield 23, 3) := by decide +kernel
theorem dX4_grow_41 : decode cX4_grow 41 = .ok (.if_icmp .ge 22, 3) := by decide +kernel
theorem dX4_grow_44 : decode cX4_grow 44 = .ok (.aload_n 0, 1) := by decide +kernel
theorem dX4_grow_45 : decode cX4_grow 45 = .ok (.getfield 19, 3) := by decide +kernel
theorem dX4_grow_48 : decode cX4_grow 48 = .ok (.aload_n 0, 1) := by decide +kernel
theorem dX4_grow_49 : decode cX4_grow 49 = .ok (.iload_n 1, 1) := by decide +kernel
theorem dX4_grow_50 : decode cX4_grow 50 = .ok (.invokevirtual 42, 3) := by decide +kernel
theorem dX4_grow_53 : decode cX4_grow 53 = .ok (.iload_n 1, 1) := by decide +kernel
theorem dX4_grow_54 : decode cX4_grow 54 = .ok (.iconst 1, 1) := by decide +kernel
theorem dX4_grow_55 : decode cX4_grow 55 = .ok (.iadd, 1) := by decide +kernel
theorem dX4_grow_56 : decode cX4_grow 56 = .ok (.iastore, 1) := by decide +kernel
theorem dX4_grow_57 : decode cX4_grow 57 = .ok (.iinc 1 1, 3) := by decide +kernel
theorem dX4_grow_60 : decode cX4_grow 60 = .ok (.goto (-24), 3) := by decide +kernel
theorem dX4_grow_63 : decode cX4_grow 63 = .ok (.return_, 1) := by decide +kernel
theorem dX4_slotOf_0 : decode cX4_slotOf 0 = .ok (.aload_n 0, 1) := by decide +kernel
theorem dX4_slotOf_1 : decode cX4_slotOf 1 = .ok (.getfield 19, 3) := by decide +kernel
theorem dX4_slotOf_4 : decode cX4_slotOf 4 = .ok (.arraylength, 1) := by decide +kernel
theorem dX4_slotOf_5 : decode cX4_slotOf 5 = .ok (.iconst 1, 1) := by decide +kernel
theorem dX4_slotOf_6 : decode cX4_slotOf 6 = .ok (.isub, 1) := by decide +kernel
theorem dX4_slotOf_7 : decode cX4_slotOf 7 = .ok (.istore_n 2, 1) := by decide +kernel
theorem dX4_slotOf_8 : decode cX4_slotOf 8 = .ok (.aload_n 0, 1) := by decide +kernel
theorem dX4_slotOf_9 : decode cX4_slotOf 9 = .ok (.iload_n 1, 1) := by decide +kernel
theorem dX4_slotOf_10 : decode cX4_slotOf 10 = .ok (.invokevirtual 53, 3) := by decide +kernel
theorem dX4_slotOf_13 : decode cX4_slotOf 13 = .ok (.iload_n 2, 1) := by decide +kernel
theorem dX4_slotOf_14 : decode cX4_slotOf 14 = .ok (.iand, 1) := by decide +kernel
theorem dX4_slotOf_15 : decode cX4_slotOf 15 = .ok (.istore_n 3, 1) := by decide +kernel
theorem dX4_slotOf_16 : decode cX4_slotOf 16 = .ok (.iconst 0, 1) := by decide +kernel
theorem dX4_slotOf_17 : decode cX4_slotOf 17 = .ok (.istore 4, 2) := by decide +kernel
theorem dX4_slotOf_19 : decode cX4_slotOf 19 = .ok (.iload 4, 2) := by decide +kernel
theorem dX4_slotOf_21 : decode cX4_slotOf 21 = .ok (.aload_n 0, 1) := by decide +kernel
theorem dX4_slotOf_22 : decode cX4_slotOf 22 = .ok (.getfield 19, 3) := by decide +kernel
theorem dX4_slotOf_25 : decode cX4_slotOf 25 = .ok (.arraylength, 1) := by decide +kernel
theorem dX4_slotOf_26 : decode cX4_slotOf 26 = .ok (.if_icmp .ge 43, 3) := by decide +kernel
theorem dX4_slotOf_29 : decode cX4_slotOf 29 = .ok (.aload_n 0, 1) := by decide +kernel
theorem dX4_slotOf_30 : decode cX4_slotOf 30 = .ok (.getfield 19, 3) := by decide +kernel
theorem dX4_slotOf_33 : decode cX4_slotOf 33 = .ok (.iload_n 3, 1) := by decide +kernel
theorem dX4_slotOf_34 : decode cX4_slotOf 34 = .ok (.iaload, 1) := by decide +kernel
theorem dX4_slotOf_35 : decode cX4_slotOf 35 = .ok (.ifCond .eq 34, 3) := by decide +kernel
theorem dX4_slotOf_38 : decode cX4_slotOf 38 = .ok (.aload_n 0, 1) := by decide +kernel
theorem dX4_slotOf_39 : decode cX4_slotOf 39 = .ok (.aload_n 0, 1) := by decide +kernel
theorem dX4_slotOf_40 : decode cX4_slotOf 40 = .ok (.getfield 19, 3) := by decide +kernel
theorem dX4_slotOf_43 : decode cX4_slotOf 43 = .ok (.iload_n 3, 1) := by decide +kernel
theorem dX4_slotOf_44 : decode cX4_slotOf 44 = .ok (.iaload, 1) := by decide +kernel
theorem dX4_slotOf_45 : decode cX4_slotOf 45 = .ok (.iconst 1, 1) := by decide +kernel
theorem dX4_slotOf_46 : decode cX4_slotOf 46 = .ok (.isub, 1) := by decide +kernel
theorem dX4_slotOf_47 : decode cX4_slotOf 47 = .ok (.iload_n 1, 1) := by decide +kernel
theorem dX4_slotOf_48 : decode cX4_slotOf 48 = .ok (.invokevirtual 56, 3) := by decide +kernel
theorem dX4_slotOf_51 : decode cX4_slotOf 51 = .ok (.ifCond .eq 6, 3) := by decide +kernel
theorem dX4_slotOf_54 : decode cX4_slotOf 54 = .ok (.goto 15, 3) := by decide +kernel
theorem dX4_slotOf_57 : decode cX4_slotOf 57 = .ok (.iload_n 3, 1) := by decide +kernel
theorem dX4_slotOf_58 : decode cX4_slotOf 58 = .ok (.iconst 1, 1) := by decide +kernel
theorem dX4_slotOf_59 : decode cX4_slotOf 59 = .ok (.iadd, 1) := by decide +kernel
theorem dX4_slotOf_60 : decode cX4_slotOf 60 = .ok (.iload_n 2, 1) := by decide +kernel
theorem dX4_slotOf_61 : decode cX4_slotOf 61 = .ok (.iand, 1) := by decide +kernel
theorem dX4_slotOf_62 : decode cX4_slotOf 62 = .ok (.istore_n 3, 1) := by decide +kernel
theorem dX4_slotOf_63 : decode cX4_slotOf 63 = .ok (.iinc 4 1, 3) := by decide +kernel
theorem dX4_slotOf_66 : decode cX4_slotOf 66 = .ok (.goto (-47), 3) := by decide +kernel
theorem dX4_slotOf_69 : decode cX4_slotOf 69 = .ok (.iload_n 3, 1) := by decide +kernel
theorem dX4_slotOf_70 : decode cX4_slotOf 70 = .ok (.ireturn, 1) := by decide +kernel
theorem dX4_hashOf_0 : decode cX4_hashOf 0 = .ok (.lconst 0, 1) := by decide +kernel
theorem dX4_hashOf_1 : decode cX4_hashOf 1 = .ok (.lstore_n 2, 1) := by decide +kernel
theorem dX4_hashOf_2 : decode cX4_hashOf 2 = .ok (.iconst 0, 1) := by decide +kernel
theorem dX4_hashOf_3 : decode cX4_hashOf 3 = .ok (.istore 4, 2) := by decide +kernel
theorem dX4_hashOf_5 : decode cX4_hashOf 5 = .ok (.iload 4, 2) := by decide +kernel
theorem dX4_hashOf_7 : decode cX4_hashOf 7 = .ok (.iconst 4, 1) := by decide +kernel
theorem dX4_hashOf_8 : decode cX4_hashOf 8 = .ok (.if_icmp .ge 34, 3) := by decide +kernel
theorem dX4_hashOf_11 : decode cX4_hashOf 11 = .ok (.lload_n 2, 1) := by decide +kernel
theorem dX4_hashOf_12 : decode cX4_hashOf 12 = .ok (.aload_n 0, 1) := by decide +kernel
theorem dX4_hashOf_13 : decode cX4_hashOf 13 = .ok (.getfield 15, 3) := by decide +kernel
theorem dX4_hashOf_16 : decode cX4_hashOf 16 = .ok (.iload_n 1, 1) := by decide +kernel
theorem dX4_hashOf_17 : decode cX4_hashOf 17 = .ok (.iconst 4, 1) := by decide +kernel
theorem dX4_hashOf_18 : decode cX4_hashOf 18 = .ok (.imul, 1) := by decide +kernel
theorem dX4_hashOf_19 : decode cX4_hashOf 19 = .ok (.iload 4, 2) := by decide +kernel
theorem dX4_hashOf_21 : decode cX4_hashOf 21 = .ok (.iadd, 1) := by decide +kernel
theorem dX4_hashOf_22 : decode cX4_hashOf 22 = .ok (.laload, 1) := by decide +kernel
theorem dX4_hashOf_23 : decode cX4_hashOf 23 = .ok (.lxor, 1) := by decide +kernel
theorem dX4_hashOf_24 : decode cX4_hashOf 24 = .ok (.ldc2_w 60, 3) := by decide +kernel
theorem dX4_hashOf_27 : decode cX4_hashOf 27 = .ok (.lmul, 1) := by decide +kernel
theorem dX4_hashOf_28 : decode cX4_hashOf 28 = .ok (.lstore_n 2, 1) := by decide +kernel
theorem dX4_hashOf_29 : decode cX4_hashOf 29 = .ok (.lload_n 2, 1) := by decide +kernel
theorem dX4_hashOf_30 : decode cX4_hashOf 30 = .ok (.lload_n 2, 1) := by decide +kernel
theorem dX4_hashOf_31 : decode cX4_hashOf 31 = .ok (.bipush 32, 2) := by decide +kernel
theorem dX4_hashOf_33 : decode cX4_hashOf 33 = .ok (.lushr, 1) := by decide +kernel
theorem dX4_hashOf_34 : decode cX4_hashOf 34 = .ok (.lxor, 1) := by decide +kernel
theorem dX4_hashOf_35 : decode cX4_hashOf 35 = .ok (.lstore_n 2, 1) := by decide +kernel
theorem dX4_hashOf_36 : decode cX4_hashOf 36 = .ok (.iinc 4 1, 3) := by decide +kernel
theorem dX4_hashOf_39 : decode cX4_hashOf 39 = .ok (.goto (-34), 3) := by decide +kernel
theorem dX4_hashOf_42 : decode cX4_hashOf 42 = .ok (.lload_n 2, 1) := by decide +kernel
theorem dX4_hashOf_43 : decode cX4_hashOf 43 = .ok (.l2i, 1) := by decide +kernel
theorem dX4_hashOf_44 : decode cX4_hashOf 44 = .ok (.ireturn, 1) := by decide +kernel
theorem dX4_areSame_0 : decode cX4_areSame 0 = .ok (.iconst 0, 1) := by decide +kernel
theorem dX4_areSame_1 : decode cX4_areSame 1 = .ok (.istore_n 3, 1) := by decide +kernel
theorem dX4_areSame_2 : decode cX4_areSame 2 = .ok (.iload_n 3, 1) := by decide +kernel
theorem dX4_areSame_3 : decode cX4_areSame 3 = .ok (.iconst 4, 1) := by decide +kernel
theorem dX4_areSame_4 : decode cX4_areSame 4 = .ok (.if_icmp .ge 35, 3) := by decide +kernel
theorem dX4_areSame_7 : decode cX4_areSame 7 = .ok (.aload_n 0, 1) := by decide +kernel
theorem dX4_areSame_8 : decode cX4_areSame 8 = .ok (.getfield 15, 3) := by decide +kernel
theorem dX4_areSame_11 : decode cX4_areSame 11 = .ok (.iload_n 1, 1) := by decide +kernel
theorem dX4_areSame_12 : decode cX4_areSame 12 = .ok (.iconst 4, 1) := by decide +kernel
theorem dX4_areSame_13 : decode cX4_areSame 13 = .ok (.imul, 1) := by decide +kernel
theorem dX4_areSame_14 : decode cX4_areSame 14 = .ok (.iload_n 3, 1) := by decide +kernel
theorem dX4_areSame_15 : decode cX4_areSame 15 = .ok (.iadd, 1) := by decide +kernel
theorem dX4_areSame_16 : decode cX4_areSame 16 = .ok (.laload, 1) := by decide +kernel
theorem dX4_areSame_17 : decode cX4_areSame 17 = .ok (.aload_n 0, 1) := by decide +kernel
theorem dX4_areSame_18 : decode cX4_areSame 18 = .ok (.getfield 15, 3) := by decide +kernel
theorem dX4_areSame_21 : decode cX4_areSame 21 = .ok (.iload_n 2, 1) := by decide +kernel
theorem dX4_areSame_22 : decode cX4_areSame 22 = .ok (.iconst 4, 1) := by decide +kernel
theorem dX4_areSame_23 : decode cX4_areSame 23 = .ok (.imul, 1) := by decide +kernel
theorem dX4_areSame_24 : decode cX4_areSame 24 = .ok (.iload_n 3, 1) := by decide +kernel
theorem dX4_areSame_25 : decode cX4_areSame 25 = .ok (.iadd, 1) := by decide +kernel
theorem dX4_areSame_26 : decode cX4_areSame 26 = .ok (.laload, 1) := by decide +kernel
theorem dX4_areSame_27 : decode cX4_areSame 27 = .ok (.lcmp, 1) := by decide +kernel
theorem dX4_areSame_28 : decode cX4_areSame 28 = .ok (.ifCond .eq 5, 3) := by decide +kernel
theorem dX4_areSame_31 : decode cX4_areSame 31 = .ok (.iconst 0, 1) := by decide +kernel
theorem dX4_areSame_32 : decode cX4_areSame 32 = .ok (.ireturn, 1) := by decide +kernel
theorem dX4_areSame_33 : decode cX4_areSame 33 = .ok (.iinc 3 1, 3) := by decide +kernel
theorem dX4_areSame_36 : decode cX4_areSame 36 = .ok (.goto (-34), 3) := by decide +kernel
theorem dX4_areSame_39 : decode cX4_areSame 39 = .ok (.iconst 1, 1) := by decide +kernel
theorem dX4_areSame_40 : decode cX4_areSame 40 = .ok (.ireturn, 1) := by decide +kernel
end
section
theorem dX7_init_0 : decode cX7_init 0 = .ok (.aload_n 0, 1) := by decide +kernel
theorem dX7_init_1 : decode cX7_init 1 = .ok (.invokespecial 1, 3) := by decide +kernel
theorem dX7_init_4 : decode cX7_init 4 = .ok (.aload_n 0, 1) := by decide +kernel
theorem dX7_init_5 : decode cX7_init 5 = .ok (.bipush 24, 2) := by decide +kernel
theorem dX7_init_7 : decode cX7_init 7 = .ok (.newarray .int, 2) := by decide +kernel
theorem dX7_init_9 : decode cX7_init 9 = .ok (.putfield 7, 3) := by decide +kernel
theorem dX7_init_12 : decode cX7_init 12 = .ok (.aload_n 0, 1) := by decide +kernel
theorem dX7_init_13 : decode cX7_init 13 = .ok (.bipush 24, 2) := by decide +kernel
theorem dX7_init_15 : decode cX7_init 15 = .ok (.newarray .int, 2) := by decide +kernel
theorem dX7_init_17 : decode cX7_init 17 = .ok (.putfield 13, 3) := by decide +kernel
theorem dX7_init_20 : decode cX7_init 20 = .ok (.aload_n 0, 1) := by decide +kernel
theorem dX7_init_21 : decode cX7_init 21 = .ok (.iconst 4, 1) := by decide +kernel
theorem dX7_init_22 : decode cX7_init 22 = .ok (.newarray .int, 2) := by decide +kernel
theorem dX7_init_24 : decode cX7_init 24 = .ok (.putfield 16, 3) := by decide +kernel
theorem dX7_init_27 : decode cX7_init 27 = .ok (.aload_n 0, 1) := by decide +kernel
theorem dX7_init_28 : decode cX7_init 28 = .ok (.iconst 4, 1) := by decide +kernel
theorem dX7_init_29 : decode cX7_init 29 = .ok (.newarray .int, 2) := by decide +kernel
theorem dX7_init_31 : decode cX7_init 31 = .ok (.putfield 19, 3) := by decide +kernel
theorem dX7_init_34 : decode cX7_init 34 = .ok (.aload_n 0, 1) := by decide +kernel
theorem dX7_init_35 : decode cX7_init 35 = .ok (.iconst 4, 1) := by decide +kernel
theorem dX7_init_36 : decode cX7_init 36 = .ok (.newarray .int, 2) := by decide +kernel
theorem dX7_init_38 : decode cX7_init 38 = .ok (.putfield 22, 3) := by decide +kernel
theorem dX7_init_41 : decode cX7_init 41 = .ok (.aload_n 0, 1) := by decide +kernel
theorem dX7_init_42 : decode cX7_init 42 = .ok (.iconst 4, 1) := by decide +kernel
theorem dX7_init_43 : decode cX7_init 43 = .ok (.newarray .int, 2) := by decide +kernel
theorem dX7_init_45 : decode cX7_init 45 = .ok (.putfield 25, 3) := by decide +kernel
theorem dX7_init_48 : decode cX7_init 48 = .ok (.aload_n 0, 1) := by decide +kernel
theorem dX7_init_49 : decode cX7_init 49 = .ok (.iconst 4, 1) := by decide +kernel
theorem dX7_init_50 : decode cX7_init 50 = .ok (.newarray .int, 2) := by decide +kernel
theorem dX7_init_52 : decode cX7_init 52 = .ok (.putfield 28, 3) := by decide +kernel
theorem dX7_init_55 : decode cX7_init 55 = .ok (.aload_n 0, 1) := by decide +kernel
theorem dX7_init_56 : decode cX7_init 56 = .ok (.iconst 4, 1) := by decide +kernel
theorem dX7_init_57 : decode cX7_init 57 = .ok (.newarray .long, 2) := by decide +kernel
theorem dX7_init_59 : decode cX7_init 59 = .ok (.putfield 31, 3) := by decide +kernel
theorem dX7_init_62 : decode cX7_init 62 = .ok (.aload_n 0, 1) := by decide +kernel
theorem dX7_init_63 : decode cX7_init 63 = .ok (.iconst 4, 1) := by decide +kernel
theorem dX7_init_64 : decode cX7_init 64 = .ok (.newarray .boolean, 2) := by decide +kernel
theorem dX7_init_66 : decode cX7_init 66 = .ok (.putfield 35, 3) := by decide +kernel
theorem dX7_init_69 : decode cX7_init 69 = .ok (.aload_n 0, 1) := by decide +kernel
theorem dX7_init_70 : decode cX7_init 70 = .ok (.iconst 4, 1) := by decide +kernel
theorem dX7_init_71 : decode cX7_init 71 = .ok (.newarray .boolean, 2) := by decide +kernel
theorem dX7_init_73 : decode cX7_init 73 = .ok (.putfield 39, 3) := by decide +kernel
theorem dX7_init_76 : decode cX7_init 76 = .ok (.aload_n 0, 1) := by decide +kernel
theorem dX7_init_77 : decode cX7_init 77 = .ok (.iconst 4, 1) := by decide +kernel
theorem dX7_init_78 : decode cX7_init 78 = .ok (.newarray .boolean, 2) := by decide +kernel
theorem dX7_init_80 : decode cX7_init 80 = .ok (.putfield 42, 3) := by decide +kernel
theorem dX7_init_83 : decode cX7_init 83 = .ok (.aload_n 0, 1) := by decide +kernel
theorem dX7_init_84 : decode cX7_init 84 = .ok (.iconst 2, 1) := by decide +kernel
theorem dX7_init_85 : decode cX7_init 85 = .ok (.newarray .int, 2) := by decide +kernel
theorem dX7_init_87 : decode cX7_init 87 = .ok (.putfield 45, 3) := by decide +kernel
theorem dX7_init_90 : decode cX7_init 90 = .ok (.aload_n 0, 1) := by decide +kernel
theorem dX7_init_91 : decode cX7_init 91 = .ok (.iconst 2, 1) := by decide +kernel
theorem dX7_init_92 : decode cX7_init 92 = .ok (.newarray .int, 2) := by decide +kernel
theorem dX7_init_94 : decode cX7_init 94 = .ok (.putfield 48, 3) := by decide +kernel
theorem dX7_init_97 : decode cX7_init 97 = .ok (.aload_n 0, 1) := by decide +kernel
theorem dX7_init_98 : decode cX7_init 98 = .ok (.iconst 2, 1) := by decide +kernel
theorem dX7_init_99 : decode cX7_init 99 = .ok (.newarray .int, 2) := by decide +kernel
theorem dX7_init_101 : decode cX7_init 101 = .ok (.putfield 51, 3) := by decide +kernel
theorem dX7_init_104 : decode cX7_init 104 = .ok (.aload_n 0, 1) := by decide +kernel
theorem dX7_init_105 : decode cX7_init 105 = .ok (.bipush 8, 2) := by decide +kernel
theorem dX7_init_107 : decode cX7_init 107 = .ok (.newarray .int, 2) := by decide +kernel
theorem dX7_init_109 : decode cX7_init 109 = .ok (.putfield 54, 3) := by decide +kernel
theorem dX7_init_112 : decode cX7_init 112 = .ok (.aload_n 0, 1) := by decide +kernel
theorem dX7_init_113 : decode cX7_init 113 = .ok (.iconst 5, 1) := by decide +kernel
theorem dX7_init_114 : decode cX7_init 114 = .ok (.newarray .long, 2) := by decide +kernel
theorem dX7_init_116 : decode cX7_init 116 = .ok (.putfield 57, 3) := by decide +kernel
theorem dX7_init_119 : decode cX7_init 119 = .ok (.aload_n 0, 1) := by decide +kernel
theorem dX7_init_120 : decode cX7_init 120 = .ok (.sipush 15005, 3) := by decide +kernel
theorem dX7_init_123 : decode cX7_init 123 = .ok (.newarray .long, 2) := by decide +kernel
theorem dX7_init_125 : decode cX7_init 125 = .ok (.putfield 60, 3) := by decide +kernel
theorem dX7_init_128 : decode cX7_init 128 = .ok (.aload_n 0, 1) := by decide +kernel
theorem dX7_init_129 : decode cX7_init 129 = .ok (.sipush 3001, 3) := by decide +kernel
theorem dX7_init_132 : decode cX7_init 132 = .ok (.newarray .long, 2) := by decide +kernel
theorem dX7_init_134 : decode cX7_init 134 = .ok (.putfield 63, 3) := by decide +kernel
theorem dX7_init_137 : decode cX7_init 137 = .ok (.aload_n 0, 1) := by decide +kernel
theorem dX7_init_138 : decode cX7_init 138 = .ok (.iconst 4, 1) := by decide +kernel
theorem dX7_init_139 : decode cX7_init 139 = .ok (.newarray .boolean, 2) := by decide +kernel
theorem dX7_init_141 : decode cX7_init 141 = .ok (.putfield 66, 3) := by decide +kernel
theorem dX7_init_144 : decode cX7_init 144 = .ok (.aload_n 0, 1) := by decide +kernel
theorem dX7_init_145 : decode cX7_init 145 = .ok (.iload_n 1, 1) := by decide +kernel
theorem dX7_init_146 : decode cX7_init 146 = .ok (.iconst 1, 1) := by decide +kernel
theorem dX7_init_147 : decode cX7_init 147 = .ok (.if_icmp .ne 7, 3) := by decide +kernel
theorem dX7_init_150 : decode cX7_init 150 = .ok (.iconst 1, 1) := by decide +kernel
theorem dX7_init_151 : decode cX7_init 151 = .ok (.goto 4, 3) := by decide +kernel
theorem dX7_init_154 : decode cX7_init 154 = .ok (.iconst 0, 1) := by decide +kernel
theorem dX7_init_155 : decode cX7_init 155 = .ok (.putfield 69, 3) := by decide +kernel
theorem dX7_init_158 : decode cX7_init 158 = .ok (.aload_n 0, 1) := by decide +kernel
theorem dX7_init_159 : decode cX7_init 159 = .ok (.invokevirtual 73, 3) := by decide +kernel
theorem dX7_init_162 : decode cX7_init 162 = .ok (.pop, 1) := by decide +kernel
theorem dX7_init_163 : decode cX7_init 163 = .ok (.return_, 1) := by decide +kernel
theorem dX7_out_0 : decode cX7_out 0 = .ok (.iload_n 0, 1) := by decide +kernel
theorem dX7_out_1 : decode cX7_out 1 = .ok (.ifCond .lt 8, 3) := by decide +kernel
theorem dX7_out_4 : decode cX7_out 4 = .ok (.iload_n 0, 1) := by decide +kernel
theorem dX7_out_5 : decode cX7_out 5 = .ok (.iload_n 1, 1) := by decide +kernel
theorem dX7_out_6 : decode cX7_out 6 = .ok (.if_icmp .lt 7, 3) := by decide +kernel
theorem dX7_out_9 : decode cX7_out 9 = .ok (.iconst 1, 1) := by decide +kernel
theorem dX7_out_10 : decode cX7_out 10 = .ok (.goto 4, 3) := by decide +kernel
theorem dX7_out_13 : decode cX7_out 13 = .ok (.iconst 0, 1) := by decide +kernel
theorem dX7_out_14 : decode cX7_out 14 = .ok (.ireturn, 1) := by decide +kernel
theorem dX7_first_0 : decode cX7_first 0 = .ok (.iconst 0, 1) := by decide +kernel
theorem dX7_first_1 : decode cX7_first 1 = .ok (.istore_n 1, 1) := by decide +kernel
theorem dX7_first_2 : decode cX7_first 2 = .ok (.iload_n 1, 1) := by decide +kernel
theorem dX7_first_3 : decode cX7_first 3 = .ok (.iconst 4, 1) := by decide +kernel
theorem dX7_first_4 : decode cX7_first 4 = .ok (.if_icmp .ge 78, 3) := by decide +kernel
theorem dX7_first_7 : decode cX7_first 7 = .ok (.aload_n 0, 1) := by decide +kernel
theorem dX7_first_8 : decode cX7_first 8 = .ok (.getfield 19, 3) := by decide +kernel
theorem dX7_first_11 : decode cX7_first 11 = .ok (.iload_n 1, 1) := by decide +kernel
theorem dX7_first_12 : decode cX7_first 12 = .ok (.aload_n 0, 1) := by decide +kernel
theorem dX7_first_13 : decode cX7_first 13 = .ok (.getfield 25, 3) := by decide +kernel
theorem dX7_first_16 : decode cX7_first 16 = .ok (.iload_n 1, 1) := by decide +kernel
theorem dX7_first_17 : decode cX7_first 17 = .ok (.aload_n 0, 1) := by decide +kernel
theorem dX7_first_18 : decode cX7_first 18 = .ok (.getfield 28, 3) := by decide +kernel
theorem dX7_first_21 : decode cX7_first 21 = .ok (.iload_n 1, 1) := by decide +kernel
theorem dX7_first_22 : decode cX7_first 22 = .ok (.iconst 0, 1) := by decide +kernel
theorem dX7_first_23 : decode cX7_first 23 = .ok (.dup_x2, 1) := by decide +kernel
theorem dX7_first_24 : decode cX7_first 24 = .ok (.iastore, 1) := by decide +kernel
theorem dX7_first_25 : decode cX7_first 25 = .ok (.dup_x2, 1) := by decide +kernel
theorem dX7_first_26 : decode cX7_first 26 = .ok (.iastore, 1) := by decide +kernel
theorem dX7_first_27 : decode cX7_first 27 = .ok (.iastore, 1) := by decide +kernel
theorem dX7_first_28 : decode cX7_first 28 = .ok (.aload_n 0, 1) := by decide +kernel
theorem dX7_first_29 : decode cX7_first 29 = .ok (.getfield 31, 3) := by decide +kernel
theorem dX7_first_32 : decode cX7_first 32 = .ok (.iload_n 1, 1) := by decide +kernel
theorem dX7_first_33 : decode cX7_first 33 = .ok (.lconst 0, 1) := by decide +kernel
theorem dX7_first_34 : decode cX7_first 34 = .ok (.lastore, 1) := by decide +kernel
theorem dX7_first_35 : decode cX7_first 35 = .ok (.aload_n 0, 1) := by decide +kernel
theorem dX7_first_36 : decode cX7_first 36 = .ok (.getfield 22, 3) := by decide +kernel
theorem dX7_first_39 : decode cX7_first 39 = .ok (.iload_n 1, 1) := by decide +kernel
theorem dX7_first_40 : decode cX7_first 40 = .ok (.aload_n 0, 1) := by decide +kernel
theorem dX7_first_41 : decode cX7_first 41 = .ok (.getfield 16, 3) := by decide +kernel
theorem dX7_first_44 : decode cX7_first 44 = .ok (.iload_n 1, 1) := by decide +kernel
theorem dX7_first_45 : decode cX7_first 45 = .ok (.iaload, 1) := by decide +kernel
theorem dX7_first_46 : decode cX7_first 46 = .ok (.ifCond .ne 7, 3) := by decide +kernel
theorem dX7_first_49 : decode cX7_first 49 = .ok (.iconst 4, 1) := by decide +kernel
theorem dX7_first_50 : decode cX7_first 50 = .ok (.goto 4, 3) := by decide +kernel
theorem dX7_first_53 : decode cX7_first 53 = .ok (.iconst 0, 1) := by decide +kernel
theorem dX7_first_54 : decode cX7_first 54 = .ok (.iastore, 1) := by decide +kernel
theorem dX7_first_55 : decode cX7_first 55 = .ok (.aload_n 0, 1) := by decide +kernel
theorem dX7_first_56 : decode cX7_first 56 = .ok (.getfield 35, 3) := by decide +kernel
theorem dX7_first_59 : decode cX7_first 59 = .ok (.iload_n 1, 1) := by decide +kernel
theorem dX7_first_60 : decode cX7_first 60 = .ok (.aload_n 0, 1) := by decide +kernel
theorem dX7_first_61 : decode cX7_first 61 = .ok (.getfield 39, 3) := by decide +kernel
theorem dX7_first_64 : decode cX7_first 64 = .ok (.iload_n 1, 1) := by decide +kernel
theorem dX7_first_65 : decode cX7_first 65 = .ok (.aload_n 0, 1) := by decide +kernel
theorem dX7_first_66 : decode cX7_first 66 = .ok (.getfield 42, 3) := by decide +kernel
theorem dX7_first_69 : decode cX7_first 69 = .ok (.iload_n 1, 1) := by decide +kernel
theorem dX7_first_70 : decode cX7_first 70 = .ok (.iconst 0, 1) := by decide +kernel
theorem dX7_first_71 : decode cX7_first 71 = .ok (.dup_x2, 1) := by decide +kernel
theorem dX7_first_72 : decode cX7_first 72 = .ok (.bastore, 1) := by decide +kernel
theorem dX7_first_73 : decode cX7_first 73 = .ok (.dup_x2, 1) := by decide +kernel
theorem dX7_first_74 : decode cX7_first 74 = .ok (.bastore, 1) := by decide +kernel
theorem dX7_first_75 : decode cX7_first 75 = .ok (.bastore, 1) := by decide +kernel
theorem dX7_first_76 : decode cX7_first 76 = .ok (.iinc 1 1, 3) := by decide +kernel
theorem dX7_first_79 : decode cX7_first 79 = .ok (.goto (-77), 3) := by decide +kernel
theorem dX7_first_82 : decode cX7_first 82 = .ok (.iconst 0, 1) := by decide +kernel
theorem dX7_first_83 : decode cX7_first 83 = .ok (.istore_n 1, 1) := by decide +kernel
theorem dX7_first_84 : decode cX7_first 84 = .ok (.iload_n 1, 1) := by decide +kernel
theorem dX7_first_85 : decode cX7_first 85 = .ok (.iconst 2, 1) := by decide +kernel
theorem dX7_first_86 : decode cX7_first 86 = .ok (.if_icmp .ge 30, 3) := by decide +kernel
theorem dX7_first_89 : decode cX7_first 89 = .ok (.aload_n 0, 1) := by decide +kernel
theorem dX7_first_90 : decode cX7_first 90 = .ok (.getfield 45, 3) := by decide +kernel
theorem dX7_first_93 : decode cX7_first 93 = .ok (.iload_n 1, 1) := by decide +kernel
theorem dX7_first_94 : decode cX7_first 94 = .ok (.iconst (-1), 1) := by decide +kernel
theorem dX7_first_95 : decode cX7_first 95 = .ok (.iastore, 1) := by decide +kernel
theorem dX7_first_96 : decode cX7_first 96 = .ok (.aload_n 0, 1) := by decide +kernel
theorem dX7_first_97 : decode cX7_first 97 = .ok (.getfield 48, 3) := by decide +kernel
theorem dX7_first_100 : decode cX7_first 100 = .ok (.iload_n 1, 1) := by decide +kernel
theorem dX7_first_101 : decode cX7_first 101 = .ok (.aload_n 0, 1) := by decide +kernel
theorem dX7_first_102 : decode cX7_first 102 = .ok (.getfield 51, 3) := by decide +kernel
theorem dX7_first_105 : decode cX7_first 105 = .ok (.iload_n 1, 1) := by decide +kernel
theorem dX7_first_106 : decode cX7_first 106 = .ok (.iconst 0, 1) := by decide +kernel
theorem dX7_first_107 : decode cX7_first 107 = .ok (.dup_x2, 1) := by decide +kernel
theorem dX7_first_108 : decode cX7_first 108 = .ok (.iastore, 1) := by decide +kernel
theorem dX7_first_109 : decode cX7_first 109 = .ok (.iastore, 1) := by decide +kernel
theorem dX7_first_110 : decode cX7_first 110 = .ok (.iinc 1 1, 3) := by decide +kernel
theorem dX7_first_113 : decode cX7_first 113 = .ok (.goto (-29), 3) := by decide +kernel
theorem dX7_first_116 : decode cX7_first 116 = .ok (.return_, 1) := by decide +kernel
theorem dX7_threadPacked_0 : decode cX7_threadPacked 0 = .ok (.aload_n 0, 1) := by decide +kernel
theorem dX7_threadPacked_1 : decode cX7_threadPacked 1 = .ok (.getfield 31, 3) := by decide +kernel
theorem dX7_threadPacked_4 : decode cX7_threadPacked 4 = .ok (.iload_n 1, 1) := by decide +kernel
theorem dX7_threadPacked_5 : decode cX7_threadPacked 5 = .ok (.laload, 1) := by decide +kernel
theorem dX7_threadPacked_6 : decode cX7_threadPacked 6 = .ok (.lstore_n 2, 1) := by decide +kernel
theorem dX7_threadPacked_7 : decode cX7_threadPacked 7 = .ok (.lload_n 2, 1) := by decide +kernel
theorem dX7_threadPacked_8 : decode cX7_threadPacked 8 = .ok (.ldc2_w 77, 3) := by decide +kernel
theorem dX7_threadPacked_11 : decode cX7_threadPacked 11 = .ok (.lmul, 1) := by decide +kernel
theorem dX7_threadPacked_12 : decode cX7_threadPacked 12 = .ok (.aload_n 0, 1) := by decide +kernel
theorem dX7_threadPacked_13 : decode cX7_threadPacked 13 = .ok (.getfield 28, 3) := by decide +kernel
theorem dX7_threadPacked_16 : decode cX7_threadPacked 16 = .ok (.iload_n 1, 1) := by decide +kernel
theorem dX7_threadPacked_17 : decode cX7_threadPacked 17 = .ok (.iaload, 1) := by decide +kernel
theorem dX7_threadPacked_18 : decode cX7_threadPacked 18 = .ok (.i2l, 1) := by decide +kernel
theorem dX7_threadPacked_19 : decode cX7_threadPacked 19 = .ok (.ladd, 1) := by decide +kernel
theorem dX7_threadPacked_20 : decode cX7_threadPacked 20 = .ok (.lstore_n 2, 1) := by decide +kernel
theorem dX7_threadPacked_21 : decode cX7_threadPacked 21 = .ok (.lload_n 2, 1) := by decide +kernel
theorem dX7_threadPacked_22 : decode cX7_threadPacked 22 = .ok (.ldc2_w 77, 3) := by decide +kernel
theorem dX7_threadPacked_25 : decode cX7_threadPacked 25 = .ok (.lmul, 1) := by decide +kernel
theorem dX7_threadPacked_26 : decode cX7_threadPacked 26 = .ok (.aload_n 0, 1) := by decide +kernel
theorem dX7_threadPacked_27 : decode cX7_threadPacked 27 = .ok (.getfield 19, 3) := by decide +kernel
theorem dX7_threadPacked_30 : decode cX7_threadPacked 30 = .ok (.iload_n 1, 1) := by decide +kernel
theorem dX7_threadPacked_31 : decode cX7_threadPacked 31 = .ok (.iaload, 1) := by decide +kernel
theorem dX7_threadPacked_32 : decode cX7_threadPacked 32 = .ok (.i2l, 1) := by decide +kernel
theorem dX7_threadPacked_33 : decode cX7_threadPacked 33 = .ok (.ladd, 1) := by decide +kernel
theorem dX7_threadPacked_34 : decode cX7_threadPacked 34 = .ok (.lstore_n 2, 1) := by decide +kernel
theorem dX7_threadPacked_35 : decode cX7_threadPacked 35 = .ok (.lload_n 2, 1) := by decide +kernel
theorem dX7_threadPacked_36 : decode cX7_threadPacked 36 = .ok (.ldc2_w 77, 3) := by decide +kernel
theorem dX7_threadPacked_39 : decode cX7_threadPacked 39 = .ok (.lmul, 1) := by decide +kernel
theorem dX7_threadPacked_40 : decode cX7_threadPacked 40 = .ok (.aload_n 0, 1) := by decide +kernel
theorem dX7_threadPacked_41 : decode cX7_threadPacked 41 = .ok (.getfield 22, 3) := by decide +kernel
theorem dX7_threadPacked_44 : decode cX7_threadPacked 44 = .ok (.iload_n 1, 1) := by decide +kernel
theorem dX7_threadPacked_45 : decode cX7_threadPacked 45 = .ok (.iaload, 1) := by decide +kernel
theorem dX7_threadPacked_46 : decode cX7_threadPacked 46 = .ok (.i2l, 1) := by decide +kernel
theorem dX7_threadPacked_47 : decode cX7_threadPacked 47 = .ok (.ladd, 1) := by decide +kernel
theorem dX7_threadPacked_48 : decode cX7_threadPacked 48 = .ok (.lstore_n 2, 1) := by decide +kernel
theorem dX7_threadPacked_49 : decode cX7_threadPacked 49 = .ok (.lload_n 2, 1) := by decide +kernel
theorem dX7_threadPacked_50 : decode cX7_threadPacked 50 = .ok (.ldc2_w 77, 3) := by decide +kernel
theorem dX7_threadPacked_53 : decode cX7_threadPacked 53 = .ok (.lmul, 1) := by decide +kernel
theorem dX7_threadPacked_54 : decode cX7_threadPacked 54 = .ok (.aload_n 0, 1) := by decide +kernel
theorem dX7_threadPacked_55 : decode cX7_threadPacked 55 = .ok (.getfield 25, 3) := by decide +kernel
theorem dX7_threadPacked_58 : decode cX7_threadPacked 58 = .ok (.iload_n 1, 1) := by decide +kernel
theorem dX7_threadPacked_59 : decode cX7_threadPacked 59 = .ok (.iaload, 1) := by decide +kernel
theorem dX7_threadPacked_60 : decode cX7_threadPacked 60 = .ok (.i2l, 1) := by decide +kernel
theorem dX7_threadPacked_61 : decode cX7_threadPacked 61 = .ok (.ladd, 1) := by decide +kernel
theorem dX7_threadPacked_62 : decode cX7_threadPacked 62 = .ok (.lstore_n 2, 1) := by decide +kernel
theorem dX7_threadPacked_63 : decode cX7_threadPacked 63 = .ok (.lload_n 2, 1) := by decide +kernel
theorem dX7_threadPacked_64 : decode cX7_threadPacked 64 = .ok (.ldc2_w 77, 3) := by decide +kernel
theorem dX7_threadPacked_67 : decode cX7_threadPacked 67 = .ok (.lmul, 1) := by decide +kernel
theorem dX7_threadPacked_68 : decode cX7_threadPacked 68 = .ok (.aload_n 0, 1) := by decide +kernel
theorem dX7_threadPacked_69 : decode cX7_threadPacked 69 = .ok (.getfield 35, 3) := by decide +kernel
theorem dX7_threadPacked_72 : decode cX7_threadPacked 72 = .ok (.iload_n 1, 1) := by decide +kernel
theorem dX7_threadPacked_73 : decode cX7_threadPacked 73 = .ok (.baload, 1) := by decide +kernel
theorem dX7_threadPacked_74 : decode cX7_threadPacked 74 = .ok (.ifCond .eq 7, 3) := by decide +kernel
theorem dX7_threadPacked_77 : decode cX7_threadPacked 77 = .ok (.iconst 1, 1) := by decide +kernel
theorem dX7_threadPacked_78 : decode cX7_threadPacked 78 = .ok (.goto 4, 3) := by decide +kernel
theorem dX7_threadPacked_81 : decode cX7_threadPacked 81 = .ok (.iconst 0, 1) := by decide +kernel
theorem dX7_threadPacked_82 : decode cX7_threadPacked 82 = .ok (.i2l, 1) := by decide +kernel
theorem dX7_threadPacked_83 : decode cX7_threadPacked 83 = .ok (.ladd, 1) := by decide +kernel
theorem dX7_threadPacked_84 : decode cX7_threadPacked 84 = .ok (.aload_n 0, 1) := by decide +kernel
theorem dX7_threadPacked_85 : decode cX7_threadPacked 85 = .ok (.getfield 39, 3) := by decide +kernel
theorem dX7_threadPacked_88 : decode cX7_threadPacked 88 = .ok (.iload_n 1, 1) := by decide +kernel
theorem dX7_threadPacked_89 : decode cX7_threadPacked 89 = .ok (.baload, 1) := by decide +kernel
theorem dX7_threadPacked_90 : decode cX7_threadPacked 90 = .ok (.ifCond .eq 7, 3) := by decide +kernel
theorem dX7_threadPacked_93 : decode cX7_threadPacked 93 = .ok (.iconst 2, 1) := by decide +kernel
theorem dX7_threadPacked_94 : decode cX7_threadPacked 94 = .ok (.goto 4, 3) := by decide +kernel
theorem dX7_threadPacked_97 : decode cX7_threadPacked 97 = .ok (.iconst 0, 1) := by decide +kernel
theorem dX7_threadPacked_98 : decode cX7_threadPacked 98 = .ok (.i2l, 1) := by decide +kernel
theorem dX7_threadPacked_99 : decode cX7_threadPacked 99 = .ok (.ladd, 1) := by decide +kernel
theorem dX7_threadPacked_100 : decode cX7_threadPacked 100 = .ok (.aload_n 0, 1) := by decide +kernel
theorem dX7_threadPacked_101 : decode cX7_threadPacked 101 = .ok (.getfield 42, 3) := by decide +kernel
theorem dX7_threadPacked_104 : decode cX7_threadPacked 104 = .ok (.iload_n 1, 1) := by decide +kernel
theorem dX7_threadPacked_105 : decode cX7_threadPacked 105 = .ok (.baload, 1) := by decide +kernel
theorem dX7_threadPacked_106 : decode cX7_threadPacked 106 = .ok (.ifCond .eq 7, 3) := by decide +kernel
theorem dX7_threadPacked_109 : decode cX7_threadPacked 109 = .ok (.iconst 4, 1) := by decide +kernel
theorem dX7_threadPacked_110 : decode cX7_threadPacked 110 = .ok (.goto 4, 3) := by decide +kernel
theorem dX7_threadPacked_113 : decode cX7_threadPacked 113 = .ok (.iconst 0, 1) := by decide +kernel
theorem dX7_threadPacked_114 : decode cX7_threadPacked 114 = .ok (.i2l, 1) := by decide +kernel
theorem dX7_threadPacked_115 : decode cX7_threadPacked 115 = .ok (.ladd, 1) := by decide +kernel
theorem dX7_threadPacked_116 : decode cX7_threadPacked 116 = .ok (.lreturn, 1) := by decide +kernel
theorem dX7_threadUnpacked_0 : decode cX7_threadUnpacked 0 = .ok (.lload_n 2, 1) := by decide +kernel
theorem dX7_threadUnpacked_1 : decode cX7_threadUnpacked 1 = .ok (.lstore 4, 2) := by decide +kernel
theorem dX7_threadUnpacked_3 : decode cX7_threadUnpacked 3 = .ok (.aload_n 0, 1) := by decide +kernel
theorem dX7_threadUnpacked_4 : decode cX7_threadUnpacked 4 = .ok (.getfield 35, 3) := by decide +kernel
theorem dX7_threadUnpacked_7 : decode cX7_threadUnpacked 7 = .ok (.iload_n 1, 1) := by decide +kernel
theorem dX7_threadUnpacked_8 : decode cX7_threadUnpacked 8 = .ok (.lload 4, 2) := by decide +kernel
theorem dX7_threadUnpacked_10 : decode cX7_threadUnpacked 10 = .ok (.lconst 1, 1) := by decide +kernel
theorem dX7_threadUnpacked_11 : decode cX7_threadUnpacked 11 = .ok (.land, 1) := by decide +kernel
theorem dX7_threadUnpacked_12 : decode cX7_threadUnpacked 12 = .ok (.lconst 1, 1) := by decide +kernel
theorem dX7_threadUnpacked_13 : decode cX7_threadUnpacked 13 = .ok (.lcmp, 1) := by decide +kernel
theorem dX7_threadUnpacked_14 : decode cX7_threadUnpacked 14 = .ok (.ifCond .ne 7, 3) := by decide +kernel
theorem dX7_threadUnpacked_17 : decode cX7_threadUnpacked 17 = .ok (.iconst 1, 1) := by decide +kernel
theorem dX7_threadUnpacked_18 : decode cX7_threadUnpacked 18 = .ok (.goto 4, 3) := by decide +kernel
theorem dX7_threadUnpacked_21 : decode cX7_threadUnpacked 21 = .ok (.iconst 0, 1) := by decide +kernel
theorem dX7_threadUnpacked_22 : decode cX7_threadUnpacked 22 = .ok (.bastore, 1) := by decide +kernel
theorem dX7_threadUnpacked_23 : decode cX7_threadUnpacked 23 = .ok (.aload_n 0, 1) := by decide +kernel
theorem dX7_threadUnpacked_24 : decode cX7_threadUnpacked 24 = .ok (.getfield 39, 3) := by decide +kernel
theorem dX7_threadUnpacked_27 : decode cX7_threadUnpacked 27 = .ok (.iload_n 1, 1) := by decide +kernel
theorem dX7_threadUnpacked_28 : decode cX7_threadUnpacked 28 = .ok (.lload 4, 2) := by decide +kernel
theorem dX7_threadUnpacked_30 : decode cX7_threadUnpacked 30 = .ok (.ldc2_w 79, 3) := by decide +kernel
theorem dX7_threadUnpacked_33 : decode cX7_threadUnpacked 33 = .ok (.land, 1) := by decide +kernel
theorem dX7_threadUnpacked_34 : decode cX7_threadUnpacked 34 = .ok (.ldc2_w 79, 3) := by decide +kernel
theorem dX7_threadUnpacked_37 : decode cX7_threadUnpacked 37 = .ok (.lcmp, 1) := by decide +kernel
theorem dX7_threadUnpacked_38 : decode cX7_threadUnpacked 38 = .ok (.ifCond .ne 7, 3) := by decide +kernel
theorem dX7_threadUnpacked_41 : decode cX7_threadUnpacked 41 = .ok (.iconst 1, 1) := by decide +kernel
theorem dX7_threadUnpacked_42 : decode cX7_threadUnpacked 42 = .ok (.goto 4, 3) := by decide +kernel
theorem dX7_threadUnpacked_45 : decode cX7_threadUnpacked 45 = .ok (.iconst 0, 1) := by decide +kernel
theorem dX7_threadUnpacked_46 : decode cX7_threadUnpacked 46 = .ok (.bastore, 1) := by decide +kernel
theorem dX7_threadUnpacked_47 : decode cX7_threadUnpacked 47 = .ok (.aload_n 0, 1) := by decide +kernel
theorem dX7_threadUnpacked_48 : decode cX7_threadUnpacked 48 = .ok (.getfield 42, 3) := by decide +kernel
theorem dX7_threadUnpacked_51 : decode cX7_threadUnpacked 51 = .ok (.iload_n 1, 1) := by decide +kernel
theorem dX7_threadUnpacked_52 : decode cX7_threadUnpacked 52 = .ok (.lload 4, 2) := by decide +kernel
theorem dX7_threadUnpacked_54 : decode cX7_threadUnpacked 54 = .ok (.ldc2_w 81, 3) := by decide +kernel
theorem dX7_threadUnpacked_57 : decode cX7_threadUnpacked 57 = .ok (.land, 1) := by decide +kernel
theorem dX7_threadUnpacked_58 : decode cX7_threadUnpacked 58 = .ok (.ldc2_w 81, 3) := by decide +kernel
theorem dX7_threadUnpacked_61 : decode cX7_threadUnpacked 61 = .ok (.lcmp, 1) := by decide +kernel
theorem dX7_threadUnpacked_62 : decode cX7_threadUnpacked 62 = .ok (.ifCond .ne 7, 3) := by decide +kernel
theorem dX7_threadUnpacked_65 : decode cX7_threadUnpacked 65 = .ok (.iconst 1, 1) := by decide +kernel
theorem dX7_threadUnpacked_66 : decode cX7_threadUnpacked 66 = .ok (.goto 4, 3) := by decide +kernel
theorem dX7_threadUnpacked_69 : decode cX7_threadUnpacked 69 = .ok (.iconst 0, 1) := by decide +kernel
theorem dX7_threadUnpacked_70 : decode cX7_threadUnpacked 70 = .ok (.bastore, 1) := by decide +kernel
theorem dX7_threadUnpacked_71 : decode cX7_threadUnpacked 71 = .ok (.aload_n 0, 1) := by decide +kernel
theorem dX7_threadUnpacked_72 : decode cX7_threadUnpacked 72 = .ok (.getfield 25, 3) := by decide +kernel
theorem dX7_threadUnpacked_75 : decode cX7_threadUnpacked 75 = .ok (.iload_n 1, 1) := by decide +kernel
theorem dX7_threadUnpacked_76 : decode cX7_threadUnpacked 76 = .ok (.lload 4, 2) := by decide +kernel
theorem dX7_threadUnpacked_78 : decode cX7_threadUnpacked 78 = .ok (.iconst 3, 1) := by decide +kernel
theorem dX7_threadUnpacked_79 : decode cX7_threadUnpacked 79 = .ok (.lshr, 1) := by decide +kernel
theorem dX7_threadUnpacked_80 : decode cX7_threadUnpacked 80 = .ok (.l2i, 1) := by decide +kernel
theorem dX7_threadUnpacked_81 : decode cX7_threadUnpacked 81 = .ok (.bipush 7, 2) := by decide +kernel
theorem dX7_threadUnpacked_83 : decode cX7_threadUnpacked 83 = .ok (.iand, 1) := by decide +kernel
theorem dX7_threadUnpacked_84 : decode cX7_threadUnpacked 84 = .ok (.iastore, 1) := by decide +kernel
theorem dX7_threadUnpacked_85 : decode cX7_threadUnpacked 85 = .ok (.aload_n 0, 1) := by decide +kernel
theorem dX7_threadUnpacked_86 : decode cX7_threadUnpacked 86 = .ok (.getfield 22, 3) := by decide +kernel
theorem dX7_threadUnpacked_89 : decode cX7_threadUnpacked 89 = .ok (.iload_n 1, 1) := by decide +kernel
theorem dX7_threadUnpacked_90 : decode cX7_threadUnpacked 90 = .ok (.lload 4, 2) := by decide +kernel
theorem dX7_threadUnpacked_92 : decode cX7_threadUnpacked 92 = .ok (.bipush 6, 2) := by decide +kernel
theorem dX7_threadUnpacked_94 : decode cX7_threadUnpacked 94 = .ok (.lshr, 1) := by decide +kernel
theorem dX7_threadUnpacked_95 : decode cX7_threadUnpacked 95 = .ok (.l2i, 1) := by decide +kernel
theorem dX7_threadUnpacked_96 : decode cX7_threadUnpacked 96 = .ok (.bipush 7, 2) := by decide +kernel
theorem dX7_threadUnpacked_98 : decode cX7_threadUnpacked 98 = .ok (.iand, 1) := by decide +kernel
theorem dX7_threadUnpacked_99 : decode cX7_threadUnpacked 99 = .ok (.iastore, 1) := by decide +kernel
theorem dX7_threadUnpacked_100 : decode cX7_threadUnpacked 100 = .ok (.aload_n 0, 1) := by decide +kernel
theorem dX7_threadUnpacked_101 : decode cX7_threadUnpacked 101 = .ok (.getfield 19, 3) := by decide +kernel
theorem dX7_threadUnpacked_104 : decode cX7_threadUnpacked 104 = .ok (.iload_n 1, 1) := by decide +kernel
theorem dX7_threadUnpacked_105 : decode cX7_threadUnpacked 105 = .ok (.lload 4, 2) := by decide +kernel
theorem dX7_threadUnpacked_107 : decode cX7_threadUnpacked 107 = .ok (.bipush 9, 2) := by decide +kernel
theorem dX7_threadUnpacked_109 : decode cX7_threadUnpacked 109 = .ok (.lshr, 1) := by decide +kernel
theorem dX7_threadUnpacked_110 : decode cX7_threadUnpacked 110 = .ok (.l2i, 1) := by decide +kernel
theorem dX7_threadUnpacked_111 : decode cX7_threadUnpacked 111 = .ok (.bipush 7, 2) := by decide +kernel
theorem dX7_threadUnpacked_113 : decode cX7_threadUnpacked 113 = .ok (.iand, 1) := by decide +kernel
theorem dX7_threadUnpacked_114 : decode cX7_threadUnpacked 114 = .ok (.iastore, 1) := by decide +kernel
theorem dX7_threadUnpacked_115 : decode cX7_threadUnpacked 115 = .ok (.aload_n 0, 1) := by decide +kernel
theorem dX7_threadUnpacked_116 : decode cX7_threadUnpacked 116 = .ok (.getfield 28, 3) := by decide +kernel
theorem dX7_threadUnpacked_119 : decode cX7_threadUnpacked 119 = .ok (.iload_n 1, 1) := by decide +kernel
theorem dX7_threadUnpacked_120 : decode cX7_threadUnpacked 120 = .ok (.lload 4, 2) := by decide +kernel
theorem dX7_threadUnpacked_122 : decode cX7_threadUnpacked 122 = .ok (.bipush 12, 2) := by decide +kernel
theorem dX7_threadUnpacked_124 : decode cX7_threadUnpacked 124 = .ok (.lshr, 1) := by decide +kernel
theorem dX7_threadUnpacked_125 : decode cX7_threadUnpacked 125 = .ok (.l2i, 1) := by decide +kernel
theorem dX7_threadUnpacked_126 : decode cX7_threadUnpacked 126 = .ok (.bipush 7, 2) := by decide +kernel
theorem dX7_threadUnpacked_128 : decode cX7_threadUnpacked 128 = .ok (.iand, 1) := by decide +kernel
theorem dX7_threadUnpacked_129 : decode cX7_threadUnpacked 129 = .ok (.iastore, 1) := by decide +kernel
theorem dX7_threadUnpacked_130 : decode cX7_threadUnpacked 130 = .ok (.aload_n 0, 1) := by decide +kernel
theorem dX7_threadUnpacked_131 : decode cX7_threadUnpacked 131 = .ok (.getfield 31, 3) := by decide +kernel
theorem dX7_threadUnpacked_134 : decode cX7_threadUnpacked 134 = .ok (.iload_n 1, 1) := by decide +kernel
theorem dX7_threadUnpacked_135 : decode cX7_threadUnpacked 135 = .ok (.lload 4, 2) := by decide +kernel
theorem dX7_threadUnpacked_137 : decode cX7_threadUnpacked 137 = .ok (.bipush 15, 2) := by decide +kernel
theorem dX7_threadUnpacked_139 : decode cX7_threadUnpacked 139 = .ok (.lshr, 1) := by decide +kernel
theorem dX7_threadUnpacked_140 : decode cX7_threadUnpacked 140 = .ok (.lastore, 1) := by decide +kernel
theorem dX7_threadUnpacked_141 : decode cX7_threadUnpacked 141 = .ok (.return_, 1) := by decide +kernel
theorem dX7_pack_0 : decode cX7_pack 0 = .ok (.iconst 0, 1) := by decide +kernel
theorem dX7_pack_1 : decode cX7_pack 1 = .ok (.istore_n 3, 1) := by decide +kernel
theorem dX7_pack_2 : decode cX7_pack 2 = .ok (.iload_n 3, 1) := by decide +kernel
theorem dX7_pack_3 : decode cX7_pack 3 = .ok (.iconst 4, 1) := by decide +kernel
theorem dX7_pack_4 : decode cX7_pack 4 = .ok (.if_icmp .ge 19, 3) := by decide +kernel
theorem dX7_pack_7 : decode cX7_pack 7 = .ok (.aload_n 1, 1) := by decide +kernel
theorem dX7_pack_8 : decode cX7_pack 8 = .ok (.iload_n 2, 1) := by decide +kernel
theorem dX7_pack_9 : decode cX7_pack 9 = .ok (.iload_n 3, 1) := by decide +kernel
theorem dX7_pack_10 : decode cX7_pack 10 = .ok (.iadd, 1) := by decide +kernel
theorem dX7_pack_11 : decode cX7_pack 11 = .ok (.aload_n 0, 1) := by decide +kernel
theorem dX7_pack_12 : decode cX7_pack 12 = .ok (.iload_n 3, 1) := by decide +kernel
theorem dX7_pack_13 : decode cX7_pack 13 = .ok (.invokevirtual 83, 3) := by decide +kernel
theorem dX7_pack_16 : decode cX7_pack 16 = .ok (.lastore, 1) := by decide +kernel
theorem dX7_pack_17 : decode cX7_pack 17 = .ok (.iinc 3 1, 3) := by decide +kernel
theorem dX7_pack_20 : decode cX7_pack 20 = .ok (.goto (-18), 3) := by decide +kernel
theorem dX7_pack_23 : decode cX7_pack 23 = .ok (.lconst 0, 1) := by decide +kernel
theorem dX7_pack_24 : decode cX7_pack 24 = .ok (.lstore_n 3, 1) := by decide +kernel
theorem dX7_pack_25 : decode cX7_pack 25 = .ok (.iconst 0, 1) := by decide +kernel
theorem dX7_pack_26 : decode cX7_pack 26 = .ok (.istore 5, 2) := by decide +kernel
theorem dX7_pack_28 : decode cX7_pack 28 = .ok (.iload 5, 2) := by decide +kernel
theorem dX7_pack_30 : decode cX7_pack 30 = .ok (.iconst 2, 1) := by decide +kernel
theorem dX7_pack_31 : decode cX7_pack 31 = .ok (.if_icmp .ge 105, 3) := by decide +kernel
theorem dX7_pack_34 : decode cX7_pack 34 = .ok (.lload_n 3, 1) := by decide +kernel
theorem dX7_pack_35 : decode cX7_pack 35 = .ok (.ldc2_w 77, 3) := by decide +kernel
theorem dX7_pack_38 : decode cX7_pack 38 = .ok (.lmul, 1) := by decide +kernel
theorem dX7_pack_39 : decode cX7_pack 39 = .ok (.aload_n 0, 1) := by decide +kernel
theorem dX7_pack_40 : decode cX7_pack 40 = .ok (.getfield 45, 3) := by decide +kernel
theorem dX7_pack_43 : decode cX7_pack 43 = .ok (.iload 5, 2) := by decide +kernel
theorem dX7_pack_45 : decode cX7_pack 45 = .ok (.iaload, 1) := by decide +kernel
theorem dX7_pack_46 : decode cX7_pack 46 = .ok (.i2l, 1) := by decide +kernel
theorem dX7_pack_47 : decode cX7_pack 47 = .ok (.ladd, 1) := by decide +kernel
theorem dX7_pack_48 : decode cX7_pack 48 = .ok (.lconst 1, 1) := by decide +kernel
theorem dX7_pack_49 : decode cX7_pack 49 = .ok (.ladd, 1) := by decide +kernel
theorem dX7_pack_50 : decode cX7_pack 50 = .ok (.ldc2_w 77, 3) := by decide +kernel
theorem dX7_pack_53 : decode cX7_pack 53 = .ok (.lmul, 1) := by decide +kernel
theorem dX7_pack_54 : decode cX7_pack 54 = .ok (.aload_n 0, 1) := by decide +kernel
theorem dX7_pack_55 : decode cX7_pack 55 = .ok (.getfield 48, 3) := by decide +kernel
theorem dX7_pack_58 : decode cX7_pack 58 = .ok (.iload 5, 2) := by decide +kernel
theorem dX7_pack_60 : decode cX7_pack 60 = .ok (.iaload, 1) := by decide +kernel
theorem dX7_pack_61 : decode cX7_pack 61 = .ok (.i2l, 1) := by decide +kernel
theorem dX7_pack_62 : decode cX7_pack 62 = .ok (.ladd, 1) := by decide +kernel
theorem dX7_pack_63 : decode cX7_pack 63 = .ok (.lstore_n 3, 1) := by decide +kernel
theorem dX7_pack_64 : decode cX7_pack 64 = .ok (.lload_n 3, 1) := by decide +kernel
theorem dX7_pack_65 : decode cX7_pack 65 = .ok (.ldc2_w 77, 3) := by decide +kernel
theorem dX7_pack_68 : decode cX7_pack 68 = .ok (.lmul, 1) := by decide +kernel
theorem dX7_pack_69 : decode cX7_pack 69 = .ok (.aload_n 0, 1) := by decide +kernel
theorem dX7_pack_70 : decode cX7_pack 70 = .ok (.getfield 51, 3) := by decide +kernel
theorem dX7_pack_73 : decode cX7_pack 73 = .ok (.iload 5, 2) := by decide +kernel
theorem dX7_pack_75 : decode cX7_pack 75 = .ok (.iaload, 1) := by decide +kernel
theorem dX7_pack_76 : decode cX7_pack 76 = .ok (.i2l, 1) := by decide +kernel
theorem dX7_pack_77 : decode cX7_pack 77 = .ok (.ladd, 1) := by decide +kernel
theorem dX7_pack_78 : decode cX7_pack 78 = .ok (.lstore_n 3, 1) := by decide +kernel
theorem dX7_pack_79 : decode cX7_pack 79 = .ok (.iconst 0, 1) := by decide +kernel
theorem dX7_pack_80 : decode cX7_pack 80 = .ok (.istore 6, 2) := by decide +kernel
theorem dX7_pack_82 : decode cX7_pack 82 = .ok (.iload 6, 2) := by decide +kernel
theorem dX7_pack_84 : decode cX7_pack 84 = .ok (.iconst 4, 1) := by decide +kernel
theorem dX7_pack_85 : decode cX7_pack 85 = .ok (.if_icmp .ge 45, 3) := by decide +kernel
theorem dX7_pack_88 : decode cX7_pack 88 = .ok (.lload_n 3, 1) := by decide +kernel
theorem dX7_pack_89 : decode cX7_pack 89 = .ok (.ldc2_w 81, 3) := by decide +kernel
theorem dX7_pack_92 : decode cX7_pack 92 = .ok (.lmul, 1) := by decide +kernel
theorem dX7_pack_93 : decode cX7_pack 93 = .ok (.iload 6, 2) := by decide +kernel
theorem dX7_pack_95 : decode cX7_pack 95 = .ok (.aload_n 0, 1) := by decide +kernel
theorem dX7_pack_96 : decode cX7_pack 96 = .ok (.getfield 51, 3) := by decide +kernel
theorem dX7_pack_99 : decode cX7_pack 99 = .ok (.iload 5, 2) := by decide +kernel
theorem dX7_pack_101 : decode cX7_pack 101 = .ok (.iaload, 1) := by decide +kernel
theorem dX7_pack_102 : decode cX7_pack 102 = .ok (.if_icmp .ge 18, 3) := by decide +kernel
theorem dX7_pack_105 : decode cX7_pack 105 = .ok (.aload_n 0, 1) := by decide +kernel
theorem dX7_pack_106 : decode cX7_pack 106 = .ok (.getfield 54, 3) := by decide +kernel
theorem dX7_pack_109 : decode cX7_pack 109 = .ok (.iconst 4, 1) := by decide +kernel
theorem dX7_pack_110 : decode cX7_pack 110 = .ok (.iload 5, 2) := by decide +kernel
theorem dX7_pack_112 : decode cX7_pack 112 = .ok (.imul, 1) := by decide +kernel
theorem dX7_pack_113 : decode cX7_pack 113 = .ok (.iload 6, 2) := by decide +kernel
theorem dX7_pack_115 : decode cX7_pack 115 = .ok (.iadd, 1) := by decide +kernel
theorem dX7_pack_116 : decode cX7_pack 116 = .ok (.iaload, 1) := by decide +kernel
theorem dX7_pack_117 : decode cX7_pack 117 = .ok (.goto 4, 3) := by decide +kernel
theorem dX7_pack_120 : decode cX7_pack 120 = .ok (.iconst 0, 1) := by decide +kernel
theorem dX7_pack_121 : decode cX7_pack 121 = .ok (.i2l, 1) := by decide +kernel
theorem dX7_pack_122 : decode cX7_pack 122 = .ok (.ladd, 1) := by decide +kernel
theorem dX7_pack_123 : decode cX7_pack 123 = .ok (.lstore_n 3, 1) := by decide +kernel
theorem dX7_pack_124 : decode cX7_pack 124 = .ok (.iinc 6 1, 3) := by decide +kernel
theorem dX7_pack_127 : decode cX7_pack 127 = .ok (.goto (-45), 3) := by decide +kernel
theorem dX7_pack_130 : decode cX7_pack 130 = .ok (.iinc 5 1, 3) := by decide +kernel
theorem dX7_pack_133 : decode cX7_pack 133 = .ok (.goto (-105), 3) := by decide +kernel
theorem dX7_pack_136 : decode cX7_pack 136 = .ok (.aload_n 1, 1) := by decide +kernel
theorem dX7_pack_137 : decode cX7_pack 137 = .ok (.iload_n 2, 1) := by decide +kernel
theorem dX7_pack_138 : decode cX7_pack 138 = .ok (.iconst 4, 1) := by decide +kernel
theorem dX7_pack_139 : decode cX7_pack 139 = .ok (.iadd, 1) := by decide +kernel
theorem dX7_pack_140 : decode cX7_pack 140 = .ok (.lload_n 3, 1) := by decide +kernel
theorem dX7_pack_141 : decode cX7_pack 141 = .ok (.lastore, 1) := by decide +kernel
theorem dX7_pack_142 : decode cX7_pack 142 = .ok (.return_, 1) := by decide +kernel
theorem dX7_unpack_0 : decode cX7_unpack 0 = .ok (.iconst 0, 1) := by decide +kernel
theorem dX7_unpack_1 : decode cX7_unpack 1 = .ok (.istore_n 3, 1) := by decide +kernel
theorem dX7_unpack_2 : decode cX7_unpack 2 = .ok (.iload_n 3, 1) := by decide +kernel
theorem dX7_unpack_3 : decode cX7_unpack 3 = .ok (.iconst 4, 1) := by decide +kernel
theorem dX7_unpack_4 : decode cX7_unpack 4 = .ok (.if_icmp .ge 19, 3) := by decide +kernel
theorem dX7_unpack_7 : decode cX7_unpack 7 = .ok (.aload_n 0, 1) := by decide +kernel
theorem dX7_unpack_8 : decode cX7_unpack 8 = .ok (.iload_n 3, 1) := by decide +kernel
theorem dX7_unpack_9 : decode cX7_unpack 9 = .ok (.aload_n 1, 1) := by decide +kernel
theorem dX7_unpack_10 : decode cX7_unpack 10 = .ok (.iload_n 2, 1) := by decide +kernel
theorem dX7_unpack_11 : decode cX7_unpack 11 = .ok (.iload_n 3, 1) := by decide +kernel
theorem dX7_unpack_12 : decode cX7_unpack 12 = .ok (.iadd, 1) := by decide +kernel
theorem dX7_unpack_13 : decode cX7_unpack 13 = .ok (.laload, 1) := by decide +kernel
theorem dX7_unpack_14 : decode cX7_unpack 14 = .ok (.invokevirtual 87, 3) := by decide +kernel
theorem dX7_unpack_17 : decode cX7_unpack 17 = .ok (.iinc 3 1, 3) := by decide +kernel
theorem dX7_unpack_20 : decode cX7_unpack 20 = .ok (.goto (-18), 3) := by decide +kernel
theorem dX7_unpack_23 : decode cX7_unpack 23 = .ok (.aload_n 1, 1) := by decide +kernel
theorem dX7_unpack_24 : decode cX7_unpack 24 = .ok (.iload_n 2, 1) := by decide +kernel
theorem dX7_unpack_25 : decode cX7_unpack 25 = .ok (.iconst 4, 1) := by decide +kernel
theorem dX7_unpack_26 : decode cX7_unpack 26 = .ok (.iadd, 1) := by decide +kernel
theorem dX7_unpack_27 : decode cX7_unpack 27 = .ok (.laload, 1) := by decide +kernel
theorem dX7_unpack_28 : decode cX7_unpack 28 = .ok (.lstore_n 3, 1) := by decide +kernel
theorem dX7_unpack_29 : decode cX7_unpack 29 = .ok (.iconst 1, 1) := by decide +kernel
theorem dX7_unpack_30 : decode cX7_unpack 30 = .ok (.istore 5, 2) := by decide +kernel
theorem dX7_unpack_32 : decode cX7_unpack 32 = .ok (.iload 5, 2) := by decide +kernel
theorem dX7_unpack_34 : decode cX7_unpack 34 = .ok (.ifCond .lt 91, 3) := by decide +kernel
theorem dX7_unpack_37 : decode cX7_unpack 37 = .ok (.iconst 3, 1) := by decide +kernel
theorem dX7_unpack_38 : decode cX7_unpack 38 = .ok (.istore 6, 2) := by decide +kernel
theorem dX7_unpack_40 : decode cX7_unpack 40 = .ok (.iload 6, 2) := by decide +kernel
theorem dX7_unpack_42 : decode cX7_unpack 42 = .ok (.ifCond .lt 29, 3) := by decide +kernel
theorem dX7_unpack_45 : decode cX7_unpack 45 = .ok (.aload_n 0, 1) := by decide +kernel
theorem dX7_unpack_46 : decode cX7_unpack 46 = .ok (.getfield 54, 3) := by decide +kernel
theorem dX7_unpack_49 : decode cX7_unpack 49 = .ok (.iconst 4, 1) := by decide +kernel
theorem dX7_unpack_50 : decode cX7_unpack 50 = .ok (.iload 5, 2) := by decide +kernel
theorem dX7_unpack_52 : decode cX7_unpack 52 = .ok (.imul, 1) := by decide +kernel
theorem dX7_unpack_53 : decode cX7_unpack 53 = .ok (.iload 6, 2) := by decide +kernel
theorem dX7_unpack_55 : decode cX7_unpack 55 = .ok (.iadd, 1) := by decide +kernel
theorem dX7_unpack_56 : decode cX7_unpack 56 = .ok (.lload_n 3, 1) := by decide +kernel
theorem dX7_unpack_57 : decode cX7_unpack 57 = .ok (.l2i, 1) := by decide +kernel
theorem dX7_unpack_58 : decode cX7_unpack 58 = .ok (.iconst 3, 1) := by decide +kernel
theorem dX7_unpack_59 : decode cX7_unpack 59 = .ok (.iand, 1) := by decide +kernel
theorem dX7_unpack_60 : decode cX7_unpack 60 = .ok (.iastore, 1) := by decide +kernel
theorem dX7_unpack_61 : decode cX7_unpack 61 = .ok (.lload_n 3, 1) := by decide +kernel
theorem dX7_unpack_62 : decode cX7_unpack 62 = .ok (.iconst 2, 1) := by decide +kernel
theorem dX7_unpack_63 : decode cX7_unpack 63 = .ok (.lshr, 1) := by decide +kernel
theorem dX7_unpack_64 : decode cX7_unpack 64 = .ok (.lstore_n 3, 1) := by decide +kernel
theorem dX7_unpack_65 : decode cX7_unpack 65 = .ok (.iinc 6 (-1), 3) := by decide +kernel
theorem dX7_unpack_68 : decode cX7_unpack 68 = .ok (.goto (-28), 3) := by decide +kernel
theorem dX7_unpack_71 : decode cX7_unpack 71 = .ok (.aload_n 0, 1) := by decide +kernel
theorem dX7_unpack_72 : decode cX7_unpack 72 = .ok (.getfield 51, 3) := by decide +kernel
theorem dX7_unpack_75 : decode cX7_unpack 75 = .ok (.iload 5, 2) := by decide +kernel
theorem dX7_unpack_77 : decode cX7_unpack 77 = .ok (.lload_n 3, 1) := by decide +kernel
theorem dX7_unpack_78 : decode cX7_unpack 78 = .ok (.l2i, 1) := by decide +kernel
theorem dX7_unpack_79 : decode cX7_unpack 79 = .ok (.bipush 7, 2) := by decide +kernel
theorem dX7_unpack_81 : decode cX7_unpack 81 = .ok (.iand, 1) := by decide +kernel
theorem dX7_unpack_82 : decode cX7_unpack 82 = .ok (.iastore, 1) := by decide +kernel
theorem dX7_unpack_83 : decode cX7_unpack 83 = .ok (.aload_n 0, 1) := by decide +kernel
theorem dX7_unpack_84 : decode cX7_unpack 84 = .ok (.getfield 48, 3) := by decide +kernel
theorem dX7_unpack_87 : decode cX7_unpack 87 = .ok (.iload 5, 2) := by decide +kernel
theorem dX7_unpack_89 : decode cX7_unpack 89 = .ok (.lload_n 3, 1) := by decide +kernel
theorem dX7_unpack_90 : decode cX7_unpack 90 = .ok (.iconst 3, 1) := by decide +kernel
theorem dX7_unpack_91 : decode cX7_unpack 91 = .ok (.lshr, 1) := by decide +kernel
theorem dX7_unpack_92 : decode cX7_unpack 92 = .ok (.l2i, 1) := by decide +kernel
theorem dX7_unpack_93 : decode cX7_unpack 93 = .ok (.bipush 7, 2) := by decide +kernel
theorem dX7_unpack_95 : decode cX7_unpack 95 = .ok (.iand, 1) := by decide +kernel
theorem dX7_unpack_96 : decode cX7_unpack 96 = .ok (.iastore, 1) := by decide +kernel
theorem dX7_unpack_97 : decode cX7_unpack 97 = .ok (.aload_n 0, 1) := by decide +kernel
theorem dX7_unpack_98 : decode cX7_unpack 98 = .ok (.getfield 45, 3) := by decide +kernel
theorem dX7_unpack_101 : decode cX7_unpack 101 = .ok (.iload 5, 2) := by decide +kernel
theorem dX7_unpack_103 : decode cX7_unpack 103 = .ok (.lload_n 3, 1) := by decide +kernel
theorem dX7_unpack_104 : decode cX7_unpack 104 = .ok (.bipush 6, 2) := by decide +kernel
theorem dX7_unpack_106 : decode cX7_unpack 106 = .ok (.lshr, 1) := by decide +kernel
theorem dX7_unpack_107 : decode cX7_unpack 107 = .ok (.l2i, 1) := by decide +kernel
theorem dX7_unpack_108 : decode cX7_unpack 108 = .ok (.bipush 7, 2) := by decide +kernel
theorem dX7_unpack_110 : decode cX7_unpack 110 = .ok (.iand, 1) := by decide +kernel
theorem dX7_unpack_111 : decode cX7_unpack 111 = .ok (.iconst 1, 1) := by decide +kernel
theorem dX7_unpack_112 : decode cX7_unpack 112 = .ok (.isub, 1) := by decide +kernel
theorem dX7_unpack_113 : decode cX7_unpack 113 = .ok (.iastore, 1) := by decide +kernel
theorem dX7_unpack_114 : decode cX7_unpack 114 = .ok (.lload_n 3, 1) := by decide +kernel
theorem dX7_unpack_115 : decode cX7_unpack 115 = .ok (.bipush 9, 2) := by decide +kernel
theorem dX7_unpack_117 : decode cX7_unpack 117 = .ok (.lshr, 1) := by decide +kernel
theorem dX7_unpack_118 : decode cX7_unpack 118 = .ok (.lstore_n 3, 1) := by decide +kernel
theorem dX7_unpack_119 : decode cX7_unpack 119 = .ok (.iinc 5 (-1), 3) := by decide +kernel
theorem dX7_unpack_122 : decode cX7_unpack 122 = .ok (.goto (-90), 3) := by decide +kernel
theorem dX7_unpack_125 : decode cX7_unpack 125 = .ok (.return_, 1) := by decide +kernel
theorem dX7_action_0 : decode cX7_action 0 = .ok (.aload_n 0, 1) := by decide +kernel
theorem dX7_action_1 : decode cX7_action 1 = .ok (.getfield 7, 3) := by decide +kernel
theorem dX7_action_4 : decode cX7_action 4 = .ok (.bipush 6, 2) := by decide +kernel
theorem dX7_action_6 : decode cX7_action 6 = .ok (.iload_n 1, 1) := by decide +kernel
theorem dX7_action_7 : decode cX7_action 7 = .ok (.imul, 1) := by decide +kernel
theorem dX7_action_8 : decode cX7_action 8 = .ok (.aload_n 0, 1) := by decide +kernel
theorem dX7_action_9 : decode cX7_action 9 = .ok (.getfield 19, 3) := by decide +kernel
theorem dX7_action_12 : decode cX7_action 12 = .ok (.iload_n 1, 1) := by decide +kernel
theorem dX7_action_13 : decode cX7_action 13 = .ok (.iaload, 1) := by decide +kernel
theorem dX7_action_14 : decode cX7_action 14 = .ok (.iadd, 1) := by decide +kernel
theorem dX7_action_15 : decode cX7_action 15 = .ok (.iaload, 1) := by decide +kernel
theorem dX7_action_16 : decode cX7_action 16 = .ok (.ireturn, 1) := by decide +kernel
theorem dX7_operand_0 : decode cX7_operand 0 = .ok (.aload_n 0, 1) := by decide +kernel
theorem dX7_operand_1 : decode cX7_operand 1 = .ok (.getfield 13, 3) := by decide +kernel
theorem dX7_operand_4 : decode cX7_operand 4 = .ok (.bipush 6, 2) := by decide +kernel
theorem dX7_operand_6 : decode cX7_operand 6 = .ok (.iload_n 1, 1) := by decide +kernel
theorem dX7_operand_7 : decode cX7_operand 7 = .ok (.imul, 1) := by decide +kernel
theorem dX7_operand_8 : decode cX7_operand 8 = .ok (.aload_n 0, 1) := by decide +kernel
theorem dX7_operand_9 : decode cX7_operand 9 = .ok (.getfield 19, 3) := by decide +kernel
theorem dX7_operand_12 : decode cX7_operand 12 = .ok (.iload_n 1, 1) := by decide +kernel
theorem dX7_operand_13 : decode cX7_operand 13 = .ok (.iaload, 1) := by decide +kernel
theorem dX7_operand_14 : decode cX7_operand 14 = .ok (.iadd, 1) := by decide +kernel
theorem dX7_operand_15 : decode cX7_operand 15 = .ok (.iaload, 1) := by decide +kernel
theorem dX7_operand_16 : decode cX7_operand 16 = .ok (.ireturn, 1) := by decide +kernel
theorem dX7_waitedOn_0 : decode cX7_waitedOn 0 = .ok (.aload_n 0, 1) := by decide +kernel
theorem dX7_waitedOn_1 : decode cX7_waitedOn 1 = .ok (.getfield 13, 3) := by decide +kernel
theorem dX7_waitedOn_4 : decode cX7_waitedOn 4 = .ok (.bipush 6, 2) := by decide +kernel
theorem dX7_waitedOn_6 : decode cX7_waitedOn 6 = .ok (.iload_n 1, 1) := by decide +kernel
theorem dX7_waitedOn_7 : decode cX7_waitedOn 7 = .ok (.imul, 1) := by decide +kernel
theorem dX7_waitedOn_8 : decode cX7_waitedOn 8 = .ok (.aload_n 0, 1) := by decide +kernel
theorem dX7_waitedOn_9 : decode cX7_waitedOn 9 = .ok (.getfield 19, 3) := by decide +kernel
theorem dX7_waitedOn_12 : decode cX7_waitedOn 12 = .ok (.iload_n 1, 1) := by decide +kernel
theorem dX7_waitedOn_13 : decode cX7_waitedOn 13 = .ok (.iaload, 1) := by decide +kernel
theorem dX7_waitedOn_14 : decode cX7_waitedOn 14 = .ok (.iadd, 1) := by decide +kernel
theorem dX7_waitedOn_15 : decode cX7_waitedOn 15 = .ok (.iconst 1, 1) := by decide +kernel
theorem dX7_waitedOn_16 : decode cX7_waitedOn 16 = .ok (.isub, 1) := by decide +kernel
theorem dX7_waitedOn_17 : decode cX7_waitedOn 17 = .ok (.iaload, 1) := by decide +kernel
theorem dX7_waitedOn_18 : decode cX7_waitedOn 18 = .ok (.ireturn, 1) := by decide +kernel
theorem dX7_timed_0 : decode cX7_timed 0 = .ok (.aload_n 0, 1) := by decide +kernel
theorem dX7_timed_1 : decode cX7_timed 1 = .ok (.getfield 7, 3) := by decide +kernel
theorem dX7_timed_4 : decode cX7_timed 4 = .ok (.bipush 6, 2) := by decide +kernel
theorem dX7_timed_6 : decode cX7_timed 6 = .ok (.iload_n 1, 1) := by decide +kernel
theorem dX7_timed_7 : decode cX7_timed 7 = .ok (.imul, 1) := by decide +kernel
theorem dX7_timed_8 : decode cX7_timed 8 = .ok (.aload_n 0, 1) := by decide +kernel
theorem dX7_timed_9 : decode cX7_timed 9 = .ok (.getfield 19, 3) := by decide +kernel
theorem dX7_timed_12 : decode cX7_timed 12 = .ok (.iload_n 1, 1) := by decide +kernel
theorem dX7_timed_13 : decode cX7_timed 13 = .ok (.iaload, 1) := by decide +kernel
theorem dX7_timed_14 : decode cX7_timed 14 = .ok (.iadd, 1) := by decide +kernel
theorem dX7_timed_15 : decode cX7_timed 15 = .ok (.iconst 1, 1) := by decide +kernel
theorem dX7_timed_16 : decode cX7_timed 16 = .ok (.isub, 1) := by decide +kernel
theorem dX7_timed_17 : decode cX7_timed 17 = .ok (.iaload, 1) := by decide +kernel
theorem dX7_timed_18 : decode cX7_timed 18 = .ok (.iconst 3, 1) := by decide +kernel
theorem dX7_timed_19 : decode cX7_timed 19 = .ok (.if_icmp .ne 7, 3) := by decide +kernel
theorem dX7_timed_22 : decode cX7_timed 22 = .ok (.iconst 1, 1) := by decide +kernel
theorem dX7_timed_23 : decode cX7_timed 23 = .ok (.goto 4, 3) := by decide +kernel
theorem dX7_timed_26 : decode cX7_timed 26 = .ok (.iconst 0, 1) := by decide +kernel
theorem dX7_timed_27 : decode cX7_timed 27 = .ok (.ireturn, 1) := by decide +kernel
theorem dX7_runningMay_0 : decode cX7_runningMay 0 = .ok (.aload_n 0, 1) := by decide +kernel
theorem dX7_runningMay_1 : decode cX7_runningMay 1 = .ok (.iload_n 1, 1) := by decide +kernel
theorem dX7_runningMay_2 : decode cX7_runningMay 2 = .ok (.invokevirtual 91, 3) := by decide +kernel
theorem dX7_runningMay_5 : decode cX7_runningMay 5 = .ok (.istore_n 3, 1) := by decide +kernel
theorem dX7_runningMay_6 : decode cX7_runningMay 6 = .ok (.aload_n 0, 1) := by decide +kernel
theorem dX7_runningMay_7 : decode cX7_runningMay 7 = .ok (.iload_n 1, 1) := by decide +kernel
theorem dX7_runningMay_8 : decode cX7_runningMay 8 = .ok (.invokevirtual 95, 3) := by decide +kernel
theorem dX7_runningMay_11 : decode cX7_runningMay 11 = .ok (.istore 4, 2) := by decide +kernel
theorem dX7_runningMay_13 : decode cX7_runningMay 13 = .ok (.iload_n 3, 1) := by decide +kernel
theorem dX7_runningMay_14 : decode cX7_runningMay 14 = .ok (.iconst 4, 1) := by decide +kernel
theorem dX7_runningMay_15 : decode cX7_runningMay 15 = .ok (.if_icmp .ne 64, 3) := by decide +kernel
theorem dX7_runningMay_18 : decode cX7_runningMay 18 = .ok (.aload_n 0, 1) := by decide +kernel
theorem dX7_runningMay_19 : decode cX7_runningMay 19 = .ok (.getfield 45, 3) := by decide +kernel
theorem dX7_runningMay_22 : decode cX7_runningMay 22 = .ok (.iload 4, 2) := by decide +kernel
theorem dX7_runningMay_24 : decode cX7_runningMay 24 = .ok (.iaload, 1) := by decide +kernel
theorem dX7_runningMay_25 : decode cX7_runningMay 25 = .ok (.iload_n 1, 1) := by decide +kernel
theorem dX7_runningMay_26 : decode cX7_runningMay 26 = .ok (.if_icmp .ne 17, 3) := by decide +kernel
theorem dX7_runningMay_29 : decode cX7_runningMay 29 = .ok (.aload_n 0, 1) := by decide +kernel
theorem dX7_runningMay_30 : decode cX7_runningMay 30 = .ok (.getfield 51, 3) := by decide +kernel
theorem dX7_runningMay_33 : decode cX7_runningMay 33 = .ok (.iload 4, 2) := by decide +kernel
theorem dX7_runningMay_35 : decode cX7_runningMay 35 = .ok (.iaload, 1) := by decide +kernel
theorem dX7_runningMay_36 : decode cX7_runningMay 36 = .ok (.ifCond .le 7, 3) := by decide +kernel
theorem dX7_runningMay_39 : decode cX7_runningMay 39 = .ok (.iconst 1, 1) := by decide +kernel
theorem dX7_runningMay_40 : decode cX7_runningMay 40 = .ok (.goto 4, 3) := by decide +kernel
theorem dX7_runningMay_43 : decode cX7_runningMay 43 = .ok (.iconst 0, 1) := by decide +kernel
theorem dX7_runningMay_44 : decode cX7_runningMay 44 = .ok (.istore 5, 2) := by decide +kernel
theorem dX7_runningMay_46 : decode cX7_runningMay 46 = .ok (.iload 5, 2) := by decide +kernel
theorem dX7_runningMay_48 : decode cX7_runningMay 48 = .ok (.ifCond .eq 21, 3) := by decide +kernel
theorem dX7_runningMay_51 : decode cX7_runningMay 51 = .ok (.iload_n 2, 1) := by decide +kernel
theorem dX7_runningMay_52 : decode cX7_runningMay 52 = .ok (.iconst 1, 1) := by decide +kernel
theorem dX7_runningMay_53 : decode cX7_runningMay 53 = .ok (.if_icmp .eq 8, 3) := by decide +kernel
theorem dX7_runningMay_56 : decode cX7_runningMay 56 = .ok (.iload_n 2, 1) := by decide +kernel
theorem dX7_runningMay_57 : decode cX7_runningMay 57 = .ok (.iconst 2, 1) := by decide +kernel
theorem dX7_runningMay_58 : decode cX7_runningMay 58 = .ok (.if_icmp .ne 7, 3) := by decide +kernel
theorem dX7_runningMay_61 : decode cX7_runningMay 61 = .ok (.iconst 1, 1) := by decide +kernel
theorem dX7_runningMay_62 : decode cX7_runningMay 62 = .ok (.goto 16, 3) := by decide +kernel
theorem dX7_runningMay_65 : decode cX7_runningMay 65 = .ok (.iconst 0, 1) := by decide +kernel
theorem dX7_runningMay_66 : decode cX7_runningMay 66 = .ok (.goto 12, 3) := by decide +kernel
theorem dX7_runningMay_69 : decode cX7_runningMay 69 = .ok (.iload_n 2, 1) := by decide +kernel
theorem dX7_runningMay_70 : decode cX7_runningMay 70 = .ok (.ifCond .ne 7, 3) := by decide +kernel
theorem dX7_runningMay_73 : decode cX7_runningMay 73 = .ok (.iconst 1, 1) := by decide +kernel
theorem dX7_runningMay_74 : decode cX7_runningMay 74 = .ok (.goto 4, 3) := by decide +kernel
theorem dX7_runningMay_77 : decode cX7_runningMay 77 = .ok (.iconst 0, 1) := by decide +kernel
theorem dX7_runningMay_78 : decode cX7_runningMay 78 = .ok (.ireturn, 1) := by decide +kernel
theorem dX7_runningMay_79 : decode cX7_runningMay 79 = .ok (.iload_n 2, 1) := by decide +kernel
theorem dX7_runningMay_80 : decode cX7_runningMay 80 = .ok (.ifCond .eq 5, 3) := by decide +kernel
theorem dX7_runningMay_83 : decode cX7_runningMay 83 = .ok (.iconst 0, 1) := by decide +kernel
theorem dX7_runningMay_84 : decode cX7_runningMay 84 = .ok (.ireturn, 1) := by decide +kernel
theorem dX7_runningMay_85 : decode cX7_runningMay 85 = .ok (.iload_n 3, 1) := by decide +kernel
theorem dX7_runningMay_86 : decode cX7_runningMay 86 = .ok (.ifCond .ne 30, 3) := by decide +kernel
theorem dX7_runningMay_89 : decode cX7_runningMay 89 = .ok (.aload_n 0, 1) := by decide +kernel
theorem dX7_runningMay_90 : decode cX7_runningMay 90 = .ok (.getfield 45, 3) := by decide +kernel
theorem dX7_runningMay_93 : decode cX7_runningMay 93 = .ok (.iload 4, 2) := by decide +kernel
theorem dX7_runningMay_95 : decode cX7_runningMay 95 = .ok (.iaload, 1) := by decide +kernel
theorem dX7_runningMay_96 : decode cX7_runningMay 96 = .ok (.ifCond .lt 14, 3) := by decide +kernel
theorem dX7_runningMay_99 : decode cX7_runningMay 99 = .ok (.aload_n 0, 1) := by decide +kernel
theorem dX7_runningMay_100 : decode cX7_runningMay 100 = .ok (.getfield 45, 3) := by decide +kernel
theorem dX7_runningMay_103 : decode cX7_runningMay 103 = .ok (.iload 4, 2) := by decide +kernel
theorem dX7_runningMay_105 : decode cX7_runningMay 105 = .ok (.iaload, 1) := by decide +kernel
theorem dX7_runningMay_106 : decode cX7_runningMay 106 = .ok (.iload_n 1, 1) := by decide +kernel
theorem dX7_runningMay_107 : decode cX7_runningMay 107 = .ok (.if_icmp .ne 7, 3) := by decide +kernel
theorem dX7_runningMay_110 : decode cX7_runningMay 110 = .ok (.iconst 1, 1) := by decide +kernel
theorem dX7_runningMay_111 : decode cX7_runningMay 111 = .ok (.goto 4, 3) := by decide +kernel
theorem dX7_runningMay_114 : decode cX7_runningMay 114 = .ok (.iconst 0, 1) := by decide +kernel
theorem dX7_runningMay_115 : decode cX7_runningMay 115 = .ok (.ireturn, 1) := by decide +kernel
theorem dX7_runningMay_116 : decode cX7_runningMay 116 = .ok (.iload_n 3, 1) := by decide +kernel
theorem dX7_runningMay_117 : decode cX7_runningMay 117 = .ok (.bipush 9, 2) := by decide +kernel
theorem dX7_runningMay_119 : decode cX7_runningMay 119 = .ok (.if_icmp .ne 23, 3) := by decide +kernel
theorem dX7_runningMay_122 : decode cX7_runningMay 122 = .ok (.aload_n 0, 1) := by decide +kernel
theorem dX7_runningMay_123 : decode cX7_runningMay 123 = .ok (.getfield 35, 3) := by decide +kernel
theorem dX7_runningMay_126 : decode cX7_runningMay 126 = .ok (.iload_n 1, 1) := by decide +kernel
theorem dX7_runningMay_127 : decode cX7_runningMay 127 = .ok (.baload, 1) := by decide +kernel
theorem dX7_runningMay_128 : decode cX7_runningMay 128 = .ok (.ifCond .ne 14, 3) := by decide +kernel
theorem dX7_runningMay_131 : decode cX7_runningMay 131 = .ok (.aload_n 0, 1) := by decide +kernel
theorem dX7_runningMay_132 : decode cX7_runningMay 132 = .ok (.getfield 22, 3) := by decide +kernel
theorem dX7_runningMay_135 : decode cX7_runningMay 135 = .ok (.iload 4, 2) := by decide +kernel
theorem dX7_runningMay_137 : decode cX7_runningMay 137 = .ok (.iaload, 1) := by decide +kernel
theorem dX7_runningMay_138 : decode cX7_runningMay 138 = .ok (.iconst 4, 1) := by decide +kernel
theorem dX7_runningMay_139 : decode cX7_runningMay 139 = .ok (.if_icmp .ne 7, 3) := by decide +kernel
theorem dX7_runningMay_142 : decode cX7_runningMay 142 = .ok (.iconst 1, 1) := by decide +kernel
theorem dX7_runningMay_143 : decode cX7_runningMay 143 = .ok (.goto 4, 3) := by decide +kernel
theorem dX7_runningMay_146 : decode cX7_runningMay 146 = .ok (.iconst 0, 1) := by decide +kernel
theorem dX7_runningMay_147 : decode cX7_runningMay 147 = .ok (.ireturn, 1) := by decide +kernel
theorem dX7_may_0 : decode cX7_may 0 = .ok (.aload_n 0, 1) := by decide +kernel
theorem dX7_may_1 : decode cX7_may 1 = .ok (.getfield 22, 3) := by decide +kernel
theorem dX7_may_4 : decode cX7_may 4 = .ok (.iload_n 1, 1) := by decide +kernel
theorem dX7_may_5 : decode cX7_may 5 = .ok (.iaload, 1) := by decide +kernel
theorem dX7_may_6 : decode cX7_may 6 = .ok (.tableswitch 163 0 3 #[30, 37, 99, 122], 30) := by decide +kernel
theorem dX7_may_36 : decode cX7_may 36 = .ok (.aload_n 0, 1) := by decide +kernel
theorem dX7_may_37 : decode cX7_may 37 = .ok (.iload_n 1, 1) := by decide +kernel
theorem dX7_may_38 : decode cX7_may 38 = .ok (.iload_n 2, 1) := by decide +kernel
theorem dX7_may_39 : decode cX7_may 39 = .ok (.invokevirtual 98, 3) := by decide +kernel
theorem dX7_may_42 : decode cX7_may 42 = .ok (.ireturn, 1) := by decide +kernel
theorem dX7_may_43 : decode cX7_may 43 = .ok (.iload_n 2, 1) := by decide +kernel
theorem dX7_may_44 : decode cX7_may 44 = .ok (.iconst 1, 1) := by decide +kernel
theorem dX7_may_45 : decode cX7_may 45 = .ok (.if_icmp .ne 12, 3) := by decide +kernel
theorem dX7_may_48 : decode cX7_may 48 = .ok (.aload_n 0, 1) := by decide +kernel
theorem dX7_may_49 : decode cX7_may 49 = .ok (.getfield 35, 3) := by decide +kernel
theorem dX7_may_52 : decode cX7_may 52 = .ok (.iload_n 1, 1) := by decide +kernel
theorem dX7_may_53 : decode cX7_may 53 = .ok (.baload, 1) := by decide +kernel
theorem dX7_may_54 : decode cX7_may 54 = .ok (.goto 50, 3) := by decide +kernel
theorem dX7_may_57 : decode cX7_may 57 = .ok (.iload_n 2, 1) := by decide +kernel
theorem dX7_may_58 : decode cX7_may 58 = .ok (.iconst 2, 1) := by decide +kernel
theorem dX7_may_59 : decode cX7_may 59 = .ok (.if_icmp .ne 27, 3) := by decide +kernel
theorem dX7_may_62 : decode cX7_may 62 = .ok (.aload_n 0, 1) := by decide +kernel
theorem dX7_may_63 : decode cX7_may 63 = .ok (.getfield 69, 3) := by decide +kernel
theorem dX7_may_66 : decode cX7_may 66 = .ok (.ifCond .eq 16, 3) := by decide +kernel
theorem dX7_may_69 : decode cX7_may 69 = .ok (.aload_n 0, 1) := by decide +kernel
theorem dX7_may_70 : decode cX7_may 70 = .ok (.getfield 42, 3) := by decide +kernel
theorem dX7_may_73 : decode cX7_may 73 = .ok (.iload_n 1, 1) := by decide +kernel
theorem dX7_may_74 : decode cX7_may 74 = .ok (.baload, 1) := by decide +kernel
theorem dX7_may_75 : decode cX7_may 75 = .ok (.ifCond .ne 7, 3) := by decide +kernel
theorem dX7_may_78 : decode cX7_may 78 = .ok (.iconst 1, 1) := by decide +kernel
theorem dX7_may_79 : decode cX7_may 79 = .ok (.goto 25, 3) := by decide +kernel
theorem dX7_may_82 : decode cX7_may 82 = .ok (.iconst 0, 1) := by decide +kernel
theorem dX7_may_83 : decode cX7_may 83 = .ok (.goto 21, 3) := by decide +kernel
theorem dX7_may_86 : decode cX7_may 86 = .ok (.iload_n 2, 1) := by decide +kernel
theorem dX7_may_87 : decode cX7_may 87 = .ok (.iconst 3, 1) := by decide +kernel
theorem dX7_may_88 : decode cX7_may 88 = .ok (.if_icmp .ne 15, 3) := by decide +kernel
theorem dX7_may_91 : decode cX7_may 91 = .ok (.aload_n 0, 1) := by decide +kernel
theorem dX7_may_92 : decode cX7_may 92 = .ok (.iload_n 1, 1) := by decide +kernel
theorem dX7_may_93 : decode cX7_may 93 = .ok (.invokevirtual 102, 3) := by decide +kernel
theorem dX7_may_96 : decode cX7_may 96 = .ok (.ifCond .eq 7, 3) := by decide +kernel
theorem dX7_may_99 : decode cX7_may 99 = .ok (.iconst 1, 1) := by decide +kernel
theorem dX7_may_100 : decode cX7_may 100 = .ok (.goto 4, 3) := by decide +kernel
theorem dX7_may_103 : decode cX7_may 103 = .ok (.iconst 0, 1) := by decide +kernel
theorem dX7_may_104 : decode cX7_may 104 = .ok (.ireturn, 1) := by decide +kernel
theorem dX7_may_105 : decode cX7_may 105 = .ok (.iload_n 2, 1) := by decide +kernel
theorem dX7_may_106 : decode cX7_may 106 = .ok (.ifCond .ne 20, 3) := by decide +kernel
theorem dX7_may_109 : decode cX7_may 109 = .ok (.aload_n 0, 1) := by decide +kernel
theorem dX7_may_110 : decode cX7_may 110 = .ok (.getfield 45, 3) := by decide +kernel
theorem dX7_may_113 : decode cX7_may 113 = .ok (.aload_n 0, 1) := by decide +kernel
theorem dX7_may_114 : decode cX7_may 114 = .ok (.iload_n 1, 1) := by decide +kernel
theorem dX7_may_115 : decode cX7_may 115 = .ok (.invokevirtual 106, 3) := by decide +kernel
theorem dX7_may_118 : decode cX7_may 118 = .ok (.iaload, 1) := by decide +kernel
theorem dX7_may_119 : decode cX7_may 119 = .ok (.ifCond .ge 7, 3) := by decide +kernel
theorem dX7_may_122 : decode cX7_may 122 = .ok (.iconst 1, 1) := by decide +kernel
theorem dX7_may_123 : decode cX7_may 123 = .ok (.goto 4, 3) := by decide +kernel
theorem dX7_may_126 : decode cX7_may 126 = .ok (.iconst 0, 1) := by decide +kernel
theorem dX7_may_127 : decode cX7_may 127 = .ok (.ireturn, 1) := by decide +kernel
theorem dX7_may_128 : decode cX7_may 128 = .ok (.iload_n 2, 1) := by decide +kernel
theorem dX7_may_129 : decode cX7_may 129 = .ok (.iconst 1, 1) := by decide +kernel
theorem dX7_may_130 : decode cX7_may 130 = .ok (.if_icmp .ne 12, 3) := by decide +kernel
theorem dX7_may_133 : decode cX7_may 133 = .ok (.aload_n 0, 1) := by decide +kernel
theorem dX7_may_134 : decode cX7_may 134 = .ok (.getfield 35, 3) := by decide +kernel
theorem dX7_may_137 : decode cX7_may 137 = .ok (.iload_n 1, 1) := by decide +kernel
theorem dX7_may_138 : decode cX7_may 138 = .ok (.baload, 1) := by decide +kernel
theorem dX7_may_139 : decode cX7_may 139 = .ok (.goto 29, 3) := by decide +kernel
theorem dX7_may_142 : decode cX7_may 142 = .ok (.iload_n 2, 1) := by decide +kernel
theorem dX7_may_143 : decode cX7_may 143 = .ok (.iconst 3, 1) := by decide +kernel
theorem dX7_may_144 : decode cX7_may 144 = .ok (.if_icmp .ne 23, 3) := by decide +kernel
theorem dX7_may_147 : decode cX7_may 147 = .ok (.aload_n 0, 1) := by decide +kernel
theorem dX7_may_148 : decode cX7_may 148 = .ok (.getfield 69, 3) := by decide +kernel
theorem dX7_may_151 : decode cX7_may 151 = .ok (.ifCond .eq 16, 3) := by decide +kernel
theorem dX7_may_154 : decode cX7_may 154 = .ok (.aload_n 0, 1) := by decide +kernel
theorem dX7_may_155 : decode cX7_may 155 = .ok (.getfield 42, 3) := by decide +kernel
theorem dX7_may_158 : decode cX7_may 158 = .ok (.iload_n 1, 1) := by decide +kernel
theorem dX7_may_159 : decode cX7_may 159 = .ok (.baload, 1) := by decide +kernel
theorem dX7_may_160 : decode cX7_may 160 = .ok (.ifCond .ne 7, 3) := by decide +kernel
theorem dX7_may_163 : decode cX7_may 163 = .ok (.iconst 1, 1) := by decide +kernel
theorem dX7_may_164 : decode cX7_may 164 = .ok (.goto 4, 3) := by decide +kernel
theorem dX7_may_167 : decode cX7_may 167 = .ok (.iconst 0, 1) := by decide +kernel
theorem dX7_may_168 : decode cX7_may 168 = .ok (.ireturn, 1) := by decide +kernel
theorem dX7_may_169 : decode cX7_may 169 = .ok (.iconst 0, 1) := by decide +kernel
theorem dX7_may_170 : decode cX7_may 170 = .ok (.ireturn, 1) := by decide +kernel
theorem dX7_put_0 : decode cX7_put 0 = .ok (.aload_n 0, 1) := by decide +kernel
theorem dX7_put_1 : decode cX7_put 1 = .ok (.getfield 31, 3) := by decide +kernel
theorem dX7_put_4 : decode cX7_put 4 = .ok (.iload_n 1, 1) := by decide +kernel
theorem dX7_put_5 : decode cX7_put 5 = .ok (.ldc2_w 109, 3) := by decide +kernel
theorem dX7_put_8 : decode cX7_put 8 = .ok (.aload_n 0, 1) := by decide +kernel
theorem dX7_put_9 : decode cX7_put 9 = .ok (.getfield 31, 3) := by decide +kernel
theorem dX7_put_12 : decode cX7_put 12 = .ok (.iload_n 1, 1) := by decide +kernel
theorem dX7_put_13 : decode cX7_put 13 = .ok (.laload, 1) := by decide +kernel
theorem dX7_put_14 : decode cX7_put 14 = .ok (.lmul, 1) := by decide +kernel
theorem dX7_put_15 : decode cX7_put 15 = .ok (.iload_n 2, 1) := by decide +kernel
theorem dX7_put_16 : decode cX7_put 16 = .ok (.i2l, 1) := by decide +kernel
theorem dX7_put_17 : decode cX7_put 17 = .ok (.ladd, 1) := by decide +kernel
theorem dX7_put_18 : decode cX7_put 18 = .ok (.lastore, 1) := by decide +kernel
theorem dX7_put_19 : decode cX7_put 19 = .ok (.aload_n 0, 1) := by decide +kernel
theorem dX7_put_20 : decode cX7_put 20 = .ok (.getfield 28, 3) := by decide +kernel
theorem dX7_put_23 : decode cX7_put 23 = .ok (.iload_n 1, 1) := by decide +kernel
theorem dX7_put_24 : decode cX7_put 24 = .ok (.dup2, 1) := by decide +kernel
theorem dX7_put_25 : decode cX7_put 25 = .ok (.iaload, 1) := by decide +kernel
theorem dX7_put_26 : decode cX7_put 26 = .ok (.iconst 1, 1) := by decide +kernel
theorem dX7_put_27 : decode cX7_put 27 = .ok (.iadd, 1) := by decide +kernel
theorem dX7_put_28 : decode cX7_put 28 = .ok (.iastore, 1) := by decide +kernel
theorem dX7_put_29 : decode cX7_put 29 = .ok (.return_, 1) := by decide +kernel
theorem dX7_run_0 : decode cX7_run 0 = .ok (.aload_n 0, 1) := by decide +kernel
theorem dX7_run_1 : decode cX7_run 1 = .ok (.getfield 22, 3) := by decide +kernel
theorem dX7_run_4 : decode cX7_run 4 = .ok (.iload_n 1, 1) := by decide +kernel
theorem dX7_run_5 : decode cX7_run 5 = .ok (.aload_n 0, 1) := by decide +kernel
theorem dX7_run_6 : decode cX7_run 6 = .ok (.getfield 19, 3) := by decide +kernel
theorem dX7_run_9 : decode cX7_run 9 = .ok (.iload_n 1, 1) := by decide +kernel
theorem dX7_run_10 : decode cX7_run 10 = .ok (.iaload, 1) := by decide +kernel
theorem dX7_run_11 : decode cX7_run 11 = .ok (.aload_n 0, 1) := by decide +kernel
theorem dX7_run_12 : decode cX7_run 12 = .ok (.getfield 16, 3) := by decide +kernel
theorem dX7_run_15 : decode cX7_run 15 = .ok (.iload_n 1, 1) := by decide +kernel
theorem dX7_run_16 : decode cX7_run 16 = .ok (.iaload, 1) := by decide +kernel
theorem dX7_run_17 : decode cX7_run 17 = .ok (.if_icmp .ne 7, 3) := by decide +kernel
theorem dX7_run_20 : decode cX7_run 20 = .ok (.iconst 4, 1) := by decide +kernel
theorem dX7_run_21 : decode cX7_run 21 = .ok (.goto 4, 3) := by decide +kernel
theorem dX7_run_24 : decode cX7_run 24 = .ok (.iconst 0, 1) := by decide +kernel
theorem dX7_run_25 : decode cX7_run 25 = .ok (.iastore, 1) := by decide +kernel
theorem dX7_run_26 : decode cX7_run 26 = .ok (.return_, 1) := by decide +kernel
theorem dX7_leaveSet_0 : decode cX7_leaveSet 0 = .ok (.aload_n 0, 1) := by decide +kernel
theorem dX7_leaveSet_1 : decode cX7_leaveSet 1 = .ok (.iload_n 1, 1) := by decide +kernel
theorem dX7_leaveSet_2 : decode cX7_leaveSet 2 = .ok (.invokevirtual 106, 3) := by decide +kernel
theorem dX7_leaveSet_5 : decode cX7_leaveSet 5 = .ok (.istore_n 2, 1) := by decide +kernel
theorem dX7_leaveSet_6 : decode cX7_leaveSet 6 = .ok (.iconst 0, 1) := by decide +kernel
theorem dX7_leaveSet_7 : decode cX7_leaveSet 7 = .ok (.istore_n 3, 1) := by decide +kernel
theorem dX7_leaveSet_8 : decode cX7_leaveSet 8 = .ok (.aload_n 0, 1) := by decide +kernel
theorem dX7_leaveSet_9 : decode cX7_leaveSet 9 = .ok (.getfield 54, 3) := by decide +kernel
theorem dX7_leaveSet_12 : decode cX7_leaveSet 12 = .ok (.iconst 4, 1) := by decide +kernel
theorem dX7_leaveSet_13 : decode cX7_leaveSet 13 = .ok (.iload_n 2, 1) := by decide +kernel
theorem dX7_leaveSet_14 : decode cX7_leaveSet 14 = .ok (.imul, 1) := by decide +kernel
theorem dX7_leaveSet_15 : decode cX7_leaveSet 15 = .ok (.iload_n 3, 1) := by decide +kernel
theorem dX7_leaveSet_16 : decode cX7_leaveSet 16 = .ok (.iadd, 1) := by decide +kernel
theorem dX7_leaveSet_17 : decode cX7_leaveSet 17 = .ok (.iaload, 1) := by decide +kernel
theorem dX7_leaveSet_18 : decode cX7_leaveSet 18 = .ok (.iload_n 1, 1) := by decide +kernel
theorem dX7_leaveSet_19 : decode cX7_leaveSet 19 = .ok (.if_icmp .eq 9, 3) := by decide +kernel
theorem dX7_leaveSet_22 : decode cX7_leaveSet 22 = .ok (.iinc 3 1, 3) := by decide +kernel
theorem dX7_leaveSet_25 : decode cX7_leaveSet 25 = .ok (.goto (-17), 3) := by decide +kernel
theorem dX7_leaveSet_28 : decode cX7_leaveSet 28 = .ok (.aload_n 0, 1) := by decide +kernel
theorem dX7_leaveSet_29 : decode cX7_leaveSet 29 = .ok (.getfield 51, 3) := by decide +kernel
theorem dX7_leaveSet_32 : decode cX7_leaveSet 32 = .ok (.iload_n 2, 1) := by decide +kernel
theorem dX7_leaveSet_33 : decode cX7_leaveSet 33 = .ok (.dup2, 1) := by decide +kernel
theorem dX7_leaveSet_34 : decode cX7_leaveSet 34 = .ok (.iaload, 1) := by decide +kernel
theorem dX7_leaveSet_35 : decode cX7_leaveSet 35 = .ok (.iconst 1, 1) := by decide +kernel
theorem dX7_leaveSet_36 : decode cX7_leaveSet 36 = .ok (.isub, 1) := by decide +kernel
theorem dX7_leaveSet_37 : decode cX7_leaveSet 37 = .ok (.iastore, 1) := by decide +kernel
theorem dX7_leaveSet_38 : decode cX7_leaveSet 38 = .ok (.iload_n 3, 1) := by decide +kernel
theorem dX7_leaveSet_39 : decode cX7_leaveSet 39 = .ok (.istore 4, 2) := by decide +kernel
theorem dX7_leaveSet_41 : decode cX7_leaveSet 41 = .ok (.iload 4, 2) := by decide +kernel
theorem dX7_leaveSet_43 : decode cX7_leaveSet 43 = .ok (.aload_n 0, 1) := by decide +kernel
theorem dX7_leaveSet_44 : decode cX7_leaveSet 44 = .ok (.getfield 51, 3) := by decide +kernel
theorem dX7_leaveSet_47 : decode cX7_leaveSet 47 = .ok (.iload_n 2, 1) := by decide +kernel
theorem dX7_leaveSet_48 : decode cX7_leaveSet 48 = .ok (.iaload, 1) := by decide +kernel
theorem dX7_leaveSet_49 : decode cX7_leaveSet 49 = .ok (.if_icmp .ge 33, 3) := by decide +kernel
theorem dX7_leaveSet_52 : decode cX7_leaveSet 52 = .ok (.aload_n 0, 1) := by decide +kernel
theorem dX7_leaveSet_53 : decode cX7_leaveSet 53 = .ok (.getfield 54, 3) := by decide +kernel
theorem dX7_leaveSet_56 : decode cX7_leaveSet 56 = .ok (.iconst 4, 1) := by decide +kernel
theorem dX7_leaveSet_57 : decode cX7_leaveSet 57 = .ok (.iload_n 2, 1) := by decide +kernel
theorem dX7_leaveSet_58 : decode cX7_leaveSet 58 = .ok (.imul, 1) := by decide +kernel
theorem dX7_leaveSet_59 : decode cX7_leaveSet 59 = .ok (.iload 4, 2) := by decide +kernel
theorem dX7_leaveSet_61 : decode cX7_leaveSet 61 = .ok (.iadd, 1) := by decide +kernel
theorem dX7_leaveSet_62 : decode cX7_leaveSet 62 = .ok (.aload_n 0, 1) := by decide +kernel
theorem dX7_leaveSet_63 : decode cX7_leaveSet 63 = .ok (.getfield 54, 3) := by decide +kernel
theorem dX7_leaveSet_66 : decode cX7_leaveSet 66 = .ok (.iconst 4, 1) := by decide +kernel
theorem dX7_leaveSet_67 : decode cX7_leaveSet 67 = .ok (.iload_n 2, 1) := by decide +kernel
theorem dX7_leaveSet_68 : decode cX7_leaveSet 68 = .ok (.imul, 1) := by decide +kernel
theorem dX7_leaveSet_69 : decode cX7_leaveSet 69 = .ok (.iload 4, 2) := by decide +kernel
theorem dX7_leaveSet_71 : decode cX7_leaveSet 71 = .ok (.iadd, 1) := by decide +kernel
theorem dX7_leaveSet_72 : decode cX7_leaveSet 72 = .ok (.iconst 1, 1) := by decide +kernel
theorem dX7_leaveSet_73 : decode cX7_leaveSet 73 = .ok (.iadd, 1) := by decide +kernel
theorem dX7_leaveSet_74 : decode cX7_leaveSet 74 = .ok (.iaload, 1) := by decide +kernel
theorem dX7_leaveSet_75 : decode cX7_leaveSet 75 = .ok (.iastore, 1) := by decide +kernel
theorem dX7_leaveSet_76 : decode cX7_leaveSet 76 = .ok (.iinc 4 1, 3) := by decide +kernel
theorem dX7_leaveSet_79 : decode cX7_leaveSet 79 = .ok (.goto (-38), 3) := by decide +kernel
theorem dX7_leaveSet_82 : decode cX7_leaveSet 82 = .ok (.aload_n 0, 1) := by decide +kernel
theorem dX7_leaveSet_83 : decode cX7_leaveSet 83 = .ok (.getfield 22, 3) := by decide +kernel
theorem dX7_leaveSet_86 : decode cX7_leaveSet 86 = .ok (.iload_n 1, 1) := by decide +kernel
theorem dX7_leaveSet_87 : decode cX7_leaveSet 87 = .ok (.iconst 2, 1) := by decide +kernel
theorem dX7_leaveSet_88 : decode cX7_leaveSet 88 = .ok (.iastore, 1) := by decide +kernel
theorem dX7_leaveSet_89 : decode cX7_leaveSet 89 = .ok (.return_, 1) := by decide +kernel
theorem dX7_notified_0 : decode cX7_notified 0 = .ok (.aload_n 0, 1) := by decide +kernel
theorem dX7_notified_1 : decode cX7_notified 1 = .ok (.iload_n 1, 1) := by decide +kernel
theorem dX7_notified_2 : decode cX7_notified 2 = .ok (.invokevirtual 111, 3) := by decide +kernel
theorem dX7_notified_5 : decode cX7_notified 5 = .ok (.aload_n 0, 1) := by decide +kernel
theorem dX7_notified_6 : decode cX7_notified 6 = .ok (.iload_n 1, 1) := by decide +kernel
theorem dX7_notified_7 : decode cX7_notified 7 = .ok (.iconst 2, 1) := by decide +kernel
theorem dX7_notified_8 : decode cX7_notified 8 = .ok (.invokevirtual 115, 3) := by decide +kernel
theorem dX7_notified_11 : decode cX7_notified 11 = .ok (.return_, 1) := by decide +kernel
theorem dX7_waitOn_0 : decode cX7_waitOn 0 = .ok (.aload_n 0, 1) := by decide +kernel
theorem dX7_waitOn_1 : decode cX7_waitOn 1 = .ok (.getfield 35, 3) := by decide +kernel
theorem dX7_waitOn_4 : decode cX7_waitOn 4 = .ok (.iload_n 1, 1) := by decide +kernel
theorem dX7_waitOn_5 : decode cX7_waitOn 5 = .ok (.baload, 1) := by decide +kernel
theorem dX7_waitOn_6 : decode cX7_waitOn 6 = .ok (.ifCond .eq 17, 3) := by decide +kernel
theorem dX7_waitOn_9 : decode cX7_waitOn 9 = .ok (.aload_n 0, 1) := by decide +kernel
theorem dX7_waitOn_10 : decode cX7_waitOn 10 = .ok (.getfield 35, 3) := by decide +kernel
theorem dX7_waitOn_13 : decode cX7_waitOn 13 = .ok (.iload_n 1, 1) := by decide +kernel
theorem dX7_waitOn_14 : decode cX7_waitOn 14 = .ok (.iconst 0, 1) := by decide +kernel
theorem dX7_waitOn_15 : decode cX7_waitOn 15 = .ok (.bastore, 1) := by decide +kernel
theorem dX7_waitOn_16 : decode cX7_waitOn 16 = .ok (.aload_n 0, 1) := by decide +kernel
theorem dX7_waitOn_17 : decode cX7_waitOn 17 = .ok (.iload_n 1, 1) := by decide +kernel
theorem dX7_waitOn_18 : decode cX7_waitOn 18 = .ok (.iconst 1, 1) := by decide +kernel
theorem dX7_waitOn_19 : decode cX7_waitOn 19 = .ok (.invokevirtual 115, 3) := by decide +kernel
theorem dX7_waitOn_22 : decode cX7_waitOn 22 = .ok (.return_, 1) := by decide +kernel
theorem dX7_waitOn_23 : decode cX7_waitOn 23 = .ok (.aload_n 0, 1) := by decide +kernel
theorem dX7_waitOn_24 : decode cX7_waitOn 24 = .ok (.getfield 25, 3) := by decide +kernel
theorem dX7_waitOn_27 : decode cX7_waitOn 27 = .ok (.iload_n 1, 1) := by decide +kernel
theorem dX7_waitOn_28 : decode cX7_waitOn 28 = .ok (.aload_n 0, 1) := by decide +kernel
theorem dX7_waitOn_29 : decode cX7_waitOn 29 = .ok (.getfield 48, 3) := by decide +kernel
theorem dX7_waitOn_32 : decode cX7_waitOn 32 = .ok (.iload_n 2, 1) := by decide +kernel
theorem dX7_waitOn_33 : decode cX7_waitOn 33 = .ok (.iaload, 1) := by decide +kernel
theorem dX7_waitOn_34 : decode cX7_waitOn 34 = .ok (.iastore, 1) := by decide +kernel
theorem dX7_waitOn_35 : decode cX7_waitOn 35 = .ok (.aload_n 0, 1) := by decide +kernel
theorem dX7_waitOn_36 : decode cX7_waitOn 36 = .ok (.getfield 45, 3) := by decide +kernel
theorem dX7_waitOn_39 : decode cX7_waitOn 39 = .ok (.iload_n 2, 1) := by decide +kernel
theorem dX7_waitOn_40 : decode cX7_waitOn 40 = .ok (.iconst (-1), 1) := by decide +kernel
theorem dX7_waitOn_41 : decode cX7_waitOn 41 = .ok (.iastore, 1) := by decide +kernel
theorem dX7_waitOn_42 : decode cX7_waitOn 42 = .ok (.aload_n 0, 1) := by decide +kernel
theorem dX7_waitOn_43 : decode cX7_waitOn 43 = .ok (.getfield 48, 3) := by decide +kernel
theorem dX7_waitOn_46 : decode cX7_waitOn 46 = .ok (.iload_n 2, 1) := by decide +kernel
theorem dX7_waitOn_47 : decode cX7_waitOn 47 = .ok (.iconst 0, 1) := by decide +kernel
theorem dX7_waitOn_48 : decode cX7_waitOn 48 = .ok (.iastore, 1) := by decide +kernel
theorem dX7_waitOn_49 : decode cX7_waitOn 49 = .ok (.aload_n 0, 1) := by decide +kernel
theorem dX7_waitOn_50 : decode cX7_waitOn 50 = .ok (.getfield 54, 3) := by decide +kernel
theorem dX7_waitOn_53 : decode cX7_waitOn 53 = .ok (.iconst 4, 1) := by decide +kernel
theorem dX7_waitOn_54 : decode cX7_waitOn 54 = .ok (.iload_n 2, 1) := by decide +kernel
theorem dX7_waitOn_55 : decode cX7_waitOn 55 = .ok (.imul, 1) := by decide +kernel
theorem dX7_waitOn_56 : decode cX7_waitOn 56 = .ok (.aload_n 0, 1) := by decide +kernel
theorem dX7_waitOn_57 : decode cX7_waitOn 57 = .ok (.getfield 51, 3) := by decide +kernel
theorem dX7_waitOn_60 : decode cX7_waitOn 60 = .ok (.iload_n 2, 1) := by decide +kernel
theorem dX7_waitOn_61 : decode cX7_waitOn 61 = .ok (.iaload, 1) := by decide +kernel
theorem dX7_waitOn_62 : decode cX7_waitOn 62 = .ok (.iadd, 1) := by decide +kernel
theorem dX7_waitOn_63 : decode cX7_waitOn 63 = .ok (.iload_n 1, 1) := by decide +kernel
theorem dX7_waitOn_64 : decode cX7_waitOn 64 = .ok (.iastore, 1) := by decide +kernel
theorem dX7_waitOn_65 : decode cX7_waitOn 65 = .ok (.aload_n 0, 1) := by decide +kernel
theorem dX7_waitOn_66 : decode cX7_waitOn 66 = .ok (.getfield 51, 3) := by decide +kernel
theorem dX7_waitOn_69 : decode cX7_waitOn 69 = .ok (.iload_n 2, 1) := by decide +kernel
theorem dX7_waitOn_70 : decode cX7_waitOn 70 = .ok (.dup2, 1) := by decide +kernel
theorem dX7_waitOn_71 : decode cX7_waitOn 71 = .ok (.iaload, 1) := by decide +kernel
theorem dX7_waitOn_72 : decode cX7_waitOn 72 = .ok (.iconst 1, 1) := by decide +kernel
theorem dX7_waitOn_73 : decode cX7_waitOn 73 = .ok (.iadd, 1) := by decide +kernel
theorem dX7_waitOn_74 : decode cX7_waitOn 74 = .ok (.iastore, 1) := by decide +kernel
theorem dX7_waitOn_75 : decode cX7_waitOn 75 = .ok (.aload_n 0, 1) := by decide +kernel
theorem dX7_waitOn_76 : decode cX7_waitOn 76 = .ok (.getfield 22, 3) := by decide +kernel
theorem dX7_waitOn_79 : decode cX7_waitOn 79 = .ok (.iload_n 1, 1) := by decide +kernel
theorem dX7_waitOn_80 : decode cX7_waitOn 80 = .ok (.iconst 1, 1) := by decide +kernel
theorem dX7_waitOn_81 : decode cX7_waitOn 81 = .ok (.iastore, 1) := by decide +kernel
theorem dX7_waitOn_82 : decode cX7_waitOn 82 = .ok (.return_, 1) := by decide +kernel
theorem dX7_monitorAction_0 : decode cX7_monitorAction 0 = .ok (.iload_n 2, 1) := by decide +kernel
theorem dX7_monitorAction_1 : decode cX7_monitorAction 1 = .ok (.ifCond .ne 23, 3) := by decide +kernel
theorem dX7_monitorAction_4 : decode cX7_monitorAction 4 = .ok (.aload_n 0, 1) := by decide +kernel
theorem dX7_monitorAction_5 : decode cX7_monitorAction 5 = .ok (.getfield 45, 3) := by decide +kernel
theorem dX7_monitorAction_8 : decode cX7_monitorAction 8 = .ok (.iload_n 3, 1) := by decide +kernel
theorem dX7_monitorAction_9 : decode cX7_monitorAction 9 = .ok (.iload_n 1, 1) := by decide +kernel
theorem dX7_monitorAction_10 : decode cX7_monitorAction 10 = .ok (.iastore, 1) := by decide +kernel
theorem dX7_monitorAction_11 : decode cX7_monitorAction 11 = .ok (.aload_n 0, 1) := by decide +kernel
theorem dX7_monitorAction_12 : decode cX7_monitorAction 12 = .ok (.getfield 48, 3) := by decide +kernel
theorem dX7_monitorAction_15 : decode cX7_monitorAction 15 = .ok (.iload_n 3, 1) := by decide +kernel
theorem dX7_monitorAction_16 : decode cX7_monitorAction 16 = .ok (.dup2, 1) := by decide +kernel
theorem dX7_monitorAction_17 : decode cX7_monitorAction 17 = .ok (.iaload, 1) := by decide +kernel
theorem dX7_monitorAction_18 : decode cX7_monitorAction 18 = .ok (.iconst 1, 1) := by decide +kernel
theorem dX7_monitorAction_19 : decode cX7_monitorAction 19 = .ok (.iadd, 1) := by decide +kernel
theorem dX7_monitorAction_20 : decode cX7_monitorAction 20 = .ok (.iastore, 1) := by decide +kernel
theorem dX7_monitorAction_21 : decode cX7_monitorAction 21 = .ok (.goto 138, 3) := by decide +kernel
theorem dX7_monitorAction_24 : decode cX7_monitorAction 24 = .ok (.aload_n 0, 1) := by decide +kernel
theorem dX7_monitorAction_25 : decode cX7_monitorAction 25 = .ok (.getfield 45, 3) := by decide +kernel
theorem dX7_monitorAction_28 : decode cX7_monitorAction 28 = .ok (.iload_n 3, 1) := by decide +kernel
theorem dX7_monitorAction_29 : decode cX7_monitorAction 29 = .ok (.iaload, 1) := by decide +kernel
theorem dX7_monitorAction_30 : decode cX7_monitorAction 30 = .ok (.iload_n 1, 1) := by decide +kernel
theorem dX7_monitorAction_31 : decode cX7_monitorAction 31 = .ok (.if_icmp .eq 12, 3) := by decide +kernel
theorem dX7_monitorAction_34 : decode cX7_monitorAction 34 = .ok (.aload_n 0, 1) := by decide +kernel
theorem dX7_monitorAction_35 : decode cX7_monitorAction 35 = .ok (.iload_n 1, 1) := by decide +kernel
theorem dX7_monitorAction_36 : decode cX7_monitorAction 36 = .ok (.iconst 0, 1) := by decide +kernel
theorem dX7_monitorAction_37 : decode cX7_monitorAction 37 = .ok (.invokevirtual 115, 3) := by decide +kernel
theorem dX7_monitorAction_40 : decode cX7_monitorAction 40 = .ok (.goto 119, 3) := by decide +kernel
theorem dX7_monitorAction_43 : decode cX7_monitorAction 43 = .ok (.iload_n 2, 1) := by decide +kernel
theorem dX7_monitorAction_44 : decode cX7_monitorAction 44 = .ok (.iconst 1, 1) := by decide +kernel
theorem dX7_monitorAction_45 : decode cX7_monitorAction 45 = .ok (.if_icmp .ne 32, 3) := by decide +kernel
theorem dX7_monitorAction_48 : decode cX7_monitorAction 48 = .ok (.aload_n 0, 1) := by decide +kernel
theorem dX7_monitorAction_49 : decode cX7_monitorAction 49 = .ok (.getfield 48, 3) := by decide +kernel
theorem dX7_monitorAction_52 : decode cX7_monitorAction 52 = .ok (.iload_n 3, 1) := by decide +kernel
theorem dX7_monitorAction_53 : decode cX7_monitorAction 53 = .ok (.dup2, 1) := by decide +kernel
theorem dX7_monitorAction_54 : decode cX7_monitorAction 54 = .ok (.iaload, 1) := by decide +kernel
theorem dX7_monitorAction_55 : decode cX7_monitorAction 55 = .ok (.iconst 1, 1) := by decide +kernel
theorem dX7_monitorAction_56 : decode cX7_monitorAction 56 = .ok (.isub, 1) := by decide +kernel
theorem dX7_monitorAction_57 : decode cX7_monitorAction 57 = .ok (.iastore, 1) := by decide +kernel
theorem dX7_monitorAction_58 : decode cX7_monitorAction 58 = .ok (.aload_n 0, 1) := by decide +kernel
theorem dX7_monitorAction_59 : decode cX7_monitorAction 59 = .ok (.getfield 48, 3) := by decide +kernel
theorem dX7_monitorAction_62 : decode cX7_monitorAction 62 = .ok (.iload_n 3, 1) := by decide +kernel
theorem dX7_monitorAction_63 : decode cX7_monitorAction 63 = .ok (.iaload, 1) := by decide +kernel
theorem dX7_monitorAction_64 : decode cX7_monitorAction 64 = .ok (.ifCond .ne 95, 3) := by decide +kernel
theorem dX7_monitorAction_67 : decode cX7_monitorAction 67 = .ok (.aload_n 0, 1) := by decide +kernel
theorem dX7_monitorAction_68 : decode cX7_monitorAction 68 = .ok (.getfield 45, 3) := by decide +kernel
theorem dX7_monitorAction_71 : decode cX7_monitorAction 71 = .ok (.iload_n 3, 1) := by decide +kernel
theorem dX7_monitorAction_72 : decode cX7_monitorAction 72 = .ok (.iconst (-1), 1) := by decide +kernel
theorem dX7_monitorAction_73 : decode cX7_monitorAction 73 = .ok (.iastore, 1) := by decide +kernel
theorem dX7_monitorAction_74 : decode cX7_monitorAction 74 = .ok (.goto 85, 3) := by decide +kernel
theorem dX7_monitorAction_77 : decode cX7_monitorAction 77 = .ok (.iload_n 2, 1) := by decide +kernel
theorem dX7_monitorAction_78 : decode cX7_monitorAction 78 = .ok (.iconst 4, 1) := by decide +kernel
theorem dX7_monitorAction_79 : decode cX7_monitorAction 79 = .ok (.if_icmp .ge 12, 3) := by decide +kernel
theorem dX7_monitorAction_82 : decode cX7_monitorAction 82 = .ok (.aload_n 0, 1) := by decide +kernel
theorem dX7_monitorAction_83 : decode cX7_monitorAction 83 = .ok (.iload_n 1, 1) := by decide +kernel
theorem dX7_monitorAction_84 : decode cX7_monitorAction 84 = .ok (.iload_n 3, 1) := by decide +kernel
theorem dX7_monitorAction_85 : decode cX7_monitorAction 85 = .ok (.invokevirtual 119, 3) := by decide +kernel
theorem dX7_monitorAction_88 : decode cX7_monitorAction 88 = .ok (.goto 71, 3) := by decide +kernel
theorem dX7_monitorAction_91 : decode cX7_monitorAction 91 = .ok (.iload_n 2, 1) := by decide +kernel
theorem dX7_monitorAction_92 : decode cX7_monitorAction 92 = .ok (.iconst 4, 1) := by decide +kernel
theorem dX7_monitorAction_93 : decode cX7_monitorAction 93 = .ok (.if_icmp .ne 42, 3) := by decide +kernel
theorem dX7_monitorAction_96 : decode cX7_monitorAction 96 = .ok (.iload 4, 2) := by decide +kernel
theorem dX7_monitorAction_98 : decode cX7_monitorAction 98 = .ok (.ifCond .le 61, 3) := by decide +kernel
theorem dX7_monitorAction_101 : decode cX7_monitorAction 101 = .ok (.aload_n 0, 1) := by decide +kernel
theorem dX7_monitorAction_102 : decode cX7_monitorAction 102 = .ok (.aload_n 0, 1) := by decide +kernel
theorem dX7_monitorAction_103 : decode cX7_monitorAction 103 = .ok (.getfield 54, 3) := by decide +kernel
theorem dX7_monitorAction_106 : decode cX7_monitorAction 106 = .ok (.iconst 4, 1) := by decide +kernel
theorem dX7_monitorAction_107 : decode cX7_monitorAction 107 = .ok (.iload_n 3, 1) := by decide +kernel
theorem dX7_monitorAction_108 : decode cX7_monitorAction 108 = .ok (.imul, 1) := by decide +kernel
theorem dX7_monitorAction_109 : decode cX7_monitorAction 109 = .ok (.iload 4, 2) := by decide +kernel
theorem dX7_monitorAction_111 : decode cX7_monitorAction 111 = .ok (.iconst 1, 1) := by decide +kernel
theorem dX7_monitorAction_112 : decode cX7_monitorAction 112 = .ok (.if_icmp .ne 7, 3) := by decide +kernel
theorem dX7_monitorAction_115 : decode cX7_monitorAction 115 = .ok (.iconst 0, 1) := by decide +kernel
theorem dX7_monitorAction_116 : decode cX7_monitorAction 116 = .ok (.goto 11, 3) := by decide +kernel
theorem dX7_monitorAction_119 : decode cX7_monitorAction 119 = .ok (.aload_n 0, 1) := by decide +kernel
theorem dX7_monitorAction_120 : decode cX7_monitorAction 120 = .ok (.getfield 51, 3) := by decide +kernel
theorem dX7_monitorAction_123 : decode cX7_monitorAction 123 = .ok (.iload_n 3, 1) := by decide +kernel
theorem dX7_monitorAction_124 : decode cX7_monitorAction 124 = .ok (.iaload, 1) := by decide +kernel
theorem dX7_monitorAction_125 : decode cX7_monitorAction 125 = .ok (.iconst 1, 1) := by decide +kernel
theorem dX7_monitorAction_126 : decode cX7_monitorAction 126 = .ok (.isub, 1) := by decide +kernel
theorem dX7_monitorAction_127 : decode cX7_monitorAction 127 = .ok (.iadd, 1) := by decide +kernel
theorem dX7_monitorAction_128 : decode cX7_monitorAction 128 = .ok (.iaload, 1) := by decide +kernel
theorem dX7_monitorAction_129 : decode cX7_monitorAction 129 = .ok (.invokevirtual 122, 3) := by decide +kernel
theorem dX7_monitorAction_132 : decode cX7_monitorAction 132 = .ok (.goto 27, 3) := by decide +kernel
theorem dX7_monitorAction_135 : decode cX7_monitorAction 135 = .ok (.aload_n 0, 1) := by decide +kernel
theorem dX7_monitorAction_136 : decode cX7_monitorAction 136 = .ok (.getfield 51, 3) := by decide +kernel
theorem dX7_monitorAction_139 : decode cX7_monitorAction 139 = .ok (.iload_n 3, 1) := by decide +kernel
theorem dX7_monitorAction_140 : decode cX7_monitorAction 140 = .ok (.iaload, 1) := by decide +kernel
theorem dX7_monitorAction_141 : decode cX7_monitorAction 141 = .ok (.ifCond .le 18, 3) := by decide +kernel
theorem dX7_monitorAction_144 : decode cX7_monitorAction 144 = .ok (.aload_n 0, 1) := by decide +kernel
theorem dX7_monitorAction_145 : decode cX7_monitorAction 145 = .ok (.aload_n 0, 1) := by decide +kernel
theorem dX7_monitorAction_146 : decode cX7_monitorAction 146 = .ok (.getfield 54, 3) := by decide +kernel
theorem dX7_monitorAction_149 : decode cX7_monitorAction 149 = .ok (.iconst 4, 1) := by decide +kernel
theorem dX7_monitorAction_150 : decode cX7_monitorAction 150 = .ok (.iload_n 3, 1) := by decide +kernel
theorem dX7_monitorAction_151 : decode cX7_monitorAction 151 = .ok (.imul, 1) := by decide +kernel
theorem dX7_monitorAction_152 : decode cX7_monitorAction 152 = .ok (.iaload, 1) := by decide +kernel
theorem dX7_monitorAction_153 : decode cX7_monitorAction 153 = .ok (.invokevirtual 122, 3) := by decide +kernel
theorem dX7_monitorAction_156 : decode cX7_monitorAction 156 = .ok (.goto (-21), 3) := by decide +kernel
theorem dX7_monitorAction_159 : decode cX7_monitorAction 159 = .ok (.return_, 1) := by decide +kernel
theorem dX7_brokenOr_0 : decode cX7_brokenOr 0 = .ok (.aload_n 0, 1) := by decide +kernel
theorem dX7_brokenOr_1 : decode cX7_brokenOr 1 = .ok (.getfield 35, 3) := by decide +kernel
theorem dX7_brokenOr_4 : decode cX7_brokenOr 4 = .ok (.iload_n 1, 1) := by decide +kernel
theorem dX7_brokenOr_5 : decode cX7_brokenOr 5 = .ok (.baload, 1) := by decide +kernel
theorem dX7_brokenOr_6 : decode cX7_brokenOr 6 = .ok (.ifCond .eq 20, 3) := by decide +kernel
theorem dX7_brokenOr_9 : decode cX7_brokenOr 9 = .ok (.aload_n 0, 1) := by decide +kernel
theorem dX7_brokenOr_10 : decode cX7_brokenOr 10 = .ok (.iload_n 1, 1) := by decide +kernel
theorem dX7_brokenOr_11 : decode cX7_brokenOr 11 = .ok (.iload_n 2, 1) := by decide +kernel
theorem dX7_brokenOr_12 : decode cX7_brokenOr 12 = .ok (.ifCond .eq 7, 3) := by decide +kernel
theorem dX7_brokenOr_15 : decode cX7_brokenOr 15 = .ok (.iconst 4, 1) := by decide +kernel
theorem dX7_brokenOr_16 : decode cX7_brokenOr 16 = .ok (.goto 4, 3) := by decide +kernel
theorem dX7_brokenOr_19 : decode cX7_brokenOr 19 = .ok (.iconst 1, 1) := by decide +kernel
theorem dX7_brokenOr_20 : decode cX7_brokenOr 20 = .ok (.invokevirtual 115, 3) := by decide +kernel
theorem dX7_brokenOr_23 : decode cX7_brokenOr 23 = .ok (.goto 13, 3) := by decide +kernel
theorem dX7_brokenOr_26 : decode cX7_brokenOr 26 = .ok (.iload_n 2, 1) := by decide +kernel
theorem dX7_brokenOr_27 : decode cX7_brokenOr 27 = .ok (.ifCond .eq 9, 3) := by decide +kernel
theorem dX7_brokenOr_30 : decode cX7_brokenOr 30 = .ok (.aload_n 0, 1) := by decide +kernel
theorem dX7_brokenOr_31 : decode cX7_brokenOr 31 = .ok (.iload_n 1, 1) := by decide +kernel
theorem dX7_brokenOr_32 : decode cX7_brokenOr 32 = .ok (.iconst 5, 1) := by decide +kernel
theorem dX7_brokenOr_33 : decode cX7_brokenOr 33 = .ok (.invokevirtual 115, 3) := by decide +kernel
theorem dX7_brokenOr_36 : decode cX7_brokenOr 36 = .ok (.aload_n 0, 1) := by decide +kernel
theorem dX7_brokenOr_37 : decode cX7_brokenOr 37 = .ok (.getfield 35, 3) := by decide +kernel
theorem dX7_brokenOr_40 : decode cX7_brokenOr 40 = .ok (.iload_n 1, 1) := by decide +kernel
theorem dX7_brokenOr_41 : decode cX7_brokenOr 41 = .ok (.iconst 0, 1) := by decide +kernel
theorem dX7_brokenOr_42 : decode cX7_brokenOr 42 = .ok (.bastore, 1) := by decide +kernel
theorem dX7_brokenOr_43 : decode cX7_brokenOr 43 = .ok (.return_, 1) := by decide +kernel
theorem dX7_otherAction_0 : decode cX7_otherAction 0 = .ok (.iload_n 2, 1) := by decide +kernel
theorem dX7_otherAction_1 : decode cX7_otherAction 1 = .ok (.tableswitch 117 6 12 #[43, 61, 94, 117, 117, 100, 110], 43) := by decide +kernel
theorem dX7_otherAction_44 : decode cX7_otherAction 44 = .ok (.aload_n 0, 1) := by decide +kernel
theorem dX7_otherAction_45 : decode cX7_otherAction 45 = .ok (.getfield 22, 3) := by decide +kernel
theorem dX7_otherAction_48 : decode cX7_otherAction 48 = .ok (.iload_n 3, 1) := by decide +kernel
theorem dX7_otherAction_49 : decode cX7_otherAction 49 = .ok (.iaload, 1) := by decide +kernel
theorem dX7_otherAction_50 : decode cX7_otherAction 50 = .ok (.iconst 4, 1) := by decide +kernel
theorem dX7_otherAction_51 : decode cX7_otherAction 51 = .ok (.if_icmp .eq 10, 3) := by decide +kernel
theorem dX7_otherAction_54 : decode cX7_otherAction 54 = .ok (.aload_n 0, 1) := by decide +kernel
theorem dX7_otherAction_55 : decode cX7_otherAction 55 = .ok (.getfield 35, 3) := by decide +kernel
theorem dX7_otherAction_58 : decode cX7_otherAction 58 = .ok (.iload_n 3, 1) := by decide +kernel
theorem dX7_otherAction_59 : decode cX7_otherAction 59 = .ok (.iconst 1, 1) := by decide +kernel
theorem dX7_otherAction_60 : decode cX7_otherAction 60 = .ok (.bastore, 1) := by decide +kernel
theorem dX7_otherAction_61 : decode cX7_otherAction 61 = .ok (.return_, 1) := by decide +kernel
theorem dX7_otherAction_62 : decode cX7_otherAction 62 = .ok (.aload_n 0, 1) := by decide +kernel
theorem dX7_otherAction_63 : decode cX7_otherAction 63 = .ok (.getfield 39, 3) := by decide +kernel
theorem dX7_otherAction_66 : decode cX7_otherAction 66 = .ok (.iload_n 1, 1) := by decide +kernel
theorem dX7_otherAction_67 : decode cX7_otherAction 67 = .ok (.baload, 1) := by decide +kernel
theorem dX7_otherAction_68 : decode cX7_otherAction 68 = .ok (.ifCond .ne 19, 3) := by decide +kernel
theorem dX7_otherAction_71 : decode cX7_otherAction 71 = .ok (.aload_n 0, 1) := by decide +kernel
theorem dX7_otherAction_72 : decode cX7_otherAction 72 = .ok (.getfield 35, 3) := by decide +kernel
theorem dX7_otherAction_75 : decode cX7_otherAction 75 = .ok (.iload_n 1, 1) := by decide +kernel
theorem dX7_otherAction_76 : decode cX7_otherAction 76 = .ok (.baload, 1) := by decide +kernel
theorem dX7_otherAction_77 : decode cX7_otherAction 77 = .ok (.ifCond .ne 10, 3) := by decide +kernel
theorem dX7_otherAction_80 : decode cX7_otherAction 80 = .ok (.aload_n 0, 1) := by decide +kernel
theorem dX7_otherAction_81 : decode cX7_otherAction 81 = .ok (.getfield 22, 3) := by decide +kernel
theorem dX7_otherAction_84 : decode cX7_otherAction 84 = .ok (.iload_n 1, 1) := by decide +kernel
theorem dX7_otherAction_85 : decode cX7_otherAction 85 = .ok (.iconst 3, 1) := by decide +kernel
theorem dX7_otherAction_86 : decode cX7_otherAction 86 = .ok (.iastore, 1) := by decide +kernel
theorem dX7_otherAction_87 : decode cX7_otherAction 87 = .ok (.aload_n 0, 1) := by decide +kernel
theorem dX7_otherAction_88 : decode cX7_otherAction 88 = .ok (.getfield 39, 3) := by decide +kernel
theorem dX7_otherAction_91 : decode cX7_otherAction 91 = .ok (.iload_n 1, 1) := by decide +kernel
theorem dX7_otherAction_92 : decode cX7_otherAction 92 = .ok (.iconst 0, 1) := by decide +kernel
theorem dX7_otherAction_93 : decode cX7_otherAction 93 = .ok (.bastore, 1) := by decide +kernel
theorem dX7_otherAction_94 : decode cX7_otherAction 94 = .ok (.return_, 1) := by decide +kernel
theorem dX7_otherAction_95 : decode cX7_otherAction 95 = .ok (.aload_n 0, 1) := by decide +kernel
theorem dX7_otherAction_96 : decode cX7_otherAction 96 = .ok (.iload_n 3, 1) := by decide +kernel
theorem dX7_otherAction_97 : decode cX7_otherAction 97 = .ok (.invokevirtual 125, 3) := by decide +kernel
theorem dX7_otherAction_100 : decode cX7_otherAction 100 = .ok (.return_, 1) := by decide +kernel
theorem dX7_otherAction_101 : decode cX7_otherAction 101 = .ok (.aload_n 0, 1) := by decide +kernel
theorem dX7_otherAction_102 : decode cX7_otherAction 102 = .ok (.iload_n 1, 1) := by decide +kernel
theorem dX7_otherAction_103 : decode cX7_otherAction 103 = .ok (.bipush 8, 2) := by decide +kernel
theorem dX7_otherAction_105 : decode cX7_otherAction 105 = .ok (.iload_n 3, 1) := by decide +kernel
theorem dX7_otherAction_106 : decode cX7_otherAction 106 = .ok (.iadd, 1) := by decide +kernel
theorem dX7_otherAction_107 : decode cX7_otherAction 107 = .ok (.invokevirtual 115, 3) := by decide +kernel
theorem dX7_otherAction_110 : decode cX7_otherAction 110 = .ok (.return_, 1) := by decide +kernel
theorem dX7_otherAction_111 : decode cX7_otherAction 111 = .ok (.aload_n 0, 1) := by decide +kernel
theorem dX7_otherAction_112 : decode cX7_otherAction 112 = .ok (.iload_n 1, 1) := by decide +kernel
theorem dX7_otherAction_113 : decode cX7_otherAction 113 = .ok (.iconst 1, 1) := by decide +kernel
theorem dX7_otherAction_114 : decode cX7_otherAction 114 = .ok (.invokevirtual 128, 3) := by decide +kernel
theorem dX7_otherAction_117 : decode cX7_otherAction 117 = .ok (.return_, 1) := by decide +kernel
theorem dX7_otherAction_118 : decode cX7_otherAction 118 = .ok (.aload_n 0, 1) := by decide +kernel
theorem dX7_otherAction_119 : decode cX7_otherAction 119 = .ok (.iload_n 1, 1) := by decide +kernel
theorem dX7_otherAction_120 : decode cX7_otherAction 120 = .ok (.iconst 0, 1) := by decide +kernel
theorem dX7_otherAction_121 : decode cX7_otherAction 121 = .ok (.invokevirtual 128, 3) := by decide +kernel
theorem dX7_otherAction_124 : decode cX7_otherAction 124 = .ok (.return_, 1) := by decide +kernel
theorem dX7_unpark_0 : decode cX7_unpark 0 = .ok (.aload_n 0, 1) := by decide +kernel
theorem dX7_unpark_1 : decode cX7_unpark 1 = .ok (.getfield 22, 3) := by decide +kernel
theorem dX7_unpark_4 : decode cX7_unpark 4 = .ok (.iload_n 1, 1) := by decide +kernel
theorem dX7_unpark_5 : decode cX7_unpark 5 = .ok (.iaload, 1) := by decide +kernel
theorem dX7_unpark_6 : decode cX7_unpark 6 = .ok (.iconst 3, 1) := by decide +kernel
theorem dX7_unpark_7 : decode cX7_unpark 7 = .ok (.if_icmp .ne 11, 3) := by decide +kernel
theorem dX7_unpark_10 : decode cX7_unpark 10 = .ok (.aload_n 0, 1) := by decide +kernel
theorem dX7_unpark_11 : decode cX7_unpark 11 = .ok (.iload_n 1, 1) := by decide +kernel
theorem dX7_unpark_12 : decode cX7_unpark 12 = .ok (.invokevirtual 132, 3) := by decide +kernel
theorem dX7_unpark_15 : decode cX7_unpark 15 = .ok (.goto 20, 3) := by decide +kernel
theorem dX7_unpark_18 : decode cX7_unpark 18 = .ok (.aload_n 0, 1) := by decide +kernel
theorem dX7_unpark_19 : decode cX7_unpark 19 = .ok (.getfield 22, 3) := by decide +kernel
theorem dX7_unpark_22 : decode cX7_unpark 22 = .ok (.iload_n 1, 1) := by decide +kernel
theorem dX7_unpark_23 : decode cX7_unpark 23 = .ok (.iaload, 1) := by decide +kernel
theorem dX7_unpark_24 : decode cX7_unpark 24 = .ok (.iconst 4, 1) := by decide +kernel
theorem dX7_unpark_25 : decode cX7_unpark 25 = .ok (.if_icmp .eq 10, 3) := by decide +kernel
theorem dX7_unpark_28 : decode cX7_unpark 28 = .ok (.aload_n 0, 1) := by decide +kernel
theorem dX7_unpark_29 : decode cX7_unpark 29 = .ok (.getfield 39, 3) := by decide +kernel
theorem dX7_unpark_32 : decode cX7_unpark 32 = .ok (.iload_n 1, 1) := by decide +kernel
theorem dX7_unpark_33 : decode cX7_unpark 33 = .ok (.iconst 1, 1) := by decide +kernel
theorem dX7_unpark_34 : decode cX7_unpark 34 = .ok (.bastore, 1) := by decide +kernel
theorem dX7_unpark_35 : decode cX7_unpark 35 = .ok (.return_, 1) := by decide +kernel
theorem dX7_doAction_0 : decode cX7_doAction 0 = .ok (.aload_n 0, 1) := by decide +kernel
theorem dX7_doAction_1 : decode cX7_doAction 1 = .ok (.iload_n 1, 1) := by decide +kernel
theorem dX7_doAction_2 : decode cX7_doAction 2 = .ok (.invokevirtual 91, 3) := by decide +kernel
theorem dX7_doAction_5 : decode cX7_doAction 5 = .ok (.istore_n 3, 1) := by decide +kernel
theorem dX7_doAction_6 : decode cX7_doAction 6 = .ok (.aload_n 0, 1) := by decide +kernel
theorem dX7_doAction_7 : decode cX7_doAction 7 = .ok (.iload_n 1, 1) := by decide +kernel
theorem dX7_doAction_8 : decode cX7_doAction 8 = .ok (.invokevirtual 95, 3) := by decide +kernel
theorem dX7_doAction_11 : decode cX7_doAction 11 = .ok (.istore 4, 2) := by decide +kernel
theorem dX7_doAction_13 : decode cX7_doAction 13 = .ok (.aload_n 0, 1) := by decide +kernel
theorem dX7_doAction_14 : decode cX7_doAction 14 = .ok (.getfield 19, 3) := by decide +kernel
theorem dX7_doAction_17 : decode cX7_doAction 17 = .ok (.iload_n 1, 1) := by decide +kernel
theorem dX7_doAction_18 : decode cX7_doAction 18 = .ok (.dup2, 1) := by decide +kernel
theorem dX7_doAction_19 : decode cX7_doAction 19 = .ok (.iaload, 1) := by decide +kernel
theorem dX7_doAction_20 : decode cX7_doAction 20 = .ok (.iconst 1, 1) := by decide +kernel
theorem dX7_doAction_21 : decode cX7_doAction 21 = .ok (.iadd, 1) := by decide +kernel
theorem dX7_doAction_22 : decode cX7_doAction 22 = .ok (.iastore, 1) := by decide +kernel
theorem dX7_doAction_23 : decode cX7_doAction 23 = .ok (.iload_n 3, 1) := by decide +kernel
theorem dX7_doAction_24 : decode cX7_doAction 24 = .ok (.bipush 6, 2) := by decide +kernel
theorem dX7_doAction_26 : decode cX7_doAction 26 = .ok (.if_icmp .ge 15, 3) := by decide +kernel
theorem dX7_doAction_29 : decode cX7_doAction 29 = .ok (.aload_n 0, 1) := by decide +kernel
theorem dX7_doAction_30 : decode cX7_doAction 30 = .ok (.iload_n 1, 1) := by decide +kernel
theorem dX7_doAction_31 : decode cX7_doAction 31 = .ok (.iload_n 3, 1) := by decide +kernel
theorem dX7_doAction_32 : decode cX7_doAction 32 = .ok (.iload 4, 2) := by decide +kernel
theorem dX7_doAction_34 : decode cX7_doAction 34 = .ok (.iload_n 2, 1) := by decide +kernel
theorem dX7_doAction_35 : decode cX7_doAction 35 = .ok (.invokevirtual 135, 3) := by decide +kernel
theorem dX7_doAction_38 : decode cX7_doAction 38 = .ok (.goto 11, 3) := by decide +kernel
theorem dX7_doAction_41 : decode cX7_doAction 41 = .ok (.aload_n 0, 1) := by decide +kernel
theorem dX7_doAction_42 : decode cX7_doAction 42 = .ok (.iload_n 1, 1) := by decide +kernel
theorem dX7_doAction_43 : decode cX7_doAction 43 = .ok (.iload_n 3, 1) := by decide +kernel
theorem dX7_doAction_44 : decode cX7_doAction 44 = .ok (.iload 4, 2) := by decide +kernel
theorem dX7_doAction_46 : decode cX7_doAction 46 = .ok (.invokevirtual 139, 3) := by decide +kernel
theorem dX7_doAction_49 : decode cX7_doAction 49 = .ok (.aload_n 0, 1) := by decide +kernel
theorem dX7_doAction_50 : decode cX7_doAction 50 = .ok (.getfield 22, 3) := by decide +kernel
theorem dX7_doAction_53 : decode cX7_doAction 53 = .ok (.iload_n 1, 1) := by decide +kernel
theorem dX7_doAction_54 : decode cX7_doAction 54 = .ok (.iaload, 1) := by decide +kernel
theorem dX7_doAction_55 : decode cX7_doAction 55 = .ok (.ifCond .ne 8, 3) := by decide +kernel
theorem dX7_doAction_58 : decode cX7_doAction 58 = .ok (.aload_n 0, 1) := by decide +kernel
theorem dX7_doAction_59 : decode cX7_doAction 59 = .ok (.iload_n 1, 1) := by decide +kernel
theorem dX7_doAction_60 : decode cX7_doAction 60 = .ok (.invokevirtual 132, 3) := by decide +kernel
theorem dX7_doAction_63 : decode cX7_doAction 63 = .ok (.return_, 1) := by decide +kernel
theorem dX7_perform_0 : decode cX7_perform 0 = .ok (.aload_n 0, 1) := by decide +kernel
theorem dX7_perform_1 : decode cX7_perform 1 = .ok (.getfield 22, 3) := by decide +kernel
theorem dX7_perform_4 : decode cX7_perform 4 = .ok (.iload_n 1, 1) := by decide +kernel
theorem dX7_perform_5 : decode cX7_perform 5 = .ok (.iaload, 1) := by decide +kernel
theorem dX7_perform_6 : decode cX7_perform 6 = .ok (.ifCond .ne 12, 3) := by decide +kernel
theorem dX7_perform_9 : decode cX7_perform 9 = .ok (.aload_n 0, 1) := by decide +kernel
theorem dX7_perform_10 : decode cX7_perform 10 = .ok (.iload_n 1, 1) := by decide +kernel
theorem dX7_perform_11 : decode cX7_perform 11 = .ok (.iload_n 2, 1) := by decide +kernel
theorem dX7_perform_12 : decode cX7_perform 12 = .ok (.invokevirtual 143, 3) := by decide +kernel
theorem dX7_perform_15 : decode cX7_perform 15 = .ok (.goto 132, 3) := by decide +kernel
theorem dX7_perform_18 : decode cX7_perform 18 = .ok (.aload_n 0, 1) := by decide +kernel
theorem dX7_perform_19 : decode cX7_perform 19 = .ok (.getfield 22, 3) := by decide +kernel
theorem dX7_perform_22 : decode cX7_perform 22 = .ok (.iload_n 1, 1) := by decide +kernel
theorem dX7_perform_23 : decode cX7_perform 23 = .ok (.iaload, 1) := by decide +kernel
theorem dX7_perform_24 : decode cX7_perform 24 = .ok (.iconst 2, 1) := by decide +kernel
theorem dX7_perform_25 : decode cX7_perform 25 = .ok (.if_icmp .ne 43, 3) := by decide +kernel
theorem dX7_perform_28 : decode cX7_perform 28 = .ok (.aload_n 0, 1) := by decide +kernel
theorem dX7_perform_29 : decode cX7_perform 29 = .ok (.iload_n 1, 1) := by decide +kernel
theorem dX7_perform_30 : decode cX7_perform 30 = .ok (.invokevirtual 106, 3) := by decide +kernel
theorem dX7_perform_33 : decode cX7_perform 33 = .ok (.istore_n 3, 1) := by decide +kernel
theorem dX7_perform_34 : decode cX7_perform 34 = .ok (.aload_n 0, 1) := by decide +kernel
theorem dX7_perform_35 : decode cX7_perform 35 = .ok (.getfield 45, 3) := by decide +kernel
theorem dX7_perform_38 : decode cX7_perform 38 = .ok (.iload_n 3, 1) := by decide +kernel
theorem dX7_perform_39 : decode cX7_perform 39 = .ok (.iload_n 1, 1) := by decide +kernel
theorem dX7_perform_40 : decode cX7_perform 40 = .ok (.iastore, 1) := by decide +kernel
theorem dX7_perform_41 : decode cX7_perform 41 = .ok (.aload_n 0, 1) := by decide +kernel
theorem dX7_perform_42 : decode cX7_perform 42 = .ok (.getfield 48, 3) := by decide +kernel
theorem dX7_perform_45 : decode cX7_perform 45 = .ok (.iload_n 3, 1) := by decide +kernel
theorem dX7_perform_46 : decode cX7_perform 46 = .ok (.aload_n 0, 1) := by decide +kernel
theorem dX7_perform_47 : decode cX7_perform 47 = .ok (.getfield 25, 3) := by decide +kernel
theorem dX7_perform_50 : decode cX7_perform 50 = .ok (.iload_n 1, 1) := by decide +kernel
theorem dX7_perform_51 : decode cX7_perform 51 = .ok (.iaload, 1) := by decide +kernel
theorem dX7_perform_52 : decode cX7_perform 52 = .ok (.iastore, 1) := by decide +kernel
theorem dX7_perform_53 : decode cX7_perform 53 = .ok (.aload_n 0, 1) := by decide +kernel
theorem dX7_perform_54 : decode cX7_perform 54 = .ok (.getfield 25, 3) := by decide +kernel
theorem dX7_perform_57 : decode cX7_perform 57 = .ok (.iload_n 1, 1) := by decide +kernel
theorem dX7_perform_58 : decode cX7_perform 58 = .ok (.iconst 0, 1) := by decide +kernel
theorem dX7_perform_59 : decode cX7_perform 59 = .ok (.iastore, 1) := by decide +kernel
theorem dX7_perform_60 : decode cX7_perform 60 = .ok (.aload_n 0, 1) := by decide +kernel
theorem dX7_perform_61 : decode cX7_perform 61 = .ok (.iload_n 1, 1) := by decide +kernel
theorem dX7_perform_62 : decode cX7_perform 62 = .ok (.invokevirtual 132, 3) := by decide +kernel
theorem dX7_perform_65 : decode cX7_perform 65 = .ok (.goto 82, 3) := by decide +kernel
theorem dX7_perform_68 : decode cX7_perform 68 = .ok (.aload_n 0, 1) := by decide +kernel
theorem dX7_perform_69 : decode cX7_perform 69 = .ok (.getfield 22, 3) := by decide +kernel
theorem dX7_perform_72 : decode cX7_perform 72 = .ok (.iload_n 1, 1) := by decide +kernel
theorem dX7_perform_73 : decode cX7_perform 73 = .ok (.iaload, 1) := by decide +kernel
theorem dX7_perform_74 : decode cX7_perform 74 = .ok (.iconst 3, 1) := by decide +kernel
theorem dX7_perform_75 : decode cX7_perform 75 = .ok (.if_icmp .ne 23, 3) := by decide +kernel
theorem dX7_perform_78 : decode cX7_perform 78 = .ok (.iload_n 2, 1) := by decide +kernel
theorem dX7_perform_79 : decode cX7_perform 79 = .ok (.iconst 3, 1) := by decide +kernel
theorem dX7_perform_80 : decode cX7_perform 80 = .ok (.if_icmp .ne 10, 3) := by decide +kernel
theorem dX7_perform_83 : decode cX7_perform 83 = .ok (.aload_n 0, 1) := by decide +kernel
theorem dX7_perform_84 : decode cX7_perform 84 = .ok (.getfield 42, 3) := by decide +kernel
theorem dX7_perform_87 : decode cX7_perform 87 = .ok (.iload_n 1, 1) := by decide +kernel
theorem dX7_perform_88 : decode cX7_perform 88 = .ok (.iconst 1, 1) := by decide +kernel
theorem dX7_perform_89 : decode cX7_perform 89 = .ok (.bastore, 1) := by decide +kernel
theorem dX7_perform_90 : decode cX7_perform 90 = .ok (.aload_n 0, 1) := by decide +kernel
theorem dX7_perform_91 : decode cX7_perform 91 = .ok (.iload_n 1, 1) := by decide +kernel
theorem dX7_perform_92 : decode cX7_perform 92 = .ok (.invokevirtual 132, 3) := by decide +kernel
theorem dX7_perform_95 : decode cX7_perform 95 = .ok (.goto 52, 3) := by decide +kernel
theorem dX7_perform_98 : decode cX7_perform 98 = .ok (.aload_n 0, 1) := by decide +kernel
theorem dX7_perform_99 : decode cX7_perform 99 = .ok (.iload_n 1, 1) := by decide +kernel
theorem dX7_perform_100 : decode cX7_perform 100 = .ok (.invokevirtual 111, 3) := by decide +kernel
theorem dX7_perform_103 : decode cX7_perform 103 = .ok (.iload_n 2, 1) := by decide +kernel
theorem dX7_perform_104 : decode cX7_perform 104 = .ok (.iconst 1, 1) := by decide +kernel
theorem dX7_perform_105 : decode cX7_perform 105 = .ok (.if_icmp .ne 10, 3) := by decide +kernel
theorem dX7_perform_108 : decode cX7_perform 108 = .ok (.aload_n 0, 1) := by decide +kernel
theorem dX7_perform_109 : decode cX7_perform 109 = .ok (.getfield 35, 3) := by decide +kernel
theorem dX7_perform_112 : decode cX7_perform 112 = .ok (.iload_n 1, 1) := by decide +kernel
theorem dX7_perform_113 : decode cX7_perform 113 = .ok (.iconst 0, 1) := by decide +kernel
theorem dX7_perform_114 : decode cX7_perform 114 = .ok (.bastore, 1) := by decide +kernel
theorem dX7_perform_115 : decode cX7_perform 115 = .ok (.iload_n 2, 1) := by decide +kernel
theorem dX7_perform_116 : decode cX7_perform 116 = .ok (.iconst 2, 1) := by decide +kernel
theorem dX7_perform_117 : decode cX7_perform 117 = .ok (.if_icmp .ne 10, 3) := by decide +kernel
theorem dX7_perform_120 : decode cX7_perform 120 = .ok (.aload_n 0, 1) := by decide +kernel
theorem dX7_perform_121 : decode cX7_perform 121 = .ok (.getfield 42, 3) := by decide +kernel
theorem dX7_perform_124 : decode cX7_perform 124 = .ok (.iload_n 1, 1) := by decide +kernel
theorem dX7_perform_125 : decode cX7_perform 125 = .ok (.iconst 1, 1) := by decide +kernel
theorem dX7_perform_126 : decode cX7_perform 126 = .ok (.bastore, 1) := by decide +kernel
theorem dX7_perform_127 : decode cX7_perform 127 = .ok (.iload_n 2, 1) := by decide +kernel
theorem dX7_perform_128 : decode cX7_perform 128 = .ok (.iconst 2, 1) := by decide +kernel
theorem dX7_perform_129 : decode cX7_perform 129 = .ok (.if_icmp .eq 18, 3) := by decide +kernel
theorem dX7_perform_132 : decode cX7_perform 132 = .ok (.aload_n 0, 1) := by decide +kernel
theorem dX7_perform_133 : decode cX7_perform 133 = .ok (.iload_n 1, 1) := by decide +kernel
theorem dX7_perform_134 : decode cX7_perform 134 = .ok (.iload_n 2, 1) := by decide +kernel
theorem dX7_perform_135 : decode cX7_perform 135 = .ok (.iconst 1, 1) := by decide +kernel
theorem dX7_perform_136 : decode cX7_perform 136 = .ok (.if_icmp .ne 7, 3) := by decide +kernel
theorem dX7_perform_139 : decode cX7_perform 139 = .ok (.iconst 1, 1) := by decide +kernel
theorem dX7_perform_140 : decode cX7_perform 140 = .ok (.goto 4, 3) := by decide +kernel
theorem dX7_perform_143 : decode cX7_perform 143 = .ok (.iconst 3, 1) := by decide +kernel
theorem dX7_perform_144 : decode cX7_perform 144 = .ok (.invokevirtual 115, 3) := by decide +kernel
theorem dX7_perform_147 : decode cX7_perform 147 = .ok (.return_, 1) := by decide +kernel
theorem dX7_act_0 : decode cX7_act 0 = .ok (.iload_n 1, 1) := by decide +kernel
theorem dX7_act_1 : decode cX7_act 1 = .ok (.iconst 4, 1) := by decide +kernel
theorem dX7_act_2 : decode cX7_act 2 = .ok (.invokestatic 146, 3) := by decide +kernel
theorem dX7_act_5 : decode cX7_act 5 = .ok (.ifCond .ne 12, 3) := by decide +kernel
theorem dX7_act_8 : decode cX7_act 8 = .ok (.iload_n 2, 1) := by decide +kernel
theorem dX7_act_9 : decode cX7_act 9 = .ok (.bipush 13, 2) := by decide +kernel
theorem dX7_act_11 : decode cX7_act 11 = .ok (.invokestatic 146, 3) := by decide +kernel
theorem dX7_act_14 : decode cX7_act 14 = .ok (.ifCond .eq 5, 3) := by decide +kernel
theorem dX7_act_17 : decode cX7_act 17 = .ok (.iconst (-1), 1) := by decide +kernel
theorem dX7_act_18 : decode cX7_act 18 = .ok (.ireturn, 1) := by decide +kernel
theorem dX7_act_19 : decode cX7_act 19 = .ok (.iload_n 2, 1) := by decide +kernel
theorem dX7_act_20 : decode cX7_act 20 = .ok (.bipush 6, 2) := by decide +kernel
theorem dX7_act_22 : decode cX7_act 22 = .ok (.if_icmp .ge 11, 3) := by decide +kernel
theorem dX7_act_25 : decode cX7_act 25 = .ok (.iload_n 3, 1) := by decide +kernel
theorem dX7_act_26 : decode cX7_act 26 = .ok (.iconst 2, 1) := by decide +kernel
theorem dX7_act_27 : decode cX7_act 27 = .ok (.invokestatic 146, 3) := by decide +kernel
theorem dX7_act_30 : decode cX7_act 30 = .ok (.ifCond .ne 35, 3) := by decide +kernel
theorem dX7_act_33 : decode cX7_act 33 = .ok (.iload_n 2, 1) := by decide +kernel
theorem dX7_act_34 : decode cX7_act 34 = .ok (.bipush 6, 2) := by decide +kernel
theorem dX7_act_36 : decode cX7_act 36 = .ok (.if_icmp .eq 21, 3) := by decide +kernel
theorem dX7_act_39 : decode cX7_act 39 = .ok (.iload_n 2, 1) := by decide +kernel
theorem dX7_act_40 : decode cX7_act 40 = .ok (.bipush 8, 2) := by decide +kernel
theorem dX7_act_42 : decode cX7_act 42 = .ok (.if_icmp .eq 15, 3) := by decide +kernel
theorem dX7_act_45 : decode cX7_act 45 = .ok (.iload_n 2, 1) := by decide +kernel
theorem dX7_act_46 : decode cX7_act 46 = .ok (.bipush 9, 2) := by decide +kernel
theorem dX7_act_48 : decode cX7_act 48 = .ok (.if_icmp .eq 9, 3) := by decide +kernel
theorem dX7_act_51 : decode cX7_act 51 = .ok (.iload_n 2, 1) := by decide +kernel
theorem dX7_act_52 : decode cX7_act 52 = .ok (.bipush 11, 2) := by decide +kernel
theorem dX7_act_54 : decode cX7_act 54 = .ok (.if_icmp .ne 13, 3) := by decide +kernel
theorem dX7_act_57 : decode cX7_act 57 = .ok (.iload_n 3, 1) := by decide +kernel
theorem dX7_act_58 : decode cX7_act 58 = .ok (.iconst 4, 1) := by decide +kernel
theorem dX7_act_59 : decode cX7_act 59 = .ok (.invokestatic 146, 3) := by decide +kernel
theorem dX7_act_62 : decode cX7_act 62 = .ok (.ifCond .eq 5, 3) := by decide +kernel
theorem dX7_act_65 : decode cX7_act 65 = .ok (.iconst (-1), 1) := by decide +kernel
theorem dX7_act_66 : decode cX7_act 66 = .ok (.ireturn, 1) := by decide +kernel
theorem dX7_act_67 : decode cX7_act 67 = .ok (.aload_n 0, 1) := by decide +kernel
theorem dX7_act_68 : decode cX7_act 68 = .ok (.getfield 16, 3) := by decide +kernel
theorem dX7_act_71 : decode cX7_act 71 = .ok (.iload_n 1, 1) := by decide +kernel
theorem dX7_act_72 : decode cX7_act 72 = .ok (.iaload, 1) := by decide +kernel
theorem dX7_act_73 : decode cX7_act 73 = .ok (.istore 4, 2) := by decide +kernel
theorem dX7_act_75 : decode cX7_act 75 = .ok (.iload 4, 2) := by decide +kernel
theorem dX7_act_77 : decode cX7_act 77 = .ok (.bipush 6, 2) := by decide +kernel
theorem dX7_act_79 : decode cX7_act 79 = .ok (.if_icmp .ne 6, 3) := by decide +kernel
theorem dX7_act_82 : decode cX7_act 82 = .ok (.bipush (-2), 2) := by decide +kernel
theorem dX7_act_84 : decode cX7_act 84 = .ok (.ireturn, 1) := by decide +kernel
theorem dX7_act_85 : decode cX7_act 85 = .ok (.aload_n 0, 1) := by decide +kernel
theorem dX7_act_86 : decode cX7_act 86 = .ok (.getfield 7, 3) := by decide +kernel
theorem dX7_act_89 : decode cX7_act 89 = .ok (.bipush 6, 2) := by decide +kernel
theorem dX7_act_91 : decode cX7_act 91 = .ok (.iload_n 1, 1) := by decide +kernel
theorem dX7_act_92 : decode cX7_act 92 = .ok (.imul, 1) := by decide +kernel
theorem dX7_act_93 : decode cX7_act 93 = .ok (.iload 4, 2) := by decide +kernel
theorem dX7_act_95 : decode cX7_act 95 = .ok (.iadd, 1) := by decide +kernel
theorem dX7_act_96 : decode cX7_act 96 = .ok (.iload_n 2, 1) := by decide +kernel
theorem dX7_act_97 : decode cX7_act 97 = .ok (.iastore, 1) := by decide +kernel
theorem dX7_act_98 : decode cX7_act 98 = .ok (.aload_n 0, 1) := by decide +kernel
theorem dX7_act_99 : decode cX7_act 99 = .ok (.getfield 13, 3) := by decide +kernel
theorem dX7_act_102 : decode cX7_act 102 = .ok (.bipush 6, 2) := by decide +kernel
theorem dX7_act_104 : decode cX7_act 104 = .ok (.iload_n 1, 1) := by decide +kernel
theorem dX7_act_105 : decode cX7_act 105 = .ok (.imul, 1) := by decide +kernel
theorem dX7_act_106 : decode cX7_act 106 = .ok (.iload 4, 2) := by decide +kernel
theorem dX7_act_108 : decode cX7_act 108 = .ok (.iadd, 1) := by decide +kernel
theorem dX7_act_109 : decode cX7_act 109 = .ok (.iload_n 3, 1) := by decide +kernel
theorem dX7_act_110 : decode cX7_act 110 = .ok (.iastore, 1) := by decide +kernel
theorem dX7_act_111 : decode cX7_act 111 = .ok (.aload_n 0, 1) := by decide +kernel
theorem dX7_act_112 : decode cX7_act 112 = .ok (.getfield 16, 3) := by decide +kernel
theorem dX7_act_115 : decode cX7_act 115 = .ok (.iload_n 1, 1) := by decide +kernel
theorem dX7_act_116 : decode cX7_act 116 = .ok (.dup2, 1) := by decide +kernel
theorem dX7_act_117 : decode cX7_act 117 = .ok (.iaload, 1) := by decide +kernel
theorem dX7_act_118 : decode cX7_act 118 = .ok (.iconst 1, 1) := by decide +kernel
theorem dX7_act_119 : decode cX7_act 119 = .ok (.iadd, 1) := by decide +kernel
theorem dX7_act_120 : decode cX7_act 120 = .ok (.iastore, 1) := by decide +kernel
theorem dX7_act_121 : decode cX7_act 121 = .ok (.aload_n 0, 1) := by decide +kernel
theorem dX7_act_122 : decode cX7_act 122 = .ok (.invokevirtual 73, 3) := by decide +kernel
theorem dX7_act_125 : decode cX7_act 125 = .ok (.pop, 1) := by decide +kernel
theorem dX7_act_126 : decode cX7_act 126 = .ok (.aload_n 0, 1) := by decide +kernel
theorem dX7_act_127 : decode cX7_act 127 = .ok (.invokevirtual 149, 3) := by decide +kernel
theorem dX7_act_130 : decode cX7_act 130 = .ok (.iload 4, 2) := by decide +kernel
theorem dX7_act_132 : decode cX7_act 132 = .ok (.iconst 1, 1) := by decide +kernel
theorem dX7_act_133 : decode cX7_act 133 = .ok (.iadd, 1) := by decide +kernel
theorem dX7_act_134 : decode cX7_act 134 = .ok (.ireturn, 1) := by decide +kernel
theorem dX7_forget_0 : decode cX7_forget 0 = .ok (.aload_n 0, 1) := by decide +kernel
theorem dX7_forget_1 : decode cX7_forget 1 = .ok (.aload_n 0, 1) := by decide +kernel
theorem dX7_forget_2 : decode cX7_forget 2 = .ok (.aload_n 0, 1) := by decide +kernel
theorem dX7_forget_3 : decode cX7_forget 3 = .ok (.aload_n 0, 1) := by decide +kernel
theorem dX7_forget_4 : decode cX7_forget 4 = .ok (.aload_n 0, 1) := by decide +kernel
theorem dX7_forget_5 : decode cX7_forget 5 = .ok (.iconst 0, 1) := by decide +kernel
theorem dX7_forget_6 : decode cX7_forget 6 = .ok (.dup_x1, 1) := by decide +kernel
theorem dX7_forget_7 : decode cX7_forget 7 = .ok (.putfield 152, 3) := by decide +kernel
theorem dX7_forget_10 : decode cX7_forget 10 = .ok (.dup_x1, 1) := by decide +kernel
theorem dX7_forget_11 : decode cX7_forget 11 = .ok (.putfield 156, 3) := by decide +kernel
theorem dX7_forget_14 : decode cX7_forget 14 = .ok (.dup_x1, 1) := by decide +kernel
theorem dX7_forget_15 : decode cX7_forget 15 = .ok (.putfield 159, 3) := by decide +kernel
theorem dX7_forget_18 : decode cX7_forget 18 = .ok (.dup_x1, 1) := by decide +kernel
theorem dX7_forget_19 : decode cX7_forget 19 = .ok (.putfield 162, 3) := by decide +kernel
theorem dX7_forget_22 : decode cX7_forget 22 = .ok (.putfield 165, 3) := by decide +kernel
theorem dX7_forget_25 : decode cX7_forget 25 = .ok (.iconst 0, 1) := by decide +kernel
theorem dX7_forget_26 : decode cX7_forget 26 = .ok (.istore_n 1, 1) := by decide +kernel
theorem dX7_forget_27 : decode cX7_forget 27 = .ok (.iload_n 1, 1) := by decide +kernel
theorem dX7_forget_28 : decode cX7_forget 28 = .ok (.iconst 4, 1) := by decide +kernel
theorem dX7_forget_29 : decode cX7_forget 29 = .ok (.if_icmp .ge 16, 3) := by decide +kernel
theorem dX7_forget_32 : decode cX7_forget 32 = .ok (.aload_n 0, 1) := by decide +kernel
theorem dX7_forget_33 : decode cX7_forget 33 = .ok (.getfield 66, 3) := by decide +kernel
theorem dX7_forget_36 : decode cX7_forget 36 = .ok (.iload_n 1, 1) := by decide +kernel
theorem dX7_forget_37 : decode cX7_forget 37 = .ok (.iconst 0, 1) := by decide +kernel
theorem dX7_forget_38 : decode cX7_forget 38 = .ok (.bastore, 1) := by decide +kernel
theorem dX7_forget_39 : decode cX7_forget 39 = .ok (.iinc 1 1, 3) := by decide +kernel
theorem dX7_forget_42 : decode cX7_forget 42 = .ok (.goto (-15), 3) := by decide +kernel
theorem dX7_forget_45 : decode cX7_forget 45 = .ok (.return_, 1) := by decide +kernel
theorem dX7_choose_0 : decode cX7_choose 0 = .ok (.iload_n 1, 1) := by decide +kernel
theorem dX7_choose_1 : decode cX7_choose 1 = .ok (.iconst 4, 1) := by decide +kernel
theorem dX7_choose_2 : decode cX7_choose 2 = .ok (.invokestatic 146, 3) := by decide +kernel
theorem dX7_choose_5 : decode cX7_choose 5 = .ok (.ifCond .ne 11, 3) := by decide +kernel
theorem dX7_choose_8 : decode cX7_choose 8 = .ok (.iload_n 2, 1) := by decide +kernel
theorem dX7_choose_9 : decode cX7_choose 9 = .ok (.iconst 4, 1) := by decide +kernel
theorem dX7_choose_10 : decode cX7_choose 10 = .ok (.invokestatic 146, 3) := by decide +kernel
theorem dX7_choose_13 : decode cX7_choose 13 = .ok (.ifCond .eq 5, 3) := by decide +kernel
theorem dX7_choose_16 : decode cX7_choose 16 = .ok (.iconst (-1), 1) := by decide +kernel
theorem dX7_choose_17 : decode cX7_choose 17 = .ok (.ireturn, 1) := by decide +kernel
theorem dX7_choose_18 : decode cX7_choose 18 = .ok (.aload_n 0, 1) := by decide +kernel
theorem dX7_choose_19 : decode cX7_choose 19 = .ok (.aload_n 0, 1) := by decide +kernel
theorem dX7_choose_20 : decode cX7_choose 20 = .ok (.getfield 57, 3) := by decide +kernel
theorem dX7_choose_23 : decode cX7_choose 23 = .ok (.iconst 0, 1) := by decide +kernel
theorem dX7_choose_24 : decode cX7_choose 24 = .ok (.invokevirtual 168, 3) := by decide +kernel
theorem dX7_choose_27 : decode cX7_choose 27 = .ok (.aload_n 0, 1) := by decide +kernel
theorem dX7_choose_28 : decode cX7_choose 28 = .ok (.iload_n 1, 1) := by decide +kernel
theorem dX7_choose_29 : decode cX7_choose 29 = .ok (.iload_n 2, 1) := by decide +kernel
theorem dX7_choose_30 : decode cX7_choose 30 = .ok (.invokevirtual 172, 3) := by decide +kernel
theorem dX7_choose_33 : decode cX7_choose 33 = .ok (.ifCond .ne 5, 3) := by decide +kernel
theorem dX7_choose_36 : decode cX7_choose 36 = .ok (.iconst 0, 1) := by decide +kernel
theorem dX7_choose_37 : decode cX7_choose 37 = .ok (.ireturn, 1) := by decide +kernel
theorem dX7_choose_38 : decode cX7_choose 38 = .ok (.aload_n 0, 1) := by decide +kernel
theorem dX7_choose_39 : decode cX7_choose 39 = .ok (.iload_n 1, 1) := by decide +kernel
theorem dX7_choose_40 : decode cX7_choose 40 = .ok (.iload_n 2, 1) := by decide +kernel
theorem dX7_choose_41 : decode cX7_choose 41 = .ok (.invokevirtual 175, 3) := by decide +kernel
theorem dX7_choose_44 : decode cX7_choose 44 = .ok (.aload_n 0, 1) := by decide +kernel
theorem dX7_choose_45 : decode cX7_choose 45 = .ok (.aload_n 0, 1) := by decide +kernel
theorem dX7_choose_46 : decode cX7_choose 46 = .ok (.getfield 57, 3) := by decide +kernel
theorem dX7_choose_49 : decode cX7_choose 49 = .ok (.iconst 0, 1) := by decide +kernel
theorem dX7_choose_50 : decode cX7_choose 50 = .ok (.invokevirtual 178, 3) := by decide +kernel
theorem dX7_choose_53 : decode cX7_choose 53 = .ok (.aload_n 0, 1) := by decide +kernel
theorem dX7_choose_54 : decode cX7_choose 54 = .ok (.dup, 1) := by decide +kernel
theorem dX7_choose_55 : decode cX7_choose 55 = .ok (.getfield 181, 3) := by decide +kernel
theorem dX7_choose_58 : decode cX7_choose 58 = .ok (.iconst 1, 1) := by decide +kernel
theorem dX7_choose_59 : decode cX7_choose 59 = .ok (.iadd, 1) := by decide +kernel
theorem dX7_choose_60 : decode cX7_choose 60 = .ok (.putfield 181, 3) := by decide +kernel
theorem dX7_choose_63 : decode cX7_choose 63 = .ok (.iconst 1, 1) := by decide +kernel
theorem dX7_choose_64 : decode cX7_choose 64 = .ok (.ireturn, 1) := by decide +kernel
theorem dX7_allowed_0 : decode cX7_allowed 0 = .ok (.aload_n 0, 1) := by decide +kernel
theorem dX7_allowed_1 : decode cX7_allowed 1 = .ok (.aload_n 0, 1) := by decide +kernel
theorem dX7_allowed_2 : decode cX7_allowed 2 = .ok (.getfield 57, 3) := by decide +kernel
theorem dX7_allowed_5 : decode cX7_allowed 5 = .ok (.iconst 0, 1) := by decide +kernel
theorem dX7_allowed_6 : decode cX7_allowed 6 = .ok (.invokevirtual 168, 3) := by decide +kernel
theorem dX7_allowed_9 : decode cX7_allowed 9 = .ok (.iload_n 1, 1) := by decide +kernel
theorem dX7_allowed_10 : decode cX7_allowed 10 = .ok (.iconst 4, 1) := by decide +kernel
theorem dX7_allowed_11 : decode cX7_allowed 11 = .ok (.invokestatic 146, 3) := by decide +kernel
theorem dX7_allowed_14 : decode cX7_allowed 14 = .ok (.ifCond .ne 24, 3) := by decide +kernel
theorem dX7_allowed_17 : decode cX7_allowed 17 = .ok (.iload_n 2, 1) := by decide +kernel
theorem dX7_allowed_18 : decode cX7_allowed 18 = .ok (.iconst 4, 1) := by decide +kernel
theorem dX7_allowed_19 : decode cX7_allowed 19 = .ok (.invokestatic 146, 3) := by decide +kernel
theorem dX7_allowed_22 : decode cX7_allowed 22 = .ok (.ifCond .ne 16, 3) := by decide +kernel
theorem dX7_allowed_25 : decode cX7_allowed 25 = .ok (.aload_n 0, 1) := by decide +kernel
theorem dX7_allowed_26 : decode cX7_allowed 26 = .ok (.iload_n 1, 1) := by decide +kernel
theorem dX7_allowed_27 : decode cX7_allowed 27 = .ok (.iload_n 2, 1) := by decide +kernel
theorem dX7_allowed_28 : decode cX7_allowed 28 = .ok (.invokevirtual 172, 3) := by decide +kernel
theorem dX7_allowed_31 : decode cX7_allowed 31 = .ok (.ifCond .eq 7, 3) := by decide +kernel
theorem dX7_allowed_34 : decode cX7_allowed 34 = .ok (.iconst 1, 1) := by decide +kernel
theorem dX7_allowed_35 : decode cX7_allowed 35 = .ok (.goto 4, 3) := by decide +kernel
theorem dX7_allowed_38 : decode cX7_allowed 38 = .ok (.iconst 0, 1) := by decide +kernel
theorem dX7_allowed_39 : decode cX7_allowed 39 = .ok (.ireturn, 1) := by decide +kernel
theorem dX7_reset_0 : decode cX7_reset 0 = .ok (.aload_n 0, 1) := by decide +kernel
theorem dX7_reset_1 : decode cX7_reset 1 = .ok (.getfield 181, 3) := by decide +kernel
theorem dX7_reset_4 : decode cX7_reset 4 = .ok (.istore_n 1, 1) := by decide +kernel
theorem dX7_reset_5 : decode cX7_reset 5 = .ok (.aload_n 0, 1) := by decide +kernel
theorem dX7_reset_6 : decode cX7_reset 6 = .ok (.iconst 0, 1) := by decide +kernel
theorem dX7_reset_7 : decode cX7_reset 7 = .ok (.putfield 181, 3) := by decide +kernel
theorem dX7_reset_10 : decode cX7_reset 10 = .ok (.aload_n 0, 1) := by decide +kernel
theorem dX7_reset_11 : decode cX7_reset 11 = .ok (.invokevirtual 184, 3) := by decide +kernel
theorem dX7_reset_14 : decode cX7_reset 14 = .ok (.aload_n 0, 1) := by decide +kernel
theorem dX7_reset_15 : decode cX7_reset 15 = .ok (.aload_n 0, 1) := by decide +kernel
theorem dX7_reset_16 : decode cX7_reset 16 = .ok (.getfield 57, 3) := by decide +kernel
theorem dX7_reset_19 : decode cX7_reset 19 = .ok (.iconst 0, 1) := by decide +kernel
theorem dX7_reset_20 : decode cX7_reset 20 = .ok (.invokevirtual 178, 3) := by decide +kernel
theorem dX7_reset_23 : decode cX7_reset 23 = .ok (.iload_n 1, 1) := by decide +kernel
theorem dX7_reset_24 : decode cX7_reset 24 = .ok (.ireturn, 1) := by decide +kernel
theorem dX7_state_0 : decode cX7_state 0 = .ok (.iload_n 1, 1) := by decide +kernel
theorem dX7_state_1 : decode cX7_state 1 = .ok (.iconst 4, 1) := by decide +kernel
theorem dX7_state_2 : decode cX7_state 2 = .ok (.invokestatic 146, 3) := by decide +kernel
theorem dX7_state_5 : decode cX7_state 5 = .ok (.ifCond .eq 5, 3) := by decide +kernel
theorem dX7_state_8 : decode cX7_state 8 = .ok (.iconst (-1), 1) := by decide +kernel
theorem dX7_state_9 : decode cX7_state 9 = .ok (.ireturn, 1) := by decide +kernel
theorem dX7_state_10 : decode cX7_state 10 = .ok (.aload_n 0, 1) := by decide +kernel
theorem dX7_state_11 : decode cX7_state 11 = .ok (.aload_n 0, 1) := by decide +kernel
theorem dX7_state_12 : decode cX7_state 12 = .ok (.getfield 57, 3) := by decide +kernel
theorem dX7_state_15 : decode cX7_state 15 = .ok (.iconst 0, 1) := by decide +kernel
theorem dX7_state_16 : decode cX7_state 16 = .ok (.invokevirtual 168, 3) := by decide +kernel
theorem dX7_state_19 : decode cX7_state 19 = .ok (.aload_n 0, 1) := by decide +kernel
theorem dX7_state_20 : decode cX7_state 20 = .ok (.getfield 22, 3) := by decide +kernel
theorem dX7_state_23 : decode cX7_state 23 = .ok (.iload_n 1, 1) := by decide +kernel
theorem dX7_state_24 : decode cX7_state 24 = .ok (.iaload, 1) := by decide +kernel
theorem dX7_state_25 : decode cX7_state 25 = .ok (.aload_n 0, 1) := by decide +kernel
theorem dX7_state_26 : decode cX7_state 26 = .ok (.getfield 35, 3) := by decide +kernel
theorem dX7_state_29 : decode cX7_state 29 = .ok (.iload_n 1, 1) := by decide +kernel
theorem dX7_state_30 : decode cX7_state 30 = .ok (.baload, 1) := by decide +kernel
theorem dX7_state_31 : decode cX7_state 31 = .ok (.ifCond .eq 8, 3) := by decide +kernel
theorem dX7_state_34 : decode cX7_state 34 = .ok (.bipush 8, 2) := by decide +kernel
theorem dX7_state_36 : decode cX7_state 36 = .ok (.goto 4, 3) := by decide +kernel
theorem dX7_state_39 : decode cX7_state 39 = .ok (.iconst 0, 1) := by decide +kernel
theorem dX7_state_40 : decode cX7_state 40 = .ok (.iadd, 1) := by decide +kernel
theorem dX7_state_41 : decode cX7_state 41 = .ok (.aload_n 0, 1) := by decide +kernel
theorem dX7_state_42 : decode cX7_state 42 = .ok (.getfield 39, 3) := by decide +kernel
theorem dX7_state_45 : decode cX7_state 45 = .ok (.iload_n 1, 1) := by decide +kernel
theorem dX7_state_46 : decode cX7_state 46 = .ok (.baload, 1) := by decide +kernel
theorem dX7_state_47 : decode cX7_state 47 = .ok (.ifCond .eq 8, 3) := by decide +kernel
theorem dX7_state_50 : decode cX7_state 50 = .ok (.bipush 16, 2) := by decide +kernel
theorem dX7_state_52 : decode cX7_state 52 = .ok (.goto 4, 3) := by decide +kernel
theorem dX7_state_55 : decode cX7_state 55 = .ok (.iconst 0, 1) := by decide +kernel
theorem dX7_state_56 : decode cX7_state 56 = .ok (.iadd, 1) := by decide +kernel
theorem dX7_state_57 : decode cX7_state 57 = .ok (.ireturn, 1) := by decide +kernel
theorem dX7_letter_0 : decode cX7_letter 0 = .ok (.iload_n 1, 1) := by decide +kernel
theorem dX7_letter_1 : decode cX7_letter 1 = .ok (.iconst 4, 1) := by decide +kernel
theorem dX7_letter_2 : decode cX7_letter 2 = .ok (.invokestatic 146, 3) := by decide +kernel
theorem dX7_letter_5 : decode cX7_letter 5 = .ok (.ifCond .eq 5, 3) := by decide +kernel
theorem dX7_letter_8 : decode cX7_letter 8 = .ok (.iconst (-1), 1) := by decide +kernel
theorem dX7_letter_9 : decode cX7_letter 9 = .ok (.ireturn, 1) := by decide +kernel
theorem dX7_letter_10 : decode cX7_letter 10 = .ok (.aload_n 0, 1) := by decide +kernel
theorem dX7_letter_11 : decode cX7_letter 11 = .ok (.aload_n 0, 1) := by decide +kernel
theorem dX7_letter_12 : decode cX7_letter 12 = .ok (.getfield 57, 3) := by decide +kernel
theorem dX7_letter_15 : decode cX7_letter 15 = .ok (.iconst 0, 1) := by decide +kernel
theorem dX7_letter_16 : decode cX7_letter 16 = .ok (.invokevirtual 168, 3) := by decide +kernel
theorem dX7_letter_19 : decode cX7_letter 19 = .ok (.iload_n 2, 1) := by decide +kernel
theorem dX7_letter_20 : decode cX7_letter 20 = .ok (.aload_n 0, 1) := by decide +kernel
theorem dX7_letter_21 : decode cX7_letter 21 = .ok (.getfield 28, 3) := by decide +kernel
theorem dX7_letter_24 : decode cX7_letter 24 = .ok (.iload_n 1, 1) := by decide +kernel
theorem dX7_letter_25 : decode cX7_letter 25 = .ok (.iaload, 1) := by decide +kernel
theorem dX7_letter_26 : decode cX7_letter 26 = .ok (.invokestatic 146, 3) := by decide +kernel
theorem dX7_letter_29 : decode cX7_letter 29 = .ok (.ifCond .eq 5, 3) := by decide +kernel
theorem dX7_letter_32 : decode cX7_letter 32 = .ok (.iconst (-1), 1) := by decide +kernel
theorem dX7_letter_33 : decode cX7_letter 33 = .ok (.ireturn, 1) := by decide +kernel
theorem dX7_letter_34 : decode cX7_letter 34 = .ok (.aload_n 0, 1) := by decide +kernel
theorem dX7_letter_35 : decode cX7_letter 35 = .ok (.getfield 31, 3) := by decide +kernel
theorem dX7_letter_38 : decode cX7_letter 38 = .ok (.iload_n 1, 1) := by decide +kernel
theorem dX7_letter_39 : decode cX7_letter 39 = .ok (.laload, 1) := by decide +kernel
theorem dX7_letter_40 : decode cX7_letter 40 = .ok (.lstore_n 3, 1) := by decide +kernel
theorem dX7_letter_41 : decode cX7_letter 41 = .ok (.iload_n 2, 1) := by decide +kernel
theorem dX7_letter_42 : decode cX7_letter 42 = .ok (.iconst 1, 1) := by decide +kernel
theorem dX7_letter_43 : decode cX7_letter 43 = .ok (.iadd, 1) := by decide +kernel
theorem dX7_letter_44 : decode cX7_letter 44 = .ok (.istore 5, 2) := by decide +kernel
theorem dX7_letter_46 : decode cX7_letter 46 = .ok (.iload 5, 2) := by decide +kernel
theorem dX7_letter_48 : decode cX7_letter 48 = .ok (.aload_n 0, 1) := by decide +kernel
theorem dX7_letter_49 : decode cX7_letter 49 = .ok (.getfield 28, 3) := by decide +kernel
theorem dX7_letter_52 : decode cX7_letter 52 = .ok (.iload_n 1, 1) := by decide +kernel
theorem dX7_letter_53 : decode cX7_letter 53 = .ok (.iaload, 1) := by decide +kernel
theorem dX7_letter_54 : decode cX7_letter 54 = .ok (.if_icmp .ge 15, 3) := by decide +kernel
theorem dX7_letter_57 : decode cX7_letter 57 = .ok (.lload_n 3, 1) := by decide +kernel
theorem dX7_letter_58 : decode cX7_letter 58 = .ok (.ldc2_w 109, 3) := by decide +kernel
theorem dX7_letter_61 : decode cX7_letter 61 = .ok (.ldiv, 1) := by decide +kernel
theorem dX7_letter_62 : decode cX7_letter 62 = .ok (.lstore_n 3, 1) := by decide +kernel
theorem dX7_letter_63 : decode cX7_letter 63 = .ok (.iinc 5 1, 3) := by decide +kernel
theorem dX7_letter_66 : decode cX7_letter 66 = .ok (.goto (-20), 3) := by decide +kernel
theorem dX7_letter_69 : decode cX7_letter 69 = .ok (.lload_n 3, 1) := by decide +kernel
theorem dX7_letter_70 : decode cX7_letter 70 = .ok (.ldc2_w 109, 3) := by decide +kernel
theorem dX7_letter_73 : decode cX7_letter 73 = .ok (.lrem, 1) := by decide +kernel
theorem dX7_letter_74 : decode cX7_letter 74 = .ok (.l2i, 1) := by decide +kernel
theorem dX7_letter_75 : decode cX7_letter 75 = .ok (.ireturn, 1) := by decide +kernel
theorem dX7_owner_0 : decode cX7_owner 0 = .ok (.aload_n 0, 1) := by decide +kernel
theorem dX7_owner_1 : decode cX7_owner 1 = .ok (.aload_n 0, 1) := by decide +kernel
theorem dX7_owner_2 : decode cX7_owner 2 = .ok (.getfield 57, 3) := by decide +kernel
theorem dX7_owner_5 : decode cX7_owner 5 = .ok (.iconst 0, 1) := by decide +kernel
theorem dX7_owner_6 : decode cX7_owner 6 = .ok (.invokevirtual 168, 3) := by decide +kernel
theorem dX7_owner_9 : decode cX7_owner 9 = .ok (.iload_n 1, 1) := by decide +kernel
theorem dX7_owner_10 : decode cX7_owner 10 = .ok (.iconst 2, 1) := by decide +kernel
theorem dX7_owner_11 : decode cX7_owner 11 = .ok (.invokestatic 146, 3) := by decide +kernel
theorem dX7_owner_14 : decode cX7_owner 14 = .ok (.ifCond .eq 7, 3) := by decide +kernel
theorem dX7_owner_17 : decode cX7_owner 17 = .ok (.iconst (-1), 1) := by decide +kernel
theorem dX7_owner_18 : decode cX7_owner 18 = .ok (.goto 9, 3) := by decide +kernel
theorem dX7_owner_21 : decode cX7_owner 21 = .ok (.aload_n 0, 1) := by decide +kernel
theorem dX7_owner_22 : decode cX7_owner 22 = .ok (.getfield 45, 3) := by decide +kernel
theorem dX7_owner_25 : decode cX7_owner 25 = .ok (.iload_n 1, 1) := by decide +kernel
theorem dX7_owner_26 : decode cX7_owner 26 = .ok (.iaload, 1) := by decide +kernel
theorem dX7_owner_27 : decode cX7_owner 27 = .ok (.ireturn, 1) := by decide +kernel
theorem dX7_held_0 : decode cX7_held 0 = .ok (.aload_n 0, 1) := by decide +kernel
theorem dX7_held_1 : decode cX7_held 1 = .ok (.aload_n 0, 1) := by decide +kernel
theorem dX7_held_2 : decode cX7_held 2 = .ok (.getfield 57, 3) := by decide +kernel
theorem dX7_held_5 : decode cX7_held 5 = .ok (.iconst 0, 1) := by decide +kernel
theorem dX7_held_6 : decode cX7_held 6 = .ok (.invokevirtual 168, 3) := by decide +kernel
theorem dX7_held_9 : decode cX7_held 9 = .ok (.iload_n 1, 1) := by decide +kernel
theorem dX7_held_10 : decode cX7_held 10 = .ok (.iconst 2, 1) := by decide +kernel
theorem dX7_held_11 : decode cX7_held 11 = .ok (.invokestatic 146, 3) := by decide +kernel
theorem dX7_held_14 : decode cX7_held 14 = .ok (.ifCond .eq 7, 3) := by decide +kernel
theorem dX7_held_17 : decode cX7_held 17 = .ok (.iconst 0, 1) := by decide +kernel
theorem dX7_held_18 : decode cX7_held 18 = .ok (.goto 9, 3) := by decide +kernel
theorem dX7_held_21 : decode cX7_held 21 = .ok (.aload_n 0, 1) := by decide +kernel
theorem dX7_held_22 : decode cX7_held 22 = .ok (.getfield 48, 3) := by decide +kernel
theorem dX7_held_25 : decode cX7_held 25 = .ok (.iload_n 1, 1) := by decide +kernel
theorem dX7_held_26 : decode cX7_held 26 = .ok (.iaload, 1) := by decide +kernel
theorem dX7_held_27 : decode cX7_held 27 = .ok (.ireturn, 1) := by decide +kernel
theorem dX7_inSet_0 : decode cX7_inSet 0 = .ok (.aload_n 0, 1) := by decide +kernel
theorem dX7_inSet_1 : decode cX7_inSet 1 = .ok (.aload_n 0, 1) := by decide +kernel
theorem dX7_inSet_2 : decode cX7_inSet 2 = .ok (.getfield 57, 3) := by decide +kernel
theorem dX7_inSet_5 : decode cX7_inSet 5 = .ok (.iconst 0, 1) := by decide +kernel
theorem dX7_inSet_6 : decode cX7_inSet 6 = .ok (.invokevirtual 168, 3) := by decide +kernel
theorem dX7_inSet_9 : decode cX7_inSet 9 = .ok (.iload_n 1, 1) := by decide +kernel
theorem dX7_inSet_10 : decode cX7_inSet 10 = .ok (.iconst 2, 1) := by decide +kernel
theorem dX7_inSet_11 : decode cX7_inSet 11 = .ok (.invokestatic 146, 3) := by decide +kernel
theorem dX7_inSet_14 : decode cX7_inSet 14 = .ok (.ifCond .ne 16, 3) := by decide +kernel
theorem dX7_inSet_17 : decode cX7_inSet 17 = .ok (.iload_n 2, 1) := by decide +kernel
theorem dX7_inSet_18 : decode cX7_inSet 18 = .ok (.aload_n 0, 1) := by decide +kernel
theorem dX7_inSet_19 : decode cX7_inSet 19 = .ok (.getfield 51, 3) := by decide +kernel
theorem dX7_inSet_22 : decode cX7_inSet 22 = .ok (.iload_n 1, 1) := by decide +kernel
theorem dX7_inSet_23 : decode cX7_inSet 23 = .ok (.iaload, 1) := by decide +kernel
theorem dX7_inSet_24 : decode cX7_inSet 24 = .ok (.invokestatic 146, 3) := by decide +kernel
theorem dX7_inSet_27 : decode cX7_inSet 27 = .ok (.ifCond .eq 7, 3) := by decide +kernel
theorem dX7_inSet_30 : decode cX7_inSet 30 = .ok (.iconst (-1), 1) := by decide +kernel
theorem dX7_inSet_31 : decode cX7_inSet 31 = .ok (.goto 13, 3) := by decide +kernel
theorem dX7_inSet_34 : decode cX7_inSet 34 = .ok (.aload_n 0, 1) := by decide +kernel
theorem dX7_inSet_35 : decode cX7_inSet 35 = .ok (.getfield 54, 3) := by decide +kernel
theorem dX7_inSet_38 : decode cX7_inSet 38 = .ok (.iconst 4, 1) := by decide +kernel
theorem dX7_inSet_39 : decode cX7_inSet 39 = .ok (.iload_n 1, 1) := by decide +kernel
theorem dX7_inSet_40 : decode cX7_inSet 40 = .ok (.imul, 1) := by decide +kernel
theorem dX7_inSet_41 : decode cX7_inSet 41 = .ok (.iload_n 2, 1) := by decide +kernel
theorem dX7_inSet_42 : decode cX7_inSet 42 = .ok (.iadd, 1) := by decide +kernel
theorem dX7_inSet_43 : decode cX7_inSet 43 = .ok (.iaload, 1) := by decide +kernel
theorem dX7_inSet_44 : decode cX7_inSet 44 = .ok (.ireturn, 1) := by decide +kernel
theorem dX7_meet_0 : decode cX7_meet 0 = .ok (.iconst 5, 1) := by decide +kernel
theorem dX7_meet_1 : decode cX7_meet 1 = .ok (.aload_n 0, 1) := by decide +kernel
theorem dX7_meet_2 : decode cX7_meet 2 = .ok (.getfield 165, 3) := by decide +kernel
theorem dX7_meet_5 : decode cX7_meet 5 = .ok (.imul, 1) := by decide +kernel
theorem dX7_meet_6 : decode cX7_meet 6 = .ok (.istore_n 1, 1) := by decide +kernel
theorem dX7_meet_7 : decode cX7_meet 7 = .ok (.aload_n 0, 1) := by decide +kernel
theorem dX7_meet_8 : decode cX7_meet 8 = .ok (.getfield 165, 3) := by decide +kernel
theorem dX7_meet_11 : decode cX7_meet 11 = .ok (.sipush 3000, 3) := by decide +kernel
theorem dX7_meet_14 : decode cX7_meet 14 = .ok (.if_icmp .le 4, 3) := by decide +kernel
theorem dX7_meet_17 : decode cX7_meet 17 = .ok (.return_, 1) := by decide +kernel
theorem dX7_meet_18 : decode cX7_meet 18 = .ok (.aload_n 0, 1) := by decide +kernel
theorem dX7_meet_19 : decode cX7_meet 19 = .ok (.aload_n 0, 1) := by decide +kernel
theorem dX7_meet_20 : decode cX7_meet 20 = .ok (.getfield 60, 3) := by decide +kernel
theorem dX7_meet_23 : decode cX7_meet 23 = .ok (.iload_n 1, 1) := by decide +kernel
theorem dX7_meet_24 : decode cX7_meet 24 = .ok (.invokevirtual 178, 3) := by decide +kernel
theorem dX7_meet_27 : decode cX7_meet 27 = .ok (.iconst 0, 1) := by decide +kernel
theorem dX7_meet_28 : decode cX7_meet 28 = .ok (.istore_n 2, 1) := by decide +kernel
theorem dX7_meet_29 : decode cX7_meet 29 = .ok (.iload_n 2, 1) := by decide +kernel
theorem dX7_meet_30 : decode cX7_meet 30 = .ok (.iload_n 1, 1) := by decide +kernel
theorem dX7_meet_31 : decode cX7_meet 31 = .ok (.if_icmp .ge 116, 3) := by decide +kernel
theorem dX7_meet_34 : decode cX7_meet 34 = .ok (.aload_n 0, 1) := by decide +kernel
theorem dX7_meet_35 : decode cX7_meet 35 = .ok (.getfield 60, 3) := by decide +kernel
theorem dX7_meet_38 : decode cX7_meet 38 = .ok (.iload_n 2, 1) := by decide +kernel
theorem dX7_meet_39 : decode cX7_meet 39 = .ok (.laload, 1) := by decide +kernel
theorem dX7_meet_40 : decode cX7_meet 40 = .ok (.aload_n 0, 1) := by decide +kernel
theorem dX7_meet_41 : decode cX7_meet 41 = .ok (.getfield 60, 3) := by decide +kernel
theorem dX7_meet_44 : decode cX7_meet 44 = .ok (.iload_n 1, 1) := by decide +kernel
theorem dX7_meet_45 : decode cX7_meet 45 = .ok (.laload, 1) := by decide +kernel
theorem dX7_meet_46 : decode cX7_meet 46 = .ok (.lcmp, 1) := by decide +kernel
theorem dX7_meet_47 : decode cX7_meet 47 = .ok (.ifCond .ne 47, 3) := by decide +kernel
theorem dX7_meet_50 : decode cX7_meet 50 = .ok (.aload_n 0, 1) := by decide +kernel
theorem dX7_meet_51 : decode cX7_meet 51 = .ok (.getfield 60, 3) := by decide +kernel
theorem dX7_meet_54 : decode cX7_meet 54 = .ok (.iload_n 2, 1) := by decide +kernel
theorem dX7_meet_55 : decode cX7_meet 55 = .ok (.iconst 1, 1) := by decide +kernel
theorem dX7_meet_56 : decode cX7_meet 56 = .ok (.iadd, 1) := by decide +kernel
theorem dX7_meet_57 : decode cX7_meet 57 = .ok (.laload, 1) := by decide +kernel
theorem dX7_meet_58 : decode cX7_meet 58 = .ok (.aload_n 0, 1) := by decide +kernel
theorem dX7_meet_59 : decode cX7_meet 59 = .ok (.getfield 60, 3) := by decide +kernel
theorem dX7_meet_62 : decode cX7_meet 62 = .ok (.iload_n 1, 1) := by decide +kernel
theorem dX7_meet_63 : decode cX7_meet 63 = .ok (.iconst 1, 1) := by decide +kernel
theorem dX7_meet_64 : decode cX7_meet 64 = .ok (.iadd, 1) := by decide +kernel
theorem dX7_meet_65 : decode cX7_meet 65 = .ok (.laload, 1) := by decide +kernel
theorem dX7_meet_66 : decode cX7_meet 66 = .ok (.lcmp, 1) := by decide +kernel
theorem dX7_meet_67 : decode cX7_meet 67 = .ok (.ifCond .ne 27, 3) := by decide +kernel
theorem dX7_meet_70 : decode cX7_meet 70 = .ok (.aload_n 0, 1) := by decide +kernel
theorem dX7_meet_71 : decode cX7_meet 71 = .ok (.getfield 60, 3) := by decide +kernel
theorem dX7_meet_74 : decode cX7_meet 74 = .ok (.iload_n 2, 1) := by decide +kernel
theorem dX7_meet_75 : decode cX7_meet 75 = .ok (.iconst 2, 1) := by decide +kernel
theorem dX7_meet_76 : decode cX7_meet 76 = .ok (.iadd, 1) := by decide +kernel
theorem dX7_meet_77 : decode cX7_meet 77 = .ok (.laload, 1) := by decide +kernel
theorem dX7_meet_78 : decode cX7_meet 78 = .ok (.aload_n 0, 1) := by decide +kernel
theorem dX7_meet_79 : decode cX7_meet 79 = .ok (.getfield 60, 3) := by decide +kernel
theorem dX7_meet_82 : decode cX7_meet 82 = .ok (.iload_n 1, 1) := by decide +kernel
theorem dX7_meet_83 : decode cX7_meet 83 = .ok (.iconst 2, 1) := by decide +kernel
theorem dX7_meet_84 : decode cX7_meet 84 = .ok (.iadd, 1) := by decide +kernel
theorem dX7_meet_85 : decode cX7_meet 85 = .ok (.laload, 1) := by decide +kernel
theorem dX7_meet_86 : decode cX7_meet 86 = .ok (.lcmp, 1) := by decide +kernel
theorem dX7_meet_87 : decode cX7_meet 87 = .ok (.ifCond .ne 7, 3) := by decide +kernel
theorem dX7_meet_90 : decode cX7_meet 90 = .ok (.iconst 1, 1) := by decide +kernel
theorem dX7_meet_91 : decode cX7_meet 91 = .ok (.goto 4, 3) := by decide +kernel
theorem dX7_meet_94 : decode cX7_meet 94 = .ok (.iconst 0, 1) := by decide +kernel
theorem dX7_meet_95 : decode cX7_meet 95 = .ok (.istore_n 3, 1) := by decide +kernel
theorem dX7_meet_96 : decode cX7_meet 96 = .ok (.iload_n 3, 1) := by decide +kernel
theorem dX7_meet_97 : decode cX7_meet 97 = .ok (.ifCond .eq 44, 3) := by decide +kernel
theorem dX7_meet_100 : decode cX7_meet 100 = .ok (.aload_n 0, 1) := by decide +kernel
theorem dX7_meet_101 : decode cX7_meet 101 = .ok (.getfield 60, 3) := by decide +kernel
theorem dX7_meet_104 : decode cX7_meet 104 = .ok (.iload_n 2, 1) := by decide +kernel
theorem dX7_meet_105 : decode cX7_meet 105 = .ok (.iconst 3, 1) := by decide +kernel
theorem dX7_meet_106 : decode cX7_meet 106 = .ok (.iadd, 1) := by decide +kernel
theorem dX7_meet_107 : decode cX7_meet 107 = .ok (.laload, 1) := by decide +kernel
theorem dX7_meet_108 : decode cX7_meet 108 = .ok (.aload_n 0, 1) := by decide +kernel
theorem dX7_meet_109 : decode cX7_meet 109 = .ok (.getfield 60, 3) := by decide +kernel
theorem dX7_meet_112 : decode cX7_meet 112 = .ok (.iload_n 1, 1) := by decide +kernel
theorem dX7_meet_113 : decode cX7_meet 113 = .ok (.iconst 3, 1) := by decide +kernel
theorem dX7_meet_114 : decode cX7_meet 114 = .ok (.iadd, 1) := by decide +kernel
theorem dX7_meet_115 : decode cX7_meet 115 = .ok (.laload, 1) := by decide +kernel
theorem dX7_meet_116 : decode cX7_meet 116 = .ok (.lcmp, 1) := by decide +kernel
theorem dX7_meet_117 : decode cX7_meet 117 = .ok (.ifCond .ne 24, 3) := by decide +kernel
theorem dX7_meet_120 : decode cX7_meet 120 = .ok (.aload_n 0, 1) := by decide +kernel
theorem dX7_meet_121 : decode cX7_meet 121 = .ok (.getfield 60, 3) := by decide +kernel
theorem dX7_meet_124 : decode cX7_meet 124 = .ok (.iload_n 2, 1) := by decide +kernel
theorem dX7_meet_125 : decode cX7_meet 125 = .ok (.iconst 4, 1) := by decide +kernel
theorem dX7_meet_126 : decode cX7_meet 126 = .ok (.iadd, 1) := by decide +kernel
theorem dX7_meet_127 : decode cX7_meet 127 = .ok (.laload, 1) := by decide +kernel
theorem dX7_meet_128 : decode cX7_meet 128 = .ok (.aload_n 0, 1) := by decide +kernel
theorem dX7_meet_129 : decode cX7_meet 129 = .ok (.getfield 60, 3) := by decide +kernel
theorem dX7_meet_132 : decode cX7_meet 132 = .ok (.iload_n 1, 1) := by decide +kernel
theorem dX7_meet_133 : decode cX7_meet 133 = .ok (.iconst 4, 1) := by decide +kernel
theorem dX7_meet_134 : decode cX7_meet 134 = .ok (.iadd, 1) := by decide +kernel
theorem dX7_meet_135 : decode cX7_meet 135 = .ok (.laload, 1) := by decide +kernel
theorem dX7_meet_136 : decode cX7_meet 136 = .ok (.lcmp, 1) := by decide +kernel
theorem dX7_meet_137 : decode cX7_meet 137 = .ok (.ifCond .ne 4, 3) := by decide +kernel
theorem dX7_meet_140 : decode cX7_meet 140 = .ok (.return_, 1) := by decide +kernel
theorem dX7_meet_141 : decode cX7_meet 141 = .ok (.iinc 2 5, 3) := by decide +kernel
theorem dX7_meet_144 : decode cX7_meet 144 = .ok (.goto (-115), 3) := by decide +kernel
theorem dX7_meet_147 : decode cX7_meet 147 = .ok (.aload_n 0, 1) := by decide +kernel
theorem dX7_meet_148 : decode cX7_meet 148 = .ok (.dup, 1) := by decide +kernel
theorem dX7_meet_149 : decode cX7_meet 149 = .ok (.getfield 165, 3) := by decide +kernel
theorem dX7_meet_152 : decode cX7_meet 152 = .ok (.iconst 1, 1) := by decide +kernel
theorem dX7_meet_153 : decode cX7_meet 153 = .ok (.iadd, 1) := by decide +kernel
theorem dX7_meet_154 : decode cX7_meet 154 = .ok (.putfield 165, 3) := by decide +kernel
theorem dX7_meet_157 : decode cX7_meet 157 = .ok (.return_, 1) := by decide +kernel
theorem dX7_noteFinal_0 : decode cX7_noteFinal 0 = .ok (.aload_n 0, 1) := by decide +kernel
theorem dX7_noteFinal_1 : decode cX7_noteFinal 1 = .ok (.dup, 1) := by decide +kernel
theorem dX7_noteFinal_2 : decode cX7_noteFinal 2 = .ok (.getfield 162, 3) := by decide +kernel
theorem dX7_noteFinal_5 : decode cX7_noteFinal 5 = .ok (.iconst 1, 1) := by decide +kernel
theorem dX7_noteFinal_6 : decode cX7_noteFinal 6 = .ok (.iadd, 1) := by decide +kernel
theorem dX7_noteFinal_7 : decode cX7_noteFinal 7 = .ok (.putfield 162, 3) := by decide +kernel
theorem dX7_noteFinal_10 : decode cX7_noteFinal 10 = .ok (.lconst 0, 1) := by decide +kernel
theorem dX7_noteFinal_11 : decode cX7_noteFinal 11 = .ok (.lstore_n 1, 1) := by decide +kernel
theorem dX7_noteFinal_12 : decode cX7_noteFinal 12 = .ok (.iconst 1, 1) := by decide +kernel
theorem dX7_noteFinal_13 : decode cX7_noteFinal 13 = .ok (.istore_n 3, 1) := by decide +kernel
theorem dX7_noteFinal_14 : decode cX7_noteFinal 14 = .ok (.iconst 0, 1) := by decide +kernel
theorem dX7_noteFinal_15 : decode cX7_noteFinal 15 = .ok (.istore 4, 2) := by decide +kernel
theorem dX7_noteFinal_17 : decode cX7_noteFinal 17 = .ok (.iload 4, 2) := by decide +kernel
theorem dX7_noteFinal_19 : decode cX7_noteFinal 19 = .ok (.iconst 4, 1) := by decide +kernel
theorem dX7_noteFinal_20 : decode cX7_noteFinal 20 = .ok (.if_icmp .ge 114, 3) := by decide +kernel
theorem dX7_noteFinal_23 : decode cX7_noteFinal 23 = .ok (.lconst 1, 1) := by decide +kernel
theorem dX7_noteFinal_24 : decode cX7_noteFinal 24 = .ok (.lstore 5, 2) := by decide +kernel
theorem dX7_noteFinal_26 : decode cX7_noteFinal 26 = .ok (.iconst 0, 1) := by decide +kernel
theorem dX7_noteFinal_27 : decode cX7_noteFinal 27 = .ok (.istore 7, 2) := by decide +kernel
theorem dX7_noteFinal_29 : decode cX7_noteFinal 29 = .ok (.iload 7, 2) := by decide +kernel
theorem dX7_noteFinal_31 : decode cX7_noteFinal 31 = .ok (.aload_n 0, 1) := by decide +kernel
theorem dX7_noteFinal_32 : decode cX7_noteFinal 32 = .ok (.getfield 28, 3) := by decide +kernel
theorem dX7_noteFinal_35 : decode cX7_noteFinal 35 = .ok (.iload 4, 2) := by decide +kernel
theorem dX7_noteFinal_37 : decode cX7_noteFinal 37 = .ok (.iaload, 1) := by decide +kernel
theorem dX7_noteFinal_38 : decode cX7_noteFinal 38 = .ok (.if_icmp .ge 17, 3) := by decide +kernel
theorem dX7_noteFinal_41 : decode cX7_noteFinal 41 = .ok (.lload 5, 2) := by decide +kernel
theorem dX7_noteFinal_43 : decode cX7_noteFinal 43 = .ok (.ldc2_w 109, 3) := by decide +kernel
theorem dX7_noteFinal_46 : decode cX7_noteFinal 46 = .ok (.lmul, 1) := by decide +kernel
theorem dX7_noteFinal_47 : decode cX7_noteFinal 47 = .ok (.lstore 5, 2) := by decide +kernel
theorem dX7_noteFinal_49 : decode cX7_noteFinal 49 = .ok (.iinc 7 1, 3) := by decide +kernel
theorem dX7_noteFinal_52 : decode cX7_noteFinal 52 = .ok (.goto (-23), 3) := by decide +kernel
theorem dX7_noteFinal_55 : decode cX7_noteFinal 55 = .ok (.aload_n 0, 1) := by decide +kernel
theorem dX7_noteFinal_56 : decode cX7_noteFinal 56 = .ok (.getfield 22, 3) := by decide +kernel
theorem dX7_noteFinal_59 : decode cX7_noteFinal 59 = .ok (.iload 4, 2) := by decide +kernel
theorem dX7_noteFinal_61 : decode cX7_noteFinal 61 = .ok (.iaload, 1) := by decide +kernel
theorem dX7_noteFinal_62 : decode cX7_noteFinal 62 = .ok (.iconst 4, 1) := by decide +kernel
theorem dX7_noteFinal_63 : decode cX7_noteFinal 63 = .ok (.if_icmp .ne 7, 3) := by decide +kernel
theorem dX7_noteFinal_66 : decode cX7_noteFinal 66 = .ok (.iconst 1, 1) := by decide +kernel
theorem dX7_noteFinal_67 : decode cX7_noteFinal 67 = .ok (.goto 4, 3) := by decide +kernel
theorem dX7_noteFinal_70 : decode cX7_noteFinal 70 = .ok (.iconst 0, 1) := by decide +kernel
theorem dX7_noteFinal_71 : decode cX7_noteFinal 71 = .ok (.istore 7, 2) := by decide +kernel
theorem dX7_noteFinal_73 : decode cX7_noteFinal 73 = .ok (.iload 7, 2) := by decide +kernel
theorem dX7_noteFinal_75 : decode cX7_noteFinal 75 = .ok (.ifCond .ne 5, 3) := by decide +kernel
theorem dX7_noteFinal_78 : decode cX7_noteFinal 78 = .ok (.iconst 0, 1) := by decide +kernel
theorem dX7_noteFinal_79 : decode cX7_noteFinal 79 = .ok (.istore_n 3, 1) := by decide +kernel
theorem dX7_noteFinal_80 : decode cX7_noteFinal 80 = .ok (.iload 7, 2) := by decide +kernel
theorem dX7_noteFinal_82 : decode cX7_noteFinal 82 = .ok (.ifCond .ne 11, 3) := by decide +kernel
theorem dX7_noteFinal_85 : decode cX7_noteFinal 85 = .ok (.aload_n 0, 1) := by decide +kernel
theorem dX7_noteFinal_86 : decode cX7_noteFinal 86 = .ok (.getfield 66, 3) := by decide +kernel
theorem dX7_noteFinal_89 : decode cX7_noteFinal 89 = .ok (.iload 4, 2) := by decide +kernel
theorem dX7_noteFinal_91 : decode cX7_noteFinal 91 = .ok (.iconst 1, 1) := by decide +kernel
theorem dX7_noteFinal_92 : decode cX7_noteFinal 92 = .ok (.bastore, 1) := by decide +kernel
theorem dX7_noteFinal_93 : decode cX7_noteFinal 93 = .ok (.lload_n 1, 1) := by decide +kernel
theorem dX7_noteFinal_94 : decode cX7_noteFinal 94 = .ok (.ldc2_w 187, 3) := by decide +kernel
theorem dX7_noteFinal_97 : decode cX7_noteFinal 97 = .ok (.lmul, 1) := by decide +kernel
theorem dX7_noteFinal_98 : decode cX7_noteFinal 98 = .ok (.lload 5, 2) := by decide +kernel
theorem dX7_noteFinal_100 : decode cX7_noteFinal 100 = .ok (.aload_n 0, 1) := by decide +kernel
theorem dX7_noteFinal_101 : decode cX7_noteFinal 101 = .ok (.getfield 31, 3) := by decide +kernel
theorem dX7_noteFinal_104 : decode cX7_noteFinal 104 = .ok (.iload 4, 2) := by decide +kernel
theorem dX7_noteFinal_106 : decode cX7_noteFinal 106 = .ok (.laload, 1) := by decide +kernel
theorem dX7_noteFinal_107 : decode cX7_noteFinal 107 = .ok (.ladd, 1) := by decide +kernel
theorem dX7_noteFinal_108 : decode cX7_noteFinal 108 = .ok (.ldc2_w 109, 3) := by decide +kernel
theorem dX7_noteFinal_111 : decode cX7_noteFinal 111 = .ok (.lmul, 1) := by decide +kernel
theorem dX7_noteFinal_112 : decode cX7_noteFinal 112 = .ok (.ladd, 1) := by decide +kernel
theorem dX7_noteFinal_113 : decode cX7_noteFinal 113 = .ok (.iload 7, 2) := by decide +kernel
theorem dX7_noteFinal_115 : decode cX7_noteFinal 115 = .ok (.ifCond .eq 8, 3) := by decide +kernel
theorem dX7_noteFinal_118 : decode cX7_noteFinal 118 = .ok (.bipush 6, 2) := by decide +kernel
theorem dX7_noteFinal_120 : decode cX7_noteFinal 120 = .ok (.goto 5, 3) := by decide +kernel
theorem dX7_noteFinal_123 : decode cX7_noteFinal 123 = .ok (.bipush 7, 2) := by decide +kernel
theorem dX7_noteFinal_125 : decode cX7_noteFinal 125 = .ok (.i2l, 1) := by decide +kernel
theorem dX7_noteFinal_126 : decode cX7_noteFinal 126 = .ok (.ladd, 1) := by decide +kernel
theorem dX7_noteFinal_127 : decode cX7_noteFinal 127 = .ok (.lstore_n 1, 1) := by decide +kernel
theorem dX7_noteFinal_128 : decode cX7_noteFinal 128 = .ok (.iinc 4 1, 3) := by decide +kernel
theorem dX7_noteFinal_131 : decode cX7_noteFinal 131 = .ok (.goto (-114), 3) := by decide +kernel
theorem dX7_noteFinal_134 : decode cX7_noteFinal 134 = .ok (.iload_n 3, 1) := by decide +kernel
theorem dX7_noteFinal_135 : decode cX7_noteFinal 135 = .ok (.ifCond .eq 13, 3) := by decide +kernel
theorem dX7_noteFinal_138 : decode cX7_noteFinal 138 = .ok (.aload_n 0, 1) := by decide +kernel
theorem dX7_noteFinal_139 : decode cX7_noteFinal 139 = .ok (.dup, 1) := by decide +kernel
theorem dX7_noteFinal_140 : decode cX7_noteFinal 140 = .ok (.getfield 159, 3) := by decide +kernel
theorem dX7_noteFinal_143 : decode cX7_noteFinal 143 = .ok (.iconst 1, 1) := by decide +kernel
theorem dX7_noteFinal_144 : decode cX7_noteFinal 144 = .ok (.iadd, 1) := by decide +kernel
theorem dX7_noteFinal_145 : decode cX7_noteFinal 145 = .ok (.putfield 159, 3) := by decide +kernel
theorem dX7_noteFinal_148 : decode cX7_noteFinal 148 = .ok (.iconst 0, 1) := by decide +kernel
theorem dX7_noteFinal_149 : decode cX7_noteFinal 149 = .ok (.istore 4, 2) := by decide +kernel
theorem dX7_noteFinal_151 : decode cX7_noteFinal 151 = .ok (.iload 4, 2) := by decide +kernel
theorem dX7_noteFinal_153 : decode cX7_noteFinal 153 = .ok (.aload_n 0, 1) := by decide +kernel
theorem dX7_noteFinal_154 : decode cX7_noteFinal 154 = .ok (.getfield 152, 3) := by decide +kernel
theorem dX7_noteFinal_157 : decode cX7_noteFinal 157 = .ok (.if_icmp .ge 21, 3) := by decide +kernel
theorem dX7_noteFinal_160 : decode cX7_noteFinal 160 = .ok (.aload_n 0, 1) := by decide +kernel
theorem dX7_noteFinal_161 : decode cX7_noteFinal 161 = .ok (.getfield 63, 3) := by decide +kernel
theorem dX7_noteFinal_164 : decode cX7_noteFinal 164 = .ok (.iload 4, 2) := by decide +kernel
theorem dX7_noteFinal_166 : decode cX7_noteFinal 166 = .ok (.laload, 1) := by decide +kernel
theorem dX7_noteFinal_167 : decode cX7_noteFinal 167 = .ok (.lload_n 1, 1) := by decide +kernel
theorem dX7_noteFinal_168 : decode cX7_noteFinal 168 = .ok (.lcmp, 1) := by decide +kernel
theorem dX7_noteFinal_169 : decode cX7_noteFinal 169 = .ok (.ifCond .ge 9, 3) := by decide +kernel
theorem dX7_noteFinal_172 : decode cX7_noteFinal 172 = .ok (.iinc 4 1, 3) := by decide +kernel
theorem dX7_noteFinal_175 : decode cX7_noteFinal 175 = .ok (.goto (-24), 3) := by decide +kernel
theorem dX7_noteFinal_178 : decode cX7_noteFinal 178 = .ok (.iload 4, 2) := by decide +kernel
theorem dX7_noteFinal_180 : decode cX7_noteFinal 180 = .ok (.aload_n 0, 1) := by decide +kernel
theorem dX7_noteFinal_181 : decode cX7_noteFinal 181 = .ok (.getfield 152, 3) := by decide +kernel
theorem dX7_noteFinal_184 : decode cX7_noteFinal 184 = .ok (.if_icmp .ge 16, 3) := by decide +kernel
theorem dX7_noteFinal_187 : decode cX7_noteFinal 187 = .ok (.aload_n 0, 1) := by decide +kernel
theorem dX7_noteFinal_188 : decode cX7_noteFinal 188 = .ok (.getfield 63, 3) := by decide +kernel
theorem dX7_noteFinal_191 : decode cX7_noteFinal 191 = .ok (.iload 4, 2) := by decide +kernel
theorem dX7_noteFinal_193 : decode cX7_noteFinal 193 = .ok (.laload, 1) := by decide +kernel
theorem dX7_noteFinal_194 : decode cX7_noteFinal 194 = .ok (.lload_n 1, 1) := by decide +kernel
theorem dX7_noteFinal_195 : decode cX7_noteFinal 195 = .ok (.lcmp, 1) := by decide +kernel
theorem dX7_noteFinal_196 : decode cX7_noteFinal 196 = .ok (.ifCond .ne 4, 3) := by decide +kernel
theorem dX7_noteFinal_199 : decode cX7_noteFinal 199 = .ok (.return_, 1) := by decide +kernel
theorem dX7_noteFinal_200 : decode cX7_noteFinal 200 = .ok (.aload_n 0, 1) := by decide +kernel
theorem dX7_noteFinal_201 : decode cX7_noteFinal 201 = .ok (.getfield 152, 3) := by decide +kernel
theorem dX7_noteFinal_204 : decode cX7_noteFinal 204 = .ok (.istore 5, 2) := by decide +kernel
theorem dX7_noteFinal_206 : decode cX7_noteFinal 206 = .ok (.iload 5, 2) := by decide +kernel
theorem dX7_noteFinal_208 : decode cX7_noteFinal 208 = .ok (.iload 4, 2) := by decide +kernel
theorem dX7_noteFinal_210 : decode cX7_noteFinal 210 = .ok (.if_icmp .le 25, 3) := by decide +kernel
theorem dX7_noteFinal_213 : decode cX7_noteFinal 213 = .ok (.aload_n 0, 1) := by decide +kernel
theorem dX7_noteFinal_214 : decode cX7_noteFinal 214 = .ok (.getfield 63, 3) := by decide +kernel
theorem dX7_noteFinal_217 : decode cX7_noteFinal 217 = .ok (.iload 5, 2) := by decide +kernel
theorem dX7_noteFinal_219 : decode cX7_noteFinal 219 = .ok (.aload_n 0, 1) := by decide +kernel
theorem dX7_noteFinal_220 : decode cX7_noteFinal 220 = .ok (.getfield 63, 3) := by decide +kernel
theorem dX7_noteFinal_223 : decode cX7_noteFinal 223 = .ok (.iload 5, 2) := by decide +kernel
theorem dX7_noteFinal_225 : decode cX7_noteFinal 225 = .ok (.iconst 1, 1) := by decide +kernel
theorem dX7_noteFinal_226 : decode cX7_noteFinal 226 = .ok (.isub, 1) := by decide +kernel
theorem dX7_noteFinal_227 : decode cX7_noteFinal 227 = .ok (.laload, 1) := by decide +kernel
theorem dX7_noteFinal_228 : decode cX7_noteFinal 228 = .ok (.lastore, 1) := by decide +kernel
theorem dX7_noteFinal_229 : decode cX7_noteFinal 229 = .ok (.iinc 5 (-1), 3) := by decide +kernel
theorem dX7_noteFinal_232 : decode cX7_noteFinal 232 = .ok (.goto (-26), 3) := by decide +kernel
theorem dX7_noteFinal_235 : decode cX7_noteFinal 235 = .ok (.aload_n 0, 1) := by decide +kernel
theorem dX7_noteFinal_236 : decode cX7_noteFinal 236 = .ok (.getfield 63, 3) := by decide +kernel
theorem dX7_noteFinal_239 : decode cX7_noteFinal 239 = .ok (.iload 4, 2) := by decide +kernel
theorem dX7_noteFinal_241 : decode cX7_noteFinal 241 = .ok (.lload_n 1, 1) := by decide +kernel
theorem dX7_noteFinal_242 : decode cX7_noteFinal 242 = .ok (.lastore, 1) := by decide +kernel
theorem dX7_noteFinal_243 : decode cX7_noteFinal 243 = .ok (.aload_n 0, 1) := by decide +kernel
theorem dX7_noteFinal_244 : decode cX7_noteFinal 244 = .ok (.dup, 1) := by decide +kernel
theorem dX7_noteFinal_245 : decode cX7_noteFinal 245 = .ok (.getfield 152, 3) := by decide +kernel
theorem dX7_noteFinal_248 : decode cX7_noteFinal 248 = .ok (.iconst 1, 1) := by decide +kernel
theorem dX7_noteFinal_249 : decode cX7_noteFinal 249 = .ok (.iadd, 1) := by decide +kernel
theorem dX7_noteFinal_250 : decode cX7_noteFinal 250 = .ok (.putfield 152, 3) := by decide +kernel
theorem dX7_noteFinal_253 : decode cX7_noteFinal 253 = .ok (.return_, 1) := by decide +kernel
theorem dX7_goOn_0 : decode cX7_goOn 0 = .ok (.iconst 0, 1) := by decide +kernel
theorem dX7_goOn_1 : decode cX7_goOn 1 = .ok (.istore_n 2, 1) := by decide +kernel
theorem dX7_goOn_2 : decode cX7_goOn 2 = .ok (.iconst 0, 1) := by decide +kernel
theorem dX7_goOn_3 : decode cX7_goOn 3 = .ok (.istore_n 3, 1) := by decide +kernel
theorem dX7_goOn_4 : decode cX7_goOn 4 = .ok (.iload_n 3, 1) := by decide +kernel
theorem dX7_goOn_5 : decode cX7_goOn 5 = .ok (.bipush 16, 2) := by decide +kernel
theorem dX7_goOn_7 : decode cX7_goOn 7 = .ok (.if_icmp .ge 53, 3) := by decide +kernel
theorem dX7_goOn_10 : decode cX7_goOn 10 = .ok (.aload_n 0, 1) := by decide +kernel
theorem dX7_goOn_11 : decode cX7_goOn 11 = .ok (.aload_n 0, 1) := by decide +kernel
theorem dX7_goOn_12 : decode cX7_goOn 12 = .ok (.getfield 60, 3) := by decide +kernel
theorem dX7_goOn_15 : decode cX7_goOn 15 = .ok (.iconst 5, 1) := by decide +kernel
theorem dX7_goOn_16 : decode cX7_goOn 16 = .ok (.iload_n 1, 1) := by decide +kernel
theorem dX7_goOn_17 : decode cX7_goOn 17 = .ok (.imul, 1) := by decide +kernel
theorem dX7_goOn_18 : decode cX7_goOn 18 = .ok (.invokevirtual 168, 3) := by decide +kernel
theorem dX7_goOn_21 : decode cX7_goOn 21 = .ok (.aload_n 0, 1) := by decide +kernel
theorem dX7_goOn_22 : decode cX7_goOn 22 = .ok (.iload_n 3, 1) := by decide +kernel
theorem dX7_goOn_23 : decode cX7_goOn 23 = .ok (.iconst 4, 1) := by decide +kernel
theorem dX7_goOn_24 : decode cX7_goOn 24 = .ok (.idiv, 1) := by decide +kernel
theorem dX7_goOn_25 : decode cX7_goOn 25 = .ok (.iload_n 3, 1) := by decide +kernel
theorem dX7_goOn_26 : decode cX7_goOn 26 = .ok (.iconst 4, 1) := by decide +kernel
theorem dX7_goOn_27 : decode cX7_goOn 27 = .ok (.irem, 1) := by decide +kernel
theorem dX7_goOn_28 : decode cX7_goOn 28 = .ok (.invokevirtual 172, 3) := by decide +kernel
theorem dX7_goOn_31 : decode cX7_goOn 31 = .ok (.ifCond .ne 6, 3) := by decide +kernel
theorem dX7_goOn_34 : decode cX7_goOn 34 = .ok (.goto 20, 3) := by decide +kernel
theorem dX7_goOn_37 : decode cX7_goOn 37 = .ok (.iinc 2 1, 3) := by decide +kernel
theorem dX7_goOn_40 : decode cX7_goOn 40 = .ok (.aload_n 0, 1) := by decide +kernel
theorem dX7_goOn_41 : decode cX7_goOn 41 = .ok (.iload_n 3, 1) := by decide +kernel
theorem dX7_goOn_42 : decode cX7_goOn 42 = .ok (.iconst 4, 1) := by decide +kernel
theorem dX7_goOn_43 : decode cX7_goOn 43 = .ok (.idiv, 1) := by decide +kernel
theorem dX7_goOn_44 : decode cX7_goOn 44 = .ok (.iload_n 3, 1) := by decide +kernel
theorem dX7_goOn_45 : decode cX7_goOn 45 = .ok (.iconst 4, 1) := by decide +kernel
theorem dX7_goOn_46 : decode cX7_goOn 46 = .ok (.irem, 1) := by decide +kernel
theorem dX7_goOn_47 : decode cX7_goOn 47 = .ok (.invokevirtual 175, 3) := by decide +kernel
theorem dX7_goOn_50 : decode cX7_goOn 50 = .ok (.aload_n 0, 1) := by decide +kernel
theorem dX7_goOn_51 : decode cX7_goOn 51 = .ok (.invokevirtual 189, 3) := by decide +kernel
theorem dX7_goOn_54 : decode cX7_goOn 54 = .ok (.iinc 3 1, 3) := by decide +kernel
theorem dX7_goOn_57 : decode cX7_goOn 57 = .ok (.goto (-53), 3) := by decide +kernel
theorem dX7_goOn_60 : decode cX7_goOn 60 = .ok (.aload_n 0, 1) := by decide +kernel
theorem dX7_goOn_61 : decode cX7_goOn 61 = .ok (.aload_n 0, 1) := by decide +kernel
theorem dX7_goOn_62 : decode cX7_goOn 62 = .ok (.getfield 60, 3) := by decide +kernel
theorem dX7_goOn_65 : decode cX7_goOn 65 = .ok (.iconst 5, 1) := by decide +kernel
theorem dX7_goOn_66 : decode cX7_goOn 66 = .ok (.iload_n 1, 1) := by decide +kernel
theorem dX7_goOn_67 : decode cX7_goOn 67 = .ok (.imul, 1) := by decide +kernel
theorem dX7_goOn_68 : decode cX7_goOn 68 = .ok (.invokevirtual 168, 3) := by decide +kernel
theorem dX7_goOn_71 : decode cX7_goOn 71 = .ok (.iload_n 2, 1) := by decide +kernel
theorem dX7_goOn_72 : decode cX7_goOn 72 = .ok (.ifCond .ne 7, 3) := by decide +kernel
theorem dX7_goOn_75 : decode cX7_goOn 75 = .ok (.aload_n 0, 1) := by decide +kernel
theorem dX7_goOn_76 : decode cX7_goOn 76 = .ok (.invokevirtual 192, 3) := by decide +kernel
theorem dX7_goOn_79 : decode cX7_goOn 79 = .ok (.iload_n 2, 1) := by decide +kernel
theorem dX7_goOn_80 : decode cX7_goOn 80 = .ok (.aload_n 0, 1) := by decide +kernel
theorem dX7_goOn_81 : decode cX7_goOn 81 = .ok (.getfield 156, 3) := by decide +kernel
theorem dX7_goOn_84 : decode cX7_goOn 84 = .ok (.if_icmp .le 8, 3) := by decide +kernel
theorem dX7_goOn_87 : decode cX7_goOn 87 = .ok (.aload_n 0, 1) := by decide +kernel
theorem dX7_goOn_88 : decode cX7_goOn 88 = .ok (.iload_n 2, 1) := by decide +kernel
theorem dX7_goOn_89 : decode cX7_goOn 89 = .ok (.putfield 156, 3) := by decide +kernel
theorem dX7_goOn_92 : decode cX7_goOn 92 = .ok (.return_, 1) := by decide +kernel
theorem dX7_explore_0 : decode cX7_explore 0 = .ok (.aload_n 0, 1) := by decide +kernel
theorem dX7_explore_1 : decode cX7_explore 1 = .ok (.invokevirtual 149, 3) := by decide +kernel
theorem dX7_explore_4 : decode cX7_explore 4 = .ok (.aload_n 0, 1) := by decide +kernel
theorem dX7_explore_5 : decode cX7_explore 5 = .ok (.invokevirtual 184, 3) := by decide +kernel
theorem dX7_explore_8 : decode cX7_explore 8 = .ok (.aload_n 0, 1) := by decide +kernel
theorem dX7_explore_9 : decode cX7_explore 9 = .ok (.invokevirtual 189, 3) := by decide +kernel
theorem dX7_explore_12 : decode cX7_explore 12 = .ok (.iconst 0, 1) := by decide +kernel
theorem dX7_explore_13 : decode cX7_explore 13 = .ok (.istore_n 1, 1) := by decide +kernel
theorem dX7_explore_14 : decode cX7_explore 14 = .ok (.iload_n 1, 1) := by decide +kernel
theorem dX7_explore_15 : decode cX7_explore 15 = .ok (.aload_n 0, 1) := by decide +kernel
theorem dX7_explore_16 : decode cX7_explore 16 = .ok (.getfield 165, 3) := by decide +kernel
theorem dX7_explore_19 : decode cX7_explore 19 = .ok (.if_icmp .ge 24, 3) := by decide +kernel
theorem dX7_explore_22 : decode cX7_explore 22 = .ok (.aload_n 0, 1) := by decide +kernel
theorem dX7_explore_23 : decode cX7_explore 23 = .ok (.getfield 165, 3) := by decide +kernel
theorem dX7_explore_26 : decode cX7_explore 26 = .ok (.sipush 3000, 3) := by decide +kernel
theorem dX7_explore_29 : decode cX7_explore 29 = .ok (.if_icmp .gt 14, 3) := by decide +kernel
theorem dX7_explore_32 : decode cX7_explore 32 = .ok (.aload_n 0, 1) := by decide +kernel
theorem dX7_explore_33 : decode cX7_explore 33 = .ok (.iload_n 1, 1) := by decide +kernel
theorem dX7_explore_34 : decode cX7_explore 34 = .ok (.invokevirtual 195, 3) := by decide +kernel
theorem dX7_explore_37 : decode cX7_explore 37 = .ok (.iinc 1 1, 3) := by decide +kernel
theorem dX7_explore_40 : decode cX7_explore 40 = .ok (.goto (-26), 3) := by decide +kernel
theorem dX7_explore_43 : decode cX7_explore 43 = .ok (.aload_n 0, 1) := by decide +kernel
theorem dX7_explore_44 : decode cX7_explore 44 = .ok (.getfield 165, 3) := by decide +kernel
theorem dX7_explore_47 : decode cX7_explore 47 = .ok (.sipush 3000, 3) := by decide +kernel
theorem dX7_explore_50 : decode cX7_explore 50 = .ok (.if_icmp .gt 8, 3) := by decide +kernel
theorem dX7_explore_53 : decode cX7_explore 53 = .ok (.aload_n 0, 1) := by decide +kernel
theorem dX7_explore_54 : decode cX7_explore 54 = .ok (.getfield 152, 3) := by decide +kernel
theorem dX7_explore_57 : decode cX7_explore 57 = .ok (.ireturn, 1) := by decide +kernel
theorem dX7_explore_58 : decode cX7_explore 58 = .ok (.aload_n 0, 1) := by decide +kernel
theorem dX7_explore_59 : decode cX7_explore 59 = .ok (.invokevirtual 149, 3) := by decide +kernel
theorem dX7_explore_62 : decode cX7_explore 62 = .ok (.bipush (-2), 2) := by decide +kernel
theorem dX7_explore_64 : decode cX7_explore 64 = .ok (.ireturn, 1) := by decide +kernel
theorem dX7_outcome_0 : decode cX7_outcome 0 = .ok (.iload_n 1, 1) := by decide +kernel
theorem dX7_outcome_1 : decode cX7_outcome 1 = .ok (.aload_n 0, 1) := by decide +kernel
theorem dX7_outcome_2 : decode cX7_outcome 2 = .ok (.getfield 152, 3) := by decide +kernel
theorem dX7_outcome_5 : decode cX7_outcome 5 = .ok (.invokestatic 146, 3) := by decide +kernel
theorem dX7_outcome_8 : decode cX7_outcome 8 = .ok (.ifCond .eq 9, 3) := by decide +kernel
theorem dX7_outcome_11 : decode cX7_outcome 11 = .ok (.ldc2_w 198, 3) := by decide +kernel
theorem dX7_outcome_14 : decode cX7_outcome 14 = .ok (.goto 9, 3) := by decide +kernel
theorem dX7_outcome_17 : decode cX7_outcome 17 = .ok (.aload_n 0, 1) := by decide +kernel
theorem dX7_outcome_18 : decode cX7_outcome 18 = .ok (.getfield 63, 3) := by decide +kernel
theorem dX7_outcome_21 : decode cX7_outcome 21 = .ok (.iload_n 1, 1) := by decide +kernel
theorem dX7_outcome_22 : decode cX7_outcome 22 = .ok (.laload, 1) := by decide +kernel
theorem dX7_outcome_23 : decode cX7_outcome 23 = .ok (.lreturn, 1) := by decide +kernel
theorem dX7_mayBlock_0 : decode cX7_mayBlock 0 = .ok (.iload_n 1, 1) := by decide +kernel
theorem dX7_mayBlock_1 : decode cX7_mayBlock 1 = .ok (.iconst 4, 1) := by decide +kernel
theorem dX7_mayBlock_2 : decode cX7_mayBlock 2 = .ok (.invokestatic 146, 3) := by decide +kernel
theorem dX7_mayBlock_5 : decode cX7_mayBlock 5 = .ok (.ifCond .ne 16, 3) := by decide +kernel
theorem dX7_mayBlock_8 : decode cX7_mayBlock 8 = .ok (.aload_n 0, 1) := by decide +kernel
theorem dX7_mayBlock_9 : decode cX7_mayBlock 9 = .ok (.getfield 66, 3) := by decide +kernel
theorem dX7_mayBlock_12 : decode cX7_mayBlock 12 = .ok (.iload_n 1, 1) := by decide +kernel
theorem dX7_mayBlock_13 : decode cX7_mayBlock 13 = .ok (.baload, 1) := by decide +kernel
theorem dX7_mayBlock_14 : decode cX7_mayBlock 14 = .ok (.ifCond .eq 7, 3) := by decide +kernel
theorem dX7_mayBlock_17 : decode cX7_mayBlock 17 = .ok (.iconst 1, 1) := by decide +kernel
theorem dX7_mayBlock_18 : decode cX7_mayBlock 18 = .ok (.goto 4, 3) := by decide +kernel
theorem dX7_mayBlock_21 : decode cX7_mayBlock 21 = .ok (.iconst 0, 1) := by decide +kernel
theorem dX7_mayBlock_22 : decode cX7_mayBlock 22 = .ok (.ireturn, 1) := by decide +kernel
theorem dX7_count_0 : decode cX7_count 0 = .ok (.iload_n 1, 1) := by decide +kernel
theorem dX7_count_1 : decode cX7_count 1 = .ok (.ifCond .ne 10, 3) := by decide +kernel
theorem dX7_count_4 : decode cX7_count 4 = .ok (.aload_n 0, 1) := by decide +kernel
theorem dX7_count_5 : decode cX7_count 5 = .ok (.getfield 181, 3) := by decide +kernel
theorem dX7_count_8 : decode cX7_count 8 = .ok (.goto 52, 3) := by decide +kernel
theorem dX7_count_11 : decode cX7_count 11 = .ok (.iload_n 1, 1) := by decide +kernel
theorem dX7_count_12 : decode cX7_count 12 = .ok (.iconst 1, 1) := by decide +kernel
theorem dX7_count_13 : decode cX7_count 13 = .ok (.if_icmp .ne 10, 3) := by decide +kernel
theorem dX7_count_16 : decode cX7_count 16 = .ok (.aload_n 0, 1) := by decide +kernel
theorem dX7_count_17 : decode cX7_count 17 = .ok (.getfield 165, 3) := by decide +kernel
theorem dX7_count_20 : decode cX7_count 20 = .ok (.goto 40, 3) := by decide +kernel
theorem dX7_count_23 : decode cX7_count 23 = .ok (.iload_n 1, 1) := by decide +kernel
theorem dX7_count_24 : decode cX7_count 24 = .ok (.iconst 2, 1) := by decide +kernel
theorem dX7_count_25 : decode cX7_count 25 = .ok (.if_icmp .ne 10, 3) := by decide +kernel
theorem dX7_count_28 : decode cX7_count 28 = .ok (.aload_n 0, 1) := by decide +kernel
theorem dX7_count_29 : decode cX7_count 29 = .ok (.getfield 162, 3) := by decide +kernel
theorem dX7_count_32 : decode cX7_count 32 = .ok (.goto 28, 3) := by decide +kernel
theorem dX7_count_35 : decode cX7_count 35 = .ok (.iload_n 1, 1) := by decide +kernel
theorem dX7_count_36 : decode cX7_count 36 = .ok (.iconst 3, 1) := by decide +kernel
theorem dX7_count_37 : decode cX7_count 37 = .ok (.if_icmp .ne 10, 3) := by decide +kernel
theorem dX7_count_40 : decode cX7_count 40 = .ok (.aload_n 0, 1) := by decide +kernel
theorem dX7_count_41 : decode cX7_count 41 = .ok (.getfield 159, 3) := by decide +kernel
theorem dX7_count_44 : decode cX7_count 44 = .ok (.goto 16, 3) := by decide +kernel
theorem dX7_count_47 : decode cX7_count 47 = .ok (.iload_n 1, 1) := by decide +kernel
theorem dX7_count_48 : decode cX7_count 48 = .ok (.iconst 4, 1) := by decide +kernel
theorem dX7_count_49 : decode cX7_count 49 = .ok (.if_icmp .ne 10, 3) := by decide +kernel
theorem dX7_count_52 : decode cX7_count 52 = .ok (.aload_n 0, 1) := by decide +kernel
theorem dX7_count_53 : decode cX7_count 53 = .ok (.getfield 156, 3) := by decide +kernel
theorem dX7_count_56 : decode cX7_count 56 = .ok (.goto 4, 3) := by decide +kernel
theorem dX7_count_59 : decode cX7_count 59 = .ok (.iconst (-1), 1) := by decide +kernel
theorem dX7_count_60 : decode cX7_count 60 = .ok (.ireturn, 1) := by decide +kernel
end
section
theorem dL_cell_0 : decode cL_cell 0 = .ok (.iload_n 1, 1) := by decide +kernel
theorem dL_cell_1 : decode cL_cell 1 = .ok (.aload_n 0, 1) := by decide +kernel
theorem dL_cell_2 : decode cL_cell 2 = .ok (.arraylength, 1) := by decide +kernel
theorem dL_cell_3 : decode cL_cell 3 = .ok (.if_icmp .ge 9, 3) := by decide +kernel
theorem dL_cell_6 : decode cL_cell 6 = .ok (.aload_n 0, 1) := by decide +kernel
theorem dL_cell_7 : decode cL_cell 7 = .ok (.iload_n 1, 1) := by decide +kernel
theorem dL_cell_8 : decode cL_cell 8 = .ok (.iaload, 1) := by decide +kernel
theorem dL_cell_9 : decode cL_cell 9 = .ok (.goto 4, 3) := by decide +kernel
theorem dL_cell_12 : decode cL_cell 12 = .ok (.iconst 0, 1) := by decide +kernel
theorem dL_cell_13 : decode cL_cell 13 = .ok (.ireturn, 1) := by decide +kernel
theorem dL_law_0 : decode cL_law 0 = .ok (.new 7, 3) := by decide +kernel
theorem dL_law_3 : decode cL_law 3 = .ok (.dup, 1) := by decide +kernel
theorem dL_law_4 : decode cL_law 4 = .ok (.aload_n 0, 1) := by decide +kernel
theorem dL_law_5 : decode cL_law 5 = .ok (.iconst 0, 1) := by decide +kernel
theorem dL_law_6 : decode cL_law 6 = .ok (.invokestatic 9, 3) := by decide +kernel
theorem dL_law_9 : decode cL_law 9 = .ok (.invokespecial 15, 3) := by decide +kernel
theorem dL_law_12 : decode cL_law 12 = .ok (.astore_n 1, 1) := by decide +kernel
theorem dL_law_13 : decode cL_law 13 = .ok (.new 18, 3) := by decide +kernel
theorem dL_law_16 : decode cL_law 16 = .ok (.dup, 1) := by decide +kernel
theorem dL_law_17 : decode cL_law 17 = .ok (.aload_n 0, 1) := by decide +kernel
theorem dL_law_18 : decode cL_law 18 = .ok (.iconst 0, 1) := by decide +kernel
theorem dL_law_19 : decode cL_law 19 = .ok (.invokestatic 9, 3) := by decide +kernel
theorem dL_law_22 : decode cL_law 22 = .ok (.invokespecial 20, 3) := by decide +kernel
theorem dL_law_25 : decode cL_law 25 = .ok (.astore_n 2, 1) := by decide +kernel
theorem dL_law_26 : decode cL_law 26 = .ok (.iconst 1, 1) := by decide +kernel
theorem dL_law_27 : decode cL_law 27 = .ok (.istore_n 3, 1) := by decide +kernel
theorem dL_law_28 : decode cL_law 28 = .ok (.iload_n 3, 1) := by decide +kernel
theorem dL_law_29 : decode cL_law 29 = .ok (.aload_n 0, 1) := by decide +kernel
theorem dL_law_30 : decode cL_law 30 = .ok (.arraylength, 1) := by decide +kernel
theorem dL_law_31 : decode cL_law 31 = .ok (.iconst 4, 1) := by decide +kernel
theorem dL_law_32 : decode cL_law 32 = .ok (.isub, 1) := by decide +kernel
theorem dL_law_33 : decode cL_law 33 = .ok (.if_icmp .gt 421, 3) := by decide +kernel
theorem dL_law_36 : decode cL_law 36 = .ok (.aload_n 0, 1) := by decide +kernel
theorem dL_law_37 : decode cL_law 37 = .ok (.iload_n 3, 1) := by decide +kernel
theorem dL_law_38 : decode cL_law 38 = .ok (.iaload, 1) := by decide +kernel
theorem dL_law_39 : decode cL_law 39 = .ok (.bipush 15, 2) := by decide +kernel
theorem dL_law_41 : decode cL_law 41 = .ok (.iand, 1) := by decide +kernel
theorem dL_law_42 : decode cL_law 42 = .ok (.tableswitch 406 0 12 #[66, 109, 142, 175, 188, 211, 244, 267, 290, 323, 336, 360, 383], 66) := by decide +kernel
theorem dL_law_108 : decode cL_law 108 = .ok (.aload_n 1, 1) := by decide +kernel
theorem dL_law_109 : decode cL_law 109 = .ok (.aload_n 0, 1) := by decide +kernel
theorem dL_law_110 : decode cL_law 110 = .ok (.iload_n 3, 1) := by decide +kernel
theorem dL_law_111 : decode cL_law 111 = .ok (.iconst 1, 1) := by decide +kernel
theorem dL_law_112 : decode cL_law 112 = .ok (.iadd, 1) := by decide +kernel
theorem dL_law_113 : decode cL_law 113 = .ok (.iaload, 1) := by decide +kernel
theorem dL_law_114 : decode cL_law 114 = .ok (.aload_n 0, 1) := by decide +kernel
theorem dL_law_115 : decode cL_law 115 = .ok (.iload_n 3, 1) := by decide +kernel
theorem dL_law_116 : decode cL_law 116 = .ok (.iconst 2, 1) := by decide +kernel
theorem dL_law_117 : decode cL_law 117 = .ok (.iadd, 1) := by decide +kernel
theorem dL_law_118 : decode cL_law 118 = .ok (.iaload, 1) := by decide +kernel
theorem dL_law_119 : decode cL_law 119 = .ok (.aload_n 0, 1) := by decide +kernel
theorem dL_law_120 : decode cL_law 120 = .ok (.iload_n 3, 1) := by decide +kernel
theorem dL_law_121 : decode cL_law 121 = .ok (.iconst 3, 1) := by decide +kernel
theorem dL_law_122 : decode cL_law 122 = .ok (.iadd, 1) := by decide +kernel
theorem dL_law_123 : decode cL_law 123 = .ok (.iaload, 1) := by decide +kernel
theorem dL_law_124 : decode cL_law 124 = .ok (.invokevirtual 21, 3) := by decide +kernel
theorem dL_law_127 : decode cL_law 127 = .ok (.aload_n 2, 1) := by decide +kernel
theorem dL_law_128 : decode cL_law 128 = .ok (.aload_n 0, 1) := by decide +kernel
theorem dL_law_129 : decode cL_law 129 = .ok (.iload_n 3, 1) := by decide +kernel
theorem dL_law_130 : decode cL_law 130 = .ok (.iconst 1, 1) := by decide +kernel
theorem dL_law_131 : decode cL_law 131 = .ok (.iadd, 1) := by decide +kernel
theorem dL_law_132 : decode cL_law 132 = .ok (.iaload, 1) := by decide +kernel
theorem dL_law_133 : decode cL_law 133 = .ok (.aload_n 0, 1) := by decide +kernel
theorem dL_law_134 : decode cL_law 134 = .ok (.iload_n 3, 1) := by decide +kernel
theorem dL_law_135 : decode cL_law 135 = .ok (.iconst 2, 1) := by decide +kernel
theorem dL_law_136 : decode cL_law 136 = .ok (.iadd, 1) := by decide +kernel
theorem dL_law_137 : decode cL_law 137 = .ok (.iaload, 1) := by decide +kernel
theorem dL_law_138 : decode cL_law 138 = .ok (.aload_n 0, 1) := by decide +kernel
theorem dL_law_139 : decode cL_law 139 = .ok (.iload_n 3, 1) := by decide +kernel
theorem dL_law_140 : decode cL_law 140 = .ok (.iconst 3, 1) := by decide +kernel
theorem dL_law_141 : decode cL_law 141 = .ok (.iadd, 1) := by decide +kernel
theorem dL_law_142 : decode cL_law 142 = .ok (.iaload, 1) := by decide +kernel
theorem dL_law_143 : decode cL_law 143 = .ok (.invokevirtual 25, 3) := by decide +kernel
theorem dL_law_146 : decode cL_law 146 = .ok (.if_icmp .eq 302, 3) := by decide +kernel
theorem dL_law_149 : decode cL_law 149 = .ok (.iconst 0, 1) := by decide +kernel
theorem dL_law_150 : decode cL_law 150 = .ok (.ireturn, 1) := by decide +kernel
theorem dL_law_151 : decode cL_law 151 = .ok (.aload_n 1, 1) := by decide +kernel
theorem dL_law_152 : decode cL_law 152 = .ok (.aload_n 0, 1) := by decide +kernel
theorem dL_law_153 : decode cL_law 153 = .ok (.iload_n 3, 1) := by decide +kernel
theorem dL_law_154 : decode cL_law 154 = .ok (.iconst 1, 1) := by decide +kernel
theorem dL_law_155 : decode cL_law 155 = .ok (.iadd, 1) := by decide +kernel
theorem dL_law_156 : decode cL_law 156 = .ok (.iaload, 1) := by decide +kernel
theorem dL_law_157 : decode cL_law 157 = .ok (.aload_n 0, 1) := by decide +kernel
theorem dL_law_158 : decode cL_law 158 = .ok (.iload_n 3, 1) := by decide +kernel
theorem dL_law_159 : decode cL_law 159 = .ok (.iconst 2, 1) := by decide +kernel
theorem dL_law_160 : decode cL_law 160 = .ok (.iadd, 1) := by decide +kernel
theorem dL_law_161 : decode cL_law 161 = .ok (.iaload, 1) := by decide +kernel
theorem dL_law_162 : decode cL_law 162 = .ok (.invokevirtual 26, 3) := by decide +kernel
theorem dL_law_165 : decode cL_law 165 = .ok (.aload_n 2, 1) := by decide +kernel
theorem dL_law_166 : decode cL_law 166 = .ok (.aload_n 0, 1) := by decide +kernel
theorem dL_law_167 : decode cL_law 167 = .ok (.iload_n 3, 1) := by decide +kernel
theorem dL_law_168 : decode cL_law 168 = .ok (.iconst 1, 1) := by decide +kernel
theorem dL_law_169 : decode cL_law 169 = .ok (.iadd, 1) := by decide +kernel
theorem dL_law_170 : decode cL_law 170 = .ok (.iaload, 1) := by decide +kernel
theorem dL_law_171 : decode cL_law 171 = .ok (.aload_n 0, 1) := by decide +kernel
theorem dL_law_172 : decode cL_law 172 = .ok (.iload_n 3, 1) := by decide +kernel
theorem dL_law_173 : decode cL_law 173 = .ok (.iconst 2, 1) := by decide +kernel
theorem dL_law_174 : decode cL_law 174 = .ok (.iadd, 1) := by decide +kernel
theorem dL_law_175 : decode cL_law 175 = .ok (.iaload, 1) := by decide +kernel
theorem dL_law_176 : decode cL_law 176 = .ok (.invokevirtual 30, 3) := by decide +kernel
theorem dL_law_179 : decode cL_law 179 = .ok (.if_icmp .eq 269, 3) := by decide +kernel
theorem dL_law_182 : decode cL_law 182 = .ok (.iconst 0, 1) := by decide +kernel
theorem dL_law_183 : decode cL_law 183 = .ok (.ireturn, 1) := by decide +kernel
theorem dL_law_184 : decode cL_law 184 = .ok (.aload_n 1, 1) := by decide +kernel
theorem dL_law_185 : decode cL_law 185 = .ok (.aload_n 0, 1) := by decide +kernel
theorem dL_law_186 : decode cL_law 186 = .ok (.iload_n 3, 1) := by decide +kernel
theorem dL_law_187 : decode cL_law 187 = .ok (.iconst 1, 1) := by decide +kernel
theorem dL_law_188 : decode cL_law 188 = .ok (.iadd, 1) := by decide +kernel
theorem dL_law_189 : decode cL_law 189 = .ok (.iaload, 1) := by decide +kernel
theorem dL_law_190 : decode cL_law 190 = .ok (.aload_n 0, 1) := by decide +kernel
theorem dL_law_191 : decode cL_law 191 = .ok (.iload_n 3, 1) := by decide +kernel
theorem dL_law_192 : decode cL_law 192 = .ok (.iconst 2, 1) := by decide +kernel
theorem dL_law_193 : decode cL_law 193 = .ok (.iadd, 1) := by decide +kernel
theorem dL_law_194 : decode cL_law 194 = .ok (.iaload, 1) := by decide +kernel
theorem dL_law_195 : decode cL_law 195 = .ok (.invokevirtual 31, 3) := by decide +kernel
theorem dL_law_198 : decode cL_law 198 = .ok (.aload_n 2, 1) := by decide +kernel
theorem dL_law_199 : decode cL_law 199 = .ok (.aload_n 0, 1) := by decide +kernel
theorem dL_law_200 : decode cL_law 200 = .ok (.iload_n 3, 1) := by decide +kernel
theorem dL_law_201 : decode cL_law 201 = .ok (.iconst 1, 1) := by decide +kernel
theorem dL_law_202 : decode cL_law 202 = .ok (.iadd, 1) := by decide +kernel
theorem dL_law_203 : decode cL_law 203 = .ok (.iaload, 1) := by decide +kernel
theorem dL_law_204 : decode cL_law 204 = .ok (.aload_n 0, 1) := by decide +kernel
theorem dL_law_205 : decode cL_law 205 = .ok (.iload_n 3, 1) := by decide +kernel
theorem dL_law_206 : decode cL_law 206 = .ok (.iconst 2, 1) := by decide +kernel
theorem dL_law_207 : decode cL_law 207 = .ok (.iadd, 1) := by decide +kernel
theorem dL_law_208 : decode cL_law 208 = .ok (.iaload, 1) := by decide +kernel
theorem dL_law_209 : decode cL_law 209 = .ok (.invokevirtual 35, 3) := by decide +kernel
theorem dL_law_212 : decode cL_law 212 = .ok (.if_icmp .eq 236, 3) := by decide +kernel
theorem dL_law_215 : decode cL_law 215 = .ok (.iconst 0, 1) := by decide +kernel
theorem dL_law_216 : decode cL_law 216 = .ok (.ireturn, 1) := by decide +kernel
theorem dL_law_217 : decode cL_law 217 = .ok (.aload_n 1, 1) := by decide +kernel
theorem dL_law_218 : decode cL_law 218 = .ok (.invokevirtual 36, 3) := by decide +kernel
theorem dL_law_221 : decode cL_law 221 = .ok (.aload_n 2, 1) := by decide +kernel
theorem dL_law_222 : decode cL_law 222 = .ok (.invokevirtual 40, 3) := by decide +kernel
theorem dL_law_225 : decode cL_law 225 = .ok (.if_icmp .eq 223, 3) := by decide +kernel
theorem dL_law_228 : decode cL_law 228 = .ok (.iconst 0, 1) := by decide +kernel
theorem dL_law_229 : decode cL_law 229 = .ok (.ireturn, 1) := by decide +kernel
theorem dL_law_230 : decode cL_law 230 = .ok (.aload_n 1, 1) := by decide +kernel
theorem dL_law_231 : decode cL_law 231 = .ok (.aload_n 0, 1) := by decide +kernel
theorem dL_law_232 : decode cL_law 232 = .ok (.iload_n 3, 1) := by decide +kernel
theorem dL_law_233 : decode cL_law 233 = .ok (.iconst 1, 1) := by decide +kernel
theorem dL_law_234 : decode cL_law 234 = .ok (.iadd, 1) := by decide +kernel
theorem dL_law_235 : decode cL_law 235 = .ok (.iaload, 1) := by decide +kernel
theorem dL_law_236 : decode cL_law 236 = .ok (.invokevirtual 41, 3) := by decide +kernel
theorem dL_law_239 : decode cL_law 239 = .ok (.aload_n 2, 1) := by decide +kernel
theorem dL_law_240 : decode cL_law 240 = .ok (.aload_n 0, 1) := by decide +kernel
theorem dL_law_241 : decode cL_law 241 = .ok (.iload_n 3, 1) := by decide +kernel
theorem dL_law_242 : decode cL_law 242 = .ok (.iconst 1, 1) := by decide +kernel
theorem dL_law_243 : decode cL_law 243 = .ok (.iadd, 1) := by decide +kernel
theorem dL_law_244 : decode cL_law 244 = .ok (.iaload, 1) := by decide +kernel
theorem dL_law_245 : decode cL_law 245 = .ok (.invokevirtual 45, 3) := by decide +kernel
theorem dL_law_248 : decode cL_law 248 = .ok (.if_icmp .eq 200, 3) := by decide +kernel
theorem dL_law_251 : decode cL_law 251 = .ok (.iconst 0, 1) := by decide +kernel
theorem dL_law_252 : decode cL_law 252 = .ok (.ireturn, 1) := by decide +kernel
theorem dL_law_253 : decode cL_law 253 = .ok (.aload_n 1, 1) := by decide +kernel
theorem dL_law_254 : decode cL_law 254 = .ok (.aload_n 0, 1) := by decide +kernel
theorem dL_law_255 : decode cL_law 255 = .ok (.iload_n 3, 1) := by decide +kernel
theorem dL_law_256 : decode cL_law 256 = .ok (.iconst 1, 1) := by decide +kernel
theorem dL_law_257 : decode cL_law 257 = .ok (.iadd, 1) := by decide +kernel
theorem dL_law_258 : decode cL_law 258 = .ok (.iaload, 1) := by decide +kernel
theorem dL_law_259 : decode cL_law 259 = .ok (.aload_n 0, 1) := by decide +kernel
theorem dL_law_260 : decode cL_law 260 = .ok (.iload_n 3, 1) := by decide +kernel
theorem dL_law_261 : decode cL_law 261 = .ok (.iconst 2, 1) := by decide +kernel
theorem dL_law_262 : decode cL_law 262 = .ok (.iadd, 1) := by decide +kernel
theorem dL_law_263 : decode cL_law 263 = .ok (.iaload, 1) := by decide +kernel
theorem dL_law_264 : decode cL_law 264 = .ok (.invokevirtual 46, 3) := by decide +kernel
theorem dL_law_267 : decode cL_law 267 = .ok (.aload_n 2, 1) := by decide +kernel
theorem dL_law_268 : decode cL_law 268 = .ok (.aload_n 0, 1) := by decide +kernel
theorem dL_law_269 : decode cL_law 269 = .ok (.iload_n 3, 1) := by decide +kernel
theorem dL_law_270 : decode cL_law 270 = .ok (.iconst 1, 1) := by decide +kernel
theorem dL_law_271 : decode cL_law 271 = .ok (.iadd, 1) := by decide +kernel
theorem dL_law_272 : decode cL_law 272 = .ok (.iaload, 1) := by decide +kernel
theorem dL_law_273 : decode cL_law 273 = .ok (.aload_n 0, 1) := by decide +kernel
theorem dL_law_274 : decode cL_law 274 = .ok (.iload_n 3, 1) := by decide +kernel
theorem dL_law_275 : decode cL_law 275 = .ok (.iconst 2, 1) := by decide +kernel
theorem dL_law_276 : decode cL_law 276 = .ok (.iadd, 1) := by decide +kernel
theorem dL_law_277 : decode cL_law 277 = .ok (.iaload, 1) := by decide +kernel
theorem dL_law_278 : decode cL_law 278 = .ok (.invokevirtual 49, 3) := by decide +kernel
theorem dL_law_281 : decode cL_law 281 = .ok (.if_icmp .eq 167, 3) := by decide +kernel
theorem dL_law_284 : decode cL_law 284 = .ok (.iconst 0, 1) := by decide +kernel
theorem dL_law_285 : decode cL_law 285 = .ok (.ireturn, 1) := by decide +kernel
theorem dL_law_286 : decode cL_law 286 = .ok (.aload_n 1, 1) := by decide +kernel
theorem dL_law_287 : decode cL_law 287 = .ok (.aload_n 0, 1) := by decide +kernel
theorem dL_law_288 : decode cL_law 288 = .ok (.iload_n 3, 1) := by decide +kernel
theorem dL_law_289 : decode cL_law 289 = .ok (.iconst 1, 1) := by decide +kernel
theorem dL_law_290 : decode cL_law 290 = .ok (.iadd, 1) := by decide +kernel
theorem dL_law_291 : decode cL_law 291 = .ok (.iaload, 1) := by decide +kernel
theorem dL_law_292 : decode cL_law 292 = .ok (.invokevirtual 50, 3) := by decide +kernel
theorem dL_law_295 : decode cL_law 295 = .ok (.aload_n 2, 1) := by decide +kernel
theorem dL_law_296 : decode cL_law 296 = .ok (.aload_n 0, 1) := by decide +kernel
theorem dL_law_297 : decode cL_law 297 = .ok (.iload_n 3, 1) := by decide +kernel
theorem dL_law_298 : decode cL_law 298 = .ok (.iconst 1, 1) := by decide +kernel
theorem dL_law_299 : decode cL_law 299 = .ok (.iadd, 1) := by decide +kernel
theorem dL_law_300 : decode cL_law 300 = .ok (.iaload, 1) := by decide +kernel
theorem dL_law_301 : decode cL_law 301 = .ok (.invokevirtual 53, 3) := by decide +kernel
theorem dL_law_304 : decode cL_law 304 = .ok (.if_icmp .eq 144, 3) := by decide +kernel
theorem dL_law_307 : decode cL_law 307 = .ok (.iconst 0, 1) := by decide +kernel
theorem dL_law_308 : decode cL_law 308 = .ok (.ireturn, 1) := by decide +kernel
theorem dL_law_309 : decode cL_law 309 = .ok (.aload_n 1, 1) := by decide +kernel
theorem dL_law_310 : decode cL_law 310 = .ok (.aload_n 0, 1) := by decide +kernel
theorem dL_law_311 : decode cL_law 311 = .ok (.iload_n 3, 1) := by decide +kernel
theorem dL_law_312 : decode cL_law 312 = .ok (.iconst 1, 1) := by decide +kernel
theorem dL_law_313 : decode cL_law 313 = .ok (.iadd, 1) := by decide +kernel
theorem dL_law_314 : decode cL_law 314 = .ok (.iaload, 1) := by decide +kernel
theorem dL_law_315 : decode cL_law 315 = .ok (.invokevirtual 54, 3) := by decide +kernel
theorem dL_law_318 : decode cL_law 318 = .ok (.aload_n 2, 1) := by decide +kernel
theorem dL_law_319 : decode cL_law 319 = .ok (.aload_n 0, 1) := by decide +kernel
theorem dL_law_320 : decode cL_law 320 = .ok (.iload_n 3, 1) := by decide +kernel
theorem dL_law_321 : decode cL_law 321 = .ok (.iconst 1, 1) := by decide +kernel
theorem dL_law_322 : decode cL_law 322 = .ok (.iadd, 1) := by decide +kernel
theorem dL_law_323 : decode cL_law 323 = .ok (.iaload, 1) := by decide +kernel
theorem dL_law_324 : decode cL_law 324 = .ok (.invokevirtual 57, 3) := by decide +kernel
theorem dL_law_327 : decode cL_law 327 = .ok (.if_icmp .eq 121, 3) := by decide +kernel
theorem dL_law_330 : decode cL_law 330 = .ok (.iconst 0, 1) := by decide +kernel
theorem dL_law_331 : decode cL_law 331 = .ok (.ireturn, 1) := by decide +kernel
theorem dL_law_332 : decode cL_law 332 = .ok (.aload_n 1, 1) := by decide +kernel
theorem dL_law_333 : decode cL_law 333 = .ok (.aload_n 0, 1) := by decide +kernel
theorem dL_law_334 : decode cL_law 334 = .ok (.iload_n 3, 1) := by decide +kernel
theorem dL_law_335 : decode cL_law 335 = .ok (.iconst 1, 1) := by decide +kernel
theorem dL_law_336 : decode cL_law 336 = .ok (.iadd, 1) := by decide +kernel
theorem dL_law_337 : decode cL_law 337 = .ok (.iaload, 1) := by decide +kernel
theorem dL_law_338 : decode cL_law 338 = .ok (.aload_n 0, 1) := by decide +kernel
theorem dL_law_339 : decode cL_law 339 = .ok (.iload_n 3, 1) := by decide +kernel
theorem dL_law_340 : decode cL_law 340 = .ok (.iconst 2, 1) := by decide +kernel
theorem dL_law_341 : decode cL_law 341 = .ok (.iadd, 1) := by decide +kernel
theorem dL_law_342 : decode cL_law 342 = .ok (.iaload, 1) := by decide +kernel
theorem dL_law_343 : decode cL_law 343 = .ok (.invokevirtual 58, 3) := by decide +kernel
theorem dL_law_346 : decode cL_law 346 = .ok (.aload_n 2, 1) := by decide +kernel
theorem dL_law_347 : decode cL_law 347 = .ok (.aload_n 0, 1) := by decide +kernel
theorem dL_law_348 : decode cL_law 348 = .ok (.iload_n 3, 1) := by decide +kernel
theorem dL_law_349 : decode cL_law 349 = .ok (.iconst 1, 1) := by decide +kernel
theorem dL_law_350 : decode cL_law 350 = .ok (.iadd, 1) := by decide +kernel
theorem dL_law_351 : decode cL_law 351 = .ok (.iaload, 1) := by decide +kernel
theorem dL_law_352 : decode cL_law 352 = .ok (.aload_n 0, 1) := by decide +kernel
theorem dL_law_353 : decode cL_law 353 = .ok (.iload_n 3, 1) := by decide +kernel
theorem dL_law_354 : decode cL_law 354 = .ok (.iconst 2, 1) := by decide +kernel
theorem dL_law_355 : decode cL_law 355 = .ok (.iadd, 1) := by decide +kernel
theorem dL_law_356 : decode cL_law 356 = .ok (.iaload, 1) := by decide +kernel
theorem dL_law_357 : decode cL_law 357 = .ok (.invokevirtual 61, 3) := by decide +kernel
theorem dL_law_360 : decode cL_law 360 = .ok (.if_icmp .eq 88, 3) := by decide +kernel
theorem dL_law_363 : decode cL_law 363 = .ok (.iconst 0, 1) := by decide +kernel
theorem dL_law_364 : decode cL_law 364 = .ok (.ireturn, 1) := by decide +kernel
theorem dL_law_365 : decode cL_law 365 = .ok (.aload_n 1, 1) := by decide +kernel
theorem dL_law_366 : decode cL_law 366 = .ok (.invokevirtual 62, 3) := by decide +kernel
theorem dL_law_369 : decode cL_law 369 = .ok (.aload_n 2, 1) := by decide +kernel
theorem dL_law_370 : decode cL_law 370 = .ok (.invokevirtual 65, 3) := by decide +kernel
theorem dL_law_373 : decode cL_law 373 = .ok (.if_icmp .eq 75, 3) := by decide +kernel
theorem dL_law_376 : decode cL_law 376 = .ok (.iconst 0, 1) := by decide +kernel
theorem dL_law_377 : decode cL_law 377 = .ok (.ireturn, 1) := by decide +kernel
theorem dL_law_378 : decode cL_law 378 = .ok (.aload_n 1, 1) := by decide +kernel
theorem dL_law_379 : decode cL_law 379 = .ok (.aload_n 0, 1) := by decide +kernel
theorem dL_law_380 : decode cL_law 380 = .ok (.iload_n 3, 1) := by decide +kernel
theorem dL_law_381 : decode cL_law 381 = .ok (.iconst 1, 1) := by decide +kernel
theorem dL_law_382 : decode cL_law 382 = .ok (.iadd, 1) := by decide +kernel
theorem dL_law_383 : decode cL_law 383 = .ok (.iaload, 1) := by decide +kernel
theorem dL_law_384 : decode cL_law 384 = .ok (.invokevirtual 66, 3) := by decide +kernel
theorem dL_law_387 : decode cL_law 387 = .ok (.aload_n 2, 1) := by decide +kernel
theorem dL_law_388 : decode cL_law 388 = .ok (.aload_n 0, 1) := by decide +kernel
theorem dL_law_389 : decode cL_law 389 = .ok (.iload_n 3, 1) := by decide +kernel
theorem dL_law_390 : decode cL_law 390 = .ok (.iconst 1, 1) := by decide +kernel
theorem dL_law_391 : decode cL_law 391 = .ok (.iadd, 1) := by decide +kernel
theorem dL_law_392 : decode cL_law 392 = .ok (.iaload, 1) := by decide +kernel
theorem dL_law_393 : decode cL_law 393 = .ok (.invokevirtual 70, 3) := by decide +kernel
theorem dL_law_396 : decode cL_law 396 = .ok (.lcmp, 1) := by decide +kernel
theorem dL_law_397 : decode cL_law 397 = .ok (.ifCond .eq 51, 3) := by decide +kernel
theorem dL_law_400 : decode cL_law 400 = .ok (.iconst 0, 1) := by decide +kernel
theorem dL_law_401 : decode cL_law 401 = .ok (.ireturn, 1) := by decide +kernel
theorem dL_law_402 : decode cL_law 402 = .ok (.aload_n 1, 1) := by decide +kernel
theorem dL_law_403 : decode cL_law 403 = .ok (.aload_n 0, 1) := by decide +kernel
theorem dL_law_404 : decode cL_law 404 = .ok (.iload_n 3, 1) := by decide +kernel
theorem dL_law_405 : decode cL_law 405 = .ok (.iconst 1, 1) := by decide +kernel
theorem dL_law_406 : decode cL_law 406 = .ok (.iadd, 1) := by decide +kernel
theorem dL_law_407 : decode cL_law 407 = .ok (.iaload, 1) := by decide +kernel
theorem dL_law_408 : decode cL_law 408 = .ok (.invokevirtual 71, 3) := by decide +kernel
theorem dL_law_411 : decode cL_law 411 = .ok (.aload_n 2, 1) := by decide +kernel
theorem dL_law_412 : decode cL_law 412 = .ok (.aload_n 0, 1) := by decide +kernel
theorem dL_law_413 : decode cL_law 413 = .ok (.iload_n 3, 1) := by decide +kernel
theorem dL_law_414 : decode cL_law 414 = .ok (.iconst 1, 1) := by decide +kernel
theorem dL_law_415 : decode cL_law 415 = .ok (.iadd, 1) := by decide +kernel
theorem dL_law_416 : decode cL_law 416 = .ok (.iaload, 1) := by decide +kernel
theorem dL_law_417 : decode cL_law 417 = .ok (.invokevirtual 75, 3) := by decide +kernel
theorem dL_law_420 : decode cL_law 420 = .ok (.if_icmp .eq 28, 3) := by decide +kernel
theorem dL_law_423 : decode cL_law 423 = .ok (.iconst 0, 1) := by decide +kernel
theorem dL_law_424 : decode cL_law 424 = .ok (.ireturn, 1) := by decide +kernel
theorem dL_law_425 : decode cL_law 425 = .ok (.aload_n 1, 1) := by decide +kernel
theorem dL_law_426 : decode cL_law 426 = .ok (.aload_n 0, 1) := by decide +kernel
theorem dL_law_427 : decode cL_law 427 = .ok (.iload_n 3, 1) := by decide +kernel
theorem dL_law_428 : decode cL_law 428 = .ok (.iconst 1, 1) := by decide +kernel
theorem dL_law_429 : decode cL_law 429 = .ok (.iadd, 1) := by decide +kernel
theorem dL_law_430 : decode cL_law 430 = .ok (.iaload, 1) := by decide +kernel
theorem dL_law_431 : decode cL_law 431 = .ok (.invokevirtual 76, 3) := by decide +kernel
theorem dL_law_434 : decode cL_law 434 = .ok (.aload_n 2, 1) := by decide +kernel
theorem dL_law_435 : decode cL_law 435 = .ok (.aload_n 0, 1) := by decide +kernel
theorem dL_law_436 : decode cL_law 436 = .ok (.iload_n 3, 1) := by decide +kernel
theorem dL_law_437 : decode cL_law 437 = .ok (.iconst 1, 1) := by decide +kernel
theorem dL_law_438 : decode cL_law 438 = .ok (.iadd, 1) := by decide +kernel
theorem dL_law_439 : decode cL_law 439 = .ok (.iaload, 1) := by decide +kernel
theorem dL_law_440 : decode cL_law 440 = .ok (.invokevirtual 79, 3) := by decide +kernel
theorem dL_law_443 : decode cL_law 443 = .ok (.if_icmp .eq 5, 3) := by decide +kernel
theorem dL_law_446 : decode cL_law 446 = .ok (.iconst 0, 1) := by decide +kernel
theorem dL_law_447 : decode cL_law 447 = .ok (.ireturn, 1) := by decide +kernel
theorem dL_law_448 : decode cL_law 448 = .ok (.iinc 3 4, 3) := by decide +kernel
theorem dL_law_451 : decode cL_law 451 = .ok (.goto (-423), 3) := by decide +kernel
theorem dL_law_454 : decode cL_law 454 = .ok (.iconst 1, 1) := by decide +kernel
theorem dL_law_455 : decode cL_law 455 = .ok (.ireturn, 1) := by decide +kernel
end
section
/-! MEMORY: a system of cells of a fixed shape. ad: addresses, ln: lengths, iv: ints (cell, place), lv: longs (cell, place). mW n E M: the world of n cells of the shape E. -/
abbrev KM : Type := (Nat → Nat) × (Nat → Nat) × (Nat → Nat → Int32) × (Nat → Nat → Int64)
abbrev KE : Type := (Nat → Nat) → (Nat → Nat) → (Nat → Int32) → (Nat → Int64) → Nat → va_E
def mW (n : Nat) (E : KE) (M : KM) : va_W := (List.range n).map fun c => (M.1 c, E M.1 M.2.1 (M.2.2.1 c) (M.2.2.2 c) c)
def up2 (f : Nat → Nat → Int32) (c k : Nat) (v : Int32) : Nat → Nat → Int32 := fun a => if a = c then upd (f c) k v else f a
def up2L (f : Nat → Nat → Int64) (c k : Nat) (v : Int64) : Nat → Nat → Int64 := fun a => if a = c then vp_updL (f c) k v else f a
theorem up2_c {f : Nat → Nat → Int32} {c k a : Nat} {v : Int32} (h : a ≠ c) : up2 f c k v a = f a := by simp [up2, h]
theorem up2_cc {f : Nat → Nat → Int32} {c k : Nat} {v : Int32} : up2 f c k v c = upd (f c) k v := by simp [up2]
theorem up2_s {f : Nat → Nat → Int32} {c k : Nat} {v : Int32} : up2 f c k v c k = v := by simp [up2, upd]
theorem up2_k {f : Nat → Nat → Int32} {c k j : Nat} {v : Int32} (h : j ≠ k) : up2 f c k v c j = f c j := by simp [up2, upd, h]
theorem up2_ne {f : Nat → Nat → Int32} {c k a j : Nat} {v : Int32} (h : a ≠ c) : up2 f c k v a j = f a j := by simp [up2, h]
theorem up2L_c {f : Nat → Nat → Int64} {c k a : Nat} {v : Int64} (h : a ≠ c) : up2L f c k v a = f a := by simp [up2L, h]
theorem up2L_s {f : Nat → Nat → Int64} {c k : Nat} {v : Int64} : up2L f c k v c k = v := by simp [up2L, vp_updL]
theorem up2L_k {f : Nat → Nat → Int64} {c k j : Nat} {v : Int64} (h : j ≠ k) : up2L f c k v c j = f c j := by simp [up2L, vp_updL, h]
theorem up2L_ne {f : Nat → Nat → Int64} {c k a j : Nat} {v : Int64} (h : a ≠ c) : up2L f c k v a j = f a j := by simp [up2L, h]
theorem mW_get {n : Nat} {E : KE} {M : KM} {c : Nat} (h : c < n) : (mW n E M)[c]? = some (M.1 c, E M.1 M.2.1 (M.2.2.1 c) (M.2.2.2 c) c) := by
  simp [mW, h]
theorem mW_out {n : Nat} {E : KE} {M : KM} {c : Nat} (h : ¬ c < n) : (mW n E M)[c]? = none := by
  simp [mW, h]
/-- two memories that differ in one cell's content -/
theorem mW_setG {n : Nat} {E : KE} {M M' : KM} {c : Nat} {e : va_E} (h : c < n) (he : E M'.1 M'.2.1 (M'.2.2.1 c) (M'.2.2.2 c) c = e) (ha : ∀ j, M'.1 j = M.1 j) (ho : ∀ j, j < n → j ≠ c → E M'.1 M'.2.1 (M'.2.2.1 j) (M'.2.2.2 j) j = E M.1 M.2.1 (M.2.2.1 j) (M.2.2.2 j) j) : (mW n E M).set c (M.1 c, e) = mW n E M' := by
  apply List.ext_getElem?
  intro j
  rw [List.getElem?_set]
  by_cases hj : c = j
  · subst hj
    rw [if_pos rfl, if_pos (by simp [mW, h]), mW_get h, he, ha]
  · rw [if_neg hj]
    by_cases hn : j < n
    · rw [mW_get hn, mW_get hn, ho j hn (Ne.symm hj), ha]
    · rw [mW_out hn, mW_out hn]
theorem mW_set {n : Nat} {E : KE} {ad ln : Nat → Nat} {iv : Nat → Nat → Int32} {lv : Nat → Nat → Int64} {c k : Nat} {v : Int32} {e : va_E} (h : c < n) (he : E ad ln (upd (iv c) k v) (lv c) c = e) : (mW n E (ad, ln, iv, lv)).set c (ad c, e) = mW n E (ad, ln, up2 iv c k v, lv) := by
  refine mW_setG (M := (ad, ln, iv, lv)) (M' := (ad, ln, up2 iv c k v, lv)) h ?_ (fun _ => rfl) (fun j _ hj => ?_)
  · show E ad ln (up2 iv c k v c) (lv c) c = e
    rw [up2_cc, he]
  · show E ad ln (up2 iv c k v j) (lv j) j = E ad ln (iv j) (lv j) j
    rw [up2_c hj]
theorem mW_setL {n : Nat} {E : KE} {ad ln : Nat → Nat} {iv : Nat → Nat → Int32} {lv : Nat → Nat → Int64} {c k : Nat} {v : Int64} {e : va_E} (h : c < n) (he : E ad ln (iv c) (vp_updL (lv c) k v) c = e) : (mW n E (ad, ln, iv, lv)).set c (ad c, e) = mW n E (ad, ln, iv, up2L lv c k v) := by
  refine mW_setG (M := (ad, ln, iv, lv)) (M' := (ad, ln, iv, up2L lv c k v)) h ?_ (fun _ => rfl) (fun j _ hj => ?_)
  · show E ad ln (iv c) (up2L lv c k v c) c = e
    rw [show up2L lv c k v c = vp_updL (lv c) k v by simp [up2L], he]
  · show E ad ln (iv j) (up2L lv c k v j) j = E ad ln (iv j) (lv j) j
    rw [up2L_c hj]
def kPre (D : va_G) (cl : List vw_C) (tys : List (ClassId × FieldType)) (n : Nat) (E : KE) (M : KM) (sz : Nat) (U : State) : Prop := U.heap.size = sz ∧ va_P D cl (mW n E M) U.heap ∧ va_K D cl tys U ∧ va_D (fun _ => True) (mW n E M)
def kAt (D : va_G) (cl : List vw_C) (tys : List (ClassId × FieldType)) (n : Nat) (E : KE) (A : Nat → Prop) (M : KM) (t : State) : Prop := va_P D cl (mW n E M) t.heap ∧ va_K D cl tys t ∧ va_D A (mW n E M)
/-- contracts: from the memory M the method comes to the memory M', and answers rv; it makes at most rm.cells cells of rm.slots slots -/
def kMv (l : Launch) (y : MethodName) (ws : List Cond) (rm : Room) (D : va_G) (cl : List vw_C) (tys : List (ClassId × FieldType)) (n : Nat) (E : KE) (av : List Value) (M M' : KM) : Prop := ∀ sz : Nat, Met l y ws rm (va_Pc av (kPre D cl tys n E M sz)) (va_Qv (fun u : KM => u = M') (kAt D cl tys n E (va_A (mW n E M) sz)) (va_A (mW n E M) sz)) rm.cells rm.slots (va_A (mW n E M) sz)
def kMi (l : Launch) (y : MethodName) (ws : List Cond) (rm : Room) (D : va_G) (cl : List vw_C) (tys : List (ClassId × FieldType)) (n : Nat) (E : KE) (av : List Value) (M M' : KM) (rv : Int32) : Prop := ∀ sz : Nat, Met l y ws rm (va_Pc av (kPre D cl tys n E M sz)) (va_Qi (fun (r : Int32) (u : KM) => r = rv ∧ u = M') (kAt D cl tys n E (va_A (mW n E M) sz)) (va_A (mW n E M) sz)) rm.cells rm.slots (va_A (mW n E M) sz)
def kMl (l : Launch) (y : MethodName) (ws : List Cond) (rm : Room) (D : va_G) (cl : List vw_C) (tys : List (ClassId × FieldType)) (n : Nat) (E : KE) (av : List Value) (M M' : KM) (rv : Int64) : Prop := ∀ sz : Nat, Met l y ws rm (va_Pc av (kPre D cl tys n E M sz)) (va_Ql (fun (r : Int64) (u : KM) => r = rv ∧ u = M') (kAt D cl tys n E (va_A (mW n E M) sz)) (va_A (mW n E M) sz)) rm.cells rm.slots (va_A (mW n E M) sz)
def kMr (l : Launch) (y : MethodName) (ws : List Cond) (rm : Room) (D : va_G) (cl : List vw_C) (tys : List (ClassId × FieldType)) (n : Nat) (E : KE) (av : List Value) (M M' : KM) (rv : Nat) : Prop := ∀ sz : Nat, Met l y ws rm (va_Pc av (kPre D cl tys n E M sz)) (va_Qr (fun u : KM => u = M') (fun u a t => a = rv ∧ kAt D cl tys n E (va_A (mW n E M) sz) u t) (va_A (mW n E M) sz)) rm.cells rm.slots (va_A (mW n E M) sz)
theorem kBlind {D : va_G} {cl : List vw_C} {tys : List (ClassId × FieldType)} {n : Nat} {E : KE} {M : KM} {sz : Nat} {av : List Value} : FrameBlind (va_Pc av (kPre D cl tys n E M sz)) := fun a U g mk q => by
  obtain ⟨q0, q1, qP, qK, qD⟩ := q
  exact ⟨q0, q1, qP, va_K.moved (u := U) (U := U.calling g mk a) (Vm.Alike.refl U.vm) qK, qD⟩
theorem kFree {A0 : Nat → Prop} {ws : va_W} {H0 H : Heap} {locs : List Loc} (hD : va_D A0 ws) (hS : va_S A0 H0 H locs) (hA : ∀ q, H0.size ≤ q → A0 q) : ∀ q, va_A ws H.size q → A0 q := by
  intro q h
  rcases h with ⟨k, e, h⟩ | h
  · exact hD.2 k _ h
  · exact hA q (Nat.le_trans hS.1 h)
theorem nIc {α : Type} {f : Nat → α} {k : Nat} (h : k < 2 ^ 31) : f (nI k).toNatClampNeg = f k := by rw [nI_clamp h]
section KR
variable {p : Program} {l : Launch} {e : Env} {R : Room} {s : State} {m : MethodId} {args : Array Value} {below : List Frame} {meth : Method} {c : Code} {H : Heap} {locs : List Loc} {cells slots : Nat} {Q : State → Prop}
variable {pc : Nat} {ls : Array Slot} {rest st0 : List Value} {A : Nat → Prop} {H0 : Heap} {D : va_G} {cl : List vw_C} {tys : List (ClassId × FieldType)} {cc : ByteArray} {n : Nat} {E : KE} {ad ln : Nat → Nat} {iv : Nat → Nat → Int32} {lv : Nat → Nat → Int64}
/-- the top of the stack under another name -/
theorem kr_topi {x y : Int32} (h : x = y) (k : W p l e R s m args below meth c H locs cells slots Q (F0 m pc ls (.int y :: rest))) : W p l e R s m args below meth c H locs cells slots Q (F0 m pc ls (.int x :: rest)) := h ▸ k
/-- two ways that meet again with a number on the stack -/
theorem kr_tern {M : Nat} {cnd : Prop} [Decidable cnd] {a b : Int32} (k : (cnd → W p l e R s m args below meth c H locs cells slots Q (F0 m M ls (.int a :: rest))) → (¬ cnd → W p l e R s m args below meth c H locs cells slots Q (F0 m M ls (.int b :: rest))) → W p l e R s m args below meth c H locs cells slots Q (F0 m pc ls st0)) (J : W p l e R s m args below meth c H locs cells slots Q (F0 m M ls (.int (if cnd then a else b) :: rest))) : W p l e R s m args below meth c H locs cells slots Q (F0 m pc ls st0) :=
  k (fun h => by rw [if_pos h] at J; exact J) (fun h => by rw [if_neg h] at J; exact J)
/-- a loop: at its head hd, with an invariant over a state x whose measure falls -/
theorem kr_loop {σ : Type} (μ : σ → Nat) (Inv : σ → Heap → List Loc → Array Slot → Prop) (hd : Nat) (x0 : σ) (h0 : Inv x0 H locs ls)
    (step : ∀ (x : σ) (H : Heap) (locs : List Loc) (ls : Array Slot), Inv x H locs ls → (∀ (x' : σ) (H' : Heap) (locs' : List Loc) (ls' : Array Slot), Inv x' H' locs' ls' → μ x' < μ x → W p l e R s m args below meth c H' locs' cells slots Q (F0 m hd ls' [])) → W p l e R s m args below meth c H locs cells slots Q (F0 m hd ls [])) : W p l e R s m args below meth c H locs cells slots Q (F0 m hd ls []) := by
  have key : ∀ (k : Nat) (x : σ) (H : Heap) (locs : List Loc) (ls : Array Slot), μ x < k → Inv x H locs ls → W p l e R s m args below meth c H locs cells slots Q (F0 m hd ls []) := by
    intro k
    induction k with
    | zero => intro x H locs ls h; exact absurd h (Nat.not_lt_zero _)
    | succ k ih => intro x H locs ls h hI; exact step x H locs ls hI (fun x' H' locs' ls' hI' hm => ih x' H' locs' ls' (by omega) hI')
  exact key (μ x0 + 1) x0 H locs ls (Nat.lt_succ_self _) h0
theorem kr_get (hx : p.tables.exec = Jvm.exec) (hb : c.code = cc) {own ref C : String} {T : u_T} {N ci index : Nat} {Ts : List Cond} (hts : ∀ w ∈ Ts, w.before args s = true) (hin : ∀ w ∈ u_ws C T N, w ∈ Ts) (hown : s.vm.findClass own = some m.cls) (hK : va_K D cl tys s) (hP : va_P D cl (mW n E (ad, ln, iv, lv)) H) (q : Nat) (hq : q < n) {fs : List Value} (hE : E ad ln (iv q) (lv q) q = .inr (ci, fs)) (hc : cl[ci]? = some (C, T, N)) (k : Nat) (hk : k < N) (hlink : (Cond.fieldLink own index ref (T k).2.1 (T k).2.2.1).before args s = true) (hsame : ∀ x, s.fieldFound? (T k).1 (T k).2.1 (T k).2.2.1 = some x → s.fieldFound? ref (T k).2.1 (T k).2.2.1 = some x) {v : Value} (hv : fs[k]? = some v) (hdg : decode cc pc = .ok (.getfield index, 3))
    (kk : W p l e R s m args below meth c H locs cells slots Q (F0 m (pc + 3) ls (v :: rest))) : W p l e R s m args below meth c H locs cells slots Q (F0 m pc ls (.ref (ad q) :: rest)) :=
  va_get hx hb hts hin hown hK hP q (by rw [mW_get hq]; show some (ad q, E ad ln (iv q) (lv q) q) = _; rw [hE]) hc k hk hlink hsame hv hdg kk
theorem kr_put (hx : p.tables.exec = Jvm.exec) (hb : c.code = cc) {own ref C : String} {T : u_T} {N ci index : Nat} {Ts : List Cond} (hts : ∀ w ∈ Ts, w.before args s = true) (hin : ∀ w ∈ u_ws C T N, w ∈ Ts) (ty0 : Nat → FieldType) (hty : ∀ k, k < N → parseFieldDescriptor (T k).2.2.1 = some (ty0 k)) (hnm : ∀ a, a < N → ∀ b, b < N → a ≠ b → (T a).2.1 ≠ (T b).2.1) (hown : s.vm.findClass own = some m.cls) (hK : va_K D cl tys s) (hP : va_P D cl (mW n E (ad, ln, iv, lv)) H) (hD : va_D A (mW n E (ad, ln, iv, lv))) (hS : va_S A H0 H locs) (q : Nat) (hq : q < n) {F : (Nat → Int32) → List Value} (hE : ∀ r, E ad ln r (lv q) q = .inr (ci, F r)) (hc : cl[ci]? = some (C, T, N)) (k : Nat) (hk : k < N) (hlink : (Cond.fieldLink own index ref (T k).2.1 (T k).2.2.1).before args s = true) (hsame : ∀ x, s.fieldFound? (T k).1 (T k).2.1 (T k).2.2.1 = some x → s.fieldFound? ref (T k).2.1 (T k).2.2.1 = some x) (hfin : (T k).2.2.2 = false) {ty : FieldType} {x : Int32} (hd : parseFieldDescriptor (T k).2.2.1 = some ty) (hn : narrow ty (.int x) = .int x) (hfit : fits ty (.int x) = true) (hl : ∀ r, k < (F r).length) (hset : ∀ r, (F r).set k (.int x) = F (upd r k x))
    (hdg : decode cc pc = .ok (.putfield index, 3)) (kk : ∀ (H1 : Heap) (locs1 : List Loc), va_P D cl (mW n E (ad, ln, up2 iv q k x, lv)) H1 → va_D A (mW n E (ad, ln, up2 iv q k x, lv)) → va_S A H0 H1 locs1 → W p l e R s m args below meth c H1 locs1 cells slots Q (F0 m (pc + 3) ls rest)) : W p l e R s m args below meth c H locs cells slots Q (F0 m pc ls (.int x :: .ref (ad q) :: rest)) := by
  refine va_put hx hb hts hin ty0 hty hnm hown hK hP hD hS q (by rw [mW_get hq]; show some (ad q, E ad ln (iv q) (lv q) q) = _; rw [hE]) hc k hk hlink hsame hfin hd hn hfit (hl _) hdg (fun H1 locs1 h1 h2 h3 => kk H1 locs1 ?_ ?_ h3)
  · rw [hset, mW_set hq (hE _)] at h1; exact h1
  · rw [hset, mW_set hq (hE _)] at h2; exact h2
theorem kr_iald (hx : p.tables.exec = Jvm.exec) (hb : c.code = cc) (hK : va_K D cl tys s) (hP : va_P D cl (mW n E (ad, ln, iv, lv)) H) (q t0 : Nat) (hq : q < n) {cA : ClassId} {N : Nat} (hE : E ad ln (iv q) (lv q) q = .inl (cA, N, .inl (iv q))) (ht : tys[t0]? = some (cA, .int)) {i : Int32} (hin : vp_in i N) (hdg : decode cc pc = .ok (.iaload, 1))
    (kk : W p l e R s m args below meth c H locs cells slots Q (F0 m (pc + 1) ls (.int (iv q i.toNatClampNeg) :: rest))) : W p l e R s m args below meth c H locs cells slots Q (F0 m pc ls (.int i :: .ref (ad q) :: rest)) :=
  va_iald hx hb hK hP q t0 (by rw [mW_get hq]; show some (ad q, E ad ln (iv q) (lv q) q) = _; rw [hE]) ht hin hdg kk
theorem kr_zald (hx : p.tables.exec = Jvm.exec) (hb : c.code = cc) (hK : va_K D cl tys s) (hP : va_P D cl (mW n E (ad, ln, iv, lv)) H) (q t0 : Nat) (hq : q < n) {cA : ClassId} {N : Nat} (hE : E ad ln (iv q) (lv q) q = .inl (cA, N, .inl (iv q))) (ht : tys[t0]? = some (cA, .boolean)) {i : Int32} (hin : vp_in i N) (hdg : decode cc pc = .ok (.baload, 1))
    (kk : W p l e R s m args below meth c H locs cells slots Q (F0 m (pc + 1) ls (.int (iv q i.toNatClampNeg) :: rest))) : W p l e R s m args below meth c H locs cells slots Q (F0 m pc ls (.int i :: .ref (ad q) :: rest)) :=
  va_zald hx hb hK hP q t0 (by rw [mW_get hq]; show some (ad q, E ad ln (iv q) (lv q) q) = _; rw [hE]) ht hin hdg kk
theorem kr_lald (hx : p.tables.exec = Jvm.exec) (hb : c.code = cc) (hK : va_K D cl tys s) (hP : va_P D cl (mW n E (ad, ln, iv, lv)) H) (q t0 : Nat) (hq : q < n) {cA : ClassId} {N : Nat} (hE : E ad ln (iv q) (lv q) q = .inl (cA, N, .inr (.inl (lv q)))) (ht : tys[t0]? = some (cA, .long)) {i : Int32} (hin : vp_in i N) (hdg : decode cc pc = .ok (.laload, 1))
    (kk : W p l e R s m args below meth c H locs cells slots Q (F0 m (pc + 1) ls (.long (lv q i.toNatClampNeg) :: rest))) : W p l e R s m args below meth c H locs cells slots Q (F0 m pc ls (.int i :: .ref (ad q) :: rest)) :=
  va_lald hx hb hK hP q t0 (by rw [mW_get hq]; show some (ad q, E ad ln (iv q) (lv q) q) = _; rw [hE]) ht hin hdg kk
theorem kr_aald (hx : p.tables.exec = Jvm.exec) (hb : c.code = cc) (hK : va_K D cl tys s) (hP : va_P D cl (mW n E (ad, ln, iv, lv)) H) (q t0 : Nat) (hq : q < n) {cA : ClassId} {C : String} {N : Nat} {f : Nat → Option Nat} (hE : E ad ln (iv q) (lv q) q = .inl (cA, N, .inr (.inr (.inr (.inr f))))) (ht : tys[t0]? = some (cA, .object C)) {i : Int32} (hin : vp_in i N) {a : Nat} (hf : f i.toNatClampNeg = some a) (hdg : decode cc pc = .ok (.aaload, 1))
    (kk : W p l e R s m args below meth c H locs cells slots Q (F0 m (pc + 1) ls (.ref a :: rest))) : W p l e R s m args below meth c H locs cells slots Q (F0 m pc ls (.int i :: .ref (ad q) :: rest)) := by
  refine va_aldq hx hb hK hP q t0 (by rw [mW_get hq]; show some (ad q, E ad ln (iv q) (lv q) q) = _; rw [hE]) ht hin hdg ?_
  rw [hf]
  exact kk
theorem kr_alen (hx : p.tables.exec = Jvm.exec) (hb : c.code = cc) (hK : va_K D cl tys s) (hP : va_P D cl (mW n E (ad, ln, iv, lv)) H) (q t0 : Nat) (hq : q < n) {cA : ClassId} {x : vp_A} (hE : E ad ln (iv q) (lv q) q = .inl (cA, x)) {ty : FieldType} (ht : tys[t0]? = some (cA, ty)) {v : Int32} (hv : Int32.ofNat x.1 = v) (hdg : decode cc pc = .ok (.arraylength, 1))
    (kk : W p l e R s m args below meth c H locs cells slots Q (F0 m (pc + 1) ls (.int v :: rest))) : W p l e R s m args below meth c H locs cells slots Q (F0 m pc ls (.ref (ad q) :: rest)) :=
  va_alen hx hb hK hP q t0 (by rw [mW_get hq]; show some (ad q, E ad ln (iv q) (lv q) q) = _; rw [hE]) ht hv hdg kk
theorem kr_iast (hx : p.tables.exec = Jvm.exec) (hb : c.code = cc) (hK : va_K D cl tys s) (hP : va_P D cl (mW n E (ad, ln, iv, lv)) H) (hD : va_D A (mW n E (ad, ln, iv, lv))) (hS : va_S A H0 H locs) (q t0 : Nat) (hq : q < n) {cA : ClassId} {N : Nat} (hE : ∀ r, E ad ln r (lv q) q = .inl (cA, N, .inl r)) (ht : tys[t0]? = some (cA, .int)) {i x : Int32} (hin : vp_in i N) (hdg : decode cc pc = .ok (.iastore, 1))
    (kk : ∀ (H1 : Heap) (locs1 : List Loc), va_P D cl (mW n E (ad, ln, up2 iv q i.toNatClampNeg x, lv)) H1 → va_D A (mW n E (ad, ln, up2 iv q i.toNatClampNeg x, lv)) → va_S A H0 H1 locs1 → W p l e R s m args below meth c H1 locs1 cells slots Q (F0 m (pc + 1) ls rest)) : W p l e R s m args below meth c H locs cells slots Q (F0 m pc ls (.int x :: .int i :: .ref (ad q) :: rest)) := by
  refine va_iast hx hb hK hP hD hS q t0 (by rw [mW_get hq]; show some (ad q, E ad ln (iv q) (lv q) q) = _; rw [hE]) ht hin hdg (fun H1 locs1 h1 h2 h3 => kk H1 locs1 ?_ ?_ h3)
  · rw [mW_set hq (hE _)] at h1; exact h1
  · rw [mW_set hq (hE _)] at h2; exact h2
theorem kr_zast (hx : p.tables.exec = Jvm.exec) (hb : c.code = cc) (hK : va_K D cl tys s) (hP : va_P D cl (mW n E (ad, ln, iv, lv)) H) (hD : va_D A (mW n E (ad, ln, iv, lv))) (hS : va_S A H0 H locs) (q t0 : Nat) (hq : q < n) {cA : ClassId} {N : Nat} (hE : ∀ r, E ad ln r (lv q) q = .inl (cA, N, .inl r)) (ht : tys[t0]? = some (cA, .boolean)) {i x : Int32} (hin : vp_in i N) (hnr : vp_nar .boolean x = x) (hdg : decode cc pc = .ok (.bastore, 1))
    (kk : ∀ (H1 : Heap) (locs1 : List Loc), va_P D cl (mW n E (ad, ln, up2 iv q i.toNatClampNeg x, lv)) H1 → va_D A (mW n E (ad, ln, up2 iv q i.toNatClampNeg x, lv)) → va_S A H0 H1 locs1 → W p l e R s m args below meth c H1 locs1 cells slots Q (F0 m (pc + 1) ls rest)) : W p l e R s m args below meth c H locs cells slots Q (F0 m pc ls (.int x :: .int i :: .ref (ad q) :: rest)) := by
  refine va_zast hx hb hK hP hD hS q t0 (by rw [mW_get hq]; show some (ad q, E ad ln (iv q) (lv q) q) = _; rw [hE]) ht hin hdg (fun H1 locs1 h1 h2 h3 => kk H1 locs1 ?_ ?_ h3)
  · rw [hnr, mW_set hq (hE _)] at h1; exact h1
  · rw [hnr, mW_set hq (hE _)] at h2; exact h2
theorem kr_last (hx : p.tables.exec = Jvm.exec) (hb : c.code = cc) (hK : va_K D cl tys s) (hP : va_P D cl (mW n E (ad, ln, iv, lv)) H) (hD : va_D A (mW n E (ad, ln, iv, lv))) (hS : va_S A H0 H locs) (q t0 : Nat) (hq : q < n) {cA : ClassId} {N : Nat} (hE : ∀ r, E ad ln (iv q) r q = .inl (cA, N, .inr (.inl r))) (ht : tys[t0]? = some (cA, .long)) {i : Int32} {x : Int64} (hin : vp_in i N) (hdg : decode cc pc = .ok (.lastore, 1))
    (kk : ∀ (H1 : Heap) (locs1 : List Loc), va_P D cl (mW n E (ad, ln, iv, up2L lv q i.toNatClampNeg x)) H1 → va_D A (mW n E (ad, ln, iv, up2L lv q i.toNatClampNeg x)) → va_S A H0 H1 locs1 → W p l e R s m args below meth c H1 locs1 cells slots Q (F0 m (pc + 1) ls rest)) : W p l e R s m args below meth c H locs cells slots Q (F0 m pc ls (.long x :: .int i :: .ref (ad q) :: rest)) := by
  refine va_last hx hb hK hP hD hS q t0 (by rw [mW_get hq]; show some (ad q, E ad ln (iv q) (lv q) q) = _; rw [hE]) ht hin hdg (fun H1 locs1 h1 h2 h3 => kk H1 locs1 ?_ ?_ h3)
  · rw [mW_setL hq (hE _)] at h1; exact h1
  · rw [mW_setL hq (hE _)] at h2; exact h2
theorem kr_ialdN (hx : p.tables.exec = Jvm.exec) (hb : c.code = cc) (hK : va_K D cl tys s) (hP : va_P D cl (mW n E (ad, ln, iv, lv)) H) (q t0 : Nat) (hq : q < n) {cA : ClassId} {N : Nat} (hE : E ad ln (iv q) (lv q) q = .inl (cA, N, .inl (iv q))) (ht : tys[t0]? = some (cA, .int)) {j : Nat} (hj : j < N) (hN : N < 2 ^ 31) (hdg : decode cc pc = .ok (.iaload, 1))
    (kk : W p l e R s m args below meth c H locs cells slots Q (F0 m (pc + 1) ls (.int (iv q j) :: rest))) : W p l e R s m args below meth c H locs cells slots Q (F0 m pc ls (.int (nI j) :: .ref (ad q) :: rest)) := by
  refine kr_iald hx hb hK hP q t0 hq hE ht (vp_in_nI hj hN) hdg ?_
  rw [nI_clamp (Nat.lt_trans hj hN)]
  exact kk
theorem kr_zaldN (hx : p.tables.exec = Jvm.exec) (hb : c.code = cc) (hK : va_K D cl tys s) (hP : va_P D cl (mW n E (ad, ln, iv, lv)) H) (q t0 : Nat) (hq : q < n) {cA : ClassId} {N : Nat} (hE : E ad ln (iv q) (lv q) q = .inl (cA, N, .inl (iv q))) (ht : tys[t0]? = some (cA, .boolean)) {j : Nat} (hj : j < N) (hN : N < 2 ^ 31) (hdg : decode cc pc = .ok (.baload, 1))
    (kk : W p l e R s m args below meth c H locs cells slots Q (F0 m (pc + 1) ls (.int (iv q j) :: rest))) : W p l e R s m args below meth c H locs cells slots Q (F0 m pc ls (.int (nI j) :: .ref (ad q) :: rest)) := by
  refine kr_zald hx hb hK hP q t0 hq hE ht (vp_in_nI hj hN) hdg ?_
  rw [nI_clamp (Nat.lt_trans hj hN)]
  exact kk
theorem kr_laldN (hx : p.tables.exec = Jvm.exec) (hb : c.code = cc) (hK : va_K D cl tys s) (hP : va_P D cl (mW n E (ad, ln, iv, lv)) H) (q t0 : Nat) (hq : q < n) {cA : ClassId} {N : Nat} (hE : E ad ln (iv q) (lv q) q = .inl (cA, N, .inr (.inl (lv q)))) (ht : tys[t0]? = some (cA, .long)) {j : Nat} (hj : j < N) (hN : N < 2 ^ 31) (hdg : decode cc pc = .ok (.laload, 1))
    (kk : W p l e R s m args below meth c H locs cells slots Q (F0 m (pc + 1) ls (.long (lv q j) :: rest))) : W p l e R s m args below meth c H locs cells slots Q (F0 m pc ls (.int (nI j) :: .ref (ad q) :: rest)) := by
  refine kr_lald hx hb hK hP q t0 hq hE ht (vp_in_nI hj hN) hdg ?_
  rw [nI_clamp (Nat.lt_trans hj hN)]
  exact kk
theorem kr_iastN (hx : p.tables.exec = Jvm.exec) (hb : c.code = cc) (hK : va_K D cl tys s) (hP : va_P D cl (mW n E (ad, ln, iv, lv)) H) (hD : va_D A (mW n E (ad, ln, iv, lv))) (hS : va_S A H0 H locs) (q t0 : Nat) (hq : q < n) {cA : ClassId} {N : Nat} (hE : ∀ r, E ad ln r (lv q) q = .inl (cA, N, .inl r)) (ht : tys[t0]? = some (cA, .int)) {x : Int32} {j : Nat} (hj : j < N) (hN : N < 2 ^ 31) (hdg : decode cc pc = .ok (.iastore, 1))
    (kk : ∀ (H1 : Heap) (locs1 : List Loc), va_P D cl (mW n E (ad, ln, up2 iv q j x, lv)) H1 → va_D A (mW n E (ad, ln, up2 iv q j x, lv)) → va_S A H0 H1 locs1 → W p l e R s m args below meth c H1 locs1 cells slots Q (F0 m (pc + 1) ls rest)) : W p l e R s m args below meth c H locs cells slots Q (F0 m pc ls (.int x :: .int (nI j) :: .ref (ad q) :: rest)) := by
  refine kr_iast hx hb hK hP hD hS q t0 hq hE ht (vp_in_nI hj hN) hdg (fun H1 locs1 h1 h2 h3 => kk H1 locs1 ?_ ?_ h3)
  · rw [nI_clamp (Nat.lt_trans hj hN)] at h1; exact h1
  · rw [nI_clamp (Nat.lt_trans hj hN)] at h2; exact h2
theorem kr_zastN (hx : p.tables.exec = Jvm.exec) (hb : c.code = cc) (hK : va_K D cl tys s) (hP : va_P D cl (mW n E (ad, ln, iv, lv)) H) (hD : va_D A (mW n E (ad, ln, iv, lv))) (hS : va_S A H0 H locs) (q t0 : Nat) (hq : q < n) {cA : ClassId} {N : Nat} (hE : ∀ r, E ad ln r (lv q) q = .inl (cA, N, .inl r)) (ht : tys[t0]? = some (cA, .boolean)) {x : Int32} {j : Nat} (hj : j < N) (hN : N < 2 ^ 31) (hnr : vp_nar .boolean x = x) (hdg : decode cc pc = .ok (.bastore, 1))
    (kk : ∀ (H1 : Heap) (locs1 : List Loc), va_P D cl (mW n E (ad, ln, up2 iv q j x, lv)) H1 → va_D A (mW n E (ad, ln, up2 iv q j x, lv)) → va_S A H0 H1 locs1 → W p l e R s m args below meth c H1 locs1 cells slots Q (F0 m (pc + 1) ls rest)) : W p l e R s m args below meth c H locs cells slots Q (F0 m pc ls (.int x :: .int (nI j) :: .ref (ad q) :: rest)) := by
  refine kr_zast hx hb hK hP hD hS q t0 hq hE ht (vp_in_nI hj hN) hnr hdg (fun H1 locs1 h1 h2 h3 => kk H1 locs1 ?_ ?_ h3)
  · rw [nI_clamp (Nat.lt_trans hj hN)] at h1; exact h1
  · rw [nI_clamp (Nat.lt_trans hj hN)] at h2; exact h2
theorem kr_lastN (hx : p.tables.exec = Jvm.exec) (hb : c.code = cc) (hK : va_K D cl tys s) (hP : va_P D cl (mW n E (ad, ln, iv, lv)) H) (hD : va_D A (mW n E (ad, ln, iv, lv))) (hS : va_S A H0 H locs) (q t0 : Nat) (hq : q < n) {cA : ClassId} {N : Nat} (hE : ∀ r, E ad ln (iv q) r q = .inl (cA, N, .inr (.inl r))) (ht : tys[t0]? = some (cA, .long)) {x : Int64} {j : Nat} (hj : j < N) (hN : N < 2 ^ 31) (hdg : decode cc pc = .ok (.lastore, 1))
    (kk : ∀ (H1 : Heap) (locs1 : List Loc), va_P D cl (mW n E (ad, ln, iv, up2L lv q j x)) H1 → va_D A (mW n E (ad, ln, iv, up2L lv q j x)) → va_S A H0 H1 locs1 → W p l e R s m args below meth c H1 locs1 cells slots Q (F0 m (pc + 1) ls rest)) : W p l e R s m args below meth c H locs cells slots Q (F0 m pc ls (.long x :: .int (nI j) :: .ref (ad q) :: rest)) := by
  refine kr_last hx hb hK hP hD hS q t0 hq hE ht (vp_in_nI hj hN) hdg (fun H1 locs1 h1 h2 h3 => kk H1 locs1 ?_ ?_ h3)
  · rw [nI_clamp (Nat.lt_trans hj hN)] at h1; exact h1
  · rw [nI_clamp (Nat.lt_trans hj hN)] at h2; exact h2
/-- the receiver of a call -/
theorem kr_recv (hK : va_K D cl tys s) {M : KM} (hP : va_P D cl (mW n E M) H) (q : Nat) (hq : q < n) {ci : Nat} {fs : List Value} (hE : E M.1 M.2.1 (M.2.2.1 q) (M.2.2.2 q) q = .inr (ci, fs)) {C : vw_C} (hc : cl[ci]? = some C) : ∃ cell : Cell, H[M.1 q]? = some cell ∧ cell.vm.isStatics = false ∧ s.vm.findClass C.1 = some cell.cls :=
  va_recv hK hP (q := C) hc (by rw [mW_get hq, hE])
variable {y : MethodName} {bytes : ByteArray} {maxL nL nn index : Nat} {ret : Option FieldType} {ws : List Cond} {rm : Room} {Ts : List Cond} {own C : String} {b : Nat} {As : List Value} {M M' : KM}
theorem kr_pre (hK : va_K D cl tys s) (hP : va_P D cl (mW n E M) H) (hD : va_D A (mW n E M)) {av : List Value} : PreS s H (va_Pc av (kPre D cl tys n E M H.size)) av :=
  ⟨kBlind, fun U hU hW => ⟨rfl, by rw [hU], by rw [hU]; exact hP, va_K.moved hW.alike hK, hD.weaken (fun _ _ _ _ => trivial)⟩⟩
theorem kr_callVv (S : CallFix p m c cc nL s args Ts own) (hM : kMv l y ws rm D cl tys n E (.ref b :: As) M M') (cw : CallW R s args own C index y bytes maxL ret ws rm rm.cells rm.slots nn) (hrv : ∃ cell : Cell, H[b]? = some cell ∧ cell.vm.isStatics = false ∧ s.vm.findClass C = some cell.cls) (hK : va_K D cl tys s) (hP : va_P D cl (mW n E M) H) (hD : va_D A (mW n E M)) (hS : va_S A H0 H locs) (hA : ∀ q, H0.size ≤ q → A q) (hn : As.length = nn) (hsize : ls.size = nL) (hst : st0 = As.reverse ++ .ref b :: rest) (hW : (rest.map fun v => v.category).sum ≤ 8) (hdg : decode cc pc = .ok (.invokevirtual index, 3)) (hf : cells + rm.cells ≤ R.cells ∧ slots + rm.slots ≤ R.slots)
    (kk : ∀ (H1 : Heap) (locs1 : List Loc), va_P D cl (mW n E M') H1 → va_D A (mW n E M') → va_S A H0 H1 locs1 → W p l e R s m args below meth c H1 locs1 (cells + rm.cells) (slots + rm.slots) Q (F0 m (pc + 3) ls rest)) : W p l e R s m args below meth c H locs cells slots Q (F0 m pc ls st0) := by
  have hF := kFree hD hS hA
  refine va_callv (va_runV (As := As) (rest := rest) S (hM H.size) cw ⟨kBlind, hrv, (kr_pre hK hP hD).2⟩ rfl hn hsize hst (lv_room hW) hdg hf) hS (fun q _ h => hF q h) hF (fun u t H1 locs1 ht hvm hw hB hz1 hk1 hS1 => ?_)
  obtain ⟨hP1, hK1, hD1⟩ := hB
  subst hw
  rw [ht] at hP1
  exact kk H1 locs1 hP1 (hD1.weaken (fun k q _ h => hF q.1 h)) hS1
theorem kr_callVi {rv : Int32} (S : CallFix p m c cc nL s args Ts own) (hM : kMi l y ws rm D cl tys n E (.ref b :: As) M M' rv) (cw : CallW R s args own C index y bytes maxL ret ws rm rm.cells rm.slots nn) (hrv : ∃ cell : Cell, H[b]? = some cell ∧ cell.vm.isStatics = false ∧ s.vm.findClass C = some cell.cls) (hK : va_K D cl tys s) (hP : va_P D cl (mW n E M) H) (hD : va_D A (mW n E M)) (hS : va_S A H0 H locs) (hA : ∀ q, H0.size ≤ q → A q) (hn : As.length = nn) (hsize : ls.size = nL) (hst : st0 = As.reverse ++ .ref b :: rest) (hW : (rest.map fun v => v.category).sum ≤ 8) (hdg : decode cc pc = .ok (.invokevirtual index, 3)) (hf : cells + rm.cells ≤ R.cells ∧ slots + rm.slots ≤ R.slots)
    (kk : ∀ (H1 : Heap) (locs1 : List Loc), va_P D cl (mW n E M') H1 → va_D A (mW n E M') → va_S A H0 H1 locs1 → W p l e R s m args below meth c H1 locs1 (cells + rm.cells) (slots + rm.slots) Q (F0 m (pc + 3) ls (.int rv :: rest))) : W p l e R s m args below meth c H locs cells slots Q (F0 m pc ls st0) := by
  have hF := kFree hD hS hA
  refine va_calli (va_runV (As := As) (rest := rest) S (hM H.size) cw ⟨kBlind, hrv, (kr_pre hK hP hD).2⟩ rfl hn hsize hst (lv_room hW) hdg hf) hS (fun q _ h => hF q h) hF (fun r u t H1 locs1 ht hvm hw hB hz1 hk1 hS1 => ?_)
  obtain ⟨hP1, hK1, hD1⟩ := hB
  obtain ⟨rfl, rfl⟩ := hw
  rw [ht] at hP1
  exact kk H1 locs1 hP1 (hD1.weaken (fun k q _ h => hF q.1 h)) hS1
theorem kr_callVl {rv : Int64} (S : CallFix p m c cc nL s args Ts own) (hM : kMl l y ws rm D cl tys n E (.ref b :: As) M M' rv) (cw : CallW R s args own C index y bytes maxL ret ws rm rm.cells rm.slots nn) (hrv : ∃ cell : Cell, H[b]? = some cell ∧ cell.vm.isStatics = false ∧ s.vm.findClass C = some cell.cls) (hK : va_K D cl tys s) (hP : va_P D cl (mW n E M) H) (hD : va_D A (mW n E M)) (hS : va_S A H0 H locs) (hA : ∀ q, H0.size ≤ q → A q) (hn : As.length = nn) (hsize : ls.size = nL) (hst : st0 = As.reverse ++ .ref b :: rest) (hW : (rest.map fun v => v.category).sum ≤ 8) (hdg : decode cc pc = .ok (.invokevirtual index, 3)) (hf : cells + rm.cells ≤ R.cells ∧ slots + rm.slots ≤ R.slots)
    (kk : ∀ (H1 : Heap) (locs1 : List Loc), va_P D cl (mW n E M') H1 → va_D A (mW n E M') → va_S A H0 H1 locs1 → W p l e R s m args below meth c H1 locs1 (cells + rm.cells) (slots + rm.slots) Q (F0 m (pc + 3) ls (.long rv :: rest))) : W p l e R s m args below meth c H locs cells slots Q (F0 m pc ls st0) := by
  have hF := kFree hD hS hA
  refine va_calll (va_runV (As := As) (rest := rest) S (hM H.size) cw ⟨kBlind, hrv, (kr_pre hK hP hD).2⟩ rfl hn hsize hst (lv_room hW) hdg hf) hS (fun q _ h => hF q h) hF (fun r u t H1 locs1 ht hvm hw hB hz1 hk1 hS1 => ?_)
  obtain ⟨hP1, hK1, hD1⟩ := hB
  obtain ⟨rfl, rfl⟩ := hw
  rw [ht] at hP1
  exact kk H1 locs1 hP1 (hD1.weaken (fun k q _ h => hF q.1 h)) hS1
theorem kr_callVr {rv : Nat} (S : CallFix p m c cc nL s args Ts own) (hM : kMr l y ws rm D cl tys n E (.ref b :: As) M M' rv) (cw : CallW R s args own C index y bytes maxL ret ws rm rm.cells rm.slots nn) (hrv : ∃ cell : Cell, H[b]? = some cell ∧ cell.vm.isStatics = false ∧ s.vm.findClass C = some cell.cls) (hK : va_K D cl tys s) (hP : va_P D cl (mW n E M) H) (hD : va_D A (mW n E M)) (hS : va_S A H0 H locs) (hA : ∀ q, H0.size ≤ q → A q) (hn : As.length = nn) (hsize : ls.size = nL) (hst : st0 = As.reverse ++ .ref b :: rest) (hW : (rest.map fun v => v.category).sum ≤ 8) (hdg : decode cc pc = .ok (.invokevirtual index, 3)) (hf : cells + rm.cells ≤ R.cells ∧ slots + rm.slots ≤ R.slots)
    (kk : ∀ (H1 : Heap) (locs1 : List Loc), va_P D cl (mW n E M') H1 → va_D A (mW n E M') → va_S A H0 H1 locs1 → W p l e R s m args below meth c H1 locs1 (cells + rm.cells) (slots + rm.slots) Q (F0 m (pc + 3) ls (.ref rv :: rest))) : W p l e R s m args below meth c H locs cells slots Q (F0 m pc ls st0) := by
  have hF := kFree hD hS hA
  refine va_callr (va_runV (As := As) (rest := rest) S (hM H.size) cw ⟨kBlind, hrv, (kr_pre hK hP hD).2⟩ rfl hn hsize hst (lv_room hW) hdg hf) hS (fun q _ h => hF q h) hF (fun u a t H1 locs1 ht hvm hw hB hz1 hk1 hS1 => ?_)
  obtain ⟨ha, hP1, hK1, hD1⟩ := hB
  subst hw
  subst ha
  rw [ht] at hP1
  exact kk H1 locs1 hP1 (hD1.weaken (fun k q _ h => hF q.1 h)) hS1
theorem kr_callSi {rv : Int32} (S : CallFix p m c cc nL s args Ts own) (hM : kMi l y ws rm D cl tys n E As M M' rv) (cw : CallB R s args own index y bytes maxL ret ws rm rm.cells rm.slots nn ∧ (Cond.static y).before args s = true) (hK : va_K D cl tys s) (hP : va_P D cl (mW n E M) H) (hD : va_D A (mW n E M)) (hS : va_S A H0 H locs) (hA : ∀ q, H0.size ≤ q → A q) (hn : As.length = nn) (hsize : ls.size = nL) (hst : st0 = As.reverse ++ rest) (hW : (rest.map fun v => v.category).sum ≤ 8) (hdg : decode cc pc = .ok (.invokestatic index, 3)) (hf : cells + rm.cells ≤ R.cells ∧ slots + rm.slots ≤ R.slots)
    (kk : ∀ (H1 : Heap) (locs1 : List Loc), va_P D cl (mW n E M') H1 → va_D A (mW n E M') → va_S A H0 H1 locs1 → W p l e R s m args below meth c H1 locs1 (cells + rm.cells) (slots + rm.slots) Q (F0 m (pc + 3) ls (.int rv :: rest))) : W p l e R s m args below meth c H locs cells slots Q (F0 m pc ls st0) := by
  have hF := kFree hD hS hA
  refine va_calli (va_runS (As := As) (rest := rest) S (hM H.size) cw (kr_pre hK hP hD) rfl hn hsize hst (lv_room hW) hdg hf) hS (fun q _ h => hF q h) hF (fun r u t H1 locs1 ht hvm hw hB hz1 hk1 hS1 => ?_)
  obtain ⟨hP1, hK1, hD1⟩ := hB
  obtain ⟨rfl, rfl⟩ := hw
  rw [ht] at hP1
  exact kk H1 locs1 hP1 (hD1.weaken (fun k q _ h => hF q.1 h)) hS1
/-- the ends -/
theorem kr_vret (hx : p.tables.exec = Jvm.exec) (hb : c.code = cc) (hr : meth.sig.returnType = none) (hlocks : meth.locks = false) (hK : va_K D cl tys s) (hP : va_P D cl (mW n E M) H) (hD : va_D A (mW n E M)) (hS : va_S A s.heap H locs) (hM : M = M') (hdg : decode cc pc = .ok (.return_, 1)) : W p l e R s m args below meth c H locs cells slots (MQ below (va_Qv (fun u : KM => u = M') (kAt D cl tys n E A) A) args s cells slots A) (F0 m pc ls []) := by
  subst hM
  exact W.vret hx hb hr (fun t ht hW => ⟨⟨M, rfl, rfl, by rw [ht]; exact hP, va_K.moved hW.alike hK, hD⟩, hS.F ht⟩) hS.2.2 hdg
theorem kr_iret {v rv : Int32} (hx : p.tables.exec = Jvm.exec) (hb : c.code = cc) (hr : meth.sig.returnType = some .int) (hlocks : meth.locks = false) (hK : va_K D cl tys s) (hP : va_P D cl (mW n E M) H) (hD : va_D A (mW n E M)) (hS : va_S A s.heap H locs) (hv : v = rv) (hM : M = M') (hdg : decode cc pc = .ok (.ireturn, 1)) : W p l e R s m args below meth c H locs cells slots (MQ below (va_Qi (fun (r : Int32) (u : KM) => r = rv ∧ u = M') (kAt D cl tys n E A) A) args s cells slots A) (F0 m pc ls [.int v]) := by
  subst hM
  exact W.iret hx hb hr (fun t ht hW => ⟨⟨v, M, rfl, ⟨hv, rfl⟩, by rw [ht]; exact hP, va_K.moved hW.alike hK, hD⟩, hS.F ht⟩) hS.2.2 hdg
theorem kr_zret {v rv : Int32} (hx : p.tables.exec = Jvm.exec) (hb : c.code = cc) (hr : meth.sig.returnType = some .boolean) (hlocks : meth.locks = false) (hK : va_K D cl tys s) (hP : va_P D cl (mW n E M) H) (hD : va_D A (mW n E M)) (hS : va_S A s.heap H locs) (hnr : narrow .boolean (.int v) = .int v) (hv : v = rv) (hM : M = M') (hdg : decode cc pc = .ok (.ireturn, 1)) : W p l e R s m args below meth c H locs cells slots (MQ below (va_Qi (fun (r : Int32) (u : KM) => r = rv ∧ u = M') (kAt D cl tys n E A) A) args s cells slots A) (F0 m pc ls [.int v]) := by
  subst hM
  exact W.zret hx hb hr hnr (fun t ht hW => ⟨⟨v, M, rfl, ⟨hv, rfl⟩, by rw [ht]; exact hP, va_K.moved hW.alike hK, hD⟩, hS.F ht⟩) hS.2.2 hdg
theorem kr_lret {v rv : Int64} (hx : p.tables.exec = Jvm.exec) (hb : c.code = cc) (hr : meth.sig.returnType = some .long) (hlocks : meth.locks = false) (hK : va_K D cl tys s) (hP : va_P D cl (mW n E M) H) (hD : va_D A (mW n E M)) (hS : va_S A s.heap H locs) (hv : v = rv) (hM : M = M') (hdg : decode cc pc = .ok (.lreturn, 1)) : W p l e R s m args below meth c H locs cells slots (MQ below (va_Ql (fun (r : Int64) (u : KM) => r = rv ∧ u = M') (kAt D cl tys n E A) A) args s cells slots A) (F0 m pc ls [.long v]) := by
  subst hM
  exact W.lret hx hb hr (fun t ht hW => ⟨⟨v, M, rfl, ⟨hv, rfl⟩, by rw [ht]; exact hP, va_K.moved hW.alike hK, hD⟩, hS.F ht⟩) hS.2.2 hdg
theorem kr_aret {v rv : Nat} {rt : String} (hx : p.tables.exec = Jvm.exec) (hb : c.code = cc) (hr : meth.sig.returnType = some (.object rt)) (hlocks : meth.locks = false) (hK : va_K D cl tys s) (hP : va_P D cl (mW n E M) H) (hD : va_D A (mW n E M)) (hS : va_S A s.heap H locs) (hv : v = rv) (hM : M = M') (hdg : decode cc pc = .ok (.areturn, 1)) : W p l e R s m args below meth c H locs cells slots (MQ below (va_Qr (fun u : KM => u = M') (fun u a t => a = rv ∧ kAt D cl tys n E A u t) A) args s cells slots A) (F0 m pc ls [.ref v]) := by
  subst hM
  exact W.aret hx hb hr (Or.inl ⟨_, rfl⟩) (Or.inr ⟨_, rfl⟩) (fun t ht hW => ⟨⟨M, v, rfl, rfl, hv, by rw [ht]; exact hP, va_K.moved hW.alike hK, hD⟩, hS.F ht⟩) hS.2.2 hdg
end KR
-- the beginnings: a contract out of the walk of the method body
section KS
variable {l : Launch} {y : MethodName} {ws ws' : List Cond} {rm : Room} {D : va_G} {cl : List vw_C} {tys : List (ClassId × FieldType)} {n : Nat} {E : KE} {av : List Value} {M M' : KM} {cc : ByteArray} {maxL : Nat} {ret : Option FieldType}
def kBody (l : Launch) (y : MethodName) (ws : List Cond) (rm : Room) (D : va_G) (cl : List vw_C) (tys : List (ClassId × FieldType)) (n : Nat) (E : KE) (av : List Value) (M : KM) (cc : ByteArray) (maxL : Nat) (ret : Option FieldType) (Qf : (Nat → Prop) → Array Value → State → Outcome → State → Prop) : Prop :=
  ∀ (p : Program) (e : Env) (s : State) (m : MethodId) (below : List Frame) (meth : Method) (c : Code) (A : Nat → Prop) (ls : Array Slot), p.tables.exec = Jvm.exec → c.code = cc → meth.sig.returnType = ret → (∀ w ∈ ws, w.before av.toArray s = true) → s.vm.findClass y.cls = some m.cls → meth.locks = false → c.maxLocals = maxL → (∀ q : Nat, s.heap.size ≤ q → A q) → va_K D cl tys s → va_P D cl (mW n E M) s.heap → va_D A (mW n E M) → va_S A s.heap s.heap [] → lv_has ls maxL (lv_args 0 av) →
    W p l e rm s m av.toArray below meth c s.heap [] 0 0 (MQ below (Qf A) av.toArray s rm.cells rm.slots A) (F0 m 0 ls [])
theorem kBody.met {Qf : (Nat → Prop) → Array Value → State → Outcome → State → Prop} (hy : plainName y.cls = true) (hw : ws = Cond.code y cc maxL ret :: ws') (hlen : (lg_sl av).length ≤ maxL) (h : kBody l y ws rm D cl tys n E av M cc maxL ret Qf) (sz : Nat) : Met l y ws rm (va_Pc av (kPre D cl tys n E M sz)) (Qf (va_A (mW n E M) sz)) rm.cells rm.slots (va_A (mW n E M) sz) := by
  refine Met.ofW (cc := cc) (maxL := maxL) (ret := ret) hy hw ?_
  intro p e s m args below meth c s₁ B hml hv
  obtain ⟨rfl, hsz, hP, hK, hD0⟩ := hv
  have hts := atoms_spec (ws := ws) B.pre
  have hown : s.vm.findClass y.cls = some m.cls := findClass_of_methodNamed B.named
  have hl := lv_entry av (n := maxL) hlen
  subst hsz
  rw [lg_entry_eq]
  exact h p e s m below meth c _ _ B.exec B.bytes B.returns hts hown B.notSynchronized hml (fun q h => Or.inr h) hK hP hD0.self va_S.rf hl
theorem kv_start (hy : plainName y.cls = true) (hw : ws = Cond.code y cc maxL none :: ws') (hlen : (lg_sl av).length ≤ maxL) (h : kBody l y ws rm D cl tys n E av M cc maxL none (fun A => va_Qv (fun u : KM => u = M') (kAt D cl tys n E A) A)) : kMv l y ws rm D cl tys n E av M M' := fun sz => h.met hy hw hlen sz
theorem ki_start {rv : Int32} (hy : plainName y.cls = true) (hw : ws = Cond.code y cc maxL ret :: ws') (hlen : (lg_sl av).length ≤ maxL) (h : kBody l y ws rm D cl tys n E av M cc maxL ret (fun A => va_Qi (fun (r : Int32) (u : KM) => r = rv ∧ u = M') (kAt D cl tys n E A) A)) : kMi l y ws rm D cl tys n E av M M' rv := fun sz => h.met hy hw hlen sz
theorem kl_start {rv : Int64} (hy : plainName y.cls = true) (hw : ws = Cond.code y cc maxL ret :: ws') (hlen : (lg_sl av).length ≤ maxL) (h : kBody l y ws rm D cl tys n E av M cc maxL ret (fun A => va_Ql (fun (r : Int64) (u : KM) => r = rv ∧ u = M') (kAt D cl tys n E A) A)) : kMl l y ws rm D cl tys n E av M M' rv := fun sz => h.met hy hw hlen sz
theorem kr_start {rv : Nat} (hy : plainName y.cls = true) (hw : ws = Cond.code y cc maxL ret :: ws') (hlen : (lg_sl av).length ≤ maxL) (h : kBody l y ws rm D cl tys n E av M cc maxL ret (fun A => va_Qr (fun u : KM => u = M') (fun u a t => a = rv ∧ kAt D cl tys n E A u t) A)) : kMr l y ws rm D cl tys n E av M M' rv := fun sz => h.met hy hw hlen sz
end KS
end
section
/-! THE CLASS'S CELLS: 0 the object, 1 programs, 2.. Program, 6.. actions, 10.. operands, 14.. Machine (0 the present one, 1 the search's), 16.. workers, 18.. monitors, 20.. Worker, 28.. Monitor, 32.. set, 36 Search, 37 blocked, 38 States, 39 words, 40 slots, 41 outcomes. gc: the array classes int, boolean, long, Program, Worker, Monitor -/
def kE (gc : Nat → ClassId) : KE := fun ad ln r lr c => match c with
  | 0 => .inr (6, [.ref (ad (1)), .ref (ad (14)), .ref (ad (36)), .int (r 3)])
  | 1 => .inl (gc 3, 4, .inr (.inr (.inr (.inr (fun k => some (ad (2 + k)))))))
  | 2 => .inr (2, [.ref (ad (6)), .ref (ad (10)), .int (r 2)])
  | 3 => .inr (2, [.ref (ad (7)), .ref (ad (11)), .int (r 2)])
  | 4 => .inr (2, [.ref (ad (8)), .ref (ad (12)), .int (r 2)])
  | 5 => .inr (2, [.ref (ad (9)), .ref (ad (13)), .int (r 2)])
  | 6 => .inl (gc 0, 6, .inl r)
  | 7 => .inl (gc 0, 6, .inl r)
  | 8 => .inl (gc 0, 6, .inl r)
  | 9 => .inl (gc 0, 6, .inl r)
  | 10 => .inl (gc 0, 6, .inl r)
  | 11 => .inl (gc 0, 6, .inl r)
  | 12 => .inl (gc 0, 6, .inl r)
  | 13 => .inl (gc 0, 6, .inl r)
  | 14 => .inr (0, [.ref (ad (16)), .ref (ad (18)), .int (r 2)])
  | 15 => .inr (0, [.ref (ad (17)), .ref (ad (19)), .int (r 2)])
  | 16 => .inl (gc 4, 4, .inr (.inr (.inr (.inr (fun k => some (ad (20 + 4 * 0 + k)))))))
  | 17 => .inl (gc 4, 4, .inr (.inr (.inr (.inr (fun k => some (ad (20 + 4 * 1 + k)))))))
  | 18 => .inl (gc 5, 2, .inr (.inr (.inr (.inr (fun k => some (ad (28 + 2 * 0 + k)))))))
  | 19 => .inl (gc 5, 2, .inr (.inr (.inr (.inr (fun k => some (ad (28 + 2 * 1 + k)))))))
  | 20 => .inr (5, [.int (r 0), .int (r 1), .int (r 2), .int (r 3), .int (r 4), .int (r 5), .ref (ad (2)), .int (r 7)])
  | 21 => .inr (5, [.int (r 0), .int (r 1), .int (r 2), .int (r 3), .int (r 4), .int (r 5), .ref (ad (3)), .int (r 7)])
  | 22 => .inr (5, [.int (r 0), .int (r 1), .int (r 2), .int (r 3), .int (r 4), .int (r 5), .ref (ad (4)), .int (r 7)])
  | 23 => .inr (5, [.int (r 0), .int (r 1), .int (r 2), .int (r 3), .int (r 4), .int (r 5), .ref (ad (5)), .int (r 7)])
  | 24 => .inr (5, [.int (r 0), .int (r 1), .int (r 2), .int (r 3), .int (r 4), .int (r 5), .ref (ad (2)), .int (r 7)])
  | 25 => .inr (5, [.int (r 0), .int (r 1), .int (r 2), .int (r 3), .int (r 4), .int (r 5), .ref (ad (3)), .int (r 7)])
  | 26 => .inr (5, [.int (r 0), .int (r 1), .int (r 2), .int (r 3), .int (r 4), .int (r 5), .ref (ad (4)), .int (r 7)])
  | 27 => .inr (5, [.int (r 0), .int (r 1), .int (r 2), .int (r 3), .int (r 4), .int (r 5), .ref (ad (5)), .int (r 7)])
  | 28 => .inr (1, [.int (r 0), .int (r 1), .int (r 2), .ref (ad (32))])
  | 29 => .inr (1, [.int (r 0), .int (r 1), .int (r 2), .ref (ad (33))])
  | 30 => .inr (1, [.int (r 0), .int (r 1), .int (r 2), .ref (ad (34))])
  | 31 => .inr (1, [.int (r 0), .int (r 1), .int (r 2), .ref (ad (35))])
  | 32 => .inl (gc 0, 4, .inl r)
  | 33 => .inl (gc 0, 4, .inl r)
  | 34 => .inl (gc 0, 4, .inl r)
  | 35 => .inl (gc 0, 4, .inl r)
  | 36 => .inr (3, [.ref (ad (37)), .int (r 1), .int (r 2), .int (r 3), .int (r 4), .int (r 5), .int (r 6), .ref (ad (15)), .ref (ad (38)), .ref (ad (41)), .int (r 10)])
  | 37 => .inl (gc 1, 4, .inl r)
  | 38 => .inr (4, [.int (r 0), .ref (ad (39)), .ref (ad (40))])
  | 39 => .inl (gc 2, ln 39, .inr (.inl lr))
  | 40 => .inl (gc 0, ln 40, .inl r)
  | _ => .inl (gc 2, ln 41, .inr (.inl lr))
def kT (gc : Nat → ClassId) : List (ClassId × FieldType) := [(gc 0, .int), (gc 1, .boolean), (gc 2, .long), (gc 3, .object "MonitorWays$Program"), (gc 4, .object "MonitorWays$Worker"), (gc 5, .object "MonitorWays$Monitor")]
theorem E_main {gc : Nat → ClassId} (ad ln : Nat → Nat) (r : Nat → Int32) (lr : Nat → Int64) : kE gc ad ln r lr 0 = .inr (6, [.ref (ad (1)), .ref (ad (14)), .ref (ad (36)), .int (r 3)]) := rfl
theorem E_pa {gc : Nat → ClassId} (ad ln : Nat → Nat) (r : Nat → Int32) (lr : Nat → Int64) : kE gc ad ln r lr 1 = .inl (gc 3, 4, .inr (.inr (.inr (.inr (fun k => some (ad (2 + k))))))) := rfl
theorem E_srch {gc : Nat → ClassId} (ad ln : Nat → Nat) (r : Nat → Int32) (lr : Nat → Int64) : kE gc ad ln r lr 36 = .inr (3, [.ref (ad (37)), .int (r 1), .int (r 2), .int (r 3), .int (r 4), .int (r 5), .int (r 6), .ref (ad (15)), .ref (ad (38)), .ref (ad (41)), .int (r 10)]) := rfl
theorem E_blk {gc : Nat → ClassId} (ad ln : Nat → Nat) (r : Nat → Int32) (lr : Nat → Int64) : kE gc ad ln r lr 37 = .inl (gc 1, 4, .inl r) := rfl
theorem E_sts {gc : Nat → ClassId} (ad ln : Nat → Nat) (r : Nat → Int32) (lr : Nat → Int64) : kE gc ad ln r lr 38 = .inr (4, [.int (r 0), .ref (ad (39)), .ref (ad (40))]) := rfl
theorem E_words {gc : Nat → ClassId} (ad ln : Nat → Nat) (r : Nat → Int32) (lr : Nat → Int64) : kE gc ad ln r lr 39 = .inl (gc 2, ln 39, .inr (.inl lr)) := rfl
theorem E_slots {gc : Nat → ClassId} (ad ln : Nat → Nat) (r : Nat → Int32) (lr : Nat → Int64) : kE gc ad ln r lr 40 = .inl (gc 0, ln 40, .inl r) := rfl
theorem E_outs {gc : Nat → ClassId} (ad ln : Nat → Nat) (r : Nat → Int32) (lr : Nat → Int64) : kE gc ad ln r lr 41 = .inl (gc 2, ln 41, .inr (.inl lr)) := rfl
theorem E_prog {gc : Nat → ClassId} {t : Nat} (ht : t < 4) (ad ln : Nat → Nat) (r : Nat → Int32) (lr : Nat → Int64) : kE gc ad ln r lr (2 + t) = .inr (2, [.ref (ad (6 + t)), .ref (ad (10 + t)), .int (r 2)]) := by
  rcases (show t = 0 ∨ t = 1 ∨ t = 2 ∨ t = 3 by omega) with rfl | rfl | rfl | rfl <;> rfl
theorem E_acts {gc : Nat → ClassId} {t : Nat} (ht : t < 4) (ad ln : Nat → Nat) (r : Nat → Int32) (lr : Nat → Int64) : kE gc ad ln r lr (6 + t) = .inl (gc 0, 6, .inl r) := by
  rcases (show t = 0 ∨ t = 1 ∨ t = 2 ∨ t = 3 by omega) with rfl | rfl | rfl | rfl <;> rfl
theorem E_opds {gc : Nat → ClassId} {t : Nat} (ht : t < 4) (ad ln : Nat → Nat) (r : Nat → Int32) (lr : Nat → Int64) : kE gc ad ln r lr (10 + t) = .inl (gc 0, 6, .inl r) := by
  rcases (show t = 0 ∨ t = 1 ∨ t = 2 ∨ t = 3 by omega) with rfl | rfl | rfl | rfl <;> rfl
theorem E_mach {gc : Nat → ClassId} {mi : Nat} (hmi : mi < 2) (ad ln : Nat → Nat) (r : Nat → Int32) (lr : Nat → Int64) : kE gc ad ln r lr (14 + mi) = .inr (0, [.ref (ad (16 + mi)), .ref (ad (18 + mi)), .int (r 2)]) := by
  rcases (show mi = 0 ∨ mi = 1 by omega) with rfl | rfl <;> rfl
theorem E_warr {gc : Nat → ClassId} {mi : Nat} (hmi : mi < 2) (ad ln : Nat → Nat) (r : Nat → Int32) (lr : Nat → Int64) : kE gc ad ln r lr (16 + mi) = .inl (gc 4, 4, .inr (.inr (.inr (.inr (fun k => some (ad (20 + 4 * mi + k))))))) := by
  rcases (show mi = 0 ∨ mi = 1 by omega) with rfl | rfl <;> rfl
theorem E_marr {gc : Nat → ClassId} {mi : Nat} (hmi : mi < 2) (ad ln : Nat → Nat) (r : Nat → Int32) (lr : Nat → Int64) : kE gc ad ln r lr (18 + mi) = .inl (gc 5, 2, .inr (.inr (.inr (.inr (fun k => some (ad (28 + 2 * mi + k))))))) := by
  rcases (show mi = 0 ∨ mi = 1 by omega) with rfl | rfl <;> rfl
theorem E_wk {gc : Nat → ClassId} {mi t : Nat} (hmi : mi < 2) (ht : t < 4) (ad ln : Nat → Nat) (r : Nat → Int32) (lr : Nat → Int64) : kE gc ad ln r lr (20 + 4 * mi + t) = .inr (5, [.int (r 0), .int (r 1), .int (r 2), .int (r 3), .int (r 4), .int (r 5), .ref (ad (2 + t)), .int (r 7)]) := by
  rcases (show mi = 0 ∨ mi = 1 by omega) with rfl | rfl <;> (rcases (show t = 0 ∨ t = 1 ∨ t = 2 ∨ t = 3 by omega) with rfl | rfl | rfl | rfl <;> rfl)
theorem E_mon {gc : Nat → ClassId} {mi m : Nat} (hmi : mi < 2) (hm : m < 2) (ad ln : Nat → Nat) (r : Nat → Int32) (lr : Nat → Int64) : kE gc ad ln r lr (28 + 2 * mi + m) = .inr (1, [.int (r 0), .int (r 1), .int (r 2), .ref (ad (32 + 2 * mi + m))]) := by
  rcases (show mi = 0 ∨ mi = 1 by omega) with rfl | rfl <;> (rcases (show m = 0 ∨ m = 1 by omega) with rfl | rfl <;> rfl)
theorem E_mset {gc : Nat → ClassId} {mi m : Nat} (hmi : mi < 2) (hm : m < 2) (ad ln : Nat → Nat) (r : Nat → Int32) (lr : Nat → Int64) : kE gc ad ln r lr (32 + 2 * mi + m) = .inl (gc 0, 4, .inl r) := by
  rcases (show mi = 0 ∨ mi = 1 by omega) with rfl | rfl <;> (rcases (show m = 0 ∨ m = 1 by omega) with rfl | rfl <;> rfl)
theorem sw_gen {x : Int32} {lo hi : Int} (h : ∀ k : Int, lo ≤ k → k ≤ hi → x ≠ Int32.ofInt k) : x.toInt < lo ∨ hi < x.toInt := by
  by_cases h1 : x.toInt < lo
  · exact Or.inl h1
  · by_cases h2 : hi < x.toInt
    · exact Or.inr h2
    · exact absurd (Int32.ofInt_toInt x).symm (h x.toInt (by omega) (by omega))
theorem sw_0_3 {x : Int32} (h0 : ¬ x = 0) (h1 : ¬ x = 1) (h2 : ¬ x = 2) (h3 : ¬ x = 3) : x.toInt < 0 ∨ 3 < x.toInt := by
  refine sw_gen (fun k q1 q2 => ?_)
  rcases (show k = 0 ∨ k = 1 ∨ k = 2 ∨ k = 3 by omega) with rfl | rfl | rfl | rfl
  · exact h0
  · exact h1
  · exact h2
  · exact h3
theorem sw_1_3 {x : Int32} (h1 : ¬ x = 1) (h2 : ¬ x = 2) (h3 : ¬ x = 3) : x.toInt < 1 ∨ 3 < x.toInt := by
  refine sw_gen (fun k q1 q2 => ?_)
  rcases (show k = 1 ∨ k = 2 ∨ k = 3 by omega) with rfl | rfl | rfl
  · exact h1
  · exact h2
  · exact h3
theorem sw_6_12 {x : Int32} (h6 : ¬ x = 6) (h7 : ¬ x = 7) (h8 : ¬ x = 8) (h9 : ¬ x = 9) (h10 : ¬ x = 10) (h11 : ¬ x = 11) (h12 : ¬ x = 12) : x.toInt < 6 ∨ 12 < x.toInt := by
  refine sw_gen (fun k q1 q2 => ?_)
  rcases (show k = 6 ∨ k = 7 ∨ k = 8 ∨ k = 9 ∨ k = 10 ∨ k = 11 ∨ k = 12 by omega) with rfl | rfl | rfl | rfl | rfl | rfl | rfl
  · exact h6
  · exact h7
  · exact h8
  · exact h9
  · exact h10
  · exact h11
  · exact h12
theorem sw_0_4 {x : Int32} (h0 : ¬ x = 0) (h1 : ¬ x = 1) (h2 : ¬ x = 2) (h3 : ¬ x = 3) (h4 : ¬ x = 4) : x.toInt < 0 ∨ 4 < x.toInt := by
  refine sw_gen (fun k q1 q2 => ?_)
  rcases (show k = 0 ∨ k = 1 ∨ k = 2 ∨ k = 3 ∨ k = 4 by omega) with rfl | rfl | rfl | rfl | rfl
  · exact h0
  · exact h1
  · exact h2
  · exact h3
  · exact h4
theorem lt_of_nle {a b : Nat} (ha : a < 2 ^ 31) (hb : b < 2 ^ 31) (h : ¬ nI a ≤ nI b) : b < a := by
  rcases Nat.lt_or_ge b a with h1 | h1
  · exact h1
  · exact absurd ((nI_leI ha hb).mpr h1) h
theorem in4_of {k s : Int32} {sz : Nat} (h1 : ¬ k < 0) (h2 : ¬ s ≤ k) (hsz : s = nI sz) (h4 : sz ≤ 4) : vp_in k 4 := by
  subst hsz
  rw [vp_in_iff]
  rw [Int32.lt_iff_toInt_lt] at h1
  rw [Int32.le_iff_toInt_le, nI_toInt (by omega)] at h2
  have h0 : (0 : Int32).toInt = 0 := rfl
  rw [h0] at h1
  omega
theorem nb_ite {c : Prop} [Decidable c] {a b : Int32} (ha : narrow .boolean (.int a) = .int a) (hb : narrow .boolean (.int b) = .int b) : narrow .boolean (.int (if c then a else b)) = .int (if c then a else b) := by
  split
  · exact ha
  · exact hb
theorem fb_ite {c : Prop} [Decidable c] {a b : Int32} (ha : fits .boolean (.int a) = true) (hb : fits .boolean (.int b) = true) : fits .boolean (.int (if c then a else b)) = true := by
  split
  · exact ha
  · exact hb
end
section
def m_wBegin (iv : Nat → Nat → Int32) (mi t : Nat) : Nat → Nat → Int32 := (up2 (up2 (up2 (up2 (up2 (up2 (up2 iv (20 + 4 * mi + t) 1 0) (20 + 4 * mi + t) 0 (if (up2 iv (20 + 4 * mi + t) 1 0) (2 + t) 2 ≤ 0 then (4 : Int32) else 0)) (20 + 4 * mi + t) 2 0) (20 + 4 * mi + t) 3 0) (20 + 4 * mi + t) 4 0) (20 + 4 * mi + t) 5 0) (20 + 4 * mi + t) 7 1)
set_option maxHeartbeats 4000000 in
set_option maxRecDepth 100000 in
theorem c_wBegin (l : Launch) (D : va_G) (gc : Nat → ClassId) (ad ln : Nat → Nat) (iv : Nat → Nat → Int32) (lv : Nat → Nat → Int64) (mi t : Nat) (hmi : mi < 2) (ht : t < 4) : kMv l yX5_begin wX5_begin ({ frames := 0, cells := 0, slots := 0, locals := 0 }) D vwCl (kT gc) 42 (kE gc) [.ref (ad (20 + 4 * mi + t))] (ad, ln, iv, lv) (ad, ln, m_wBegin iv mi t, lv) := by
  refine kv_start (cc := cX5_begin) (maxL := 1) (by decide) rfl (Nat.le_of_ble_eq_true rfl) ?_
  intro p9 e9 s m9 below meth c9 A ls hx hb hr hts hown hlocks hml hA hK hP hD hS hl
  have hl : lv_has ls 1 [(0, .ref (ad (20 + 4 * mi + t)))] := hl
  have hown : s.vm.findClass "MonitorWays$Worker" = some m9.cls := hown
  have hin_X5 : ∀ w ∈ u_ws "MonitorWays$Worker" TX5 8, w ∈ wX5_begin := fun w h => tcons (inX5 w h)
  have hin_X2 : ∀ w ∈ u_ws "MonitorWays$Program" TX2 3, w ∈ wX5_begin := fun w h => tcons (inX2 w h)
  have lk_f15 := hts _ (tcons tw_59)
  have lk_f9 := hts _ (tcons tw_68)
  have lk_f19 := hts _ (tcons tw_32)
  have lk_f24 := hts _ (tcons tw_57)
  have lk_f27 := hts _ (tcons tw_60)
  have lk_f30 := hts _ (tcons tw_62)
  have lk_f34 := hts _ (tcons tw_64)
  have lk_f37 := hts _ (tcons tw_66)
  have lk_f40 := hts _ (tcons tw_69)
  refine lv_aload_n hx hb dX5_begin_0 rfl (lv_at hl 0 rfl) ?_
  refine lv_iconst (v := 0) hx hb dX5_begin_1 (by decide) ?_
  refine kr_put (C := "MonitorWays$Worker") (T := TX5) (N := 8) hx hb hts hin_X5 tyX5 ok_tyX5 ok_nX5 hown hK hP hD hS (20 + 4 * mi + t) (by omega) (fun _ => E_wk (mi := mi) (t := t) hmi ht _ _ _ _) rfl 1 (by decide) lk_f15 (fun _ h9 => h9) rfl rfl rfl rfl (fun _ => Nat.le_of_ble_eq_true rfl) (fun _ => rfl) dX5_begin_2 (fun H locs hP hD hS => ?_)
  refine lv_aload_n hx hb dX5_begin_5 rfl (lv_at hl 0 rfl) ?_
  refine lv_aload_n hx hb dX5_begin_6 rfl (lv_at hl 0 rfl) ?_
  refine kr_get (C := "MonitorWays$Worker") (T := TX5) (N := 8) hx hb hts hin_X5 hown hK hP (20 + 4 * mi + t) (by omega) (E_wk (mi := mi) (t := t) hmi ht _ _ _ _) rfl 6 (by decide) lk_f9 (fun _ h9 => h9) rfl dX5_begin_7 ?_
  refine kr_get (C := "MonitorWays$Program") (T := TX2) (N := 3) hx hb hts hin_X2 hown hK hP (2 + t) (by omega) (E_prog ht _ _ _ _) rfl 2 (by decide) lk_f19 (fun _ h9 => h9) rfl dX5_begin_10 ?_
  refine kr_tern (M := 21) (cnd := (up2 iv (20 + 4 * mi + t) 1 0) (2 + t) 2 ≤ 0) (a := 4) (b := 0) (rest := [.ref (ad (20 + 4 * mi + t))]) (fun ja jb => ?_) ?_
  · refine lv_if_le (tgt := 20) hx hb dX5_begin_13 (by decide) (fun c_1 => ?_) (fun c_1 => ?_)
    · refine lv_iconst (v := 4) hx hb dX5_begin_20 (by decide) ?_
      exact ja c_1
    · refine lv_iconst (v := 0) hx hb dX5_begin_16 (by decide) ?_
      refine lv_goto (tgt := 21) hx hb dX5_begin_17 (by decide) ?_
      exact jb c_1
  refine kr_put (C := "MonitorWays$Worker") (T := TX5) (N := 8) hx hb hts hin_X5 tyX5 ok_tyX5 ok_nX5 hown hK hP hD hS (20 + 4 * mi + t) (by omega) (fun _ => E_wk (mi := mi) (t := t) hmi ht _ _ _ _) rfl 0 (by decide) lk_f24 (fun _ h9 => h9) rfl rfl rfl rfl (fun _ => Nat.le_of_ble_eq_true rfl) (fun _ => rfl) dX5_begin_21 (fun H locs hP hD hS => ?_)
  refine lv_aload_n hx hb dX5_begin_24 rfl (lv_at hl 0 rfl) ?_
  refine lv_iconst (v := 0) hx hb dX5_begin_25 (by decide) ?_
  refine kr_put (C := "MonitorWays$Worker") (T := TX5) (N := 8) hx hb hts hin_X5 tyX5 ok_tyX5 ok_nX5 hown hK hP hD hS (20 + 4 * mi + t) (by omega) (fun _ => E_wk (mi := mi) (t := t) hmi ht _ _ _ _) rfl 2 (by decide) lk_f27 (fun _ h9 => h9) rfl rfl rfl rfl (fun _ => Nat.le_of_ble_eq_true rfl) (fun _ => rfl) dX5_begin_26 (fun H locs hP hD hS => ?_)
  refine lv_aload_n hx hb dX5_begin_29 rfl (lv_at hl 0 rfl) ?_
  refine lv_iconst (v := 0) hx hb dX5_begin_30 (by decide) ?_
  refine kr_put (C := "MonitorWays$Worker") (T := TX5) (N := 8) hx hb hts hin_X5 tyX5 ok_tyX5 ok_nX5 hown hK hP hD hS (20 + 4 * mi + t) (by omega) (fun _ => E_wk (mi := mi) (t := t) hmi ht _ _ _ _) rfl 3 (by decide) lk_f30 (fun _ h9 => h9) rfl rfl (by decide) (by decide) (fun _ => Nat.le_of_ble_eq_true rfl) (fun _ => rfl) dX5_begin_31 (fun H locs hP hD hS => ?_)
  refine lv_aload_n hx hb dX5_begin_34 rfl (lv_at hl 0 rfl) ?_
  refine lv_iconst (v := 0) hx hb dX5_begin_35 (by decide) ?_
  refine kr_put (C := "MonitorWays$Worker") (T := TX5) (N := 8) hx hb hts hin_X5 tyX5 ok_tyX5 ok_nX5 hown hK hP hD hS (20 + 4 * mi + t) (by omega) (fun _ => E_wk (mi := mi) (t := t) hmi ht _ _ _ _) rfl 4 (by decide) lk_f34 (fun _ h9 => h9) rfl rfl (by decide) (by decide) (fun _ => Nat.le_of_ble_eq_true rfl) (fun _ => rfl) dX5_begin_36 (fun H locs hP hD hS => ?_)
  refine lv_aload_n hx hb dX5_begin_39 rfl (lv_at hl 0 rfl) ?_
  refine lv_iconst (v := 0) hx hb dX5_begin_40 (by decide) ?_
  refine kr_put (C := "MonitorWays$Worker") (T := TX5) (N := 8) hx hb hts hin_X5 tyX5 ok_tyX5 ok_nX5 hown hK hP hD hS (20 + 4 * mi + t) (by omega) (fun _ => E_wk (mi := mi) (t := t) hmi ht _ _ _ _) rfl 5 (by decide) lk_f37 (fun _ h9 => h9) rfl rfl (by decide) (by decide) (fun _ => Nat.le_of_ble_eq_true rfl) (fun _ => rfl) dX5_begin_41 (fun H locs hP hD hS => ?_)
  refine lv_aload_n hx hb dX5_begin_44 rfl (lv_at hl 0 rfl) ?_
  refine lv_iconst (v := 1) hx hb dX5_begin_45 (by decide) ?_
  refine kr_put (C := "MonitorWays$Worker") (T := TX5) (N := 8) hx hb hts hin_X5 tyX5 ok_tyX5 ok_nX5 hown hK hP hD hS (20 + 4 * mi + t) (by omega) (fun _ => E_wk (mi := mi) (t := t) hmi ht _ _ _ _) rfl 7 (by decide) lk_f40 (fun _ h9 => h9) rfl rfl rfl rfl (fun _ => Nat.le_of_ble_eq_true rfl) (fun _ => rfl) dX5_begin_46 (fun H locs hP hD hS => ?_)
  exact kr_vret hx hb hr hlocks hK hP hD hS rfl dX5_begin_49
def m_wRunOn (iv : Nat → Nat → Int32) (mi t : Nat) : Nat → Nat → Int32 := (up2 (up2 iv (20 + 4 * mi + t) 1 ((iv (20 + 4 * mi + t) 1) + 1)) (20 + 4 * mi + t) 0 (if (up2 iv (20 + 4 * mi + t) 1 ((iv (20 + 4 * mi + t) 1) + 1)) (2 + t) 2 ≤ (up2 iv (20 + 4 * mi + t) 1 ((iv (20 + 4 * mi + t) 1) + 1)) (20 + 4 * mi + t) 1 then (4 : Int32) else 0))
set_option maxHeartbeats 4000000 in
set_option maxRecDepth 100000 in
theorem c_wRunOn (l : Launch) (D : va_G) (gc : Nat → ClassId) (ad ln : Nat → Nat) (iv : Nat → Nat → Int32) (lv : Nat → Nat → Int64) (mi t : Nat) (hmi : mi < 2) (ht : t < 4) : kMv l yX5_runOn wX5_runOn ({ frames := 0, cells := 0, slots := 0, locals := 0 }) D vwCl (kT gc) 42 (kE gc) [.ref (ad (20 + 4 * mi + t))] (ad, ln, iv, lv) (ad, ln, m_wRunOn iv mi t, lv) := by
  refine kv_start (cc := cX5_runOn) (maxL := 1) (by decide) rfl (Nat.le_of_ble_eq_true rfl) ?_
  intro p9 e9 s m9 below meth c9 A ls hx hb hr hts hown hlocks hml hA hK hP hD hS hl
  have hl : lv_has ls 1 [(0, .ref (ad (20 + 4 * mi + t)))] := hl
  have hown : s.vm.findClass "MonitorWays$Worker" = some m9.cls := hown
  have hin_X5 : ∀ w ∈ u_ws "MonitorWays$Worker" TX5 8, w ∈ wX5_runOn := fun w h => tcons (inX5 w h)
  have hin_X2 : ∀ w ∈ u_ws "MonitorWays$Program" TX2 3, w ∈ wX5_runOn := fun w h => tcons (inX2 w h)
  have lk_f15 := hts _ (tcons tw_59)
  have lk_f9 := hts _ (tcons tw_68)
  have lk_f19 := hts _ (tcons tw_32)
  have lk_f24 := hts _ (tcons tw_57)
  refine lv_aload_n hx hb dX5_runOn_0 rfl (lv_at hl 0 rfl) ?_
  refine lv_dup hx hb dX5_runOn_1 rfl ?_
  refine kr_get (C := "MonitorWays$Worker") (T := TX5) (N := 8) hx hb hts hin_X5 hown hK hP (20 + 4 * mi + t) (by omega) (E_wk (mi := mi) (t := t) hmi ht _ _ _ _) rfl 1 (by decide) lk_f15 (fun _ h9 => h9) rfl dX5_runOn_2 ?_
  refine lv_iconst (v := 1) hx hb dX5_runOn_5 (by decide) ?_
  refine lv_iadd hx hb dX5_runOn_6 ?_
  refine kr_put (C := "MonitorWays$Worker") (T := TX5) (N := 8) hx hb hts hin_X5 tyX5 ok_tyX5 ok_nX5 hown hK hP hD hS (20 + 4 * mi + t) (by omega) (fun _ => E_wk (mi := mi) (t := t) hmi ht _ _ _ _) rfl 1 (by decide) lk_f15 (fun _ h9 => h9) rfl rfl rfl rfl (fun _ => Nat.le_of_ble_eq_true rfl) (fun _ => rfl) dX5_runOn_7 (fun H locs hP hD hS => ?_)
  refine lv_aload_n hx hb dX5_runOn_10 rfl (lv_at hl 0 rfl) ?_
  refine lv_aload_n hx hb dX5_runOn_11 rfl (lv_at hl 0 rfl) ?_
  refine kr_get (C := "MonitorWays$Worker") (T := TX5) (N := 8) hx hb hts hin_X5 hown hK hP (20 + 4 * mi + t) (by omega) (E_wk (mi := mi) (t := t) hmi ht _ _ _ _) rfl 1 (by decide) lk_f15 (fun _ h9 => h9) rfl dX5_runOn_12 ?_
  refine lv_aload_n hx hb dX5_runOn_15 rfl (lv_at hl 0 rfl) ?_
  refine kr_get (C := "MonitorWays$Worker") (T := TX5) (N := 8) hx hb hts hin_X5 hown hK hP (20 + 4 * mi + t) (by omega) (E_wk (mi := mi) (t := t) hmi ht _ _ _ _) rfl 6 (by decide) lk_f9 (fun _ h9 => h9) rfl dX5_runOn_16 ?_
  refine kr_get (C := "MonitorWays$Program") (T := TX2) (N := 3) hx hb hts hin_X2 hown hK hP (2 + t) (by omega) (E_prog ht _ _ _ _) rfl 2 (by decide) lk_f19 (fun _ h9 => h9) rfl dX5_runOn_19 ?_
  refine kr_tern (M := 30) (cnd := (up2 iv (20 + 4 * mi + t) 1 ((iv (20 + 4 * mi + t) 1) + 1)) (2 + t) 2 ≤ (up2 iv (20 + 4 * mi + t) 1 ((iv (20 + 4 * mi + t) 1) + 1)) (20 + 4 * mi + t) 1) (a := 4) (b := 0) (rest := [.ref (ad (20 + 4 * mi + t))]) (fun ja jb => ?_) ?_
  · refine lv_icmp_ge (tgt := 29) hx hb dX5_runOn_22 (by decide) (fun c_1 => ?_) (fun c_1 => ?_)
    · refine lv_iconst (v := 4) hx hb dX5_runOn_29 (by decide) ?_
      exact ja c_1
    · refine lv_iconst (v := 0) hx hb dX5_runOn_25 (by decide) ?_
      refine lv_goto (tgt := 30) hx hb dX5_runOn_26 (by decide) ?_
      exact jb c_1
  refine kr_put (C := "MonitorWays$Worker") (T := TX5) (N := 8) hx hb hts hin_X5 tyX5 ok_tyX5 ok_nX5 hown hK hP hD hS (20 + 4 * mi + t) (by omega) (fun _ => E_wk (mi := mi) (t := t) hmi ht _ _ _ _) rfl 0 (by decide) lk_f24 (fun _ h9 => h9) rfl rfl rfl rfl (fun _ => Nat.le_of_ble_eq_true rfl) (fun _ => rfl) dX5_runOn_30 (fun H locs hP hD hS => ?_)
  exact kr_vret hx hb hr hlocks hK hP hD hS rfl dX5_runOn_33
def r_wAction (iv : Nat → Nat → Int32) (mi t : Nat) : Int32 := iv (6 + t) (iv (20 + 4 * mi + t) 1).toNatClampNeg
set_option maxHeartbeats 4000000 in
set_option maxRecDepth 100000 in
theorem c_wAction (l : Launch) (D : va_G) (gc : Nat → ClassId) (ad ln : Nat → Nat) (iv : Nat → Nat → Int32) (lv : Nat → Nat → Int64) (mi t : Nat) (hmi : mi < 2) (ht : t < 4) (hpl : vp_in (iv (20 + 4 * mi + t) 1) 6) : kMi l yX5_action wX5_action ({ frames := 0, cells := 0, slots := 0, locals := 0 }) D vwCl (kT gc) 42 (kE gc) [.ref (ad (20 + 4 * mi + t))] (ad, ln, iv, lv) (ad, ln, iv, lv) (r_wAction iv mi t) := by
  refine ki_start (cc := cX5_action) (maxL := 1) (ret := (some .int)) (by decide) rfl (Nat.le_of_ble_eq_true rfl) ?_
  intro p9 e9 s m9 below meth c9 A ls hx hb hr hts hown hlocks hml hA hK hP hD hS hl
  have hl : lv_has ls 1 [(0, .ref (ad (20 + 4 * mi + t)))] := hl
  have hown : s.vm.findClass "MonitorWays$Worker" = some m9.cls := hown
  have hin_X5 : ∀ w ∈ u_ws "MonitorWays$Worker" TX5 8, w ∈ wX5_action := fun w h => tcons (inX5 w h)
  have hin_X2 : ∀ w ∈ u_ws "MonitorWays$Program" TX2 3, w ∈ wX5_action := fun w h => tcons (inX2 w h)
  have lk_f9 := hts _ (tcons tw_68)
  have lk_f43 := hts _ (tcons tw_28)
  have lk_f15 := hts _ (tcons tw_59)
  refine lv_aload_n hx hb dX5_action_0 rfl (lv_at hl 0 rfl) ?_
  refine kr_get (C := "MonitorWays$Worker") (T := TX5) (N := 8) hx hb hts hin_X5 hown hK hP (20 + 4 * mi + t) (by omega) (E_wk (mi := mi) (t := t) hmi ht _ _ _ _) rfl 6 (by decide) lk_f9 (fun _ h9 => h9) rfl dX5_action_1 ?_
  refine kr_get (C := "MonitorWays$Program") (T := TX2) (N := 3) hx hb hts hin_X2 hown hK hP (2 + t) (by omega) (E_prog ht _ _ _ _) rfl 0 (by decide) lk_f43 (fun _ h9 => h9) rfl dX5_action_4 ?_
  refine lv_aload_n hx hb dX5_action_7 rfl (lv_at hl 0 rfl) ?_
  refine kr_get (C := "MonitorWays$Worker") (T := TX5) (N := 8) hx hb hts hin_X5 hown hK hP (20 + 4 * mi + t) (by omega) (E_wk (mi := mi) (t := t) hmi ht _ _ _ _) rfl 1 (by decide) lk_f15 (fun _ h9 => h9) rfl dX5_action_8 ?_
  refine kr_iald hx hb hK hP (6 + t) 0 (by omega) (E_acts ht _ _ _ _) rfl hpl dX5_action_11 ?_
  exact kr_iret hx hb hr hlocks hK hP hD hS rfl rfl dX5_action_12
def r_wOperand (iv : Nat → Nat → Int32) (mi t : Nat) : Int32 := iv (10 + t) (iv (20 + 4 * mi + t) 1).toNatClampNeg
set_option maxHeartbeats 4000000 in
set_option maxRecDepth 100000 in
theorem c_wOperand (l : Launch) (D : va_G) (gc : Nat → ClassId) (ad ln : Nat → Nat) (iv : Nat → Nat → Int32) (lv : Nat → Nat → Int64) (mi t : Nat) (hmi : mi < 2) (ht : t < 4) (hpl : vp_in (iv (20 + 4 * mi + t) 1) 6) : kMi l yX5_operand wX5_operand ({ frames := 0, cells := 0, slots := 0, locals := 0 }) D vwCl (kT gc) 42 (kE gc) [.ref (ad (20 + 4 * mi + t))] (ad, ln, iv, lv) (ad, ln, iv, lv) (r_wOperand iv mi t) := by
  refine ki_start (cc := cX5_operand) (maxL := 1) (ret := (some .int)) (by decide) rfl (Nat.le_of_ble_eq_true rfl) ?_
  intro p9 e9 s m9 below meth c9 A ls hx hb hr hts hown hlocks hml hA hK hP hD hS hl
  have hl : lv_has ls 1 [(0, .ref (ad (20 + 4 * mi + t)))] := hl
  have hown : s.vm.findClass "MonitorWays$Worker" = some m9.cls := hown
  have hin_X5 : ∀ w ∈ u_ws "MonitorWays$Worker" TX5 8, w ∈ wX5_operand := fun w h => tcons (inX5 w h)
  have hin_X2 : ∀ w ∈ u_ws "MonitorWays$Program" TX2 3, w ∈ wX5_operand := fun w h => tcons (inX2 w h)
  have lk_f9 := hts _ (tcons tw_68)
  have lk_f47 := hts _ (tcons tw_30)
  have lk_f15 := hts _ (tcons tw_59)
  refine lv_aload_n hx hb dX5_operand_0 rfl (lv_at hl 0 rfl) ?_
  refine kr_get (C := "MonitorWays$Worker") (T := TX5) (N := 8) hx hb hts hin_X5 hown hK hP (20 + 4 * mi + t) (by omega) (E_wk (mi := mi) (t := t) hmi ht _ _ _ _) rfl 6 (by decide) lk_f9 (fun _ h9 => h9) rfl dX5_operand_1 ?_
  refine kr_get (C := "MonitorWays$Program") (T := TX2) (N := 3) hx hb hts hin_X2 hown hK hP (2 + t) (by omega) (E_prog ht _ _ _ _) rfl 1 (by decide) lk_f47 (fun _ h9 => h9) rfl dX5_operand_4 ?_
  refine lv_aload_n hx hb dX5_operand_7 rfl (lv_at hl 0 rfl) ?_
  refine kr_get (C := "MonitorWays$Worker") (T := TX5) (N := 8) hx hb hts hin_X5 hown hK hP (20 + 4 * mi + t) (by omega) (E_wk (mi := mi) (t := t) hmi ht _ _ _ _) rfl 1 (by decide) lk_f15 (fun _ h9 => h9) rfl dX5_operand_8 ?_
  refine kr_iald hx hb hK hP (10 + t) 0 (by omega) (E_opds ht _ _ _ _) rfl hpl dX5_operand_11 ?_
  exact kr_iret hx hb hr hlocks hK hP hD hS rfl rfl dX5_operand_12
def m_wPut (iv : Nat → Nat → Int32) (mi t : Nat) (x : Int32) : Nat → Nat → Int32 := (up2 iv (20 + 4 * mi + t) 7 (((iv (20 + 4 * mi + t) 7) * 12) + x))
set_option maxHeartbeats 4000000 in
set_option maxRecDepth 100000 in
theorem c_wPut (l : Launch) (D : va_G) (gc : Nat → ClassId) (ad ln : Nat → Nat) (iv : Nat → Nat → Int32) (lv : Nat → Nat → Int64) (mi t : Nat) (hmi : mi < 2) (ht : t < 4) (x : Int32) : kMv l yX5_put wX5_put ({ frames := 0, cells := 0, slots := 0, locals := 0 }) D vwCl (kT gc) 42 (kE gc) [.ref (ad (20 + 4 * mi + t)), .int x] (ad, ln, iv, lv) (ad, ln, m_wPut iv mi t x, lv) := by
  refine kv_start (cc := cX5_put) (maxL := 2) (by decide) rfl (Nat.le_of_ble_eq_true rfl) ?_
  intro p9 e9 s m9 below meth c9 A ls hx hb hr hts hown hlocks hml hA hK hP hD hS hl
  have hl : lv_has ls 2 [(0, .ref (ad (20 + 4 * mi + t))), (1, .int x)] := hl
  have hown : s.vm.findClass "MonitorWays$Worker" = some m9.cls := hown
  have hin_X5 : ∀ w ∈ u_ws "MonitorWays$Worker" TX5 8, w ∈ wX5_put := fun w h => tcons (inX5 w h)
  have lk_f40 := hts _ (tcons tw_69)
  refine lv_aload_n hx hb dX5_put_0 rfl (lv_at hl 0 rfl) ?_
  refine lv_aload_n hx hb dX5_put_1 rfl (lv_at hl 0 rfl) ?_
  refine kr_get (C := "MonitorWays$Worker") (T := TX5) (N := 8) hx hb hts hin_X5 hown hK hP (20 + 4 * mi + t) (by omega) (E_wk (mi := mi) (t := t) hmi ht _ _ _ _) rfl 7 (by decide) lk_f40 (fun _ h9 => h9) rfl dX5_put_2 ?_
  refine lv_bipush (v := 12) hx hb dX5_put_5 (by decide) ?_
  refine lv_imul hx hb dX5_put_7 ?_
  refine lv_iload_n hx hb dX5_put_8 rfl (lv_at hl 1 rfl) ?_
  refine lv_iadd hx hb dX5_put_9 ?_
  refine kr_put (C := "MonitorWays$Worker") (T := TX5) (N := 8) hx hb hts hin_X5 tyX5 ok_tyX5 ok_nX5 hown hK hP hD hS (20 + 4 * mi + t) (by omega) (fun _ => E_wk (mi := mi) (t := t) hmi ht _ _ _ _) rfl 7 (by decide) lk_f40 (fun _ h9 => h9) rfl rfl rfl rfl (fun _ => Nat.le_of_ble_eq_true rfl) (fun _ => rfl) dX5_put_10 (fun H locs hP hD hS => ?_)
  exact kr_vret hx hb hr hlocks hK hP hD hS rfl dX5_put_13
def r_wTakeInt (iv : Nat → Nat → Int32) (mi t : Nat) : Int32 := iv (20 + 4 * mi + t) 3
def m_wTakeInt (iv : Nat → Nat → Int32) (mi t : Nat) : Nat → Nat → Int32 := (up2 iv (20 + 4 * mi + t) 3 0)
set_option maxHeartbeats 4000000 in
set_option maxRecDepth 100000 in
theorem c_wTakeInt (l : Launch) (D : va_G) (gc : Nat → ClassId) (ad ln : Nat → Nat) (iv : Nat → Nat → Int32) (lv : Nat → Nat → Int64) (mi t : Nat) (hmi : mi < 2) (ht : t < 4) (hz : narrow .boolean (.int (iv (20 + 4 * mi + t) 3)) = .int (iv (20 + 4 * mi + t) 3)) : kMi l yX5_takeInterrupt wX5_takeInterrupt ({ frames := 0, cells := 0, slots := 0, locals := 0 }) D vwCl (kT gc) 42 (kE gc) [.ref (ad (20 + 4 * mi + t))] (ad, ln, iv, lv) (ad, ln, m_wTakeInt iv mi t, lv) (r_wTakeInt iv mi t) := by
  refine ki_start (cc := cX5_takeInterrupt) (maxL := 2) (ret := (some .boolean)) (by decide) rfl (Nat.le_of_ble_eq_true rfl) ?_
  intro p9 e9 s m9 below meth c9 A ls hx hb hr hts hown hlocks hml hA hK hP hD hS hl
  have hl : lv_has ls 2 [(0, .ref (ad (20 + 4 * mi + t)))] := hl
  have hown : s.vm.findClass "MonitorWays$Worker" = some m9.cls := hown
  have hin_X5 : ∀ w ∈ u_ws "MonitorWays$Worker" TX5 8, w ∈ wX5_takeInterrupt := fun w h => tcons (inX5 w h)
  have lk_f30 := hts _ (tcons tw_62)
  refine lv_aload_n hx hb dX5_takeInterrupt_0 rfl (lv_at hl 0 rfl) ?_
  refine kr_get (C := "MonitorWays$Worker") (T := TX5) (N := 8) hx hb hts hin_X5 hown hK hP (20 + 4 * mi + t) (by omega) (E_wk (mi := mi) (t := t) hmi ht _ _ _ _) rfl 3 (by decide) lk_f30 (fun _ h9 => h9) rfl dX5_takeInterrupt_1 ?_
  refine lv_istore_n (lv' := [(1, .int (iv (20 + 4 * mi + t) 3)), (0, .ref (ad (20 + 4 * mi + t)))]) hx hb dX5_takeInterrupt_4 rfl hl (by decide) rfl (fun ls hl => ?_)
  refine lv_aload_n hx hb dX5_takeInterrupt_5 rfl (lv_at hl 1 rfl) ?_
  refine lv_iconst (v := 0) hx hb dX5_takeInterrupt_6 (by decide) ?_
  refine kr_put (C := "MonitorWays$Worker") (T := TX5) (N := 8) hx hb hts hin_X5 tyX5 ok_tyX5 ok_nX5 hown hK hP hD hS (20 + 4 * mi + t) (by omega) (fun _ => E_wk (mi := mi) (t := t) hmi ht _ _ _ _) rfl 3 (by decide) lk_f30 (fun _ h9 => h9) rfl rfl (by decide) (by decide) (fun _ => Nat.le_of_ble_eq_true rfl) (fun _ => rfl) dX5_takeInterrupt_7 (fun H locs hP hD hS => ?_)
  refine lv_iload_n hx hb dX5_takeInterrupt_10 rfl (lv_at hl 0 rfl) ?_
  exact kr_zret hx hb hr hlocks hK hP hD hS hz rfl rfl dX5_takeInterrupt_11
def r_wState (iv : Nat → Nat → Int32) (mi t : Nat) : Int32 := (((iv (20 + 4 * mi + t) 0) + (if iv (20 + 4 * mi + t) 3 = 0 then (0 : Int32) else 8)) + (if iv (20 + 4 * mi + t) 4 = 0 then (0 : Int32) else 16))
set_option maxHeartbeats 4000000 in
set_option maxRecDepth 100000 in
theorem c_wState (l : Launch) (D : va_G) (gc : Nat → ClassId) (ad ln : Nat → Nat) (iv : Nat → Nat → Int32) (lv : Nat → Nat → Int64) (mi t : Nat) (hmi : mi < 2) (ht : t < 4) : kMi l yX5_stateNumber wX5_stateNumber ({ frames := 0, cells := 0, slots := 0, locals := 0 }) D vwCl (kT gc) 42 (kE gc) [.ref (ad (20 + 4 * mi + t))] (ad, ln, iv, lv) (ad, ln, iv, lv) (r_wState iv mi t) := by
  refine ki_start (cc := cX5_stateNumber) (maxL := 1) (ret := (some .int)) (by decide) rfl (Nat.le_of_ble_eq_true rfl) ?_
  intro p9 e9 s m9 below meth c9 A ls hx hb hr hts hown hlocks hml hA hK hP hD hS hl
  have hl : lv_has ls 1 [(0, .ref (ad (20 + 4 * mi + t)))] := hl
  have hown : s.vm.findClass "MonitorWays$Worker" = some m9.cls := hown
  have hin_X5 : ∀ w ∈ u_ws "MonitorWays$Worker" TX5 8, w ∈ wX5_stateNumber := fun w h => tcons (inX5 w h)
  have lk_f24 := hts _ (tcons tw_57)
  have lk_f30 := hts _ (tcons tw_62)
  have lk_f34 := hts _ (tcons tw_64)
  refine lv_aload_n hx hb dX5_stateNumber_0 rfl (lv_at hl 0 rfl) ?_
  refine kr_get (C := "MonitorWays$Worker") (T := TX5) (N := 8) hx hb hts hin_X5 hown hK hP (20 + 4 * mi + t) (by omega) (E_wk (mi := mi) (t := t) hmi ht _ _ _ _) rfl 0 (by decide) lk_f24 (fun _ h9 => h9) rfl dX5_stateNumber_1 ?_
  refine lv_aload_n hx hb dX5_stateNumber_4 rfl (lv_at hl 0 rfl) ?_
  refine kr_get (C := "MonitorWays$Worker") (T := TX5) (N := 8) hx hb hts hin_X5 hown hK hP (20 + 4 * mi + t) (by omega) (E_wk (mi := mi) (t := t) hmi ht _ _ _ _) rfl 3 (by decide) lk_f30 (fun _ h9 => h9) rfl dX5_stateNumber_5 ?_
  refine kr_tern (M := 17) (cnd := iv (20 + 4 * mi + t) 3 = 0) (a := 0) (b := 8) (rest := [.int (iv (20 + 4 * mi + t) 0)]) (fun ja jb => ?_) ?_
  · refine lv_if_eq (tgt := 16) hx hb dX5_stateNumber_8 (by decide) (fun c_1 => ?_) (fun c_1 => ?_)
    · refine lv_iconst (v := 0) hx hb dX5_stateNumber_16 (by decide) ?_
      exact ja c_1
    · refine lv_bipush (v := 8) hx hb dX5_stateNumber_11 (by decide) ?_
      refine lv_goto (tgt := 17) hx hb dX5_stateNumber_13 (by decide) ?_
      exact jb c_1
  refine lv_iadd hx hb dX5_stateNumber_17 ?_
  refine lv_aload_n hx hb dX5_stateNumber_18 rfl (lv_at hl 0 rfl) ?_
  refine kr_get (C := "MonitorWays$Worker") (T := TX5) (N := 8) hx hb hts hin_X5 hown hK hP (20 + 4 * mi + t) (by omega) (E_wk (mi := mi) (t := t) hmi ht _ _ _ _) rfl 4 (by decide) lk_f34 (fun _ h9 => h9) rfl dX5_stateNumber_19 ?_
  refine kr_tern (M := 31) (cnd := iv (20 + 4 * mi + t) 4 = 0) (a := 0) (b := 16) (rest := [.int ((iv (20 + 4 * mi + t) 0) + (if iv (20 + 4 * mi + t) 3 = 0 then (0 : Int32) else 8))]) (fun ja jb => ?_) ?_
  · refine lv_if_eq (tgt := 30) hx hb dX5_stateNumber_22 (by decide) (fun c_2 => ?_) (fun c_2 => ?_)
    · refine lv_iconst (v := 0) hx hb dX5_stateNumber_30 (by decide) ?_
      exact ja c_2
    · refine lv_bipush (v := 16) hx hb dX5_stateNumber_25 (by decide) ?_
      refine lv_goto (tgt := 31) hx hb dX5_stateNumber_27 (by decide) ?_
      exact jb c_2
  refine lv_iadd hx hb dX5_stateNumber_31 ?_
  exact kr_iret hx hb hr hlocks hK hP hD hS rfl rfl dX5_stateNumber_32
def r_wLetters (iv : Nat → Nat → Int32) (mi t : Nat) : Int32 := if iv (20 + 4 * mi + t) 7 < 12 then 0 else if ((iv (20 + 4 * mi + t) 7) / 12) < 12 then 1 else if (((iv (20 + 4 * mi + t) 7) / 12) / 12) < 12 then 2 else if ((((iv (20 + 4 * mi + t) 7) / 12) / 12) / 12) < 12 then 3 else if (((((iv (20 + 4 * mi + t) 7) / 12) / 12) / 12) / 12) < 12 then 4 else if ((((((iv (20 + 4 * mi + t) 7) / 12) / 12) / 12) / 12) / 12) < 12 then 5 else if (((((((iv (20 + 4 * mi + t) 7) / 12) / 12) / 12) / 12) / 12) / 12) < 12 then 6 else 6
set_option maxHeartbeats 4000000 in
set_option maxRecDepth 100000 in
theorem c_wLetters (l : Launch) (D : va_G) (gc : Nat → ClassId) (ad ln : Nat → Nat) (iv : Nat → Nat → Int32) (lv : Nat → Nat → Int64) (mi t : Nat) (hmi : mi < 2) (ht : t < 4) : kMi l yX5_letterCount wX5_letterCount ({ frames := 0, cells := 0, slots := 0, locals := 0 }) D vwCl (kT gc) 42 (kE gc) [.ref (ad (20 + 4 * mi + t))] (ad, ln, iv, lv) (ad, ln, iv, lv) (r_wLetters iv mi t) := by
  refine ki_start (cc := cX5_letterCount) (maxL := 3) (ret := (some .int)) (by decide) rfl (Nat.le_of_ble_eq_true rfl) ?_
  intro p9 e9 s m9 below meth c9 A ls hx hb hr hts hown hlocks hml hA hK hP hD hS hl
  have hl : lv_has ls 3 [(0, .ref (ad (20 + 4 * mi + t)))] := hl
  have hown : s.vm.findClass "MonitorWays$Worker" = some m9.cls := hown
  have hin_X5 : ∀ w ∈ u_ws "MonitorWays$Worker" TX5 8, w ∈ wX5_letterCount := fun w h => tcons (inX5 w h)
  have lk_f40 := hts _ (tcons tw_69)
  refine lv_iconst (v := 0) hx hb dX5_letterCount_0 (by decide) ?_
  refine lv_istore_n (lv' := [(1, .int 0), (0, .ref (ad (20 + 4 * mi + t)))]) hx hb dX5_letterCount_1 rfl hl (by decide) rfl (fun ls hl => ?_)
  refine lv_aload_n hx hb dX5_letterCount_2 rfl (lv_at hl 1 rfl) ?_
  refine kr_get (C := "MonitorWays$Worker") (T := TX5) (N := 8) hx hb hts hin_X5 hown hK hP (20 + 4 * mi + t) (by omega) (E_wk (mi := mi) (t := t) hmi ht _ _ _ _) rfl 7 (by decide) lk_f40 (fun _ h9 => h9) rfl dX5_letterCount_3 ?_
  refine lv_istore_n (lv' := [(2, .int (iv (20 + 4 * mi + t) 7)), (1, .int 0), (0, .ref (ad (20 + 4 * mi + t)))]) hx hb dX5_letterCount_6 rfl hl (by decide) rfl (fun ls hl => ?_)
  refine lv_iload_n hx hb dX5_letterCount_7 rfl (lv_at hl 0 rfl) ?_
  refine lv_bipush (v := 12) hx hb dX5_letterCount_8 (by decide) ?_
  refine lv_icmp_lt (tgt := 30) hx hb dX5_letterCount_10 (by decide) (fun c_1 => ?_) (fun c_1 => ?_)
  · refine lv_iload_n hx hb dX5_letterCount_30 rfl (lv_at hl 1 rfl) ?_
    exact kr_iret hx hb hr hlocks hK hP hD hS (by unfold r_wLetters; rw [if_pos c_1]) rfl dX5_letterCount_31
  · refine lv_iload_n hx hb dX5_letterCount_13 rfl (lv_at hl 1 rfl) ?_
    refine lv_bipush (v := 6) hx hb dX5_letterCount_14 (by decide) ?_
    refine lv_icmp_ge (tgt := 30) hx hb dX5_letterCount_16 (by decide) (fun c_2 => absurd c_2 (by decide)) (fun c_2 => ?_)
    refine lv_iinc (v := 1) (lv' := [(1, .int 1), (2, .int (iv (20 + 4 * mi + t) 7)), (0, .ref (ad (20 + 4 * mi + t)))]) hx hb dX5_letterCount_19 hl (k := 1) rfl (by decide) (by decide) rfl (fun ls hl => ?_)
    refine lv_iload_n hx hb dX5_letterCount_22 rfl (lv_at hl 1 rfl) ?_
    refine lv_bipush (v := 12) hx hb dX5_letterCount_23 (by decide) ?_
    refine lv_idiv hx hb dX5_letterCount_25 (by decide) ?_
    refine lv_istore_n (lv' := [(2, .int ((iv (20 + 4 * mi + t) 7) / 12)), (1, .int 1), (0, .ref (ad (20 + 4 * mi + t)))]) hx hb dX5_letterCount_26 rfl hl (by decide) rfl (fun ls hl => ?_)
    refine lv_goto (tgt := 7) hx hb dX5_letterCount_27 (by decide) ?_
    refine lv_iload_n hx hb dX5_letterCount_7 rfl (lv_at hl 0 rfl) ?_
    refine lv_bipush (v := 12) hx hb dX5_letterCount_8 (by decide) ?_
    refine lv_icmp_lt (tgt := 30) hx hb dX5_letterCount_10 (by decide) (fun c_3 => ?_) (fun c_3 => ?_)
    · refine lv_iload_n hx hb dX5_letterCount_30 rfl (lv_at hl 1 rfl) ?_
      exact kr_iret hx hb hr hlocks hK hP hD hS (by unfold r_wLetters; rw [if_neg c_1, if_pos c_3]) rfl dX5_letterCount_31
    · refine lv_iload_n hx hb dX5_letterCount_13 rfl (lv_at hl 1 rfl) ?_
      refine lv_bipush (v := 6) hx hb dX5_letterCount_14 (by decide) ?_
      refine lv_icmp_ge (tgt := 30) hx hb dX5_letterCount_16 (by decide) (fun c_4 => absurd c_4 (by decide)) (fun c_4 => ?_)
      refine lv_iinc (v := 2) (lv' := [(1, .int 2), (2, .int ((iv (20 + 4 * mi + t) 7) / 12)), (0, .ref (ad (20 + 4 * mi + t)))]) hx hb dX5_letterCount_19 hl (k := 1) rfl (by decide) (by decide) rfl (fun ls hl => ?_)
      refine lv_iload_n hx hb dX5_letterCount_22 rfl (lv_at hl 1 rfl) ?_
      refine lv_bipush (v := 12) hx hb dX5_letterCount_23 (by decide) ?_
      refine lv_idiv hx hb dX5_letterCount_25 (by decide) ?_
      refine lv_istore_n (lv' := [(2, .int (((iv (20 + 4 * mi + t) 7) / 12) / 12)), (1, .int 2), (0, .ref (ad (20 + 4 * mi + t)))]) hx hb dX5_letterCount_26 rfl hl (by decide) rfl (fun ls hl => ?_)
      refine lv_goto (tgt := 7) hx hb dX5_letterCount_27 (by decide) ?_
      refine lv_iload_n hx hb dX5_letterCount_7 rfl (lv_at hl 0 rfl) ?_
      refine lv_bipush (v := 12) hx hb dX5_letterCount_8 (by decide) ?_
      refine lv_icmp_lt (tgt := 30) hx hb dX5_letterCount_10 (by decide) (fun c_5 => ?_) (fun c_5 => ?_)
      · refine lv_iload_n hx hb dX5_letterCount_30 rfl (lv_at hl 1 rfl) ?_
        exact kr_iret hx hb hr hlocks hK hP hD hS (by unfold r_wLetters; rw [if_neg c_1, if_neg c_3, if_pos c_5]) rfl dX5_letterCount_31
      · refine lv_iload_n hx hb dX5_letterCount_13 rfl (lv_at hl 1 rfl) ?_
        refine lv_bipush (v := 6) hx hb dX5_letterCount_14 (by decide) ?_
        refine lv_icmp_ge (tgt := 30) hx hb dX5_letterCount_16 (by decide) (fun c_6 => absurd c_6 (by decide)) (fun c_6 => ?_)
        refine lv_iinc (v := 3) (lv' := [(1, .int 3), (2, .int (((iv (20 + 4 * mi + t) 7) / 12) / 12)), (0, .ref (ad (20 + 4 * mi + t)))]) hx hb dX5_letterCount_19 hl (k := 1) rfl (by decide) (by decide) rfl (fun ls hl => ?_)
        refine lv_iload_n hx hb dX5_letterCount_22 rfl (lv_at hl 1 rfl) ?_
        refine lv_bipush (v := 12) hx hb dX5_letterCount_23 (by decide) ?_
        refine lv_idiv hx hb dX5_letterCount_25 (by decide) ?_
        refine lv_istore_n (lv' := [(2, .int ((((iv (20 + 4 * mi + t) 7) / 12) / 12) / 12)), (1, .int 3), (0, .ref (ad (20 + 4 * mi + t)))]) hx hb dX5_letterCount_26 rfl hl (by decide) rfl (fun ls hl => ?_)
        refine lv_goto (tgt := 7) hx hb dX5_letterCount_27 (by decide) ?_
        refine lv_iload_n hx hb dX5_letterCount_7 rfl (lv_at hl 0 rfl) ?_
        refine lv_bipush (v := 12) hx hb dX5_letterCount_8 (by decide) ?_
        refine lv_icmp_lt (tgt := 30) hx hb dX5_letterCount_10 (by decide) (fun c_7 => ?_) (fun c_7 => ?_)
        · refine lv_iload_n hx hb dX5_letterCount_30 rfl (lv_at hl 1 rfl) ?_
          exact kr_iret hx hb hr hlocks hK hP hD hS (by unfold r_wLetters; rw [if_neg c_1, if_neg c_3, if_neg c_5, if_pos c_7]) rfl dX5_letterCount_31
        · refine lv_iload_n hx hb dX5_letterCount_13 rfl (lv_at hl 1 rfl) ?_
          refine lv_bipush (v := 6) hx hb dX5_letterCount_14 (by decide) ?_
          refine lv_icmp_ge (tgt := 30) hx hb dX5_letterCount_16 (by decide) (fun c_8 => absurd c_8 (by decide)) (fun c_8 => ?_)
          refine lv_iinc (v := 4) (lv' := [(1, .int 4), (2, .int ((((iv (20 + 4 * mi + t) 7) / 12) / 12) / 12)), (0, .ref (ad (20 + 4 * mi + t)))]) hx hb dX5_letterCount_19 hl (k := 1) rfl (by decide) (by decide) rfl (fun ls hl => ?_)
          refine lv_iload_n hx hb dX5_letterCount_22 rfl (lv_at hl 1 rfl) ?_
          refine lv_bipush (v := 12) hx hb dX5_letterCount_23 (by decide) ?_
          refine lv_idiv hx hb dX5_letterCount_25 (by decide) ?_
          refine lv_istore_n (lv' := [(2, .int (((((iv (20 + 4 * mi + t) 7) / 12) / 12) / 12) / 12)), (1, .int 4), (0, .ref (ad (20 + 4 * mi + t)))]) hx hb dX5_letterCount_26 rfl hl (by decide) rfl (fun ls hl => ?_)
          refine lv_goto (tgt := 7) hx hb dX5_letterCount_27 (by decide) ?_
          refine lv_iload_n hx hb dX5_letterCount_7 rfl (lv_at hl 0 rfl) ?_
          refine lv_bipush (v := 12) hx hb dX5_letterCount_8 (by decide) ?_
          refine lv_icmp_lt (tgt := 30) hx hb dX5_letterCount_10 (by decide) (fun c_9 => ?_) (fun c_9 => ?_)
          · refine lv_iload_n hx hb dX5_letterCount_30 rfl (lv_at hl 1 rfl) ?_
            exact kr_iret hx hb hr hlocks hK hP hD hS (by unfold r_wLetters; rw [if_neg c_1, if_neg c_3, if_neg c_5, if_neg c_7, if_pos c_9]) rfl dX5_letterCount_31
          · refine lv_iload_n hx hb dX5_letterCount_13 rfl (lv_at hl 1 rfl) ?_
            refine lv_bipush (v := 6) hx hb dX5_letterCount_14 (by decide) ?_
            refine lv_icmp_ge (tgt := 30) hx hb dX5_letterCount_16 (by decide) (fun c_10 => absurd c_10 (by decide)) (fun c_10 => ?_)
            refine lv_iinc (v := 5) (lv' := [(1, .int 5), (2, .int (((((iv (20 + 4 * mi + t) 7) / 12) / 12) / 12) / 12)), (0, .ref (ad (20 + 4 * mi + t)))]) hx hb dX5_letterCount_19 hl (k := 1) rfl (by decide) (by decide) rfl (fun ls hl => ?_)
            refine lv_iload_n hx hb dX5_letterCount_22 rfl (lv_at hl 1 rfl) ?_
            refine lv_bipush (v := 12) hx hb dX5_letterCount_23 (by decide) ?_
            refine lv_idiv hx hb dX5_letterCount_25 (by decide) ?_
            refine lv_istore_n (lv' := [(2, .int ((((((iv (20 + 4 * mi + t) 7) / 12) / 12) / 12) / 12) / 12)), (1, .int 5), (0, .ref (ad (20 + 4 * mi + t)))]) hx hb dX5_letterCount_26 rfl hl (by decide) rfl (fun ls hl => ?_)
            refine lv_goto (tgt := 7) hx hb dX5_letterCount_27 (by decide) ?_
            refine lv_iload_n hx hb dX5_letterCount_7 rfl (lv_at hl 0 rfl) ?_
            refine lv_bipush (v := 12) hx hb dX5_letterCount_8 (by decide) ?_
            refine lv_icmp_lt (tgt := 30) hx hb dX5_letterCount_10 (by decide) (fun c_11 => ?_) (fun c_11 => ?_)
            · refine lv_iload_n hx hb dX5_letterCount_30 rfl (lv_at hl 1 rfl) ?_
              exact kr_iret hx hb hr hlocks hK hP hD hS (by unfold r_wLetters; rw [if_neg c_1, if_neg c_3, if_neg c_5, if_neg c_7, if_neg c_9, if_pos c_11]) rfl dX5_letterCount_31
            · refine lv_iload_n hx hb dX5_letterCount_13 rfl (lv_at hl 1 rfl) ?_
              refine lv_bipush (v := 6) hx hb dX5_letterCount_14 (by decide) ?_
              refine lv_icmp_ge (tgt := 30) hx hb dX5_letterCount_16 (by decide) (fun c_12 => absurd c_12 (by decide)) (fun c_12 => ?_)
              refine lv_iinc (v := 6) (lv' := [(1, .int 6), (2, .int ((((((iv (20 + 4 * mi + t) 7) / 12) / 12) / 12) / 12) / 12)), (0, .ref (ad (20 + 4 * mi + t)))]) hx hb dX5_letterCount_19 hl (k := 1) rfl (by decide) (by decide) rfl (fun ls hl => ?_)
              refine lv_iload_n hx hb dX5_letterCount_22 rfl (lv_at hl 1 rfl) ?_
              refine lv_bipush (v := 12) hx hb dX5_letterCount_23 (by decide) ?_
              refine lv_idiv hx hb dX5_letterCount_25 (by decide) ?_
              refine lv_istore_n (lv' := [(2, .int (((((((iv (20 + 4 * mi + t) 7) / 12) / 12) / 12) / 12) / 12) / 12)), (1, .int 6), (0, .ref (ad (20 + 4 * mi + t)))]) hx hb dX5_letterCount_26 rfl hl (by decide) rfl (fun ls hl => ?_)
              refine lv_goto (tgt := 7) hx hb dX5_letterCount_27 (by decide) ?_
              refine lv_iload_n hx hb dX5_letterCount_7 rfl (lv_at hl 0 rfl) ?_
              refine lv_bipush (v := 12) hx hb dX5_letterCount_8 (by decide) ?_
              refine lv_icmp_lt (tgt := 30) hx hb dX5_letterCount_10 (by decide) (fun c_13 => ?_) (fun c_13 => ?_)
              · refine lv_iload_n hx hb dX5_letterCount_30 rfl (lv_at hl 1 rfl) ?_
                exact kr_iret hx hb hr hlocks hK hP hD hS (by unfold r_wLetters; rw [if_neg c_1, if_neg c_3, if_neg c_5, if_neg c_7, if_neg c_9, if_neg c_11, if_pos c_13]) rfl dX5_letterCount_31
              · refine lv_iload_n hx hb dX5_letterCount_13 rfl (lv_at hl 1 rfl) ?_
                refine lv_bipush (v := 6) hx hb dX5_letterCount_14 (by decide) ?_
                refine lv_icmp_ge (tgt := 30) hx hb dX5_letterCount_16 (by decide) (fun c_14 => ?_) (fun c_14 => absurd (by decide) c_14)
                refine lv_iload_n hx hb dX5_letterCount_30 rfl (lv_at hl 1 rfl) ?_
                exact kr_iret hx hb hr hlocks hK hP hD hS (by unfold r_wLetters; rw [if_neg c_1, if_neg c_3, if_neg c_5, if_neg c_7, if_neg c_9, if_neg c_11, if_neg c_13]) rfl dX5_letterCount_31
def r_wOutc (iv : Nat → Nat → Int32) (mi t : Nat) : Int64 := ((((iv (20 + 4 * mi + t) 7).toInt64) * 12) + ((if iv (20 + 4 * mi + t) 0 = 4 then (6 : Int32) else 7).toInt64))
set_option maxHeartbeats 4000000 in
set_option maxRecDepth 100000 in
theorem c_wOutc (l : Launch) (D : va_G) (gc : Nat → ClassId) (ad ln : Nat → Nat) (iv : Nat → Nat → Int32) (lv : Nat → Nat → Int64) (mi t : Nat) (hmi : mi < 2) (ht : t < 4) : kMl l yX5_outcomePart wX5_outcomePart ({ frames := 0, cells := 0, slots := 0, locals := 0 }) D vwCl (kT gc) 42 (kE gc) [.ref (ad (20 + 4 * mi + t))] (ad, ln, iv, lv) (ad, ln, iv, lv) (r_wOutc iv mi t) := by
  refine kl_start (cc := cX5_outcomePart) (maxL := 1) (ret := (some .long)) (by decide) rfl (Nat.le_of_ble_eq_true rfl) ?_
  intro p9 e9 s m9 below meth c9 A ls hx hb hr hts hown hlocks hml hA hK hP hD hS hl
  have hl : lv_has ls 1 [(0, .ref (ad (20 + 4 * mi + t)))] := hl
  have hown : s.vm.findClass "MonitorWays$Worker" = some m9.cls := hown
  have hin_X5 : ∀ w ∈ u_ws "MonitorWays$Worker" TX5 8, w ∈ wX5_outcomePart := fun w h => tcons (inX5 w h)
  have lk_f40 := hts _ (tcons tw_69)
  have lk_c54 := hts _ (tcons tw_518)
  have lk_f24 := hts _ (tcons tw_57)
  refine lv_aload_n hx hb dX5_outcomePart_0 rfl (lv_at hl 0 rfl) ?_
  refine kr_get (C := "MonitorWays$Worker") (T := TX5) (N := 8) hx hb hts hin_X5 hown hK hP (20 + 4 * mi + t) (by omega) (E_wk (mi := mi) (t := t) hmi ht _ _ _ _) rfl 7 (by decide) lk_f40 (fun _ h9 => h9) rfl dX5_outcomePart_1 ?_
  refine lv_i2l hx hb dX5_outcomePart_4 rfl ?_
  refine lv_ldc2 (v := 12) hx hb hown lk_c54 dX5_outcomePart_5 ?_
  refine lv_lmul hx hb dX5_outcomePart_8 ?_
  refine lv_aload_n hx hb dX5_outcomePart_9 rfl (lv_at hl 0 rfl) ?_
  refine kr_get (C := "MonitorWays$Worker") (T := TX5) (N := 8) hx hb hts hin_X5 hown hK hP (20 + 4 * mi + t) (by omega) (E_wk (mi := mi) (t := t) hmi ht _ _ _ _) rfl 0 (by decide) lk_f24 (fun _ h9 => h9) rfl dX5_outcomePart_10 ?_
  refine lv_iconst (v := 4) hx hb dX5_outcomePart_13 (by decide) ?_
  refine kr_tern (M := 24) (cnd := iv (20 + 4 * mi + t) 0 = 4) (a := 6) (b := 7) (rest := [.long (((iv (20 + 4 * mi + t) 7).toInt64) * 12)]) (fun ja jb => ?_) ?_
  · refine lv_icmp_ne (tgt := 22) hx hb dX5_outcomePart_14 (by decide) (fun c_1 => ?_) (fun c_1 => ?_)
    · refine lv_bipush (v := 7) hx hb dX5_outcomePart_22 (by decide) ?_
      exact jb c_1
    · refine lv_bipush (v := 6) hx hb dX5_outcomePart_17 (by decide) ?_
      refine lv_goto (tgt := 24) hx hb dX5_outcomePart_19 (by decide) ?_
      exact ja c_1
  refine lv_i2l hx hb dX5_outcomePart_24 rfl ?_
  refine lv_ladd hx hb dX5_outcomePart_25 ?_
  exact kr_lret hx hb hr hlocks hK hP hD hS rfl rfl dX5_outcomePart_26
def r_wPack (iv : Nat → Nat → Int32) (mi t : Nat) : Int64 := ((((iv (20 + 4 * mi + t) 7).toInt64) <<< ((12 : Int32).toInt64 &&& 63)) ||| (((((iv (20 + 4 * mi + t) 0) ||| ((iv (20 + 4 * mi + t) 1) <<< ((3 : Int32) &&& 31))) ||| ((iv (20 + 4 * mi + t) 2) <<< ((6 : Int32) &&& 31))) ||| ((((if iv (20 + 4 * mi + t) 3 = 0 then (0 : Int32) else 1) ||| (if iv (20 + 4 * mi + t) 4 = 0 then (0 : Int32) else 2)) ||| (if iv (20 + 4 * mi + t) 5 = 0 then (0 : Int32) else 4)) <<< ((9 : Int32) &&& 31))).toInt64))
set_option maxHeartbeats 4000000 in
set_option maxRecDepth 100000 in
theorem c_wPack (l : Launch) (D : va_G) (gc : Nat → ClassId) (ad ln : Nat → Nat) (iv : Nat → Nat → Int32) (lv : Nat → Nat → Int64) (mi t : Nat) (hmi : mi < 2) (ht : t < 4) : kMl l yX5_packed wX5_packed ({ frames := 0, cells := 0, slots := 0, locals := 0 }) D vwCl (kT gc) 42 (kE gc) [.ref (ad (20 + 4 * mi + t))] (ad, ln, iv, lv) (ad, ln, iv, lv) (r_wPack iv mi t) := by
  refine kl_start (cc := cX5_packed) (maxL := 3) (ret := (some .long)) (by decide) rfl (Nat.le_of_ble_eq_true rfl) ?_
  intro p9 e9 s m9 below meth c9 A ls hx hb hr hts hown hlocks hml hA hK hP hD hS hl
  have hl : lv_has ls 3 [(0, .ref (ad (20 + 4 * mi + t)))] := hl
  have hown : s.vm.findClass "MonitorWays$Worker" = some m9.cls := hown
  have hin_X5 : ∀ w ∈ u_ws "MonitorWays$Worker" TX5 8, w ∈ wX5_packed := fun w h => tcons (inX5 w h)
  have lk_f30 := hts _ (tcons tw_62)
  have lk_f34 := hts _ (tcons tw_64)
  have lk_f37 := hts _ (tcons tw_66)
  have lk_f24 := hts _ (tcons tw_57)
  have lk_f15 := hts _ (tcons tw_59)
  have lk_f27 := hts _ (tcons tw_60)
  have lk_f40 := hts _ (tcons tw_69)
  refine lv_aload_n hx hb dX5_packed_0 rfl (lv_at hl 0 rfl) ?_
  refine kr_get (C := "MonitorWays$Worker") (T := TX5) (N := 8) hx hb hts hin_X5 hown hK hP (20 + 4 * mi + t) (by omega) (E_wk (mi := mi) (t := t) hmi ht _ _ _ _) rfl 3 (by decide) lk_f30 (fun _ h9 => h9) rfl dX5_packed_1 ?_
  refine kr_tern (M := 12) (cnd := iv (20 + 4 * mi + t) 3 = 0) (a := 0) (b := 1) (rest := []) (fun ja jb => ?_) ?_
  · refine lv_if_eq (tgt := 11) hx hb dX5_packed_4 (by decide) (fun c_1 => ?_) (fun c_1 => ?_)
    · refine lv_iconst (v := 0) hx hb dX5_packed_11 (by decide) ?_
      exact ja c_1
    · refine lv_iconst (v := 1) hx hb dX5_packed_7 (by decide) ?_
      refine lv_goto (tgt := 12) hx hb dX5_packed_8 (by decide) ?_
      exact jb c_1
  refine lv_aload_n hx hb dX5_packed_12 rfl (lv_at hl 0 rfl) ?_
  refine kr_get (C := "MonitorWays$Worker") (T := TX5) (N := 8) hx hb hts hin_X5 hown hK hP (20 + 4 * mi + t) (by omega) (E_wk (mi := mi) (t := t) hmi ht _ _ _ _) rfl 4 (by decide) lk_f34 (fun _ h9 => h9) rfl dX5_packed_13 ?_
  refine kr_tern (M := 24) (cnd := iv (20 + 4 * mi + t) 4 = 0) (a := 0) (b := 2) (rest := [.int (if iv (20 + 4 * mi + t) 3 = 0 then (0 : Int32) else 1)]) (fun ja jb => ?_) ?_
  · refine lv_if_eq (tgt := 23) hx hb dX5_packed_16 (by decide) (fun c_2 => ?_) (fun c_2 => ?_)
    · refine lv_iconst (v := 0) hx hb dX5_packed_23 (by decide) ?_
      exact ja c_2
    · refine lv_iconst (v := 2) hx hb dX5_packed_19 (by decide) ?_
      refine lv_goto (tgt := 24) hx hb dX5_packed_20 (by decide) ?_
      exact jb c_2
  refine lv_ior hx hb dX5_packed_24 ?_
  refine lv_aload_n hx hb dX5_packed_25 rfl (lv_at hl 0 rfl) ?_
  refine kr_get (C := "MonitorWays$Worker") (T := TX5) (N := 8) hx hb hts hin_X5 hown hK hP (20 + 4 * mi + t) (by omega) (E_wk (mi := mi) (t := t) hmi ht _ _ _ _) rfl 5 (by decide) lk_f37 (fun _ h9 => h9) rfl dX5_packed_26 ?_
  refine kr_tern (M := 37) (cnd := iv (20 + 4 * mi + t) 5 = 0) (a := 0) (b := 4) (rest := [.int ((if iv (20 + 4 * mi + t) 3 = 0 then (0 : Int32) else 1) ||| (if iv (20 + 4 * mi + t) 4 = 0 then (0 : Int32) else 2))]) (fun ja jb => ?_) ?_
  · refine lv_if_eq (tgt := 36) hx hb dX5_packed_29 (by decide) (fun c_3 => ?_) (fun c_3 => ?_)
    · refine lv_iconst (v := 0) hx hb dX5_packed_36 (by decide) ?_
      exact ja c_3
    · refine lv_iconst (v := 4) hx hb dX5_packed_32 (by decide) ?_
      refine lv_goto (tgt := 37) hx hb dX5_packed_33 (by decide) ?_
      exact jb c_3
  refine lv_ior hx hb dX5_packed_37 ?_
  refine lv_istore_n (lv' := [(1, .int (((if iv (20 + 4 * mi + t) 3 = 0 then (0 : Int32) else 1) ||| (if iv (20 + 4 * mi + t) 4 = 0 then (0 : Int32) else 2)) ||| (if iv (20 + 4 * mi + t) 5 = 0 then (0 : Int32) else 4))), (0, .ref (ad (20 + 4 * mi + t)))]) hx hb dX5_packed_38 rfl hl (by decide) rfl (fun ls hl => ?_)
  refine lv_aload_n hx hb dX5_packed_39 rfl (lv_at hl 1 rfl) ?_
  refine kr_get (C := "MonitorWays$Worker") (T := TX5) (N := 8) hx hb hts hin_X5 hown hK hP (20 + 4 * mi + t) (by omega) (E_wk (mi := mi) (t := t) hmi ht _ _ _ _) rfl 0 (by decide) lk_f24 (fun _ h9 => h9) rfl dX5_packed_40 ?_
  refine lv_aload_n hx hb dX5_packed_43 rfl (lv_at hl 1 rfl) ?_
  refine kr_get (C := "MonitorWays$Worker") (T := TX5) (N := 8) hx hb hts hin_X5 hown hK hP (20 + 4 * mi + t) (by omega) (E_wk (mi := mi) (t := t) hmi ht _ _ _ _) rfl 1 (by decide) lk_f15 (fun _ h9 => h9) rfl dX5_packed_44 ?_
  refine lv_iconst (v := 3) hx hb dX5_packed_47 (by decide) ?_
  refine lv_ishl hx hb dX5_packed_48 ?_
  refine lv_ior hx hb dX5_packed_49 ?_
  refine lv_aload_n hx hb dX5_packed_50 rfl (lv_at hl 1 rfl) ?_
  refine kr_get (C := "MonitorWays$Worker") (T := TX5) (N := 8) hx hb hts hin_X5 hown hK hP (20 + 4 * mi + t) (by omega) (E_wk (mi := mi) (t := t) hmi ht _ _ _ _) rfl 2 (by decide) lk_f27 (fun _ h9 => h9) rfl dX5_packed_51 ?_
  refine lv_bipush (v := 6) hx hb dX5_packed_54 (by decide) ?_
  refine lv_ishl hx hb dX5_packed_56 ?_
  refine lv_ior hx hb dX5_packed_57 ?_
  refine lv_iload_n hx hb dX5_packed_58 rfl (lv_at hl 0 rfl) ?_
  refine lv_bipush (v := 9) hx hb dX5_packed_59 (by decide) ?_
  refine lv_ishl hx hb dX5_packed_61 ?_
  refine lv_ior hx hb dX5_packed_62 ?_
  refine lv_istore_n (lv' := [(2, .int ((((iv (20 + 4 * mi + t) 0) ||| ((iv (20 + 4 * mi + t) 1) <<< ((3 : Int32) &&& 31))) ||| ((iv (20 + 4 * mi + t) 2) <<< ((6 : Int32) &&& 31))) ||| ((((if iv (20 + 4 * mi + t) 3 = 0 then (0 : Int32) else 1) ||| (if iv (20 + 4 * mi + t) 4 = 0 then (0 : Int32) else 2)) ||| (if iv (20 + 4 * mi + t) 5 = 0 then (0 : Int32) else 4)) <<< ((9 : Int32) &&& 31)))), (1, .int (((if iv (20 + 4 * mi + t) 3 = 0 then (0 : Int32) else 1) ||| (if iv (20 + 4 * mi + t) 4 = 0 then (0 : Int32) else 2)) ||| (if iv (20 + 4 * mi + t) 5 = 0 then (0 : Int32) else 4))), (0, .ref (ad (20 + 4 * mi + t)))]) hx hb dX5_packed_63 rfl hl (by decide) rfl (fun ls hl => ?_)
  refine lv_aload_n hx hb dX5_packed_64 rfl (lv_at hl 2 rfl) ?_
  refine kr_get (C := "MonitorWays$Worker") (T := TX5) (N := 8) hx hb hts hin_X5 hown hK hP (20 + 4 * mi + t) (by omega) (E_wk (mi := mi) (t := t) hmi ht _ _ _ _) rfl 7 (by decide) lk_f40 (fun _ h9 => h9) rfl dX5_packed_65 ?_
  refine lv_i2l hx hb dX5_packed_68 rfl ?_
  refine lv_bipush (v := 12) hx hb dX5_packed_69 (by decide) ?_
  refine lv_lshl hx hb dX5_packed_71 rfl ?_
  refine lv_iload_n hx hb dX5_packed_72 rfl (lv_at hl 0 rfl) ?_
  refine lv_i2l hx hb dX5_packed_73 rfl ?_
  refine lv_lor hx hb dX5_packed_74 ?_
  exact kr_lret hx hb hr hlocks hK hP hD hS rfl rfl dX5_packed_75
def m_wUnpack (iv : Nat → Nat → Int32) (mi t : Nat) (x : Int64) : Nat → Nat → Int32 := (up2 (up2 (up2 (up2 (up2 (up2 (up2 iv (20 + 4 * mi + t) 0 ((x.toInt32 &&& 4095) &&& 7)) (20 + 4 * mi + t) 1 (((x.toInt32 &&& 4095) >>> ((3 : Int32) &&& 31)) &&& 7)) (20 + 4 * mi + t) 2 (((x.toInt32 &&& 4095) >>> ((6 : Int32) &&& 31)) &&& 7)) (20 + 4 * mi + t) 3 (if (((x.toInt32 &&& 4095) >>> ((9 : Int32) &&& 31)) &&& 1) = 0 then (0 : Int32) else 1)) (20 + 4 * mi + t) 4 (if (((x.toInt32 &&& 4095) >>> ((9 : Int32) &&& 31)) &&& 2) = 0 then (0 : Int32) else 1)) (20 + 4 * mi + t) 5 (if (((x.toInt32 &&& 4095) >>> ((9 : Int32) &&& 31)) &&& 4) = 0 then (0 : Int32) else 1)) (20 + 4 * mi + t) 7 ((((x.toUInt64 >>> ((12 : Int32).toInt64.toUInt64 &&& Int64.toUInt64 63)).toInt64).toInt32) &&& 8388607))
set_option maxHeartbeats 4000000 in
set_option maxRecDepth 100000 in
theorem c_wUnpack (l : Launch) (D : va_G) (gc : Nat → ClassId) (ad ln : Nat → Nat) (iv : Nat → Nat → Int32) (lv : Nat → Nat → Int64) (mi t : Nat) (hmi : mi < 2) (ht : t < 4) (x : Int64) : kMv l yX5_unpack wX5_unpack ({ frames := 0, cells := 0, slots := 0, locals := 0 }) D vwCl (kT gc) 42 (kE gc) [.ref (ad (20 + 4 * mi + t)), .long x] (ad, ln, iv, lv) (ad, ln, m_wUnpack iv mi t x, lv) := by
  refine kv_start (cc := cX5_unpack) (maxL := 5) (by decide) rfl (Nat.le_of_ble_eq_true rfl) ?_
  intro p9 e9 s m9 below meth c9 A ls hx hb hr hts hown hlocks hml hA hK hP hD hS hl
  have hl : lv_has ls 5 [(0, .ref (ad (20 + 4 * mi + t))), (1, .long x)] := hl
  have hown : s.vm.findClass "MonitorWays$Worker" = some m9.cls := hown
  have hin_X5 : ∀ w ∈ u_ws "MonitorWays$Worker" TX5 8, w ∈ wX5_unpack := fun w h => tcons (inX5 w h)
  have lk_f24 := hts _ (tcons tw_57)
  have lk_f15 := hts _ (tcons tw_59)
  have lk_f27 := hts _ (tcons tw_60)
  have lk_f30 := hts _ (tcons tw_62)
  have lk_f34 := hts _ (tcons tw_64)
  have lk_f37 := hts _ (tcons tw_66)
  have lk_c56 := hts _ (tcons tw_492)
  have lk_f40 := hts _ (tcons tw_69)
  refine lv_lload_n hx hb dX5_unpack_0 rfl (lv_at hl 1 rfl) ?_
  refine lv_l2i hx hb dX5_unpack_1 rfl ?_
  refine lv_sipush (v := 4095) hx hb dX5_unpack_2 (by decide) ?_
  refine lv_iand hx hb dX5_unpack_5 ?_
  refine lv_istore_n (lv' := [(3, .int (x.toInt32 &&& 4095)), (0, .ref (ad (20 + 4 * mi + t))), (1, .long x)]) hx hb dX5_unpack_6 rfl hl (by decide) rfl (fun ls hl => ?_)
  refine lv_iload_n hx hb dX5_unpack_7 rfl (lv_at hl 0 rfl) ?_
  refine lv_bipush (v := 9) hx hb dX5_unpack_8 (by decide) ?_
  refine lv_ishr hx hb dX5_unpack_10 ?_
  refine lv_istore (lv' := [(4, .int ((x.toInt32 &&& 4095) >>> ((9 : Int32) &&& 31))), (3, .int (x.toInt32 &&& 4095)), (0, .ref (ad (20 + 4 * mi + t))), (1, .long x)]) hx hb dX5_unpack_11 hl (by decide) rfl (fun ls hl => ?_)
  refine lv_aload_n hx hb dX5_unpack_13 rfl (lv_at hl 2 rfl) ?_
  refine lv_iload_n hx hb dX5_unpack_14 rfl (lv_at hl 1 rfl) ?_
  refine lv_bipush (v := 7) hx hb dX5_unpack_15 (by decide) ?_
  refine lv_iand hx hb dX5_unpack_17 ?_
  refine kr_put (C := "MonitorWays$Worker") (T := TX5) (N := 8) hx hb hts hin_X5 tyX5 ok_tyX5 ok_nX5 hown hK hP hD hS (20 + 4 * mi + t) (by omega) (fun _ => E_wk (mi := mi) (t := t) hmi ht _ _ _ _) rfl 0 (by decide) lk_f24 (fun _ h9 => h9) rfl rfl rfl rfl (fun _ => Nat.le_of_ble_eq_true rfl) (fun _ => rfl) dX5_unpack_18 (fun H locs hP hD hS => ?_)
  refine lv_aload_n hx hb dX5_unpack_21 rfl (lv_at hl 2 rfl) ?_
  refine lv_iload_n hx hb dX5_unpack_22 rfl (lv_at hl 1 rfl) ?_
  refine lv_iconst (v := 3) hx hb dX5_unpack_23 (by decide) ?_
  refine lv_ishr hx hb dX5_unpack_24 ?_
  refine lv_bipush (v := 7) hx hb dX5_unpack_25 (by decide) ?_
  refine lv_iand hx hb dX5_unpack_27 ?_
  refine kr_put (C := "MonitorWays$Worker") (T := TX5) (N := 8) hx hb hts hin_X5 tyX5 ok_tyX5 ok_nX5 hown hK hP hD hS (20 + 4 * mi + t) (by omega) (fun _ => E_wk (mi := mi) (t := t) hmi ht _ _ _ _) rfl 1 (by decide) lk_f15 (fun _ h9 => h9) rfl rfl rfl rfl (fun _ => Nat.le_of_ble_eq_true rfl) (fun _ => rfl) dX5_unpack_28 (fun H locs hP hD hS => ?_)
  refine lv_aload_n hx hb dX5_unpack_31 rfl (lv_at hl 2 rfl) ?_
  refine lv_iload_n hx hb dX5_unpack_32 rfl (lv_at hl 1 rfl) ?_
  refine lv_bipush (v := 6) hx hb dX5_unpack_33 (by decide) ?_
  refine lv_ishr hx hb dX5_unpack_35 ?_
  refine lv_bipush (v := 7) hx hb dX5_unpack_36 (by decide) ?_
  refine lv_iand hx hb dX5_unpack_38 ?_
  refine kr_put (C := "MonitorWays$Worker") (T := TX5) (N := 8) hx hb hts hin_X5 tyX5 ok_tyX5 ok_nX5 hown hK hP hD hS (20 + 4 * mi + t) (by omega) (fun _ => E_wk (mi := mi) (t := t) hmi ht _ _ _ _) rfl 2 (by decide) lk_f27 (fun _ h9 => h9) rfl rfl rfl rfl (fun _ => Nat.le_of_ble_eq_true rfl) (fun _ => rfl) dX5_unpack_39 (fun H locs hP hD hS => ?_)
  refine lv_aload_n hx hb dX5_unpack_42 rfl (lv_at hl 2 rfl) ?_
  refine lv_iload hx hb dX5_unpack_43 (lv_at hl 0 rfl) ?_
  refine lv_iconst (v := 1) hx hb dX5_unpack_45 (by decide) ?_
  refine lv_iand hx hb dX5_unpack_46 ?_
  refine kr_tern (M := 55) (cnd := (((x.toInt32 &&& 4095) >>> ((9 : Int32) &&& 31)) &&& 1) = 0) (a := 0) (b := 1) (rest := [.ref (ad (20 + 4 * mi + t))]) (fun ja jb => ?_) ?_
  · refine lv_if_eq (tgt := 54) hx hb dX5_unpack_47 (by decide) (fun c_1 => ?_) (fun c_1 => ?_)
    · refine lv_iconst (v := 0) hx hb dX5_unpack_54 (by decide) ?_
      exact ja c_1
    · refine lv_iconst (v := 1) hx hb dX5_unpack_50 (by decide) ?_
      refine lv_goto (tgt := 55) hx hb dX5_unpack_51 (by decide) ?_
      exact jb c_1
  refine kr_put (C := "MonitorWays$Worker") (T := TX5) (N := 8) hx hb hts hin_X5 tyX5 ok_tyX5 ok_nX5 hown hK hP hD hS (20 + 4 * mi + t) (by omega) (fun _ => E_wk (mi := mi) (t := t) hmi ht _ _ _ _) rfl 3 (by decide) lk_f30 (fun _ h9 => h9) rfl rfl (nb_ite (by decide) (by decide)) (fb_ite (by decide) (by decide)) (fun _ => Nat.le_of_ble_eq_true rfl) (fun _ => rfl) dX5_unpack_55 (fun H locs hP hD hS => ?_)
  refine lv_aload_n hx hb dX5_unpack_58 rfl (lv_at hl 2 rfl) ?_
  refine lv_iload hx hb dX5_unpack_59 (lv_at hl 0 rfl) ?_
  refine lv_iconst (v := 2) hx hb dX5_unpack_61 (by decide) ?_
  refine lv_iand hx hb dX5_unpack_62 ?_
  refine kr_tern (M := 71) (cnd := (((x.toInt32 &&& 4095) >>> ((9 : Int32) &&& 31)) &&& 2) = 0) (a := 0) (b := 1) (rest := [.ref (ad (20 + 4 * mi + t))]) (fun ja jb => ?_) ?_
  · refine lv_if_eq (tgt := 70) hx hb dX5_unpack_63 (by decide) (fun c_2 => ?_) (fun c_2 => ?_)
    · refine lv_iconst (v := 0) hx hb dX5_unpack_70 (by decide) ?_
      exact ja c_2
    · refine lv_iconst (v := 1) hx hb dX5_unpack_66 (by decide) ?_
      refine lv_goto (tgt := 71) hx hb dX5_unpack_67 (by decide) ?_
      exact jb c_2
  refine kr_put (C := "MonitorWays$Worker") (T := TX5) (N := 8) hx hb hts hin_X5 tyX5 ok_tyX5 ok_nX5 hown hK hP hD hS (20 + 4 * mi + t) (by omega) (fun _ => E_wk (mi := mi) (t := t) hmi ht _ _ _ _) rfl 4 (by decide) lk_f34 (fun _ h9 => h9) rfl rfl (nb_ite (by decide) (by decide)) (fb_ite (by decide) (by decide)) (fun _ => Nat.le_of_ble_eq_true rfl) (fun _ => rfl) dX5_unpack_71 (fun H locs hP hD hS => ?_)
  refine lv_aload_n hx hb dX5_unpack_74 rfl (lv_at hl 2 rfl) ?_
  refine lv_iload hx hb dX5_unpack_75 (lv_at hl 0 rfl) ?_
  refine lv_iconst (v := 4) hx hb dX5_unpack_77 (by decide) ?_
  refine lv_iand hx hb dX5_unpack_78 ?_
  refine kr_tern (M := 87) (cnd := (((x.toInt32 &&& 4095) >>> ((9 : Int32) &&& 31)) &&& 4) = 0) (a := 0) (b := 1) (rest := [.ref (ad (20 + 4 * mi + t))]) (fun ja jb => ?_) ?_
  · refine lv_if_eq (tgt := 86) hx hb dX5_unpack_79 (by decide) (fun c_3 => ?_) (fun c_3 => ?_)
    · refine lv_iconst (v := 0) hx hb dX5_unpack_86 (by decide) ?_
      exact ja c_3
    · refine lv_iconst (v := 1) hx hb dX5_unpack_82 (by decide) ?_
      refine lv_goto (tgt := 87) hx hb dX5_unpack_83 (by decide) ?_
      exact jb c_3
  refine kr_put (C := "MonitorWays$Worker") (T := TX5) (N := 8) hx hb hts hin_X5 tyX5 ok_tyX5 ok_nX5 hown hK hP hD hS (20 + 4 * mi + t) (by omega) (fun _ => E_wk (mi := mi) (t := t) hmi ht _ _ _ _) rfl 5 (by decide) lk_f37 (fun _ h9 => h9) rfl rfl (nb_ite (by decide) (by decide)) (fb_ite (by decide) (by decide)) (fun _ => Nat.le_of_ble_eq_true rfl) (fun _ => rfl) dX5_unpack_87 (fun H locs hP hD hS => ?_)
  refine lv_aload_n hx hb dX5_unpack_90 rfl (lv_at hl 2 rfl) ?_
  refine lv_lload_n hx hb dX5_unpack_91 rfl (lv_at hl 3 rfl) ?_
  refine lv_bipush (v := 12) hx hb dX5_unpack_92 (by decide) ?_
  refine lv_lushr hx hb dX5_unpack_94 rfl ?_
  refine lv_l2i hx hb dX5_unpack_95 rfl ?_
  refine lv_ldc (v := 8388607) hx hb hown lk_c56 dX5_unpack_96 ?_
  refine lv_iand hx hb dX5_unpack_98 ?_
  refine kr_put (C := "MonitorWays$Worker") (T := TX5) (N := 8) hx hb hts hin_X5 tyX5 ok_tyX5 ok_nX5 hown hK hP hD hS (20 + 4 * mi + t) (by omega) (fun _ => E_wk (mi := mi) (t := t) hmi ht _ _ _ _) rfl 7 (by decide) lk_f40 (fun _ h9 => h9) rfl rfl rfl rfl (fun _ => Nat.le_of_ble_eq_true rfl) (fun _ => rfl) dX5_unpack_99 (fun H locs hP hD hS => ?_)
  exact kr_vret hx hb hr hlocks hK hP hD hS rfl dX5_unpack_102
end
section
def m_mSetFree (iv : Nat → Nat → Int32) (mi m : Nat) : Nat → Nat → Int32 := (up2 (up2 iv (28 + 2 * mi + m) 0 (-1)) (28 + 2 * mi + m) 1 0)
set_option maxHeartbeats 4000000 in
set_option maxRecDepth 100000 in
theorem c_mSetFree (l : Launch) (D : va_G) (gc : Nat → ClassId) (ad ln : Nat → Nat) (iv : Nat → Nat → Int32) (lv : Nat → Nat → Int64) (mi m : Nat) (hmi : mi < 2) (hm : m < 2) : kMv l yX1_setFree wX1_setFree ({ frames := 0, cells := 0, slots := 0, locals := 0 }) D vwCl (kT gc) 42 (kE gc) [.ref (ad (28 + 2 * mi + m))] (ad, ln, iv, lv) (ad, ln, m_mSetFree iv mi m, lv) := by
  refine kv_start (cc := cX1_setFree) (maxL := 1) (by decide) rfl (Nat.le_of_ble_eq_true rfl) ?_
  intro p9 e9 s m9 below meth c9 A ls hx hb hr hts hown hlocks hml hA hK hP hD hS hl
  have hl : lv_has ls 1 [(0, .ref (ad (28 + 2 * mi + m)))] := hl
  have hown : s.vm.findClass "MonitorWays$Monitor" = some m9.cls := hown
  have hin_X1 : ∀ w ∈ u_ws "MonitorWays$Monitor" TX1 4, w ∈ wX1_setFree := fun w h => tcons (inX1 w h)
  have lk_f22 := hts _ (tcons tw_92)
  have lk_f25 := hts _ (tcons tw_95)
  refine lv_aload_n hx hb dX1_setFree_0 rfl (lv_at hl 0 rfl) ?_
  refine lv_iconst (v := (-1)) hx hb dX1_setFree_1 (by decide) ?_
  refine kr_put (C := "MonitorWays$Monitor") (T := TX1) (N := 4) hx hb hts hin_X1 tyX1 ok_tyX1 ok_nX1 hown hK hP hD hS (28 + 2 * mi + m) (by omega) (fun _ => E_mon (mi := mi) (m := m) hmi hm _ _ _ _) rfl 0 (by decide) lk_f22 (fun _ h9 => h9) rfl rfl rfl rfl (fun _ => Nat.le_of_ble_eq_true rfl) (fun _ => rfl) dX1_setFree_2 (fun H locs hP hD hS => ?_)
  refine lv_aload_n hx hb dX1_setFree_5 rfl (lv_at hl 0 rfl) ?_
  refine lv_iconst (v := 0) hx hb dX1_setFree_6 (by decide) ?_
  refine kr_put (C := "MonitorWays$Monitor") (T := TX1) (N := 4) hx hb hts hin_X1 tyX1 ok_tyX1 ok_nX1 hown hK hP hD hS (28 + 2 * mi + m) (by omega) (fun _ => E_mon (mi := mi) (m := m) hmi hm _ _ _ _) rfl 1 (by decide) lk_f25 (fun _ h9 => h9) rfl rfl rfl rfl (fun _ => Nat.le_of_ble_eq_true rfl) (fun _ => rfl) dX1_setFree_7 (fun H locs hP hD hS => ?_)
  exact kr_vret hx hb hr hlocks hK hP hD hS rfl dX1_setFree_10
def m_mBegin (iv : Nat → Nat → Int32) (mi m : Nat) : Nat → Nat → Int32 := (up2 (m_mSetFree iv mi m) (28 + 2 * mi + m) 2 0)
set_option maxHeartbeats 4000000 in
set_option maxRecDepth 100000 in
theorem c_mBegin (l : Launch) (D : va_G) (gc : Nat → ClassId) (ad ln : Nat → Nat) (iv : Nat → Nat → Int32) (lv : Nat → Nat → Int64) (mi m : Nat) (hmi : mi < 2) (hm : m < 2) : kMv l yX1_begin wX1_begin ({ frames := 1, cells := 0, slots := 0, locals := 20 }) D vwCl (kT gc) 42 (kE gc) [.ref (ad (28 + 2 * mi + m))] (ad, ln, iv, lv) (ad, ln, m_mBegin iv mi m, lv) := by
  refine kv_start (cc := cX1_begin) (maxL := 1) (by decide) rfl (Nat.le_of_ble_eq_true rfl) ?_
  intro p9 e9 s m9 below meth c9 A ls hx hb hr hts hown hlocks hml hA hK hP hD hS hl
  have hl : lv_has ls 1 [(0, .ref (ad (28 + 2 * mi + m)))] := hl
  have hown : s.vm.findClass "MonitorWays$Monitor" = some m9.cls := hown
  have hin_X1 : ∀ w ∈ u_ws "MonitorWays$Monitor" TX1 4, w ∈ wX1_begin := fun w h => tcons (inX1 w h)
  have lk_f18 := hts _ (tcons tw_98)
  refine lv_aload_n hx hb dX1_begin_0 rfl (lv_at hl 0 rfl) ?_
  refine kr_callVv (As := []) (rest := []) ⟨hx, hb, hml, hown, hts⟩ (c_mSetFree l D gc ad ln iv lv mi m hmi hm) (cwV 0 hts (goodV (fun _ h => tcons h) tw_122 tw_123 tw_124 tw_5 tw_125) rfl rfl rfl (by decide +kernel) ⟨Nat.le_of_ble_eq_true rfl, Nat.le_of_ble_eq_true rfl⟩) (kr_recv hK hP (28 + 2 * mi + m) (by omega) (E_mon (mi := mi) (m := m) hmi hm _ _ _ _) rfl) hK hP hD hS hA rfl hl.1 rfl (Nat.le_of_ble_eq_true rfl) dX1_begin_1 ⟨Nat.le_of_ble_eq_true rfl, Nat.le_of_ble_eq_true rfl⟩ (fun H locs hP hD hS => ?_)
  refine lv_aload_n hx hb dX1_begin_4 rfl (lv_at hl 0 rfl) ?_
  refine lv_iconst (v := 0) hx hb dX1_begin_5 (by decide) ?_
  refine kr_put (C := "MonitorWays$Monitor") (T := TX1) (N := 4) hx hb hts hin_X1 tyX1 ok_tyX1 ok_nX1 hown hK hP hD hS (28 + 2 * mi + m) (by omega) (fun _ => E_mon (mi := mi) (m := m) hmi hm _ _ _ _) rfl 2 (by decide) lk_f18 (fun _ h9 => h9) rfl rfl rfl rfl (fun _ => Nat.le_of_ble_eq_true rfl) (fun _ => rfl) dX1_begin_6 (fun H locs hP hD hS => ?_)
  exact kr_vret hx hb hr hlocks hK hP hD hS rfl dX1_begin_9
def r_mIsFree (iv : Nat → Nat → Int32) (mi m : Nat) : Int32 := (if iv (28 + 2 * mi + m) 0 = (-1) then (1 : Int32) else 0)
theorem nb_mIsFree (iv : Nat → Nat → Int32) (mi m : Nat) : narrow .boolean (.int (r_mIsFree iv mi m)) = .int (r_mIsFree iv mi m) := by
  unfold r_mIsFree; repeat' split
  all_goals rfl
set_option maxHeartbeats 4000000 in
set_option maxRecDepth 100000 in
theorem c_mIsFree (l : Launch) (D : va_G) (gc : Nat → ClassId) (ad ln : Nat → Nat) (iv : Nat → Nat → Int32) (lv : Nat → Nat → Int64) (mi m : Nat) (hmi : mi < 2) (hm : m < 2) : kMi l yX1_isFree wX1_isFree ({ frames := 0, cells := 0, slots := 0, locals := 0 }) D vwCl (kT gc) 42 (kE gc) [.ref (ad (28 + 2 * mi + m))] (ad, ln, iv, lv) (ad, ln, iv, lv) (r_mIsFree iv mi m) := by
  refine ki_start (cc := cX1_isFree) (maxL := 1) (ret := (some .boolean)) (by decide) rfl (Nat.le_of_ble_eq_true rfl) ?_
  intro p9 e9 s m9 below meth c9 A ls hx hb hr hts hown hlocks hml hA hK hP hD hS hl
  have hl : lv_has ls 1 [(0, .ref (ad (28 + 2 * mi + m)))] := hl
  have hown : s.vm.findClass "MonitorWays$Monitor" = some m9.cls := hown
  have hin_X1 : ∀ w ∈ u_ws "MonitorWays$Monitor" TX1 4, w ∈ wX1_isFree := fun w h => tcons (inX1 w h)
  have lk_f22 := hts _ (tcons tw_92)
  refine lv_aload_n hx hb dX1_isFree_0 rfl (lv_at hl 0 rfl) ?_
  refine kr_get (C := "MonitorWays$Monitor") (T := TX1) (N := 4) hx hb hts hin_X1 hown hK hP (28 + 2 * mi + m) (by omega) (E_mon (mi := mi) (m := m) hmi hm _ _ _ _) rfl 0 (by decide) lk_f22 (fun _ h9 => h9) rfl dX1_isFree_1 ?_
  refine lv_iconst (v := (-1)) hx hb dX1_isFree_4 (by decide) ?_
  refine kr_tern (M := 13) (cnd := iv (28 + 2 * mi + m) 0 = (-1)) (a := 1) (b := 0) (rest := []) (fun ja jb => ?_) ?_
  · refine lv_icmp_ne (tgt := 12) hx hb dX1_isFree_5 (by decide) (fun c_1 => ?_) (fun c_1 => ?_)
    · refine lv_iconst (v := 0) hx hb dX1_isFree_12 (by decide) ?_
      exact jb c_1
    · refine lv_iconst (v := 1) hx hb dX1_isFree_8 (by decide) ?_
      refine lv_goto (tgt := 13) hx hb dX1_isFree_9 (by decide) ?_
      exact ja c_1
  exact kr_zret hx hb hr hlocks hK hP hD hS (nb_ite (by decide) (by decide)) rfl rfl dX1_isFree_13
def m_mOwn (iv : Nat → Nat → Int32) (mi m : Nat) (x d : Int32) : Nat → Nat → Int32 := (up2 (up2 iv (28 + 2 * mi + m) 0 x) (28 + 2 * mi + m) 1 d)
set_option maxHeartbeats 4000000 in
set_option maxRecDepth 100000 in
theorem c_mOwn (l : Launch) (D : va_G) (gc : Nat → ClassId) (ad ln : Nat → Nat) (iv : Nat → Nat → Int32) (lv : Nat → Nat → Int64) (mi m : Nat) (hmi : mi < 2) (hm : m < 2) (x d : Int32) : kMv l yX1_own wX1_own ({ frames := 0, cells := 0, slots := 0, locals := 0 }) D vwCl (kT gc) 42 (kE gc) [.ref (ad (28 + 2 * mi + m)), .int x, .int d] (ad, ln, iv, lv) (ad, ln, m_mOwn iv mi m x d, lv) := by
  refine kv_start (cc := cX1_own) (maxL := 3) (by decide) rfl (Nat.le_of_ble_eq_true rfl) ?_
  intro p9 e9 s m9 below meth c9 A ls hx hb hr hts hown hlocks hml hA hK hP hD hS hl
  have hl : lv_has ls 3 [(0, .ref (ad (28 + 2 * mi + m))), (1, .int x), (2, .int d)] := hl
  have hown : s.vm.findClass "MonitorWays$Monitor" = some m9.cls := hown
  have hin_X1 : ∀ w ∈ u_ws "MonitorWays$Monitor" TX1 4, w ∈ wX1_own := fun w h => tcons (inX1 w h)
  have lk_f22 := hts _ (tcons tw_92)
  have lk_f25 := hts _ (tcons tw_95)
  refine lv_aload_n hx hb dX1_own_0 rfl (lv_at hl 0 rfl) ?_
  refine lv_iload_n hx hb dX1_own_1 rfl (lv_at hl 1 rfl) ?_
  refine kr_put (C := "MonitorWays$Monitor") (T := TX1) (N := 4) hx hb hts hin_X1 tyX1 ok_tyX1 ok_nX1 hown hK hP hD hS (28 + 2 * mi + m) (by omega) (fun _ => E_mon (mi := mi) (m := m) hmi hm _ _ _ _) rfl 0 (by decide) lk_f22 (fun _ h9 => h9) rfl rfl rfl rfl (fun _ => Nat.le_of_ble_eq_true rfl) (fun _ => rfl) dX1_own_2 (fun H locs hP hD hS => ?_)
  refine lv_aload_n hx hb dX1_own_5 rfl (lv_at hl 0 rfl) ?_
  refine lv_iload_n hx hb dX1_own_6 rfl (lv_at hl 2 rfl) ?_
  refine kr_put (C := "MonitorWays$Monitor") (T := TX1) (N := 4) hx hb hts hin_X1 tyX1 ok_tyX1 ok_nX1 hown hK hP hD hS (28 + 2 * mi + m) (by omega) (fun _ => E_mon (mi := mi) (m := m) hmi hm _ _ _ _) rfl 1 (by decide) lk_f25 (fun _ h9 => h9) rfl rfl rfl rfl (fun _ => Nat.le_of_ble_eq_true rfl) (fun _ => rfl) dX1_own_7 (fun H locs hP hD hS => ?_)
  exact kr_vret hx hb hr hlocks hK hP hD hS rfl dX1_own_10
def m_mLeave (iv : Nat → Nat → Int32) (mi m : Nat) : Nat → Nat → Int32 := if 0 < (up2 iv (28 + 2 * mi + m) 1 ((iv (28 + 2 * mi + m) 1) - 1)) (28 + 2 * mi + m) 1 then (up2 iv (28 + 2 * mi + m) 1 ((iv (28 + 2 * mi + m) 1) - 1)) else (m_mSetFree (up2 iv (28 + 2 * mi + m) 1 ((iv (28 + 2 * mi + m) 1) - 1)) mi m)
set_option maxHeartbeats 4000000 in
set_option maxRecDepth 100000 in
theorem c_mLeave (l : Launch) (D : va_G) (gc : Nat → ClassId) (ad ln : Nat → Nat) (iv : Nat → Nat → Int32) (lv : Nat → Nat → Int64) (mi m : Nat) (hmi : mi < 2) (hm : m < 2) : kMv l yX1_leaveOnce wX1_leaveOnce ({ frames := 1, cells := 0, slots := 0, locals := 20 }) D vwCl (kT gc) 42 (kE gc) [.ref (ad (28 + 2 * mi + m))] (ad, ln, iv, lv) (ad, ln, m_mLeave iv mi m, lv) := by
  refine kv_start (cc := cX1_leaveOnce) (maxL := 1) (by decide) rfl (Nat.le_of_ble_eq_true rfl) ?_
  intro p9 e9 s m9 below meth c9 A ls hx hb hr hts hown hlocks hml hA hK hP hD hS hl
  have hl : lv_has ls 1 [(0, .ref (ad (28 + 2 * mi + m)))] := hl
  have hown : s.vm.findClass "MonitorWays$Monitor" = some m9.cls := hown
  have hin_X1 : ∀ w ∈ u_ws "MonitorWays$Monitor" TX1 4, w ∈ wX1_leaveOnce := fun w h => tcons (inX1 w h)
  have lk_f25 := hts _ (tcons tw_95)
  refine lv_aload_n hx hb dX1_leaveOnce_0 rfl (lv_at hl 0 rfl) ?_
  refine lv_dup hx hb dX1_leaveOnce_1 rfl ?_
  refine kr_get (C := "MonitorWays$Monitor") (T := TX1) (N := 4) hx hb hts hin_X1 hown hK hP (28 + 2 * mi + m) (by omega) (E_mon (mi := mi) (m := m) hmi hm _ _ _ _) rfl 1 (by decide) lk_f25 (fun _ h9 => h9) rfl dX1_leaveOnce_2 ?_
  refine lv_iconst (v := 1) hx hb dX1_leaveOnce_5 (by decide) ?_
  refine lv_isub hx hb dX1_leaveOnce_6 ?_
  refine kr_put (C := "MonitorWays$Monitor") (T := TX1) (N := 4) hx hb hts hin_X1 tyX1 ok_tyX1 ok_nX1 hown hK hP hD hS (28 + 2 * mi + m) (by omega) (fun _ => E_mon (mi := mi) (m := m) hmi hm _ _ _ _) rfl 1 (by decide) lk_f25 (fun _ h9 => h9) rfl rfl rfl rfl (fun _ => Nat.le_of_ble_eq_true rfl) (fun _ => rfl) dX1_leaveOnce_7 (fun H locs hP hD hS => ?_)
  refine lv_aload_n hx hb dX1_leaveOnce_10 rfl (lv_at hl 0 rfl) ?_
  refine kr_get (C := "MonitorWays$Monitor") (T := TX1) (N := 4) hx hb hts hin_X1 hown hK hP (28 + 2 * mi + m) (by omega) (E_mon (mi := mi) (m := m) hmi hm _ _ _ _) rfl 1 (by decide) lk_f25 (fun _ h9 => h9) rfl dX1_leaveOnce_11 ?_
  refine lv_if_gt (tgt := 21) hx hb dX1_leaveOnce_14 (by decide) (fun c_1 => ?_) (fun c_1 => ?_)
  · exact kr_vret hx hb hr hlocks hK hP hD hS (by unfold m_mLeave; rw [if_pos c_1]) dX1_leaveOnce_21
  · refine lv_aload_n hx hb dX1_leaveOnce_17 rfl (lv_at hl 0 rfl) ?_
    refine kr_callVv (As := []) (rest := []) ⟨hx, hb, hml, hown, hts⟩ (c_mSetFree l D gc ad ln (up2 iv (28 + 2 * mi + m) 1 ((iv (28 + 2 * mi + m) 1) - 1)) lv mi m hmi hm) (cwV 0 hts (goodV (fun _ h => tcons h) tw_122 tw_123 tw_124 tw_5 tw_125) rfl rfl rfl (by decide +kernel) ⟨Nat.le_of_ble_eq_true rfl, Nat.le_of_ble_eq_true rfl⟩) (kr_recv hK hP (28 + 2 * mi + m) (by omega) (E_mon (mi := mi) (m := m) hmi hm _ _ _ _) rfl) hK hP hD hS hA rfl hl.1 rfl (Nat.le_of_ble_eq_true rfl) dX1_leaveOnce_18 ⟨Nat.le_of_ble_eq_true rfl, Nat.le_of_ble_eq_true rfl⟩ (fun H locs hP hD hS => ?_)
    exact kr_vret hx hb hr hlocks hK hP hD hS (by unfold m_mLeave; rw [if_neg c_1]) dX1_leaveOnce_21
def r_mWaiter (iv : Nat → Nat → Int32) (mi m : Nat) (k : Int32) : Int32 := if k < 0 then (-1) else if iv (28 + 2 * mi + m) 2 ≤ k then (-1) else iv (32 + 2 * mi + m) k.toNatClampNeg
set_option maxHeartbeats 4000000 in
set_option maxRecDepth 100000 in
theorem c_mWaiter (l : Launch) (D : va_G) (gc : Nat → ClassId) (ad ln : Nat → Nat) (iv : Nat → Nat → Int32) (lv : Nat → Nat → Int64) (mi m : Nat) (hmi : mi < 2) (hm : m < 2) (k : Int32) (sz : Nat) (hsz : iv (28 + 2 * mi + m) 2 = nI sz) (hs4 : sz ≤ 4) : kMi l yX1_waiterAt wX1_waiterAt ({ frames := 0, cells := 0, slots := 0, locals := 0 }) D vwCl (kT gc) 42 (kE gc) [.ref (ad (28 + 2 * mi + m)), .int k] (ad, ln, iv, lv) (ad, ln, iv, lv) (r_mWaiter iv mi m k) := by
  refine ki_start (cc := cX1_waiterAt) (maxL := 2) (ret := (some .int)) (by decide) rfl (Nat.le_of_ble_eq_true rfl) ?_
  intro p9 e9 s m9 below meth c9 A ls hx hb hr hts hown hlocks hml hA hK hP hD hS hl
  have hl : lv_has ls 2 [(0, .ref (ad (28 + 2 * mi + m))), (1, .int k)] := hl
  have hown : s.vm.findClass "MonitorWays$Monitor" = some m9.cls := hown
  have hin_X1 : ∀ w ∈ u_ws "MonitorWays$Monitor" TX1 4, w ∈ wX1_waiterAt := fun w h => tcons (inX1 w h)
  have lk_f18 := hts _ (tcons tw_98)
  have lk_f9 := hts _ (tcons tw_100)
  refine lv_iload_n hx hb dX1_waiterAt_0 rfl (lv_at hl 1 rfl) ?_
  refine lv_if_lt (tgt := 21) hx hb dX1_waiterAt_1 (by decide) (fun c_1 => ?_) (fun c_1 => ?_)
  · refine lv_iconst (v := (-1)) hx hb dX1_waiterAt_21 (by decide) ?_
    exact kr_iret hx hb hr hlocks hK hP hD hS (by unfold r_mWaiter; rw [if_pos c_1]) rfl dX1_waiterAt_22
  · refine lv_iload_n hx hb dX1_waiterAt_4 rfl (lv_at hl 1 rfl) ?_
    refine lv_aload_n hx hb dX1_waiterAt_5 rfl (lv_at hl 0 rfl) ?_
    refine kr_get (C := "MonitorWays$Monitor") (T := TX1) (N := 4) hx hb hts hin_X1 hown hK hP (28 + 2 * mi + m) (by omega) (E_mon (mi := mi) (m := m) hmi hm _ _ _ _) rfl 2 (by decide) lk_f18 (fun _ h9 => h9) rfl dX1_waiterAt_6 ?_
    refine lv_icmp_ge (tgt := 21) hx hb dX1_waiterAt_9 (by decide) (fun c_2 => ?_) (fun c_2 => ?_)
    · refine lv_iconst (v := (-1)) hx hb dX1_waiterAt_21 (by decide) ?_
      exact kr_iret hx hb hr hlocks hK hP hD hS (by unfold r_mWaiter; rw [if_neg c_1, if_pos c_2]) rfl dX1_waiterAt_22
    · refine lv_aload_n hx hb dX1_waiterAt_12 rfl (lv_at hl 0 rfl) ?_
      refine kr_get (C := "MonitorWays$Monitor") (T := TX1) (N := 4) hx hb hts hin_X1 hown hK hP (28 + 2 * mi + m) (by omega) (E_mon (mi := mi) (m := m) hmi hm _ _ _ _) rfl 3 (by decide) lk_f9 (fun _ h9 => h9) rfl dX1_waiterAt_13 ?_
      refine lv_iload_n hx hb dX1_waiterAt_16 rfl (lv_at hl 1 rfl) ?_
      refine kr_iald hx hb hK hP (32 + 2 * mi + m) 0 (by omega) (E_mset (mi := mi) (m := m) hmi hm _ _ _ _) rfl (in4_of c_1 c_2 hsz hs4) dX1_waiterAt_17 ?_
      refine lv_goto (tgt := 22) hx hb dX1_waiterAt_18 (by decide) ?_
      exact kr_iret hx hb hr hlocks hK hP hD hS (by unfold r_mWaiter; rw [if_neg c_1, if_neg c_2]) rfl dX1_waiterAt_22
def m_mAdd (iv : Nat → Nat → Int32) (mi m : Nat) (x : Int32) (sz : Nat) : Nat → Nat → Int32 := if 4 ≤ nI sz then iv else (up2 (up2 iv (32 + 2 * mi + m) sz x) (28 + 2 * mi + m) 2 ((nI sz) + 1))
set_option maxHeartbeats 4000000 in
set_option maxRecDepth 100000 in
theorem c_mAdd (l : Launch) (D : va_G) (gc : Nat → ClassId) (ad ln : Nat → Nat) (iv : Nat → Nat → Int32) (lv : Nat → Nat → Int64) (mi m : Nat) (hmi : mi < 2) (hm : m < 2) (x : Int32) (sz : Nat) (hsz : iv (28 + 2 * mi + m) 2 = nI sz) (hs4 : sz ≤ 4) : kMv l yX1_addWaiter wX1_addWaiter ({ frames := 0, cells := 0, slots := 0, locals := 0 }) D vwCl (kT gc) 42 (kE gc) [.ref (ad (28 + 2 * mi + m)), .int x] (ad, ln, iv, lv) (ad, ln, m_mAdd iv mi m x sz, lv) := by
  refine kv_start (cc := cX1_addWaiter) (maxL := 2) (by decide) rfl (Nat.le_of_ble_eq_true rfl) ?_
  intro p9 e9 s m9 below meth c9 A ls hx hb hr hts hown hlocks hml hA hK hP hD hS hl
  have hl : lv_has ls 2 [(0, .ref (ad (28 + 2 * mi + m))), (1, .int x)] := hl
  have hown : s.vm.findClass "MonitorWays$Monitor" = some m9.cls := hown
  have hin_X1 : ∀ w ∈ u_ws "MonitorWays$Monitor" TX1 4, w ∈ wX1_addWaiter := fun w h => tcons (inX1 w h)
  have lk_f18 := hts _ (tcons tw_98)
  have lk_f9 := hts _ (tcons tw_100)
  refine lv_aload_n hx hb dX1_addWaiter_0 rfl (lv_at hl 0 rfl) ?_
  refine kr_get (C := "MonitorWays$Monitor") (T := TX1) (N := 4) hx hb hts hin_X1 hown hK hP (28 + 2 * mi + m) (by omega) (E_mon (mi := mi) (m := m) hmi hm _ _ _ _) rfl 2 (by decide) lk_f18 (fun _ h9 => h9) rfl dX1_addWaiter_1 ?_
  refine kr_topi (y := nI sz) hsz ?_
  refine lv_iconst (v := 4) hx hb dX1_addWaiter_4 (by decide) ?_
  refine lv_icmp_ge (tgt := 28) hx hb dX1_addWaiter_5 (by decide) (fun c_1 => ?_) (fun c_1 => ?_)
  · exact kr_vret hx hb hr hlocks hK hP hD hS (by unfold m_mAdd; rw [if_pos c_1]) dX1_addWaiter_28
  · refine lv_aload_n hx hb dX1_addWaiter_8 rfl (lv_at hl 0 rfl) ?_
    refine kr_get (C := "MonitorWays$Monitor") (T := TX1) (N := 4) hx hb hts hin_X1 hown hK hP (28 + 2 * mi + m) (by omega) (E_mon (mi := mi) (m := m) hmi hm _ _ _ _) rfl 3 (by decide) lk_f9 (fun _ h9 => h9) rfl dX1_addWaiter_9 ?_
    refine lv_aload_n hx hb dX1_addWaiter_12 rfl (lv_at hl 0 rfl) ?_
    refine kr_get (C := "MonitorWays$Monitor") (T := TX1) (N := 4) hx hb hts hin_X1 hown hK hP (28 + 2 * mi + m) (by omega) (E_mon (mi := mi) (m := m) hmi hm _ _ _ _) rfl 2 (by decide) lk_f18 (fun _ h9 => h9) rfl dX1_addWaiter_13 ?_
    refine kr_topi (y := nI sz) hsz ?_
    refine lv_iload_n hx hb dX1_addWaiter_16 rfl (lv_at hl 1 rfl) ?_
    refine kr_iastN hx hb hK hP hD hS (32 + 2 * mi + m) 0 (by omega) (fun _ => E_mset (mi := mi) (m := m) hmi hm _ _ _ _) rfl (j := sz) (lt_of_nle (a := 4) (by decide) (by omega) c_1) (by decide) dX1_addWaiter_17 (fun H locs hP hD hS => ?_)
    refine lv_aload_n hx hb dX1_addWaiter_18 rfl (lv_at hl 0 rfl) ?_
    refine lv_dup hx hb dX1_addWaiter_19 rfl ?_
    refine kr_get (C := "MonitorWays$Monitor") (T := TX1) (N := 4) hx hb hts hin_X1 hown hK hP (28 + 2 * mi + m) (by omega) (E_mon (mi := mi) (m := m) hmi hm _ _ _ _) rfl 2 (by decide) lk_f18 (fun _ h9 => h9) rfl dX1_addWaiter_20 ?_
    refine kr_topi (y := nI sz) ((up2_ne (by omega)).trans hsz) ?_
    refine lv_iconst (v := 1) hx hb dX1_addWaiter_23 (by decide) ?_
    refine lv_iadd hx hb dX1_addWaiter_24 ?_
    refine kr_put (C := "MonitorWays$Monitor") (T := TX1) (N := 4) hx hb hts hin_X1 tyX1 ok_tyX1 ok_nX1 hown hK hP hD hS (28 + 2 * mi + m) (by omega) (fun _ => E_mon (mi := mi) (m := m) hmi hm _ _ _ _) rfl 2 (by decide) lk_f18 (fun _ h9 => h9) rfl rfl rfl rfl (fun _ => Nat.le_of_ble_eq_true rfl) (fun _ => rfl) dX1_addWaiter_25 (fun H locs hP hD hS => ?_)
    exact kr_vret hx hb hr hlocks hK hP hD hS (by unfold m_mAdd; rw [if_neg c_1]) dX1_addWaiter_28
/-- what dropWaiter does: k places are left to look at -/
def dropL (c : Nat) (x : Int32) (sz : Nat) : Nat → Nat → (Nat → Nat → Int32) → (Nat → Nat → Int32) × Nat
  | 0, lf, iv => (iv, lf)
  | k + 1, lf, iv => if iv c (sz - (k + 1)) = x then dropL c x sz k lf iv else dropL c x sz k (lf + 1) (up2 iv c lf (iv c (sz - (k + 1))))
theorem dropL_y {c : Nat} {x : Int32} {sz i lf : Nat} {iv : Nat → Nat → Int32} (hi : i < sz) (h : iv c i = x) : dropL c x sz (sz - i) lf iv = dropL c x sz (sz - (i + 1)) lf iv := by
  rw [show sz - i = (sz - (i + 1)) + 1 by omega, dropL, show sz - (sz - (i + 1) + 1) = i by omega, if_pos h]
theorem dropL_n {c : Nat} {x : Int32} {sz i lf : Nat} {iv : Nat → Nat → Int32} (hi : i < sz) (h : ¬ iv c i = x) : dropL c x sz (sz - i) lf iv = dropL c x sz (sz - (i + 1)) (lf + 1) (up2 iv c lf (iv c i)) := by
  rw [show sz - i = (sz - (i + 1)) + 1 by omega, dropL, show sz - (sz - (i + 1) + 1) = i by omega, if_neg h]
def m_mDrop (iv : Nat → Nat → Int32) (mi m : Nat) (x : Int32) (sz : Nat) : Nat → Nat → Int32 := up2 (dropL (32 + 2 * mi + m) x sz sz 0 iv).1 (28 + 2 * mi + m) 2 (nI (dropL (32 + 2 * mi + m) x sz sz 0 iv).2)
/-- the numbers of a set, packed, after k of them -/
def mPk (iv : Nat → Nat → Int32) (c : Nat) (b : Int32) : Nat → Int32
  | 0 => b
  | k + 1 => mPk iv c b k ||| (iv c k <<< (((9 : Int32) + (2 * nI k)) &&& 31))
def r_mPack (iv : Nat → Nat → Int32) (mi m sz : Nat) : Int64 := (mPk iv (32 + 2 * mi + m) ((((iv (28 + 2 * mi + m) 0) + 1) ||| ((iv (28 + 2 * mi + m) 1) <<< ((3 : Int32) &&& 31))) ||| (nI sz <<< ((6 : Int32) &&& 31))) sz).toInt64
set_option maxHeartbeats 4000000 in
set_option maxRecDepth 100000 in
theorem c_mDrop (l : Launch) (D : va_G) (gc : Nat → ClassId) (ad ln : Nat → Nat) (iv : Nat → Nat → Int32) (lv : Nat → Nat → Int64) (mi m : Nat) (hmi : mi < 2) (hm : m < 2) (x : Int32) (sz : Nat) (hsz : iv (28 + 2 * mi + m) 2 = nI sz) (hs4 : sz ≤ 4) : kMv l yX1_dropWaiter wX1_dropWaiter ({ frames := 0, cells := 0, slots := 0, locals := 0 }) D vwCl (kT gc) 42 (kE gc) [.ref (ad (28 + 2 * mi + m)), .int x] (ad, ln, iv, lv) (ad, ln, m_mDrop iv mi m x sz, lv) := by
  refine kv_start (cc := cX1_dropWaiter) (maxL := 4) (by decide) rfl (Nat.le_of_ble_eq_true rfl) ?_
  intro p9 e9 s m9 below meth c9 A ls hx hb hr hts hown hlocks hml hA hK hP hD hS hl
  have hl : lv_has ls 4 [(0, .ref (ad (28 + 2 * mi + m))), (1, .int x)] := hl
  have hown : s.vm.findClass "MonitorWays$Monitor" = some m9.cls := hown
  have hin_X1 : ∀ w ∈ u_ws "MonitorWays$Monitor" TX1 4, w ∈ wX1_dropWaiter := fun w h => tcons (inX1 w h)
  have lk_f18 := hts _ (tcons tw_98)
  have lk_f9 := hts _ (tcons tw_100)
  refine lv_iconst (v := 0) hx hb dX1_dropWaiter_0 (by decide) ?_
  refine lv_istore_n (lv' := [(2, .int 0), (0, .ref (ad (28 + 2 * mi + m))), (1, .int x)]) hx hb dX1_dropWaiter_1 rfl hl (by decide) rfl (fun ls hl => ?_)
  refine lv_iconst (v := 0) hx hb dX1_dropWaiter_2 (by decide) ?_
  refine lv_istore_n (lv' := [(3, .int 0), (2, .int 0), (0, .ref (ad (28 + 2 * mi + m))), (1, .int x)]) hx hb dX1_dropWaiter_3 rfl hl (by decide) rfl (fun ls hl => ?_)
  refine kr_loop (σ := Nat × Nat × ((Nat → Nat → Int32))) (fun z9 => match z9 with | (i, lf, ivk) => sz - i) (fun z9 H locs ls => match z9 with | (i, lf, ivk) => (i ≤ sz) ∧ (lf ≤ i) ∧ (ivk (28 + 2 * mi + m) 2 = nI sz) ∧ (dropL (32 + 2 * mi + m) x sz (sz - i) lf ivk = dropL (32 + 2 * mi + m) x sz sz 0 iv) ∧ va_P D vwCl (mW 42 (kE gc) (ad, ln, ivk, lv)) H ∧ va_D A (mW 42 (kE gc) (ad, ln, ivk, lv)) ∧ va_S A s.heap H locs ∧ lv_has ls 4 [(0, .ref (ad (28 + 2 * mi + m))), (1, .int x), (2, .int (nI lf)), (3, .int (nI i))]) 4 (0, 0, iv) ⟨Nat.zero_le _, Nat.le_refl 0, hsz, rfl, hP, hD, hS, lv_sub hl [2, 3, 1, 0] rfl⟩ ?_
  intro z9 H locs ls hI ih
  obtain ⟨i, lf, ivk⟩ := z9
  obtain ⟨hi, hlf, hszk, heq, hP, hD, hS, hl⟩ := hI
  refine lv_iload_n hx hb dX1_dropWaiter_4 rfl (lv_at hl 3 rfl) ?_
  refine lv_aload_n hx hb dX1_dropWaiter_5 rfl (lv_at hl 0 rfl) ?_
  refine kr_get (C := "MonitorWays$Monitor") (T := TX1) (N := 4) hx hb hts hin_X1 hown hK hP (28 + 2 * mi + m) (by omega) (E_mon (mi := mi) (m := m) hmi hm _ _ _ _) rfl 2 (by decide) lk_f18 (fun _ h9 => h9) rfl dX1_dropWaiter_6 ?_
  refine kr_topi (y := nI sz) hszk ?_
  refine lv_icmp_ge (tgt := 43) hx hb dX1_dropWaiter_9 (by decide) (fun c_1 => ?_) (fun c_1 => ?_)
  · have hie : sz = i := by have := (nI_leI (by omega) (by omega)).mp c_1; omega
    subst hie
    rw [Nat.sub_self, dropL] at heq
    refine lv_aload_n hx hb dX1_dropWaiter_43 rfl (lv_at hl 0 rfl) ?_
    refine lv_iload_n hx hb dX1_dropWaiter_44 rfl (lv_at hl 2 rfl) ?_
    refine kr_put (C := "MonitorWays$Monitor") (T := TX1) (N := 4) hx hb hts hin_X1 tyX1 ok_tyX1 ok_nX1 hown hK hP hD hS (28 + 2 * mi + m) (by omega) (fun _ => E_mon (mi := mi) (m := m) hmi hm _ _ _ _) rfl 2 (by decide) lk_f18 (fun _ h9 => h9) rfl rfl rfl rfl (fun _ => Nat.le_of_ble_eq_true rfl) (fun _ => rfl) dX1_dropWaiter_45 (fun H locs hP hD hS => ?_)
    exact kr_vret hx hb hr hlocks hK hP hD hS (by unfold m_mDrop; rw [← heq]) dX1_dropWaiter_48
  · have hlt : i < sz := by rcases Nat.lt_or_ge i sz with h | h; exact h; exact absurd ((nI_leI (by omega) (by omega)).mpr h) c_1
    refine lv_aload_n hx hb dX1_dropWaiter_12 rfl (lv_at hl 0 rfl) ?_
    refine kr_get (C := "MonitorWays$Monitor") (T := TX1) (N := 4) hx hb hts hin_X1 hown hK hP (28 + 2 * mi + m) (by omega) (E_mon (mi := mi) (m := m) hmi hm _ _ _ _) rfl 3 (by decide) lk_f9 (fun _ h9 => h9) rfl dX1_dropWaiter_13 ?_
    refine lv_iload_n hx hb dX1_dropWaiter_16 rfl (lv_at hl 3 rfl) ?_
    refine kr_ialdN hx hb hK hP (32 + 2 * mi + m) 0 (by omega) (E_mset (mi := mi) (m := m) hmi hm _ _ _ _) rfl (j := i) (by omega) (by decide) dX1_dropWaiter_17 ?_
    refine lv_iload_n hx hb dX1_dropWaiter_18 rfl (lv_at hl 1 rfl) ?_
    refine lv_icmp_eq (tgt := 37) hx hb dX1_dropWaiter_19 (by decide) (fun c_2 => ?_) (fun c_2 => ?_)
    · refine lv_iinc (v := nI (i + 1)) (lv' := [(3, .int (nI (i + 1))), (0, .ref (ad (28 + 2 * mi + m))), (1, .int x), (2, .int (nI lf))]) hx hb dX1_dropWaiter_37 hl (k := 3) rfl (nI_1 i) (by decide) rfl (fun ls hl => ?_)
      refine lv_goto (tgt := 4) hx hb dX1_dropWaiter_40 (by decide) ?_
      exact ih (i + 1, lf, ivk) H locs ls ⟨by omega, by omega, hszk, (dropL_y (by omega) c_2).symm.trans heq, hP, hD, hS, lv_sub hl [1, 2, 3, 0] rfl⟩ (by show sz - (i + 1) < sz - i; omega)
    · refine lv_aload_n hx hb dX1_dropWaiter_22 rfl (lv_at hl 0 rfl) ?_
      refine kr_get (C := "MonitorWays$Monitor") (T := TX1) (N := 4) hx hb hts hin_X1 hown hK hP (28 + 2 * mi + m) (by omega) (E_mon (mi := mi) (m := m) hmi hm _ _ _ _) rfl 3 (by decide) lk_f9 (fun _ h9 => h9) rfl dX1_dropWaiter_23 ?_
      refine lv_iload_n hx hb dX1_dropWaiter_26 rfl (lv_at hl 2 rfl) ?_
      refine lv_aload_n hx hb dX1_dropWaiter_27 rfl (lv_at hl 0 rfl) ?_
      refine kr_get (C := "MonitorWays$Monitor") (T := TX1) (N := 4) hx hb hts hin_X1 hown hK hP (28 + 2 * mi + m) (by omega) (E_mon (mi := mi) (m := m) hmi hm _ _ _ _) rfl 3 (by decide) lk_f9 (fun _ h9 => h9) rfl dX1_dropWaiter_28 ?_
      refine lv_iload_n hx hb dX1_dropWaiter_31 rfl (lv_at hl 3 rfl) ?_
      refine kr_ialdN hx hb hK hP (32 + 2 * mi + m) 0 (by omega) (E_mset (mi := mi) (m := m) hmi hm _ _ _ _) rfl (j := i) (by omega) (by decide) dX1_dropWaiter_32 ?_
      refine kr_iastN hx hb hK hP hD hS (32 + 2 * mi + m) 0 (by omega) (fun _ => E_mset (mi := mi) (m := m) hmi hm _ _ _ _) rfl (j := lf) (by omega) (by decide) dX1_dropWaiter_33 (fun H locs hP hD hS => ?_)
      refine lv_iinc (v := nI (lf + 1)) (lv' := [(2, .int (nI (lf + 1))), (0, .ref (ad (28 + 2 * mi + m))), (1, .int x), (3, .int (nI i))]) hx hb dX1_dropWaiter_34 hl (k := 2) rfl (nI_1 lf) (by decide) rfl (fun ls hl => ?_)
      refine lv_iinc (v := nI (i + 1)) (lv' := [(3, .int (nI (i + 1))), (2, .int (nI (lf + 1))), (0, .ref (ad (28 + 2 * mi + m))), (1, .int x)]) hx hb dX1_dropWaiter_37 hl (k := 3) rfl (nI_1 i) (by decide) rfl (fun ls hl => ?_)
      refine lv_goto (tgt := 4) hx hb dX1_dropWaiter_40 (by decide) ?_
      exact ih (i + 1, lf + 1, up2 ivk (32 + 2 * mi + m) lf (ivk (32 + 2 * mi + m) i)) H locs ls ⟨by omega, by omega, (up2_ne (by omega)).trans hszk, (dropL_n (by omega) c_2).symm.trans heq, hP, hD, hS, lv_sub hl [2, 3, 1, 0] rfl⟩ (by show sz - (i + 1) < sz - i; omega)
set_option maxHeartbeats 4000000 in
set_option maxRecDepth 100000 in
theorem c_mPack (l : Launch) (D : va_G) (gc : Nat → ClassId) (ad ln : Nat → Nat) (iv : Nat → Nat → Int32) (lv : Nat → Nat → Int64) (mi m : Nat) (hmi : mi < 2) (hm : m < 2) (sz : Nat) (hsz : iv (28 + 2 * mi + m) 2 = nI sz) (hs4 : sz ≤ 4) : kMl l yX1_packed wX1_packed ({ frames := 0, cells := 0, slots := 0, locals := 0 }) D vwCl (kT gc) 42 (kE gc) [.ref (ad (28 + 2 * mi + m))] (ad, ln, iv, lv) (ad, ln, iv, lv) (r_mPack iv mi m sz) := by
  refine kl_start (cc := cX1_packed) (maxL := 3) (ret := (some .long)) (by decide) rfl (Nat.le_of_ble_eq_true rfl) ?_
  intro p9 e9 s m9 below meth c9 A ls hx hb hr hts hown hlocks hml hA hK hP hD hS hl
  have hl : lv_has ls 3 [(0, .ref (ad (28 + 2 * mi + m)))] := hl
  have hown : s.vm.findClass "MonitorWays$Monitor" = some m9.cls := hown
  have hin_X1 : ∀ w ∈ u_ws "MonitorWays$Monitor" TX1 4, w ∈ wX1_packed := fun w h => tcons (inX1 w h)
  have lk_f22 := hts _ (tcons tw_92)
  have lk_f25 := hts _ (tcons tw_95)
  have lk_f18 := hts _ (tcons tw_98)
  have lk_f9 := hts _ (tcons tw_100)
  refine lv_aload_n hx hb dX1_packed_0 rfl (lv_at hl 0 rfl) ?_
  refine kr_get (C := "MonitorWays$Monitor") (T := TX1) (N := 4) hx hb hts hin_X1 hown hK hP (28 + 2 * mi + m) (by omega) (E_mon (mi := mi) (m := m) hmi hm _ _ _ _) rfl 0 (by decide) lk_f22 (fun _ h9 => h9) rfl dX1_packed_1 ?_
  refine lv_iconst (v := 1) hx hb dX1_packed_4 (by decide) ?_
  refine lv_iadd hx hb dX1_packed_5 ?_
  refine lv_aload_n hx hb dX1_packed_6 rfl (lv_at hl 0 rfl) ?_
  refine kr_get (C := "MonitorWays$Monitor") (T := TX1) (N := 4) hx hb hts hin_X1 hown hK hP (28 + 2 * mi + m) (by omega) (E_mon (mi := mi) (m := m) hmi hm _ _ _ _) rfl 1 (by decide) lk_f25 (fun _ h9 => h9) rfl dX1_packed_7 ?_
  refine lv_iconst (v := 3) hx hb dX1_packed_10 (by decide) ?_
  refine lv_ishl hx hb dX1_packed_11 ?_
  refine lv_ior hx hb dX1_packed_12 ?_
  refine lv_aload_n hx hb dX1_packed_13 rfl (lv_at hl 0 rfl) ?_
  refine kr_get (C := "MonitorWays$Monitor") (T := TX1) (N := 4) hx hb hts hin_X1 hown hK hP (28 + 2 * mi + m) (by omega) (E_mon (mi := mi) (m := m) hmi hm _ _ _ _) rfl 2 (by decide) lk_f18 (fun _ h9 => h9) rfl dX1_packed_14 ?_
  refine kr_topi (y := nI sz) hsz ?_
  refine lv_bipush (v := 6) hx hb dX1_packed_17 (by decide) ?_
  refine lv_ishl hx hb dX1_packed_19 ?_
  refine lv_ior hx hb dX1_packed_20 ?_
  refine lv_istore_n (lv' := [(1, .int ((((iv (28 + 2 * mi + m) 0) + 1) ||| ((iv (28 + 2 * mi + m) 1) <<< ((3 : Int32) &&& 31))) ||| ((nI sz) <<< ((6 : Int32) &&& 31)))), (0, .ref (ad (28 + 2 * mi + m)))]) hx hb dX1_packed_21 rfl hl (by decide) rfl (fun ls hl => ?_)
  refine lv_iconst (v := 0) hx hb dX1_packed_22 (by decide) ?_
  refine lv_istore_n (lv' := [(2, .int 0), (1, .int ((((iv (28 + 2 * mi + m) 0) + 1) ||| ((iv (28 + 2 * mi + m) 1) <<< ((3 : Int32) &&& 31))) ||| ((nI sz) <<< ((6 : Int32) &&& 31)))), (0, .ref (ad (28 + 2 * mi + m)))]) hx hb dX1_packed_23 rfl hl (by decide) rfl (fun ls hl => ?_)
  refine kr_loop (σ := Nat) (fun z9 => match z9 with | i => sz - i) (fun z9 H locs ls => match z9 with | i => (i ≤ sz) ∧ va_P D vwCl (mW 42 (kE gc) (ad, ln, iv, lv)) H ∧ va_D A (mW 42 (kE gc) (ad, ln, iv, lv)) ∧ va_S A s.heap H locs ∧ lv_has ls 3 [(0, .ref (ad (28 + 2 * mi + m))), (1, .int (mPk iv (32 + 2 * mi + m) ((((iv (28 + 2 * mi + m) 0) + 1) ||| ((iv (28 + 2 * mi + m) 1) <<< ((3 : Int32) &&& 31))) ||| (nI sz <<< ((6 : Int32) &&& 31))) i)), (2, .int (nI i))]) 24 (0) ⟨Nat.zero_le _, hP, hD, hS, lv_sub hl [2, 1, 0] rfl⟩ ?_
  intro z9 H locs ls hI ih
  obtain ⟨i, hx9⟩ : ∃ z, z = z9 := ⟨_, rfl⟩
  subst hx9
  obtain ⟨hi, hP, hD, hS, hl⟩ := hI
  refine lv_iload_n hx hb dX1_packed_24 rfl (lv_at hl 2 rfl) ?_
  refine lv_aload_n hx hb dX1_packed_25 rfl (lv_at hl 0 rfl) ?_
  refine kr_get (C := "MonitorWays$Monitor") (T := TX1) (N := 4) hx hb hts hin_X1 hown hK hP (28 + 2 * mi + m) (by omega) (E_mon (mi := mi) (m := m) hmi hm _ _ _ _) rfl 2 (by decide) lk_f18 (fun _ h9 => h9) rfl dX1_packed_26 ?_
  refine kr_topi (y := nI sz) hsz ?_
  refine lv_icmp_ge (tgt := 54) hx hb dX1_packed_29 (by decide) (fun c_1 => ?_) (fun c_1 => ?_)
  · have hie : sz = i := by have := (nI_leI (by omega) (by omega)).mp c_1; omega
    subst hie
    refine lv_iload_n hx hb dX1_packed_54 rfl (lv_at hl 1 rfl) ?_
    refine lv_i2l hx hb dX1_packed_55 rfl ?_
    exact kr_lret hx hb hr hlocks hK hP hD hS rfl rfl dX1_packed_56
  · have hlt : i < sz := lt_of_nle (by omega) (by omega) c_1
    refine lv_iload_n hx hb dX1_packed_32 rfl (lv_at hl 1 rfl) ?_
    refine lv_aload_n hx hb dX1_packed_33 rfl (lv_at hl 0 rfl) ?_
    refine kr_get (C := "MonitorWays$Monitor") (T := TX1) (N := 4) hx hb hts hin_X1 hown hK hP (28 + 2 * mi + m) (by omega) (E_mon (mi := mi) (m := m) hmi hm _ _ _ _) rfl 3 (by decide) lk_f9 (fun _ h9 => h9) rfl dX1_packed_34 ?_
    refine lv_iload_n hx hb dX1_packed_37 rfl (lv_at hl 2 rfl) ?_
    refine kr_ialdN hx hb hK hP (32 + 2 * mi + m) 0 (by omega) (E_mset (mi := mi) (m := m) hmi hm _ _ _ _) rfl (j := i) (by omega) (by decide) dX1_packed_38 ?_
    refine lv_bipush (v := 9) hx hb dX1_packed_39 (by decide) ?_
    refine lv_iconst (v := 2) hx hb dX1_packed_41 (by decide) ?_
    refine lv_iload_n hx hb dX1_packed_42 rfl (lv_at hl 2 rfl) ?_
    refine lv_imul hx hb dX1_packed_43 ?_
    refine lv_iadd hx hb dX1_packed_44 ?_
    refine lv_ishl hx hb dX1_packed_45 ?_
    refine lv_ior hx hb dX1_packed_46 ?_
    refine lv_istore_n (lv' := [(1, .int ((mPk iv (32 + 2 * mi + m) ((((iv (28 + 2 * mi + m) 0) + 1) ||| ((iv (28 + 2 * mi + m) 1) <<< ((3 : Int32) &&& 31))) ||| (nI sz <<< ((6 : Int32) &&& 31))) i) ||| ((iv (32 + 2 * mi + m) i) <<< ((9 + (2 * (nI i))) &&& 31)))), (0, .ref (ad (28 + 2 * mi + m))), (2, .int (nI i))]) hx hb dX1_packed_47 rfl hl (by decide) rfl (fun ls hl => ?_)
    refine lv_iinc (v := nI (i + 1)) (lv' := [(2, .int (nI (i + 1))), (1, .int ((mPk iv (32 + 2 * mi + m) ((((iv (28 + 2 * mi + m) 0) + 1) ||| ((iv (28 + 2 * mi + m) 1) <<< ((3 : Int32) &&& 31))) ||| (nI sz <<< ((6 : Int32) &&& 31))) i) ||| ((iv (32 + 2 * mi + m) i) <<< ((9 + (2 * (nI i))) &&& 31)))), (0, .ref (ad (28 + 2 * mi + m)))]) hx hb dX1_packed_48 hl (k := 2) rfl (nI_1 i) (by decide) rfl (fun ls hl => ?_)
    refine lv_goto (tgt := 24) hx hb dX1_packed_51 (by decide) ?_
    exact ih (i + 1) H locs ls ⟨by omega, hP, hD, hS, lv_sub hl [2, 1, 0] rfl⟩ (by show sz - (i + 1) < sz - i; omega)
end
section
def r_aEnded (iv : Nat → Nat → Int32) (mi t : Nat) : Int32 := (if iv (20 + 4 * mi + t) 0 = 4 then (1 : Int32) else 0)
theorem nb_aEnded (iv : Nat → Nat → Int32) (mi t : Nat) : narrow .boolean (.int (r_aEnded iv mi t)) = .int (r_aEnded iv mi t) := by
  unfold r_aEnded; repeat' split
  all_goals rfl
set_option maxHeartbeats 4000000 in
set_option maxRecDepth 100000 in
theorem c_aEnded (l : Launch) (D : va_G) (gc : Nat → ClassId) (ad ln : Nat → Nat) (iv : Nat → Nat → Int32) (lv : Nat → Nat → Int64) (mi t : Nat) (hmi : mi < 2) (ht : t < 4) : kMi l yX0_hasEnded wX0_hasEnded ({ frames := 0, cells := 0, slots := 0, locals := 0 }) D vwCl (kT gc) 42 (kE gc) [.ref (ad (14 + mi)), .int (nI t)] (ad, ln, iv, lv) (ad, ln, iv, lv) (r_aEnded iv mi t) := by
  refine ki_start (cc := cX0_hasEnded) (maxL := 2) (ret := (some .boolean)) (by decide) rfl (Nat.le_of_ble_eq_true rfl) ?_
  intro p9 e9 s m9 below meth c9 A ls hx hb hr hts hown hlocks hml hA hK hP hD hS hl
  have hl : lv_has ls 2 [(0, .ref (ad (14 + mi))), (1, .int (nI t))] := hl
  have hown : s.vm.findClass "MonitorWays$Machine" = some m9.cls := hown
  have hin_X0 : ∀ w ∈ u_ws "MonitorWays$Machine" TX0 3, w ∈ wX0_hasEnded := fun w h => tcons (inX0 w h)
  have hin_X5 : ∀ w ∈ u_ws "MonitorWays$Worker" TX5 8, w ∈ wX0_hasEnded := fun w h => tcons (inX5 w h)
  have lk_f11 := hts _ (tcons tw_126)
  have lk_f36 := hts _ (tcons tw_58)
  refine lv_aload_n hx hb dX0_hasEnded_0 rfl (lv_at hl 0 rfl) ?_
  refine kr_get (C := "MonitorWays$Machine") (T := TX0) (N := 3) hx hb hts hin_X0 hown hK hP (14 + mi) (by omega) (E_mach hmi _ _ _ _) rfl 0 (by decide) lk_f11 (fun _ h9 => h9) rfl dX0_hasEnded_1 ?_
  refine lv_iload_n hx hb dX0_hasEnded_4 rfl (lv_at hl 1 rfl) ?_
  refine kr_aald (a := ad (20 + 4 * mi + t)) hx hb hK hP (16 + mi) 4 (by omega) (E_warr hmi _ _ _ _) rfl (vp_in_nI (n := t) (by omega) (by decide)) (by rw [nI_clamp (show t < 2 ^ 31 by omega)]) dX0_hasEnded_5 ?_
  refine kr_get (C := "MonitorWays$Worker") (T := TX5) (N := 8) hx hb hts hin_X5 hown hK hP (20 + 4 * mi + t) (by omega) (E_wk (mi := mi) (t := t) hmi (by omega) _ _ _ _) rfl 0 (by decide) lk_f36 (fun _ h9 => h9) rfl dX0_hasEnded_6 ?_
  refine lv_iconst (v := 4) hx hb dX0_hasEnded_9 (by decide) ?_
  refine kr_tern (M := 18) (cnd := iv (20 + 4 * mi + t) 0 = 4) (a := 1) (b := 0) (rest := []) (fun ja jb => ?_) ?_
  · refine lv_icmp_ne (tgt := 17) hx hb dX0_hasEnded_10 (by decide) (fun c_1 => ?_) (fun c_1 => ?_)
    · refine lv_iconst (v := 0) hx hb dX0_hasEnded_17 (by decide) ?_
      exact jb c_1
    · refine lv_iconst (v := 1) hx hb dX0_hasEnded_13 (by decide) ?_
      refine lv_goto (tgt := 18) hx hb dX0_hasEnded_14 (by decide) ?_
      exact ja c_1
  exact kr_zret hx hb hr hlocks hK hP hD hS (nb_ite (by decide) (by decide)) rfl rfl dX0_hasEnded_18
def r_aStray (iv : Nat → Nat → Int32) (mi t : Nat) : Int32 := if iv (14 + mi) 2 = 0 then 0 else (if iv (20 + 4 * mi + t) 5 = 0 then (1 : Int32) else 0)
theorem nb_aStray (iv : Nat → Nat → Int32) (mi t : Nat) : narrow .boolean (.int (r_aStray iv mi t)) = .int (r_aStray iv mi t) := by
  unfold r_aStray; repeat' split
  all_goals rfl
set_option maxHeartbeats 4000000 in
set_option maxRecDepth 100000 in
theorem c_aStray (l : Launch) (D : va_G) (gc : Nat → ClassId) (ad ln : Nat → Nat) (iv : Nat → Nat → Int32) (lv : Nat → Nat → Int64) (mi t : Nat) (hmi : mi < 2) (ht : t < 4) : kMi l yX0_mayStray wX0_mayStray ({ frames := 0, cells := 0, slots := 0, locals := 0 }) D vwCl (kT gc) 42 (kE gc) [.ref (ad (14 + mi)), .ref (ad (20 + 4 * mi + t))] (ad, ln, iv, lv) (ad, ln, iv, lv) (r_aStray iv mi t) := by
  refine ki_start (cc := cX0_mayStray) (maxL := 2) (ret := (some .boolean)) (by decide) rfl (Nat.le_of_ble_eq_true rfl) ?_
  intro p9 e9 s m9 below meth c9 A ls hx hb hr hts hown hlocks hml hA hK hP hD hS hl
  have hl : lv_has ls 2 [(0, .ref (ad (14 + mi))), (1, .ref (ad (20 + 4 * mi + t)))] := hl
  have hown : s.vm.findClass "MonitorWays$Machine" = some m9.cls := hown
  have hin_X0 : ∀ w ∈ u_ws "MonitorWays$Machine" TX0 3, w ∈ wX0_mayStray := fun w h => tcons (inX0 w h)
  have hin_X5 : ∀ w ∈ u_ws "MonitorWays$Worker" TX5 8, w ∈ wX0_mayStray := fun w h => tcons (inX5 w h)
  have lk_f23 := hts _ (tcons tw_130)
  have lk_f83 := hts _ (tcons tw_67)
  refine lv_aload_n hx hb dX0_mayStray_0 rfl (lv_at hl 0 rfl) ?_
  refine kr_get (C := "MonitorWays$Machine") (T := TX0) (N := 3) hx hb hts hin_X0 hown hK hP (14 + mi) (by omega) (E_mach hmi _ _ _ _) rfl 2 (by decide) lk_f23 (fun _ h9 => h9) rfl dX0_mayStray_1 ?_
  refine lv_if_eq (tgt := 18) hx hb dX0_mayStray_4 (by decide) (fun c_1 => ?_) (fun c_1 => ?_)
  · refine lv_iconst (v := 0) hx hb dX0_mayStray_18 (by decide) ?_
    exact kr_zret hx hb hr hlocks hK hP hD hS (by decide) (by unfold r_aStray; rw [if_pos c_1]) rfl dX0_mayStray_19
  · refine lv_aload_n hx hb dX0_mayStray_7 rfl (lv_at hl 1 rfl) ?_
    refine kr_get (C := "MonitorWays$Worker") (T := TX5) (N := 8) hx hb hts hin_X5 hown hK hP (20 + 4 * mi + t) (by omega) (E_wk (mi := mi) (t := t) hmi ht _ _ _ _) rfl 5 (by decide) lk_f83 (fun _ h9 => h9) rfl dX0_mayStray_8 ?_
    refine kr_tern (M := 19) (cnd := iv (20 + 4 * mi + t) 5 = 0) (a := 1) (b := 0) (rest := []) (fun ja jb => ?_) ?_
    · refine lv_if_ne (tgt := 18) hx hb dX0_mayStray_11 (by decide) (fun c_2 => ?_) (fun c_2 => ?_)
      · refine lv_iconst (v := 0) hx hb dX0_mayStray_18 (by decide) ?_
        exact jb c_2
      · refine lv_iconst (v := 1) hx hb dX0_mayStray_14 (by decide) ?_
        refine lv_goto (tgt := 19) hx hb dX0_mayStray_15 (by decide) ?_
        exact ja c_2
    exact kr_zret hx hb hr hlocks hK hP hD hS (nb_ite (by decide) (by decide)) (by unfold r_aStray; rw [if_neg c_1]) rfl dX0_mayStray_19
def m_aIntr (iv : Nat → Nat → Int32) (mi t : Nat) : Nat → Nat → Int32 := if iv (20 + 4 * mi + t) 0 = 4 then iv else (up2 iv (20 + 4 * mi + t) 3 1)
set_option maxHeartbeats 4000000 in
set_option maxRecDepth 100000 in
theorem c_aIntr (l : Launch) (D : va_G) (gc : Nat → ClassId) (ad ln : Nat → Nat) (iv : Nat → Nat → Int32) (lv : Nat → Nat → Int64) (mi t : Nat) (hmi : mi < 2) (ht : t < 4) : kMv l yX0_interrupt wX0_interrupt ({ frames := 0, cells := 0, slots := 0, locals := 0 }) D vwCl (kT gc) 42 (kE gc) [.ref (ad (14 + mi)), .ref (ad (20 + 4 * mi + t))] (ad, ln, iv, lv) (ad, ln, m_aIntr iv mi t, lv) := by
  refine kv_start (cc := cX0_interrupt) (maxL := 2) (by decide) rfl (Nat.le_of_ble_eq_true rfl) ?_
  intro p9 e9 s m9 below meth c9 A ls hx hb hr hts hown hlocks hml hA hK hP hD hS hl
  have hl : lv_has ls 2 [(0, .ref (ad (14 + mi))), (1, .ref (ad (20 + 4 * mi + t)))] := hl
  have hown : s.vm.findClass "MonitorWays$Machine" = some m9.cls := hown
  have hin_X5 : ∀ w ∈ u_ws "MonitorWays$Worker" TX5 8, w ∈ wX0_interrupt := fun w h => tcons (inX5 w h)
  have lk_f36 := hts _ (tcons tw_58)
  have lk_f63 := hts _ (tcons tw_63)
  refine lv_aload_n hx hb dX0_interrupt_0 rfl (lv_at hl 1 rfl) ?_
  refine kr_get (C := "MonitorWays$Worker") (T := TX5) (N := 8) hx hb hts hin_X5 hown hK hP (20 + 4 * mi + t) (by omega) (E_wk (mi := mi) (t := t) hmi ht _ _ _ _) rfl 0 (by decide) lk_f36 (fun _ h9 => h9) rfl dX0_interrupt_1 ?_
  refine lv_iconst (v := 4) hx hb dX0_interrupt_4 (by decide) ?_
  refine lv_icmp_eq (tgt := 13) hx hb dX0_interrupt_5 (by decide) (fun c_1 => ?_) (fun c_1 => ?_)
  · exact kr_vret hx hb hr hlocks hK hP hD hS (by unfold m_aIntr; rw [if_pos c_1]) dX0_interrupt_13
  · refine lv_aload_n hx hb dX0_interrupt_8 rfl (lv_at hl 1 rfl) ?_
    refine lv_iconst (v := 1) hx hb dX0_interrupt_9 (by decide) ?_
    refine kr_put (C := "MonitorWays$Worker") (T := TX5) (N := 8) hx hb hts hin_X5 tyX5 ok_tyX5 ok_nX5 hown hK hP hD hS (20 + 4 * mi + t) (by omega) (fun _ => E_wk (mi := mi) (t := t) hmi ht _ _ _ _) rfl 3 (by decide) lk_f63 (fun _ h9 => h9) rfl rfl (by decide) (by decide) (fun _ => Nat.le_of_ble_eq_true rfl) (fun _ => rfl) dX0_interrupt_10 (fun H locs hP hD hS => ?_)
    exact kr_vret hx hb hr hlocks hK hP hD hS (by unfold m_aIntr; rw [if_neg c_1]) dX0_interrupt_13
def m_aUnpark (iv : Nat → Nat → Int32) (mi t : Nat) : Nat → Nat → Int32 := if iv (20 + 4 * mi + t) 0 = 3 then (m_wRunOn iv mi t) else if iv (20 + 4 * mi + t) 0 = 4 then iv else (up2 iv (20 + 4 * mi + t) 4 1)
set_option maxHeartbeats 4000000 in
set_option maxRecDepth 100000 in
theorem c_aUnpark (l : Launch) (D : va_G) (gc : Nat → ClassId) (ad ln : Nat → Nat) (iv : Nat → Nat → Int32) (lv : Nat → Nat → Int64) (mi t : Nat) (hmi : mi < 2) (ht : t < 4) : kMv l yX0_unpark wX0_unpark ({ frames := 1, cells := 0, slots := 0, locals := 20 }) D vwCl (kT gc) 42 (kE gc) [.ref (ad (14 + mi)), .ref (ad (20 + 4 * mi + t))] (ad, ln, iv, lv) (ad, ln, m_aUnpark iv mi t, lv) := by
  refine kv_start (cc := cX0_unpark) (maxL := 2) (by decide) rfl (Nat.le_of_ble_eq_true rfl) ?_
  intro p9 e9 s m9 below meth c9 A ls hx hb hr hts hown hlocks hml hA hK hP hD hS hl
  have hl : lv_has ls 2 [(0, .ref (ad (14 + mi))), (1, .ref (ad (20 + 4 * mi + t)))] := hl
  have hown : s.vm.findClass "MonitorWays$Machine" = some m9.cls := hown
  have hin_X5 : ∀ w ∈ u_ws "MonitorWays$Worker" TX5 8, w ∈ wX0_unpark := fun w h => tcons (inX5 w h)
  have lk_f36 := hts _ (tcons tw_58)
  have lk_f150 := hts _ (tcons tw_65)
  refine lv_aload_n hx hb dX0_unpark_0 rfl (lv_at hl 1 rfl) ?_
  refine kr_get (C := "MonitorWays$Worker") (T := TX5) (N := 8) hx hb hts hin_X5 hown hK hP (20 + 4 * mi + t) (by omega) (E_wk (mi := mi) (t := t) hmi ht _ _ _ _) rfl 0 (by decide) lk_f36 (fun _ h9 => h9) rfl dX0_unpark_1 ?_
  refine lv_iconst (v := 3) hx hb dX0_unpark_4 (by decide) ?_
  refine lv_icmp_ne (tgt := 15) hx hb dX0_unpark_5 (by decide) (fun c_1 => ?_) (fun c_1 => ?_)
  · refine lv_aload_n hx hb dX0_unpark_15 rfl (lv_at hl 1 rfl) ?_
    refine kr_get (C := "MonitorWays$Worker") (T := TX5) (N := 8) hx hb hts hin_X5 hown hK hP (20 + 4 * mi + t) (by omega) (E_wk (mi := mi) (t := t) hmi ht _ _ _ _) rfl 0 (by decide) lk_f36 (fun _ h9 => h9) rfl dX0_unpark_16 ?_
    refine lv_iconst (v := 4) hx hb dX0_unpark_19 (by decide) ?_
    refine lv_icmp_eq (tgt := 28) hx hb dX0_unpark_20 (by decide) (fun c_2 => ?_) (fun c_2 => ?_)
    · exact kr_vret hx hb hr hlocks hK hP hD hS (by unfold m_aUnpark; rw [if_neg c_1, if_pos c_2]) dX0_unpark_28
    · refine lv_aload_n hx hb dX0_unpark_23 rfl (lv_at hl 1 rfl) ?_
      refine lv_iconst (v := 1) hx hb dX0_unpark_24 (by decide) ?_
      refine kr_put (C := "MonitorWays$Worker") (T := TX5) (N := 8) hx hb hts hin_X5 tyX5 ok_tyX5 ok_nX5 hown hK hP hD hS (20 + 4 * mi + t) (by omega) (fun _ => E_wk (mi := mi) (t := t) hmi ht _ _ _ _) rfl 4 (by decide) lk_f150 (fun _ h9 => h9) rfl rfl (by decide) (by decide) (fun _ => Nat.le_of_ble_eq_true rfl) (fun _ => rfl) dX0_unpark_25 (fun H locs hP hD hS => ?_)
      exact kr_vret hx hb hr hlocks hK hP hD hS (by unfold m_aUnpark; rw [if_neg c_1, if_neg c_2]) dX0_unpark_28
  · refine lv_aload_n hx hb dX0_unpark_8 rfl (lv_at hl 1 rfl) ?_
    refine kr_callVv (As := []) (rest := []) ⟨hx, hb, hml, hown, hts⟩ (c_wRunOn l D gc ad ln iv lv mi t hmi ht) (cwV 0 hts (goodV (fun _ h => tcons h) tw_337 tw_338 tw_339 tw_4 tw_340) rfl rfl rfl (by decide +kernel) ⟨Nat.le_of_ble_eq_true rfl, Nat.le_of_ble_eq_true rfl⟩) (kr_recv hK hP (20 + 4 * mi + t) (by omega) (E_wk (mi := mi) (t := t) hmi ht _ _ _ _) rfl) hK hP hD hS hA rfl hl.1 rfl (Nat.le_of_ble_eq_true rfl) dX0_unpark_9 ⟨Nat.le_of_ble_eq_true rfl, Nat.le_of_ble_eq_true rfl⟩ (fun H locs hP hD hS => ?_)
    refine lv_goto (tgt := 28) hx hb dX0_unpark_12 (by decide) ?_
    exact kr_vret hx hb hr hlocks hK hP hD hS (by unfold m_aUnpark; rw [if_pos c_1]) dX0_unpark_28
set_option maxHeartbeats 4000000 in
set_option maxRecDepth 100000 in
theorem c_aMonOf (l : Launch) (D : va_G) (gc : Nat → ClassId) (ad ln : Nat → Nat) (iv : Nat → Nat → Int32) (lv : Nat → Nat → Int64) (mi t mm : Nat) (hmi : mi < 2) (ht : t < 4) (hmm : mm < 2) (hpl : vp_in (iv (20 + 4 * mi + t) 1) 6) (hop : r_wOperand iv mi t = nI mm) : kMr l yX0_monitorOf wX0_monitorOf ({ frames := 1, cells := 0, slots := 0, locals := 20 }) D vwCl (kT gc) 42 (kE gc) [.ref (ad (14 + mi)), .ref (ad (20 + 4 * mi + t))] (ad, ln, iv, lv) (ad, ln, iv, lv) (ad (28 + 2 * mi + mm)) := by
  refine kr_start (cc := cX0_monitorOf) (maxL := 2) (ret := (some (.object "MonitorWays$Monitor"))) (by decide) rfl (Nat.le_of_ble_eq_true rfl) ?_
  intro p9 e9 s m9 below meth c9 A ls hx hb hr hts hown hlocks hml hA hK hP hD hS hl
  have hl : lv_has ls 2 [(0, .ref (ad (14 + mi))), (1, .ref (ad (20 + 4 * mi + t)))] := hl
  have hown : s.vm.findClass "MonitorWays$Machine" = some m9.cls := hown
  have hin_X0 : ∀ w ∈ u_ws "MonitorWays$Machine" TX0 3, w ∈ wX0_monitorOf := fun w h => tcons (inX0 w h)
  have lk_f19 := hts _ (tcons tw_128)
  refine lv_aload_n hx hb dX0_monitorOf_0 rfl (lv_at hl 0 rfl) ?_
  refine kr_get (C := "MonitorWays$Machine") (T := TX0) (N := 3) hx hb hts hin_X0 hown hK hP (14 + mi) (by omega) (E_mach hmi _ _ _ _) rfl 1 (by decide) lk_f19 (fun _ h9 => h9) rfl dX0_monitorOf_1 ?_
  refine lv_aload_n hx hb dX0_monitorOf_4 rfl (lv_at hl 1 rfl) ?_
  refine kr_callVi (As := []) (rest := [.ref (ad (18 + mi))]) ⟨hx, hb, hml, hown, hts⟩ (c_wOperand l D gc ad ln iv lv mi t hmi ht hpl) (cwV 0 hts (goodV (fun _ h => tcons h) tw_268 tw_269 tw_270 tw_4 tw_271) rfl rfl rfl (by decide +kernel) ⟨Nat.le_of_ble_eq_true rfl, Nat.le_of_ble_eq_true rfl⟩) (kr_recv hK hP (20 + 4 * mi + t) (by omega) (E_wk (mi := mi) (t := t) hmi ht _ _ _ _) rfl) hK hP hD hS hA rfl hl.1 rfl (Nat.le_of_ble_eq_true rfl) dX0_monitorOf_5 ⟨Nat.le_of_ble_eq_true rfl, Nat.le_of_ble_eq_true rfl⟩ (fun H locs hP hD hS => ?_)
  refine kr_topi (y := nI mm) hop ?_
  refine kr_aald (a := ad (28 + 2 * mi + mm)) hx hb hK hP (18 + mi) 5 (by omega) (E_marr hmi _ _ _ _) rfl (vp_in_nI (n := mm) (by omega) (by decide)) (by rw [nI_clamp (show mm < 2 ^ 31 by omega)]) dX0_monitorOf_8 ?_
  exact kr_aret hx hb hr hlocks hK hP hD hS rfl rfl dX0_monitorOf_9
def m_aStopPark (iv : Nat → Nat → Int32) (mi t : Nat) (way : Int32) : Nat → Nat → Int32 := if way = 3 then (m_wRunOn (up2 iv (20 + 4 * mi + t) 5 1) mi t) else (m_wRunOn iv mi t)
set_option maxHeartbeats 4000000 in
set_option maxRecDepth 100000 in
theorem c_aStopPark (l : Launch) (D : va_G) (gc : Nat → ClassId) (ad ln : Nat → Nat) (iv : Nat → Nat → Int32) (lv : Nat → Nat → Int64) (mi t : Nat) (hmi : mi < 2) (ht : t < 4) (way : Int32) : kMv l yX0_stopParking wX0_stopParking ({ frames := 1, cells := 0, slots := 0, locals := 20 }) D vwCl (kT gc) 42 (kE gc) [.ref (ad (14 + mi)), .ref (ad (20 + 4 * mi + t)), .int way] (ad, ln, iv, lv) (ad, ln, m_aStopPark iv mi t way, lv) := by
  refine kv_start (cc := cX0_stopParking) (maxL := 3) (by decide) rfl (Nat.le_of_ble_eq_true rfl) ?_
  intro p9 e9 s m9 below meth c9 A ls hx hb hr hts hown hlocks hml hA hK hP hD hS hl
  have hl : lv_has ls 3 [(0, .ref (ad (14 + mi))), (1, .ref (ad (20 + 4 * mi + t))), (2, .int way)] := hl
  have hown : s.vm.findClass "MonitorWays$Machine" = some m9.cls := hown
  have hin_X5 : ∀ w ∈ u_ws "MonitorWays$Worker" TX5 8, w ∈ wX0_stopParking := fun w h => tcons (inX5 w h)
  have lk_f83 := hts _ (tcons tw_67)
  refine lv_iload_n hx hb dX0_stopParking_0 rfl (lv_at hl 2 rfl) ?_
  refine lv_iconst (v := 3) hx hb dX0_stopParking_1 (by decide) ?_
  refine lv_icmp_ne (tgt := 10) hx hb dX0_stopParking_2 (by decide) (fun c_1 => ?_) (fun c_1 => ?_)
  · refine lv_aload_n hx hb dX0_stopParking_10 rfl (lv_at hl 1 rfl) ?_
    refine kr_callVv (As := []) (rest := []) ⟨hx, hb, hml, hown, hts⟩ (c_wRunOn l D gc ad ln iv lv mi t hmi ht) (cwV 0 hts (goodV (fun _ h => tcons h) tw_337 tw_338 tw_339 tw_4 tw_340) rfl rfl rfl (by decide +kernel) ⟨Nat.le_of_ble_eq_true rfl, Nat.le_of_ble_eq_true rfl⟩) (kr_recv hK hP (20 + 4 * mi + t) (by omega) (E_wk (mi := mi) (t := t) hmi ht _ _ _ _) rfl) hK hP hD hS hA rfl hl.1 rfl (Nat.le_of_ble_eq_true rfl) dX0_stopParking_11 ⟨Nat.le_of_ble_eq_true rfl, Nat.le_of_ble_eq_true rfl⟩ (fun H locs hP hD hS => ?_)
    exact kr_vret hx hb hr hlocks hK hP hD hS (by unfold m_aStopPark; rw [if_neg c_1]) dX0_stopParking_14
  · refine lv_aload_n hx hb dX0_stopParking_5 rfl (lv_at hl 1 rfl) ?_
    refine lv_iconst (v := 1) hx hb dX0_stopParking_6 (by decide) ?_
    refine kr_put (C := "MonitorWays$Worker") (T := TX5) (N := 8) hx hb hts hin_X5 tyX5 ok_tyX5 ok_nX5 hown hK hP hD hS (20 + 4 * mi + t) (by omega) (fun _ => E_wk (mi := mi) (t := t) hmi ht _ _ _ _) rfl 5 (by decide) lk_f83 (fun _ h9 => h9) rfl rfl (by decide) (by decide) (fun _ => Nat.le_of_ble_eq_true rfl) (fun _ => rfl) dX0_stopParking_7 (fun H locs hP hD hS => ?_)
    refine lv_aload_n hx hb dX0_stopParking_10 rfl (lv_at hl 1 rfl) ?_
    refine kr_callVv (As := []) (rest := []) ⟨hx, hb, hml, hown, hts⟩ (c_wRunOn l D gc ad ln (up2 iv (20 + 4 * mi + t) 5 1) lv mi t hmi ht) (cwV 0 hts (goodV (fun _ h => tcons h) tw_337 tw_338 tw_339 tw_4 tw_340) rfl rfl rfl (by decide +kernel) ⟨Nat.le_of_ble_eq_true rfl, Nat.le_of_ble_eq_true rfl⟩) (kr_recv hK hP (20 + 4 * mi + t) (by omega) (E_wk (mi := mi) (t := t) hmi ht _ _ _ _) rfl) hK hP hD hS hA rfl hl.1 rfl (Nat.le_of_ble_eq_true rfl) dX0_stopParking_11 ⟨Nat.le_of_ble_eq_true rfl, Nat.le_of_ble_eq_true rfl⟩ (fun H locs hP hD hS => ?_)
    exact kr_vret hx hb hr hlocks hK hP hD hS (by unfold m_aStopPark; rw [if_pos c_1]) dX0_stopParking_14
def r_aWaitMay (iv : Nat → Nat → Int32) (mi t : Nat) (way : Int32) : Int32 := if way = 1 then iv (20 + 4 * mi + t) 3 else if way = 2 then (r_aStray iv mi t) else if way = 3 then (if (r_wAction iv mi t) = 3 then (1 : Int32) else 0) else 0
set_option maxHeartbeats 4000000 in
set_option maxRecDepth 100000 in
theorem c_aWaitMay (l : Launch) (D : va_G) (gc : Nat → ClassId) (ad ln : Nat → Nat) (iv : Nat → Nat → Int32) (lv : Nat → Nat → Int64) (mi t : Nat) (hmi : mi < 2) (ht : t < 4) (way : Int32) (hpl : vp_in (iv (20 + 4 * mi + t) 1) 6) (hz : narrow .boolean (.int (iv (20 + 4 * mi + t) 3)) = .int (iv (20 + 4 * mi + t) 3)) : kMi l yX0_waitingAllows wX0_waitingAllows ({ frames := 1, cells := 0, slots := 0, locals := 21 }) D vwCl (kT gc) 42 (kE gc) [.ref (ad (14 + mi)), .ref (ad (20 + 4 * mi + t)), .int way] (ad, ln, iv, lv) (ad, ln, iv, lv) (r_aWaitMay iv mi t way) := by
  refine ki_start (cc := cX0_waitingAllows) (maxL := 3) (ret := (some .boolean)) (by decide) rfl (Nat.le_of_ble_eq_true rfl) ?_
  intro p9 e9 s m9 below meth c9 A ls hx hb hr hts hown hlocks hml hA hK hP hD hS hl
  have hl : lv_has ls 3 [(0, .ref (ad (14 + mi))), (1, .ref (ad (20 + 4 * mi + t))), (2, .int way)] := hl
  have hown : s.vm.findClass "MonitorWays$Machine" = some m9.cls := hown
  have hin_X5 : ∀ w ∈ u_ws "MonitorWays$Worker" TX5 8, w ∈ wX0_waitingAllows := fun w h => tcons (inX5 w h)
  have lk_f63 := hts _ (tcons tw_63)
  refine lv_iload_n hx hb dX0_waitingAllows_0 rfl (lv_at hl 2 rfl) ?_
  by_cases c_1 : way = 1
  · refine lv_tableIn (tgt := 28) (off := 27) hx hb dX0_waitingAllows_1 (by rw [c_1]; decide) (by rw [c_1]; decide) (by rw [c_1]; decide) (by decide) ?_
    refine lv_aload_n hx hb dX0_waitingAllows_28 rfl (lv_at hl 1 rfl) ?_
    refine kr_get (C := "MonitorWays$Worker") (T := TX5) (N := 8) hx hb hts hin_X5 hown hK hP (20 + 4 * mi + t) (by omega) (E_wk (mi := mi) (t := t) hmi ht _ _ _ _) rfl 3 (by decide) lk_f63 (fun _ h9 => h9) rfl dX0_waitingAllows_29 ?_
    exact kr_zret hx hb hr hlocks hK hP hD hS hz (by unfold r_aWaitMay; rw [if_pos c_1]) rfl dX0_waitingAllows_32
  by_cases c_2 : way = 2
  · refine lv_tableIn (tgt := 33) (off := 32) hx hb dX0_waitingAllows_1 (by rw [c_2]; decide) (by rw [c_2]; decide) (by rw [c_2]; decide) (by decide) ?_
    refine lv_aload_n hx hb dX0_waitingAllows_33 rfl (lv_at hl 0 rfl) ?_
    refine lv_aload_n hx hb dX0_waitingAllows_34 rfl (lv_at hl 1 rfl) ?_
    refine kr_callVi (As := [.ref (ad (20 + 4 * mi + t))]) (rest := []) ⟨hx, hb, hml, hown, hts⟩ (c_aStray l D gc ad ln iv lv mi t hmi ht) (cwV 1 hts (goodV (fun _ h => tcons h) tw_288 tw_290 ts_5 tw_3 tw_291) rfl rfl rfl (by decide +kernel) ⟨Nat.le_of_ble_eq_true rfl, Nat.le_of_ble_eq_true rfl⟩) (kr_recv hK hP (14 + mi) (by omega) (E_mach hmi _ _ _ _) rfl) hK hP hD hS hA rfl hl.1 rfl (Nat.le_of_ble_eq_true rfl) dX0_waitingAllows_35 ⟨Nat.le_of_ble_eq_true rfl, Nat.le_of_ble_eq_true rfl⟩ (fun H locs hP hD hS => ?_)
    exact kr_zret hx hb hr hlocks hK hP hD hS (nb_aStray iv mi t) (by unfold r_aWaitMay; rw [if_neg c_1, if_pos c_2]) rfl dX0_waitingAllows_38
  by_cases c_3 : way = 3
  · refine lv_tableIn (tgt := 39) (off := 38) hx hb dX0_waitingAllows_1 (by rw [c_3]; decide) (by rw [c_3]; decide) (by rw [c_3]; decide) (by decide) ?_
    refine lv_aload_n hx hb dX0_waitingAllows_39 rfl (lv_at hl 1 rfl) ?_
    refine kr_callVi (As := []) (rest := []) ⟨hx, hb, hml, hown, hts⟩ (c_wAction l D gc ad ln iv lv mi t hmi ht hpl) (cwV 0 hts (goodV (fun _ h => tcons h) tw_256 tw_257 tw_258 tw_4 tw_259) rfl rfl rfl (by decide +kernel) ⟨Nat.le_of_ble_eq_true rfl, Nat.le_of_ble_eq_true rfl⟩) (kr_recv hK hP (20 + 4 * mi + t) (by omega) (E_wk (mi := mi) (t := t) hmi ht _ _ _ _) rfl) hK hP hD hS hA rfl hl.1 rfl (Nat.le_of_ble_eq_true rfl) dX0_waitingAllows_40 ⟨Nat.le_of_ble_eq_true rfl, Nat.le_of_ble_eq_true rfl⟩ (fun H locs hP hD hS => ?_)
    refine lv_iconst (v := 3) hx hb dX0_waitingAllows_43 (by decide) ?_
    refine kr_tern (M := 52) (cnd := (r_wAction iv mi t) = 3) (a := 1) (b := 0) (rest := []) (fun ja jb => ?_) ?_
    · refine lv_icmp_ne (tgt := 51) hx hb dX0_waitingAllows_44 (by decide) (fun c_4 => ?_) (fun c_4 => ?_)
      · refine lv_iconst (v := 0) hx hb dX0_waitingAllows_51 (by decide) ?_
        exact jb c_4
      · refine lv_iconst (v := 1) hx hb dX0_waitingAllows_47 (by decide) ?_
        refine lv_goto (tgt := 52) hx hb dX0_waitingAllows_48 (by decide) ?_
        exact ja c_4
    exact kr_zret hx hb hr hlocks hK hP hD hS (nb_ite (by decide) (by decide)) (by unfold r_aWaitMay; rw [if_neg c_1, if_neg c_2, if_pos c_3]) rfl dX0_waitingAllows_52
  refine lv_tableOut (tgt := 53) hx hb dX0_waitingAllows_1 (sw_1_3 c_1 c_2 c_3) (by decide) ?_
  refine lv_iconst (v := 0) hx hb dX0_waitingAllows_53 (by decide) ?_
  exact kr_zret hx hb hr hlocks hK hP hD hS (by decide) (by unfold r_aWaitMay; rw [if_neg c_1, if_neg c_2, if_neg c_3]) rfl dX0_waitingAllows_54
def r_aPlainMay (iv : Nat → Nat → Int32) (mi t u : Nat) (way : Int32) : Int32 := if (r_wAction iv mi t) = 9 then if iv (20 + 4 * mi + t) 3 = 0 then if way = 0 then (if (r_aEnded iv mi u) = 0 then (0 : Int32) else 1) else 0 else (if way = 0 then (1 : Int32) else 0) else (if way = 0 then (1 : Int32) else 0)
theorem nb_aPlainMay (iv : Nat → Nat → Int32) (mi t u : Nat) (way : Int32) : narrow .boolean (.int (r_aPlainMay iv mi t u way)) = .int (r_aPlainMay iv mi t u way) := by
  unfold r_aPlainMay; repeat' split
  all_goals rfl
set_option maxHeartbeats 4000000 in
set_option maxRecDepth 100000 in
theorem c_aPlainMay (l : Launch) (D : va_G) (gc : Nat → ClassId) (ad ln : Nat → Nat) (iv : Nat → Nat → Int32) (lv : Nat → Nat → Int64) (mi t u : Nat) (hmi : mi < 2) (ht : t < 4) (hu : u < 4) (way : Int32) (hpl : vp_in (iv (20 + 4 * mi + t) 1) 6) (hou : r_wAction iv mi t = 9 → r_wOperand iv mi t = nI u) : kMi l yX0_plainActionAllows wX0_plainActionAllows ({ frames := 1, cells := 0, slots := 0, locals := 21 }) D vwCl (kT gc) 42 (kE gc) [.ref (ad (14 + mi)), .ref (ad (20 + 4 * mi + t)), .int way] (ad, ln, iv, lv) (ad, ln, iv, lv) (r_aPlainMay iv mi t u way) := by
  refine ki_start (cc := cX0_plainActionAllows) (maxL := 3) (ret := (some .boolean)) (by decide) rfl (Nat.le_of_ble_eq_true rfl) ?_
  intro p9 e9 s m9 below meth c9 A ls hx hb hr hts hown hlocks hml hA hK hP hD hS hl
  have hl : lv_has ls 3 [(0, .ref (ad (14 + mi))), (1, .ref (ad (20 + 4 * mi + t))), (2, .int way)] := hl
  have hown : s.vm.findClass "MonitorWays$Machine" = some m9.cls := hown
  have hin_X5 : ∀ w ∈ u_ws "MonitorWays$Worker" TX5 8, w ∈ wX0_plainActionAllows := fun w h => tcons (inX5 w h)
  have lk_f63 := hts _ (tcons tw_63)
  refine lv_aload_n hx hb dX0_plainActionAllows_0 rfl (lv_at hl 1 rfl) ?_
  refine kr_callVi (As := []) (rest := []) ⟨hx, hb, hml, hown, hts⟩ (c_wAction l D gc ad ln iv lv mi t hmi ht hpl) (cwV 0 hts (goodV (fun _ h => tcons h) tw_256 tw_257 tw_258 tw_4 tw_259) rfl rfl rfl (by decide +kernel) ⟨Nat.le_of_ble_eq_true rfl, Nat.le_of_ble_eq_true rfl⟩) (kr_recv hK hP (20 + 4 * mi + t) (by omega) (E_wk (mi := mi) (t := t) hmi ht _ _ _ _) rfl) hK hP hD hS hA rfl hl.1 rfl (Nat.le_of_ble_eq_true rfl) dX0_plainActionAllows_1 ⟨Nat.le_of_ble_eq_true rfl, Nat.le_of_ble_eq_true rfl⟩ (fun H locs hP hD hS => ?_)
  refine lv_bipush (v := 9) hx hb dX0_plainActionAllows_4 (by decide) ?_
  refine lv_icmp_ne (tgt := 37) hx hb dX0_plainActionAllows_6 (by decide) (fun c_1 => ?_) (fun c_1 => ?_)
  · refine lv_iload_n hx hb dX0_plainActionAllows_37 rfl (lv_at hl 2 rfl) ?_
    refine kr_tern (M := 46) (cnd := way = 0) (a := 1) (b := 0) (rest := []) (fun ja jb => ?_) ?_
    · refine lv_if_ne (tgt := 45) hx hb dX0_plainActionAllows_38 (by decide) (fun c_2 => ?_) (fun c_2 => ?_)
      · refine lv_iconst (v := 0) hx hb dX0_plainActionAllows_45 (by decide) ?_
        exact jb c_2
      · refine lv_iconst (v := 1) hx hb dX0_plainActionAllows_41 (by decide) ?_
        refine lv_goto (tgt := 46) hx hb dX0_plainActionAllows_42 (by decide) ?_
        exact ja c_2
    exact kr_zret hx hb hr hlocks hK hP hD hS (nb_ite (by decide) (by decide)) (by unfold r_aPlainMay; rw [if_neg c_1]) rfl dX0_plainActionAllows_46
  · refine lv_aload_n hx hb dX0_plainActionAllows_9 rfl (lv_at hl 1 rfl) ?_
    refine kr_get (C := "MonitorWays$Worker") (T := TX5) (N := 8) hx hb hts hin_X5 hown hK hP (20 + 4 * mi + t) (by omega) (E_wk (mi := mi) (t := t) hmi ht _ _ _ _) rfl 3 (by decide) lk_f63 (fun _ h9 => h9) rfl dX0_plainActionAllows_10 ?_
    refine lv_if_ne (tgt := 37) hx hb dX0_plainActionAllows_13 (by decide) (fun c_3 => ?_) (fun c_3 => ?_)
    · refine lv_iload_n hx hb dX0_plainActionAllows_37 rfl (lv_at hl 2 rfl) ?_
      refine kr_tern (M := 46) (cnd := way = 0) (a := 1) (b := 0) (rest := []) (fun ja jb => ?_) ?_
      · refine lv_if_ne (tgt := 45) hx hb dX0_plainActionAllows_38 (by decide) (fun c_4 => ?_) (fun c_4 => ?_)
        · refine lv_iconst (v := 0) hx hb dX0_plainActionAllows_45 (by decide) ?_
          exact jb c_4
        · refine lv_iconst (v := 1) hx hb dX0_plainActionAllows_41 (by decide) ?_
          refine lv_goto (tgt := 46) hx hb dX0_plainActionAllows_42 (by decide) ?_
          exact ja c_4
      exact kr_zret hx hb hr hlocks hK hP hD hS (nb_ite (by decide) (by decide)) (by unfold r_aPlainMay; rw [if_pos c_1, if_neg c_3]) rfl dX0_plainActionAllows_46
    · refine lv_iload_n hx hb dX0_plainActionAllows_16 rfl (lv_at hl 2 rfl) ?_
      refine lv_if_ne (tgt := 35) hx hb dX0_plainActionAllows_17 (by decide) (fun c_5 => ?_) (fun c_5 => ?_)
      · refine lv_iconst (v := 0) hx hb dX0_plainActionAllows_35 (by decide) ?_
        exact kr_zret hx hb hr hlocks hK hP hD hS (by decide) (by unfold r_aPlainMay; rw [if_pos c_1, if_pos c_3, if_neg c_5]) rfl dX0_plainActionAllows_36
      · refine lv_aload_n hx hb dX0_plainActionAllows_20 rfl (lv_at hl 0 rfl) ?_
        refine lv_aload_n hx hb dX0_plainActionAllows_21 rfl (lv_at hl 1 rfl) ?_
        refine kr_callVi (As := []) (rest := [.ref (ad (14 + mi))]) ⟨hx, hb, hml, hown, hts⟩ (c_wOperand l D gc ad ln iv lv mi t hmi ht hpl) (cwV 0 hts (goodV (fun _ h => tcons h) tw_268 tw_269 tw_270 tw_4 tw_271) rfl rfl rfl (by decide +kernel) ⟨Nat.le_of_ble_eq_true rfl, Nat.le_of_ble_eq_true rfl⟩) (kr_recv hK hP (20 + 4 * mi + t) (by omega) (E_wk (mi := mi) (t := t) hmi ht _ _ _ _) rfl) hK hP hD hS hA rfl hl.1 rfl (Nat.le_of_ble_eq_true rfl) dX0_plainActionAllows_22 ⟨Nat.le_of_ble_eq_true rfl, Nat.le_of_ble_eq_true rfl⟩ (fun H locs hP hD hS => ?_)
        refine kr_topi (y := nI u) (hou c_1) ?_
        refine kr_callVi (As := [.int (nI u)]) (rest := []) ⟨hx, hb, hml, hown, hts⟩ (c_aEnded l D gc ad ln iv lv mi u hmi (by omega)) (cwV 1 hts (goodV (fun _ h => tcons h) tw_280 tw_281 tw_282 tw_3 tw_283) rfl rfl rfl (by decide +kernel) ⟨Nat.le_of_ble_eq_true rfl, Nat.le_of_ble_eq_true rfl⟩) (kr_recv hK hP (14 + mi) (by omega) (E_mach hmi _ _ _ _) rfl) hK hP hD hS hA rfl hl.1 rfl (Nat.le_of_ble_eq_true rfl) dX0_plainActionAllows_25 ⟨Nat.le_of_ble_eq_true rfl, Nat.le_of_ble_eq_true rfl⟩ (fun H locs hP hD hS => ?_)
        refine kr_tern (M := 36) (cnd := (r_aEnded iv mi u) = 0) (a := 0) (b := 1) (rest := []) (fun ja jb => ?_) ?_
        · refine lv_if_eq (tgt := 35) hx hb dX0_plainActionAllows_28 (by decide) (fun c_6 => ?_) (fun c_6 => ?_)
          · refine lv_iconst (v := 0) hx hb dX0_plainActionAllows_35 (by decide) ?_
            exact ja c_6
          · refine lv_iconst (v := 1) hx hb dX0_plainActionAllows_31 (by decide) ?_
            refine lv_goto (tgt := 36) hx hb dX0_plainActionAllows_32 (by decide) ?_
            exact jb c_6
        exact kr_zret hx hb hr hlocks hK hP hD hS (nb_ite (by decide) (by decide)) (by unfold r_aPlainMay; rw [if_pos c_1, if_pos c_3, if_pos c_5]) rfl dX0_plainActionAllows_36
def r_aMonMay (iv : Nat → Nat → Int32) (mi t mm : Nat) (way : Int32) : Int32 := if (r_wAction iv mi t) = 4 then if (if iv (28 + 2 * mi + mm) 0 = nI t then (1 : Int32) else 0) = 0 then if way = 0 then if (r_wAction iv mi t) = 0 then if (if iv (28 + 2 * mi + mm) 0 = nI t then (1 : Int32) else 0) = 0 then (if (r_mIsFree iv mi mm) = 0 then (0 : Int32) else 1) else 1 else 1 else 0 else if iv (28 + 2 * mi + mm) 2 ≤ 0 then if way = 0 then if (r_wAction iv mi t) = 0 then if (if iv (28 + 2 * mi + mm) 0 = nI t then (1 : Int32) else 0) = 0 then (if (r_mIsFree iv mi mm) = 0 then (0 : Int32) else 1) else 1 else 1 else 0 else if way = 1 then 1 else (if way = 2 then (1 : Int32) else 0) else if way = 0 then if (r_wAction iv mi t) = 0 then if (if iv (28 + 2 * mi + mm) 0 = nI t then (1 : Int32) else 0) = 0 then (if (r_mIsFree iv mi mm) = 0 then (0 : Int32) else 1) else 1 else 1 else 0
theorem nb_aMonMay (iv : Nat → Nat → Int32) (mi t mm : Nat) (way : Int32) : narrow .boolean (.int (r_aMonMay iv mi t mm way)) = .int (r_aMonMay iv mi t mm way) := by
  unfold r_aMonMay; repeat' split
  all_goals rfl
set_option maxHeartbeats 4000000 in
set_option maxRecDepth 100000 in
theorem c_aMonMay (l : Launch) (D : va_G) (gc : Nat → ClassId) (ad ln : Nat → Nat) (iv : Nat → Nat → Int32) (lv : Nat → Nat → Int64) (mi t mm : Nat) (hmi : mi < 2) (ht : t < 4) (hmm : mm < 2) (way : Int32) (hpl : vp_in (iv (20 + 4 * mi + t) 1) 6) (hop : r_wOperand iv mi t = nI mm) : kMi l yX0_monitorUseAllows wX0_monitorUseAllows ({ frames := 2, cells := 0, slots := 0, locals := 41 }) D vwCl (kT gc) 42 (kE gc) [.ref (ad (14 + mi)), .int (nI t), .int way] (ad, ln, iv, lv) (ad, ln, iv, lv) (r_aMonMay iv mi t mm way) := by
  refine ki_start (cc := cX0_monitorUseAllows) (maxL := 6) (ret := (some .boolean)) (by decide) rfl (Nat.le_of_ble_eq_true rfl) ?_
  intro p9 e9 s m9 below meth c9 A ls hx hb hr hts hown hlocks hml hA hK hP hD hS hl
  have hl : lv_has ls 6 [(0, .ref (ad (14 + mi))), (1, .int (nI t)), (2, .int way)] := hl
  have hown : s.vm.findClass "MonitorWays$Machine" = some m9.cls := hown
  have hin_X0 : ∀ w ∈ u_ws "MonitorWays$Machine" TX0 3, w ∈ wX0_monitorUseAllows := fun w h => tcons (inX0 w h)
  have hin_X1 : ∀ w ∈ u_ws "MonitorWays$Monitor" TX1 4, w ∈ wX0_monitorUseAllows := fun w h => tcons (inX1 w h)
  have lk_f11 := hts _ (tcons tw_126)
  have lk_f70 := hts _ (tcons tw_93)
  have lk_f73 := hts _ (tcons tw_99)
  refine lv_aload_n hx hb dX0_monitorUseAllows_0 rfl (lv_at hl 0 rfl) ?_
  refine kr_get (C := "MonitorWays$Machine") (T := TX0) (N := 3) hx hb hts hin_X0 hown hK hP (14 + mi) (by omega) (E_mach hmi _ _ _ _) rfl 0 (by decide) lk_f11 (fun _ h9 => h9) rfl dX0_monitorUseAllows_1 ?_
  refine lv_iload_n hx hb dX0_monitorUseAllows_4 rfl (lv_at hl 1 rfl) ?_
  refine kr_aald (a := ad (20 + 4 * mi + t)) hx hb hK hP (16 + mi) 4 (by omega) (E_warr hmi _ _ _ _) rfl (vp_in_nI (n := t) (by omega) (by decide)) (by rw [nI_clamp (show t < 2 ^ 31 by omega)]) dX0_monitorUseAllows_5 ?_
  refine kr_callVi (As := []) (rest := []) ⟨hx, hb, hml, hown, hts⟩ (c_wAction l D gc ad ln iv lv mi t hmi (by omega) hpl) (cwV 0 hts (goodV (fun _ h => tcons h) tw_256 tw_257 tw_258 tw_4 tw_259) rfl rfl rfl (by decide +kernel) ⟨Nat.le_of_ble_eq_true rfl, Nat.le_of_ble_eq_true rfl⟩) (kr_recv hK hP (20 + 4 * mi + t) (by omega) (E_wk (mi := mi) (t := t) hmi (by omega) _ _ _ _) rfl) hK hP hD hS hA rfl hl.1 rfl (Nat.le_of_ble_eq_true rfl) dX0_monitorUseAllows_6 ⟨Nat.le_of_ble_eq_true rfl, Nat.le_of_ble_eq_true rfl⟩ (fun H locs hP hD hS => ?_)
  refine lv_istore_n (lv' := [(3, .int (r_wAction iv mi t)), (0, .ref (ad (14 + mi))), (1, .int (nI t)), (2, .int way)]) hx hb dX0_monitorUseAllows_9 rfl hl (by decide) rfl (fun ls hl => ?_)
  refine lv_aload_n hx hb dX0_monitorUseAllows_10 rfl (lv_at hl 1 rfl) ?_
  refine lv_aload_n hx hb dX0_monitorUseAllows_11 rfl (lv_at hl 1 rfl) ?_
  refine kr_get (C := "MonitorWays$Machine") (T := TX0) (N := 3) hx hb hts hin_X0 hown hK hP (14 + mi) (by omega) (E_mach hmi _ _ _ _) rfl 0 (by decide) lk_f11 (fun _ h9 => h9) rfl dX0_monitorUseAllows_12 ?_
  refine lv_iload_n hx hb dX0_monitorUseAllows_15 rfl (lv_at hl 2 rfl) ?_
  refine kr_aald (a := ad (20 + 4 * mi + t)) hx hb hK hP (16 + mi) 4 (by omega) (E_warr hmi _ _ _ _) rfl (vp_in_nI (n := t) (by omega) (by decide)) (by rw [nI_clamp (show t < 2 ^ 31 by omega)]) dX0_monitorUseAllows_16 ?_
  refine kr_callVr (As := [.ref (ad (20 + 4 * mi + t))]) (rest := []) ⟨hx, hb, hml, hown, hts⟩ (c_aMonOf l D gc ad ln iv lv mi t mm hmi (by omega) hmm hpl hop) (cwV 1 hts (goodV (fun _ h => tcons h) tw_264 tw_266 ts_2 tw_3 tw_267) rfl rfl rfl (by decide +kernel) ⟨Nat.le_of_ble_eq_true rfl, Nat.le_of_ble_eq_true rfl⟩) (kr_recv hK hP (14 + mi) (by omega) (E_mach hmi _ _ _ _) rfl) hK hP hD hS hA rfl hl.1 rfl (Nat.le_of_ble_eq_true rfl) dX0_monitorUseAllows_17 ⟨Nat.le_of_ble_eq_true rfl, Nat.le_of_ble_eq_true rfl⟩ (fun H locs hP hD hS => ?_)
  refine lv_astore (lv' := [(4, .ref (ad (28 + 2 * mi + mm))), (3, .int (r_wAction iv mi t)), (0, .ref (ad (14 + mi))), (1, .int (nI t)), (2, .int way)]) hx hb dX0_monitorUseAllows_20 hl (by decide) rfl (fun ls hl => ?_)
  refine lv_aload hx hb dX0_monitorUseAllows_22 (lv_at hl 0 rfl) ?_
  refine kr_get (C := "MonitorWays$Monitor") (T := TX1) (N := 4) hx hb hts hin_X1 hown hK hP (28 + 2 * mi + mm) (by omega) (E_mon (mi := mi) (m := mm) hmi hmm _ _ _ _) rfl 0 (by decide) lk_f70 (fun _ h9 => h9) rfl dX0_monitorUseAllows_24 ?_
  refine lv_iload_n hx hb dX0_monitorUseAllows_27 rfl (lv_at hl 3 rfl) ?_
  refine kr_tern (M := 36) (cnd := iv (28 + 2 * mi + mm) 0 = nI t) (a := 1) (b := 0) (rest := []) (fun ja jb => ?_) ?_
  · refine lv_icmp_ne (tgt := 35) hx hb dX0_monitorUseAllows_28 (by decide) (fun c_1 => ?_) (fun c_1 => ?_)
    · refine lv_iconst (v := 0) hx hb dX0_monitorUseAllows_35 (by decide) ?_
      exact jb c_1
    · refine lv_iconst (v := 1) hx hb dX0_monitorUseAllows_31 (by decide) ?_
      refine lv_goto (tgt := 36) hx hb dX0_monitorUseAllows_32 (by decide) ?_
      exact ja c_1
  refine lv_istore (lv' := [(5, .int (if iv (28 + 2 * mi + mm) 0 = nI t then (1 : Int32) else 0)), (4, .ref (ad (28 + 2 * mi + mm))), (3, .int (r_wAction iv mi t)), (0, .ref (ad (14 + mi))), (1, .int (nI t)), (2, .int way)]) hx hb dX0_monitorUseAllows_36 hl (by decide) rfl (fun ls hl => ?_)
  refine lv_iload_n hx hb dX0_monitorUseAllows_38 rfl (lv_at hl 2 rfl) ?_
  refine lv_iconst (v := 4) hx hb dX0_monitorUseAllows_39 (by decide) ?_
  refine lv_icmp_ne (tgt := 72) hx hb dX0_monitorUseAllows_40 (by decide) (fun c_2 => ?_) (fun c_2 => ?_)
  · refine lv_iload_n hx hb dX0_monitorUseAllows_72 rfl (lv_at hl 5 rfl) ?_
    refine lv_if_ne (tgt := 97) hx hb dX0_monitorUseAllows_73 (by decide) (fun c_3 => ?_) (fun c_3 => ?_)
    · refine lv_iconst (v := 0) hx hb dX0_monitorUseAllows_97 (by decide) ?_
      exact kr_zret hx hb hr hlocks hK hP hD hS (by decide) (by unfold r_aMonMay; rw [if_neg c_2, if_neg c_3]) rfl dX0_monitorUseAllows_98
    · refine lv_iload_n hx hb dX0_monitorUseAllows_76 rfl (lv_at hl 2 rfl) ?_
      refine lv_if_ne (tgt := 93) hx hb dX0_monitorUseAllows_77 (by decide) (fun c_4 => ?_) (fun c_4 => ?_)
      · refine lv_iconst (v := 1) hx hb dX0_monitorUseAllows_93 (by decide) ?_
        refine lv_goto (tgt := 98) hx hb dX0_monitorUseAllows_94 (by decide) ?_
        exact kr_zret hx hb hr hlocks hK hP hD hS (by decide) (by unfold r_aMonMay; rw [if_neg c_2, if_pos c_3, if_neg c_4]) rfl dX0_monitorUseAllows_98
      · refine lv_iload hx hb dX0_monitorUseAllows_80 (lv_at hl 0 rfl) ?_
        refine lv_if_ne (tgt := 93) hx hb dX0_monitorUseAllows_82 (by decide) (fun c_5 => ?_) (fun c_5 => ?_)
        · refine lv_iconst (v := 1) hx hb dX0_monitorUseAllows_93 (by decide) ?_
          refine lv_goto (tgt := 98) hx hb dX0_monitorUseAllows_94 (by decide) ?_
          exact kr_zret hx hb hr hlocks hK hP hD hS (by decide) (by unfold r_aMonMay; rw [if_neg c_2, if_pos c_3, if_pos c_4, if_neg c_5]) rfl dX0_monitorUseAllows_98
        · refine lv_aload hx hb dX0_monitorUseAllows_85 (lv_at hl 1 rfl) ?_
          refine kr_callVi (As := []) (rest := []) ⟨hx, hb, hml, hown, hts⟩ (c_mIsFree l D gc ad ln iv lv mi mm hmi hmm) (cwV 0 hts (goodV (fun _ h => tcons h) tw_272 tw_273 tw_274 tw_5 tw_275) rfl rfl rfl (by decide +kernel) ⟨Nat.le_of_ble_eq_true rfl, Nat.le_of_ble_eq_true rfl⟩) (kr_recv hK hP (28 + 2 * mi + mm) (by omega) (E_mon (mi := mi) (m := mm) hmi hmm _ _ _ _) rfl) hK hP hD hS hA rfl hl.1 rfl (Nat.le_of_ble_eq_true rfl) dX0_monitorUseAllows_87 ⟨Nat.le_of_ble_eq_true rfl, Nat.le_of_ble_eq_true rfl⟩ (fun H locs hP hD hS => ?_)
          refine kr_tern (M := 98) (cnd := (r_mIsFree iv mi mm) = 0) (a := 0) (b := 1) (rest := []) (fun ja jb => ?_) ?_
          · refine lv_if_eq (tgt := 97) hx hb dX0_monitorUseAllows_90 (by decide) (fun c_6 => ?_) (fun c_6 => ?_)
            · refine lv_iconst (v := 0) hx hb dX0_monitorUseAllows_97 (by decide) ?_
              exact ja c_6
            · refine lv_iconst (v := 1) hx hb dX0_monitorUseAllows_93 (by decide) ?_
              refine lv_goto (tgt := 98) hx hb dX0_monitorUseAllows_94 (by decide) ?_
              exact jb c_6
          exact kr_zret hx hb hr hlocks hK hP hD hS (nb_ite (by decide) (by decide)) (by unfold r_aMonMay; rw [if_neg c_2, if_pos c_3, if_pos c_4, if_pos c_5]) rfl dX0_monitorUseAllows_98
  · refine lv_iload hx hb dX0_monitorUseAllows_43 (lv_at hl 0 rfl) ?_
    refine lv_if_eq (tgt := 72) hx hb dX0_monitorUseAllows_45 (by decide) (fun c_7 => ?_) (fun c_7 => ?_)
    · refine lv_iload_n hx hb dX0_monitorUseAllows_72 rfl (lv_at hl 5 rfl) ?_
      refine lv_if_ne (tgt := 97) hx hb dX0_monitorUseAllows_73 (by decide) (fun c_8 => ?_) (fun c_8 => ?_)
      · refine lv_iconst (v := 0) hx hb dX0_monitorUseAllows_97 (by decide) ?_
        exact kr_zret hx hb hr hlocks hK hP hD hS (by decide) (by unfold r_aMonMay; rw [if_pos c_2, if_pos c_7, if_neg c_8]) rfl dX0_monitorUseAllows_98
      · refine lv_iload_n hx hb dX0_monitorUseAllows_76 rfl (lv_at hl 2 rfl) ?_
        refine lv_if_ne (tgt := 93) hx hb dX0_monitorUseAllows_77 (by decide) (fun c_9 => ?_) (fun c_9 => ?_)
        · refine lv_iconst (v := 1) hx hb dX0_monitorUseAllows_93 (by decide) ?_
          refine lv_goto (tgt := 98) hx hb dX0_monitorUseAllows_94 (by decide) ?_
          exact kr_zret hx hb hr hlocks hK hP hD hS (by decide) (by unfold r_aMonMay; rw [if_pos c_2, if_pos c_7, if_pos c_8, if_neg c_9]) rfl dX0_monitorUseAllows_98
        · refine lv_iload hx hb dX0_monitorUseAllows_80 (lv_at hl 0 rfl) ?_
          refine lv_if_ne (tgt := 93) hx hb dX0_monitorUseAllows_82 (by decide) (fun c_10 => ?_) (fun c_10 => ?_)
          · refine lv_iconst (v := 1) hx hb dX0_monitorUseAllows_93 (by decide) ?_
            refine lv_goto (tgt := 98) hx hb dX0_monitorUseAllows_94 (by decide) ?_
            exact kr_zret hx hb hr hlocks hK hP hD hS (by decide) (by unfold r_aMonMay; rw [if_pos c_2, if_pos c_7, if_pos c_8, if_pos c_9, if_neg c_10]) rfl dX0_monitorUseAllows_98
          · refine lv_aload hx hb dX0_monitorUseAllows_85 (lv_at hl 1 rfl) ?_
            refine kr_callVi (As := []) (rest := []) ⟨hx, hb, hml, hown, hts⟩ (c_mIsFree l D gc ad ln iv lv mi mm hmi hmm) (cwV 0 hts (goodV (fun _ h => tcons h) tw_272 tw_273 tw_274 tw_5 tw_275) rfl rfl rfl (by decide +kernel) ⟨Nat.le_of_ble_eq_true rfl, Nat.le_of_ble_eq_true rfl⟩) (kr_recv hK hP (28 + 2 * mi + mm) (by omega) (E_mon (mi := mi) (m := mm) hmi hmm _ _ _ _) rfl) hK hP hD hS hA rfl hl.1 rfl (Nat.le_of_ble_eq_true rfl) dX0_monitorUseAllows_87 ⟨Nat.le_of_ble_eq_true rfl, Nat.le_of_ble_eq_true rfl⟩ (fun H locs hP hD hS => ?_)
            refine kr_tern (M := 98) (cnd := (r_mIsFree iv mi mm) = 0) (a := 0) (b := 1) (rest := []) (fun ja jb => ?_) ?_
            · refine lv_if_eq (tgt := 97) hx hb dX0_monitorUseAllows_90 (by decide) (fun c_11 => ?_) (fun c_11 => ?_)
              · refine lv_iconst (v := 0) hx hb dX0_monitorUseAllows_97 (by decide) ?_
                exact ja c_11
              · refine lv_iconst (v := 1) hx hb dX0_monitorUseAllows_93 (by decide) ?_
                refine lv_goto (tgt := 98) hx hb dX0_monitorUseAllows_94 (by decide) ?_
                exact jb c_11
            exact kr_zret hx hb hr hlocks hK hP hD hS (nb_ite (by decide) (by decide)) (by unfold r_aMonMay; rw [if_pos c_2, if_pos c_7, if_pos c_8, if_pos c_9, if_pos c_10]) rfl dX0_monitorUseAllows_98
    · refine lv_aload hx hb dX0_monitorUseAllows_48 (lv_at hl 1 rfl) ?_
      refine kr_get (C := "MonitorWays$Monitor") (T := TX1) (N := 4) hx hb hts hin_X1 hown hK hP (28 + 2 * mi + mm) (by omega) (E_mon (mi := mi) (m := mm) hmi hmm _ _ _ _) rfl 2 (by decide) lk_f73 (fun _ h9 => h9) rfl dX0_monitorUseAllows_50 ?_
      refine lv_if_le (tgt := 72) hx hb dX0_monitorUseAllows_53 (by decide) (fun c_12 => ?_) (fun c_12 => ?_)
      · refine lv_iload_n hx hb dX0_monitorUseAllows_72 rfl (lv_at hl 5 rfl) ?_
        refine lv_if_ne (tgt := 97) hx hb dX0_monitorUseAllows_73 (by decide) (fun c_13 => ?_) (fun c_13 => ?_)
        · refine lv_iconst (v := 0) hx hb dX0_monitorUseAllows_97 (by decide) ?_
          exact kr_zret hx hb hr hlocks hK hP hD hS (by decide) (by unfold r_aMonMay; rw [if_pos c_2, if_neg c_7, if_pos c_12, if_neg c_13]) rfl dX0_monitorUseAllows_98
        · refine lv_iload_n hx hb dX0_monitorUseAllows_76 rfl (lv_at hl 2 rfl) ?_
          refine lv_if_ne (tgt := 93) hx hb dX0_monitorUseAllows_77 (by decide) (fun c_14 => ?_) (fun c_14 => ?_)
          · refine lv_iconst (v := 1) hx hb dX0_monitorUseAllows_93 (by decide) ?_
            refine lv_goto (tgt := 98) hx hb dX0_monitorUseAllows_94 (by decide) ?_
            exact kr_zret hx hb hr hlocks hK hP hD hS (by decide) (by unfold r_aMonMay; rw [if_pos c_2, if_neg c_7, if_pos c_12, if_pos c_13, if_neg c_14]) rfl dX0_monitorUseAllows_98
          · refine lv_iload hx hb dX0_monitorUseAllows_80 (lv_at hl 0 rfl) ?_
            refine lv_if_ne (tgt := 93) hx hb dX0_monitorUseAllows_82 (by decide) (fun c_15 => ?_) (fun c_15 => ?_)
            · refine lv_iconst (v := 1) hx hb dX0_monitorUseAllows_93 (by decide) ?_
              refine lv_goto (tgt := 98) hx hb dX0_monitorUseAllows_94 (by decide) ?_
              exact kr_zret hx hb hr hlocks hK hP hD hS (by decide) (by unfold r_aMonMay; rw [if_pos c_2, if_neg c_7, if_pos c_12, if_pos c_13, if_pos c_14, if_neg c_15]) rfl dX0_monitorUseAllows_98
            · refine lv_aload hx hb dX0_monitorUseAllows_85 (lv_at hl 1 rfl) ?_
              refine kr_callVi (As := []) (rest := []) ⟨hx, hb, hml, hown, hts⟩ (c_mIsFree l D gc ad ln iv lv mi mm hmi hmm) (cwV 0 hts (goodV (fun _ h => tcons h) tw_272 tw_273 tw_274 tw_5 tw_275) rfl rfl rfl (by decide +kernel) ⟨Nat.le_of_ble_eq_true rfl, Nat.le_of_ble_eq_true rfl⟩) (kr_recv hK hP (28 + 2 * mi + mm) (by omega) (E_mon (mi := mi) (m := mm) hmi hmm _ _ _ _) rfl) hK hP hD hS hA rfl hl.1 rfl (Nat.le_of_ble_eq_true rfl) dX0_monitorUseAllows_87 ⟨Nat.le_of_ble_eq_true rfl, Nat.le_of_ble_eq_true rfl⟩ (fun H locs hP hD hS => ?_)
              refine kr_tern (M := 98) (cnd := (r_mIsFree iv mi mm) = 0) (a := 0) (b := 1) (rest := []) (fun ja jb => ?_) ?_
              · refine lv_if_eq (tgt := 97) hx hb dX0_monitorUseAllows_90 (by decide) (fun c_16 => ?_) (fun c_16 => ?_)
                · refine lv_iconst (v := 0) hx hb dX0_monitorUseAllows_97 (by decide) ?_
                  exact ja c_16
                · refine lv_iconst (v := 1) hx hb dX0_monitorUseAllows_93 (by decide) ?_
                  refine lv_goto (tgt := 98) hx hb dX0_monitorUseAllows_94 (by decide) ?_
                  exact jb c_16
              exact kr_zret hx hb hr hlocks hK hP hD hS (nb_ite (by decide) (by decide)) (by unfold r_aMonMay; rw [if_pos c_2, if_neg c_7, if_pos c_12, if_pos c_13, if_pos c_14, if_pos c_15]) rfl dX0_monitorUseAllows_98
      · refine lv_iload_n hx hb dX0_monitorUseAllows_56 rfl (lv_at hl 5 rfl) ?_
        refine lv_iconst (v := 1) hx hb dX0_monitorUseAllows_57 (by decide) ?_
        refine lv_icmp_eq (tgt := 66) hx hb dX0_monitorUseAllows_58 (by decide) (fun c_17 => ?_) (fun c_17 => ?_)
        · refine lv_iconst (v := 1) hx hb dX0_monitorUseAllows_66 (by decide) ?_
          refine lv_goto (tgt := 71) hx hb dX0_monitorUseAllows_67 (by decide) ?_
          exact kr_zret hx hb hr hlocks hK hP hD hS (by decide) (by unfold r_aMonMay; rw [if_pos c_2, if_neg c_7, if_neg c_12, if_pos c_17]) rfl dX0_monitorUseAllows_71
        · refine lv_iload_n hx hb dX0_monitorUseAllows_61 rfl (lv_at hl 5 rfl) ?_
          refine lv_iconst (v := 2) hx hb dX0_monitorUseAllows_62 (by decide) ?_
          refine kr_tern (M := 71) (cnd := way = 2) (a := 1) (b := 0) (rest := []) (fun ja jb => ?_) ?_
          · refine lv_icmp_ne (tgt := 70) hx hb dX0_monitorUseAllows_63 (by decide) (fun c_18 => ?_) (fun c_18 => ?_)
            · refine lv_iconst (v := 0) hx hb dX0_monitorUseAllows_70 (by decide) ?_
              exact jb c_18
            · refine lv_iconst (v := 1) hx hb dX0_monitorUseAllows_66 (by decide) ?_
              refine lv_goto (tgt := 71) hx hb dX0_monitorUseAllows_67 (by decide) ?_
              exact ja c_18
          exact kr_zret hx hb hr hlocks hK hP hD hS (nb_ite (by decide) (by decide)) (by unfold r_aMonMay; rw [if_pos c_2, if_neg c_7, if_neg c_12, if_neg c_17]) rfl dX0_monitorUseAllows_71
end
section
/-- what Monitor.unpack writes into the set, after k of them -/
def mUn (c : Nat) (s : Int32) (iv : Nat → Nat → Int32) : Nat → Nat → Nat → Int32
  | 0 => iv
  | k + 1 => up2 (mUn c s iv k) c k ((s >>> (((9 : Int32) + (2 * nI k)) &&& 31)) &&& 3)
theorem mUn_ne {c a : Nat} {s : Int32} {iv : Nat → Nat → Int32} (h : a ≠ c) : ∀ k, mUn c s iv k a = iv a
  | 0 => rfl
  | k + 1 => by rw [mUn, up2_c h, mUn_ne h k]
/-- the fields that Monitor.unpack writes, then the set -/
def mU0 (iv : Nat → Nat → Int32) (q : Nat) (s : Int32) : Nat → Nat → Int32 := (up2 (up2 (up2 iv q 0 ((s &&& 7) - 1)) q 1 ((s >>> ((3 : Int32) &&& 31)) &&& 7)) q 2 (if (4 : Int32) < ((s >>> ((6 : Int32) &&& 31)) &&& 7) then (4 : Int32) else ((s >>> ((6 : Int32) &&& 31)) &&& 7)))
def m_mUnpack (iv : Nat → Nat → Int32) (mi m : Nat) (x : Int64) (sz : Nat) : Nat → Nat → Int32 := mUn (32 + 2 * mi + m) (x.toInt32 &&& 131071) (mU0 iv (28 + 2 * mi + m) (x.toInt32 &&& 131071)) sz
set_option maxHeartbeats 4000000 in
set_option maxRecDepth 100000 in
theorem c_mUnpack (l : Launch) (D : va_G) (gc : Nat → ClassId) (ad ln : Nat → Nat) (iv : Nat → Nat → Int32) (lv : Nat → Nat → Int64) (mi m : Nat) (hmi : mi < 2) (hm : m < 2) (x : Int64) (sz : Nat) (hsz : (if (4 : Int32) < (((x.toInt32 &&& 131071) >>> ((6 : Int32) &&& 31)) &&& 7) then (4 : Int32) else (((x.toInt32 &&& 131071) >>> ((6 : Int32) &&& 31)) &&& 7)) = nI sz) (hs4 : sz ≤ 4) : kMv l yX1_unpack wX1_unpack ({ frames := 1, cells := 0, slots := 0, locals := 20 }) D vwCl (kT gc) 42 (kE gc) [.ref (ad (28 + 2 * mi + m)), .long x] (ad, ln, iv, lv) (ad, ln, m_mUnpack iv mi m x sz, lv) := by
  refine kv_start (cc := cX1_unpack) (maxL := 5) (by decide) rfl (Nat.le_of_ble_eq_true rfl) ?_
  intro p9 e9 s m9 below meth c9 A ls hx hb hr hts hown hlocks hml hA hK hP hD hS hl
  have hl : lv_has ls 5 [(0, .ref (ad (28 + 2 * mi + m))), (1, .long x)] := hl
  have hown : s.vm.findClass "MonitorWays$Monitor" = some m9.cls := hown
  have hin_X1 : ∀ w ∈ u_ws "MonitorWays$Monitor" TX1 4, w ∈ wX1_unpack := fun w h => tcons (inX1 w h)
  have lk_c28 := hts _ (tcons tw_497)
  have lk_f22 := hts _ (tcons tw_92)
  have lk_f25 := hts _ (tcons tw_95)
  have lk_f18 := hts _ (tcons tw_98)
  have lk_f9 := hts _ (tcons tw_100)
  refine lv_lload_n hx hb dX1_unpack_0 rfl (lv_at hl 1 rfl) ?_
  refine lv_l2i hx hb dX1_unpack_1 rfl ?_
  refine lv_ldc (v := 131071) hx hb hown lk_c28 dX1_unpack_2 ?_
  refine lv_iand hx hb dX1_unpack_4 ?_
  refine lv_istore_n (lv' := [(3, .int (x.toInt32 &&& 131071)), (0, .ref (ad (28 + 2 * mi + m))), (1, .long x)]) hx hb dX1_unpack_5 rfl hl (by decide) rfl (fun ls hl => ?_)
  refine lv_aload_n hx hb dX1_unpack_6 rfl (lv_at hl 1 rfl) ?_
  refine lv_iload_n hx hb dX1_unpack_7 rfl (lv_at hl 0 rfl) ?_
  refine lv_bipush (v := 7) hx hb dX1_unpack_8 (by decide) ?_
  refine lv_iand hx hb dX1_unpack_10 ?_
  refine lv_iconst (v := 1) hx hb dX1_unpack_11 (by decide) ?_
  refine lv_isub hx hb dX1_unpack_12 ?_
  refine kr_put (C := "MonitorWays$Monitor") (T := TX1) (N := 4) hx hb hts hin_X1 tyX1 ok_tyX1 ok_nX1 hown hK hP hD hS (28 + 2 * mi + m) (by omega) (fun _ => E_mon (mi := mi) (m := m) hmi hm _ _ _ _) rfl 0 (by decide) lk_f22 (fun _ h9 => h9) rfl rfl rfl rfl (fun _ => Nat.le_of_ble_eq_true rfl) (fun _ => rfl) dX1_unpack_13 (fun H locs hP hD hS => ?_)
  refine lv_aload_n hx hb dX1_unpack_16 rfl (lv_at hl 1 rfl) ?_
  refine lv_iload_n hx hb dX1_unpack_17 rfl (lv_at hl 0 rfl) ?_
  refine lv_iconst (v := 3) hx hb dX1_unpack_18 (by decide) ?_
  refine lv_ishr hx hb dX1_unpack_19 ?_
  refine lv_bipush (v := 7) hx hb dX1_unpack_20 (by decide) ?_
  refine lv_iand hx hb dX1_unpack_22 ?_
  refine kr_put (C := "MonitorWays$Monitor") (T := TX1) (N := 4) hx hb hts hin_X1 tyX1 ok_tyX1 ok_nX1 hown hK hP hD hS (28 + 2 * mi + m) (by omega) (fun _ => E_mon (mi := mi) (m := m) hmi hm _ _ _ _) rfl 1 (by decide) lk_f25 (fun _ h9 => h9) rfl rfl rfl rfl (fun _ => Nat.le_of_ble_eq_true rfl) (fun _ => rfl) dX1_unpack_23 (fun H locs hP hD hS => ?_)
  refine lv_aload_n hx hb dX1_unpack_26 rfl (lv_at hl 1 rfl) ?_
  refine lv_iload_n hx hb dX1_unpack_27 rfl (lv_at hl 0 rfl) ?_
  refine lv_bipush (v := 6) hx hb dX1_unpack_28 (by decide) ?_
  refine lv_ishr hx hb dX1_unpack_30 ?_
  refine lv_bipush (v := 7) hx hb dX1_unpack_31 (by decide) ?_
  refine lv_iand hx hb dX1_unpack_33 ?_
  refine lv_iconst (v := 4) hx hb dX1_unpack_34 (by decide) ?_
  refine va_mmin hx hb (hml.trans hl.1.symm) hown (hts _ (tcons tw_498)) (hts _ (tcons tw_442)) (hts _ (tcons tw_10)) (hts _ (tcons tw_443)) (Nat.le_of_ble_eq_true rfl) (Nat.le_of_ble_eq_true rfl) (Nat.le_of_ble_eq_true rfl) (Nat.le_of_ble_eq_true rfl) dX1_unpack_35 ?_
  refine kr_put (C := "MonitorWays$Monitor") (T := TX1) (N := 4) hx hb hts hin_X1 tyX1 ok_tyX1 ok_nX1 hown hK hP hD hS (28 + 2 * mi + m) (by omega) (fun _ => E_mon (mi := mi) (m := m) hmi hm _ _ _ _) rfl 2 (by decide) lk_f18 (fun _ h9 => h9) rfl rfl rfl rfl (fun _ => Nat.le_of_ble_eq_true rfl) (fun _ => rfl) dX1_unpack_38 (fun H locs hP hD hS => ?_)
  refine lv_iconst (v := 0) hx hb dX1_unpack_41 (by decide) ?_
  refine lv_istore (lv' := [(4, .int 0), (3, .int (x.toInt32 &&& 131071)), (0, .ref (ad (28 + 2 * mi + m))), (1, .long x)]) hx hb dX1_unpack_42 hl (by decide) rfl (fun ls hl => ?_)
  refine kr_loop (σ := Nat) (fun z9 => match z9 with | i => sz - i) (fun z9 H locs ls => match z9 with | i => (i ≤ sz) ∧ va_P D vwCl (mW 42 (kE gc) (ad, ln, (mUn (32 + 2 * mi + m) (x.toInt32 &&& 131071) (mU0 iv (28 + 2 * mi + m) (x.toInt32 &&& 131071)) i), lv)) H ∧ va_D A (mW 42 (kE gc) (ad, ln, (mUn (32 + 2 * mi + m) (x.toInt32 &&& 131071) (mU0 iv (28 + 2 * mi + m) (x.toInt32 &&& 131071)) i), lv)) ∧ va_S A s.heap H locs ∧ lv_has ls 5 [(0, .ref (ad (28 + 2 * mi + m))), (3, .int (x.toInt32 &&& 131071)), (4, .int (nI i))]) 44 (0) ⟨Nat.zero_le _, hP, hD, hS, lv_sub hl [2, 1, 0] rfl⟩ ?_
  intro z9 H locs ls hI ih
  obtain ⟨i, hx9⟩ : ∃ z, z = z9 := ⟨_, rfl⟩
  subst hx9
  obtain ⟨hi, hP, hD, hS, hl⟩ := hI
  refine lv_iload hx hb dX1_unpack_44 (lv_at hl 2 rfl) ?_
  refine lv_aload_n hx hb dX1_unpack_46 rfl (lv_at hl 0 rfl) ?_
  refine kr_get (C := "MonitorWays$Monitor") (T := TX1) (N := 4) hx hb hts hin_X1 hown hK hP (28 + 2 * mi + m) (by omega) (E_mon (mi := mi) (m := m) hmi hm _ _ _ _) rfl 2 (by decide) lk_f18 (fun _ h9 => h9) rfl dX1_unpack_47 ?_
  refine kr_topi (y := nI sz) ((congrFun (mUn_ne (by omega) i) 2).trans (up2_s.trans hsz)) ?_
  refine lv_icmp_ge (tgt := 77) hx hb dX1_unpack_50 (by decide) (fun c_1 => ?_) (fun c_1 => ?_)
  · have hie : sz = i := by have := (nI_leI (by omega) (by omega)).mp c_1; omega
    subst hie
    exact kr_vret hx hb hr hlocks hK hP hD hS rfl dX1_unpack_77
  · have hlt : i < sz := lt_of_nle (by omega) (by omega) c_1
    refine lv_aload_n hx hb dX1_unpack_53 rfl (lv_at hl 0 rfl) ?_
    refine kr_get (C := "MonitorWays$Monitor") (T := TX1) (N := 4) hx hb hts hin_X1 hown hK hP (28 + 2 * mi + m) (by omega) (E_mon (mi := mi) (m := m) hmi hm _ _ _ _) rfl 3 (by decide) lk_f9 (fun _ h9 => h9) rfl dX1_unpack_54 ?_
    refine lv_iload hx hb dX1_unpack_57 (lv_at hl 2 rfl) ?_
    refine lv_iload_n hx hb dX1_unpack_59 rfl (lv_at hl 1 rfl) ?_
    refine lv_bipush (v := 9) hx hb dX1_unpack_60 (by decide) ?_
    refine lv_iconst (v := 2) hx hb dX1_unpack_62 (by decide) ?_
    refine lv_iload hx hb dX1_unpack_63 (lv_at hl 2 rfl) ?_
    refine lv_imul hx hb dX1_unpack_65 ?_
    refine lv_iadd hx hb dX1_unpack_66 ?_
    refine lv_ishr hx hb dX1_unpack_67 ?_
    refine lv_iconst (v := 3) hx hb dX1_unpack_68 (by decide) ?_
    refine lv_iand hx hb dX1_unpack_69 ?_
    refine kr_iastN hx hb hK hP hD hS (32 + 2 * mi + m) 0 (by omega) (fun _ => E_mset (mi := mi) (m := m) hmi hm _ _ _ _) rfl (j := i) (by omega) (by decide) dX1_unpack_70 (fun H locs hP hD hS => ?_)
    refine lv_iinc (v := nI (i + 1)) (lv' := [(4, .int (nI (i + 1))), (0, .ref (ad (28 + 2 * mi + m))), (3, .int (x.toInt32 &&& 131071))]) hx hb dX1_unpack_71 hl (k := 2) rfl (nI_1 i) (by decide) rfl (fun ls hl => ?_)
    refine lv_goto (tgt := 44) hx hb dX1_unpack_74 (by decide) ?_
    exact ih (i + 1) H locs ls ⟨by omega, hP, hD, hS, lv_sub hl [1, 2, 0] rfl⟩ (by show sz - (i + 1) < sz - i; omega)
def m_aBegin (iv : Nat → Nat → Int32) (mi : Nat) : Nat → Nat → Int32 := (m_mBegin (m_mBegin (m_wBegin (m_wBegin (m_wBegin (m_wBegin iv mi 0) mi 1) mi 2) mi 3) mi 0) mi 1)
set_option maxHeartbeats 4000000 in
set_option maxRecDepth 100000 in
theorem c_aBegin (l : Launch) (D : va_G) (gc : Nat → ClassId) (ad ln : Nat → Nat) (iv : Nat → Nat → Int32) (lv : Nat → Nat → Int64) (mi : Nat) (hmi : mi < 2) : kMv l yX0_begin wX0_begin ({ frames := 2, cells := 0, slots := 0, locals := 40 }) D vwCl (kT gc) 42 (kE gc) [.ref (ad (14 + mi))] (ad, ln, iv, lv) (ad, ln, m_aBegin iv mi, lv) := by
  refine kv_start (cc := cX0_begin) (maxL := 2) (by decide) rfl (Nat.le_of_ble_eq_true rfl) ?_
  intro p9 e9 s m9 below meth c9 A ls hx hb hr hts hown hlocks hml hA hK hP hD hS hl
  have hl : lv_has ls 2 [(0, .ref (ad (14 + mi)))] := hl
  have hown : s.vm.findClass "MonitorWays$Machine" = some m9.cls := hown
  have hin_X0 : ∀ w ∈ u_ws "MonitorWays$Machine" TX0 3, w ∈ wX0_begin := fun w h => tcons (inX0 w h)
  have lk_f11 := hts _ (tcons tw_126)
  have lk_f19 := hts _ (tcons tw_128)
  refine lv_iconst (v := 0) hx hb dX0_begin_0 (by decide) ?_
  refine lv_istore_n (lv' := [(1, .int 0), (0, .ref (ad (14 + mi)))]) hx hb dX0_begin_1 rfl hl (by decide) rfl (fun ls hl => ?_)
  refine lv_iload_n hx hb dX0_begin_2 rfl (lv_at hl 0 rfl) ?_
  refine lv_iconst (v := 4) hx hb dX0_begin_3 (by decide) ?_
  refine lv_icmp_ge (tgt := 22) hx hb dX0_begin_4 (by decide) (fun c_1 => absurd c_1 (by decide)) (fun c_1 => ?_)
  refine lv_aload_n hx hb dX0_begin_7 rfl (lv_at hl 1 rfl) ?_
  refine kr_get (C := "MonitorWays$Machine") (T := TX0) (N := 3) hx hb hts hin_X0 hown hK hP (14 + mi) (by omega) (E_mach hmi _ _ _ _) rfl 0 (by decide) lk_f11 (fun _ h9 => h9) rfl dX0_begin_8 ?_
  refine lv_iload_n hx hb dX0_begin_11 rfl (lv_at hl 0 rfl) ?_
  refine kr_aald (a := ad (20 + 4 * mi + 0)) hx hb hK hP (16 + mi) 4 (by omega) (E_warr hmi _ _ _ _) rfl (vp_in_nI (n := 0) (by decide) (by decide)) rfl dX0_begin_12 ?_
  refine kr_callVv (As := []) (rest := []) ⟨hx, hb, hml, hown, hts⟩ (c_wBegin l D gc ad ln iv lv mi 0 hmi (by decide)) (cwV 0 hts (goodV (fun _ h => tcons h) tw_114 tw_115 tw_116 tw_4 tw_117) rfl rfl rfl (by decide +kernel) ⟨Nat.le_of_ble_eq_true rfl, Nat.le_of_ble_eq_true rfl⟩) (kr_recv hK hP (20 + 4 * mi + 0) (by omega) (E_wk (mi := mi) (t := 0) hmi (by decide) _ _ _ _) rfl) hK hP hD hS hA rfl hl.1 rfl (Nat.le_of_ble_eq_true rfl) dX0_begin_13 ⟨Nat.le_of_ble_eq_true rfl, Nat.le_of_ble_eq_true rfl⟩ (fun H locs hP hD hS => ?_)
  refine lv_iinc (v := 1) (lv' := [(1, .int 1), (0, .ref (ad (14 + mi)))]) hx hb dX0_begin_16 hl (k := 0) rfl (by decide) (by decide) rfl (fun ls hl => ?_)
  refine lv_goto (tgt := 2) hx hb dX0_begin_19 (by decide) ?_
  refine lv_iload_n hx hb dX0_begin_2 rfl (lv_at hl 0 rfl) ?_
  refine lv_iconst (v := 4) hx hb dX0_begin_3 (by decide) ?_
  refine lv_icmp_ge (tgt := 22) hx hb dX0_begin_4 (by decide) (fun c_2 => absurd c_2 (by decide)) (fun c_2 => ?_)
  refine lv_aload_n hx hb dX0_begin_7 rfl (lv_at hl 1 rfl) ?_
  refine kr_get (C := "MonitorWays$Machine") (T := TX0) (N := 3) hx hb hts hin_X0 hown hK hP (14 + mi) (by omega) (E_mach hmi _ _ _ _) rfl 0 (by decide) lk_f11 (fun _ h9 => h9) rfl dX0_begin_8 ?_
  refine lv_iload_n hx hb dX0_begin_11 rfl (lv_at hl 0 rfl) ?_
  refine kr_aald (a := ad (20 + 4 * mi + 1)) hx hb hK hP (16 + mi) 4 (by omega) (E_warr hmi _ _ _ _) rfl (vp_in_nI (n := 1) (by decide) (by decide)) rfl dX0_begin_12 ?_
  refine kr_callVv (As := []) (rest := []) ⟨hx, hb, hml, hown, hts⟩ (c_wBegin l D gc ad ln (m_wBegin iv mi 0) lv mi 1 hmi (by decide)) (cwV 0 hts (goodV (fun _ h => tcons h) tw_114 tw_115 tw_116 tw_4 tw_117) rfl rfl rfl (by decide +kernel) ⟨Nat.le_of_ble_eq_true rfl, Nat.le_of_ble_eq_true rfl⟩) (kr_recv hK hP (20 + 4 * mi + 1) (by omega) (E_wk (mi := mi) (t := 1) hmi (by decide) _ _ _ _) rfl) hK hP hD hS hA rfl hl.1 rfl (Nat.le_of_ble_eq_true rfl) dX0_begin_13 ⟨Nat.le_of_ble_eq_true rfl, Nat.le_of_ble_eq_true rfl⟩ (fun H locs hP hD hS => ?_)
  refine lv_iinc (v := 2) (lv' := [(1, .int 2), (0, .ref (ad (14 + mi)))]) hx hb dX0_begin_16 hl (k := 0) rfl (by decide) (by decide) rfl (fun ls hl => ?_)
  refine lv_goto (tgt := 2) hx hb dX0_begin_19 (by decide) ?_
  refine lv_iload_n hx hb dX0_begin_2 rfl (lv_at hl 0 rfl) ?_
  refine lv_iconst (v := 4) hx hb dX0_begin_3 (by decide) ?_
  refine lv_icmp_ge (tgt := 22) hx hb dX0_begin_4 (by decide) (fun c_3 => absurd c_3 (by decide)) (fun c_3 => ?_)
  refine lv_aload_n hx hb dX0_begin_7 rfl (lv_at hl 1 rfl) ?_
  refine kr_get (C := "MonitorWays$Machine") (T := TX0) (N := 3) hx hb hts hin_X0 hown hK hP (14 + mi) (by omega) (E_mach hmi _ _ _ _) rfl 0 (by decide) lk_f11 (fun _ h9 => h9) rfl dX0_begin_8 ?_
  refine lv_iload_n hx hb dX0_begin_11 rfl (lv_at hl 0 rfl) ?_
  refine kr_aald (a := ad (20 + 4 * mi + 2)) hx hb hK hP (16 + mi) 4 (by omega) (E_warr hmi _ _ _ _) rfl (vp_in_nI (n := 2) (by decide) (by decide)) rfl dX0_begin_12 ?_
  refine kr_callVv (As := []) (rest := []) ⟨hx, hb, hml, hown, hts⟩ (c_wBegin l D gc ad ln (m_wBegin (m_wBegin iv mi 0) mi 1) lv mi 2 hmi (by decide)) (cwV 0 hts (goodV (fun _ h => tcons h) tw_114 tw_115 tw_116 tw_4 tw_117) rfl rfl rfl (by decide +kernel) ⟨Nat.le_of_ble_eq_true rfl, Nat.le_of_ble_eq_true rfl⟩) (kr_recv hK hP (20 + 4 * mi + 2) (by omega) (E_wk (mi := mi) (t := 2) hmi (by decide) _ _ _ _) rfl) hK hP hD hS hA rfl hl.1 rfl (Nat.le_of_ble_eq_true rfl) dX0_begin_13 ⟨Nat.le_of_ble_eq_true rfl, Nat.le_of_ble_eq_true rfl⟩ (fun H locs hP hD hS => ?_)
  refine lv_iinc (v := 3) (lv' := [(1, .int 3), (0, .ref (ad (14 + mi)))]) hx hb dX0_begin_16 hl (k := 0) rfl (by decide) (by decide) rfl (fun ls hl => ?_)
  refine lv_goto (tgt := 2) hx hb dX0_begin_19 (by decide) ?_
  refine lv_iload_n hx hb dX0_begin_2 rfl (lv_at hl 0 rfl) ?_
  refine lv_iconst (v := 4) hx hb dX0_begin_3 (by decide) ?_
  refine lv_icmp_ge (tgt := 22) hx hb dX0_begin_4 (by decide) (fun c_4 => absurd c_4 (by decide)) (fun c_4 => ?_)
  refine lv_aload_n hx hb dX0_begin_7 rfl (lv_at hl 1 rfl) ?_
  refine kr_get (C := "MonitorWays$Machine") (T := TX0) (N := 3) hx hb hts hin_X0 hown hK hP (14 + mi) (by omega) (E_mach hmi _ _ _ _) rfl 0 (by decide) lk_f11 (fun _ h9 => h9) rfl dX0_begin_8 ?_
  refine lv_iload_n hx hb dX0_begin_11 rfl (lv_at hl 0 rfl) ?_
  refine kr_aald (a := ad (20 + 4 * mi + 3)) hx hb hK hP (16 + mi) 4 (by omega) (E_warr hmi _ _ _ _) rfl (vp_in_nI (n := 3) (by decide) (by decide)) rfl dX0_begin_12 ?_
  refine kr_callVv (As := []) (rest := []) ⟨hx, hb, hml, hown, hts⟩ (c_wBegin l D gc ad ln (m_wBegin (m_wBegin (m_wBegin iv mi 0) mi 1) mi 2) lv mi 3 hmi (by decide)) (cwV 0 hts (goodV (fun _ h => tcons h) tw_114 tw_115 tw_116 tw_4 tw_117) rfl rfl rfl (by decide +kernel) ⟨Nat.le_of_ble_eq_true rfl, Nat.le_of_ble_eq_true rfl⟩) (kr_recv hK hP (20 + 4 * mi + 3) (by omega) (E_wk (mi := mi) (t := 3) hmi (by decide) _ _ _ _) rfl) hK hP hD hS hA rfl hl.1 rfl (Nat.le_of_ble_eq_true rfl) dX0_begin_13 ⟨Nat.le_of_ble_eq_true rfl, Nat.le_of_ble_eq_true rfl⟩ (fun H locs hP hD hS => ?_)
  refine lv_iinc (v := 4) (lv' := [(1, .int 4), (0, .ref (ad (14 + mi)))]) hx hb dX0_begin_16 hl (k := 0) rfl (by decide) (by decide) rfl (fun ls hl => ?_)
  refine lv_goto (tgt := 2) hx hb dX0_begin_19 (by decide) ?_
  refine lv_iload_n hx hb dX0_begin_2 rfl (lv_at hl 0 rfl) ?_
  refine lv_iconst (v := 4) hx hb dX0_begin_3 (by decide) ?_
  refine lv_icmp_ge (tgt := 22) hx hb dX0_begin_4 (by decide) (fun c_5 => ?_) (fun c_5 => absurd (by decide) c_5)
  refine lv_iconst (v := 0) hx hb dX0_begin_22 (by decide) ?_
  refine lv_istore_n (lv' := [(1, .int 0), (0, .ref (ad (14 + mi)))]) hx hb dX0_begin_23 rfl hl (by decide) rfl (fun ls hl => ?_)
  refine lv_iload_n hx hb dX0_begin_24 rfl (lv_at hl 0 rfl) ?_
  refine lv_iconst (v := 2) hx hb dX0_begin_25 (by decide) ?_
  refine lv_icmp_ge (tgt := 44) hx hb dX0_begin_26 (by decide) (fun c_6 => absurd c_6 (by decide)) (fun c_6 => ?_)
  refine lv_aload_n hx hb dX0_begin_29 rfl (lv_at hl 1 rfl) ?_
  refine kr_get (C := "MonitorWays$Machine") (T := TX0) (N := 3) hx hb hts hin_X0 hown hK hP (14 + mi) (by omega) (E_mach hmi _ _ _ _) rfl 1 (by decide) lk_f19 (fun _ h9 => h9) rfl dX0_begin_30 ?_
  refine lv_iload_n hx hb dX0_begin_33 rfl (lv_at hl 0 rfl) ?_
  refine kr_aald (a := ad (28 + 2 * mi + 0)) hx hb hK hP (18 + mi) 5 (by omega) (E_marr hmi _ _ _ _) rfl (vp_in_nI (n := 0) (by decide) (by decide)) rfl dX0_begin_34 ?_
  refine kr_callVv (As := []) (rest := []) ⟨hx, hb, hml, hown, hts⟩ (c_mBegin l D gc ad ln (m_wBegin (m_wBegin (m_wBegin (m_wBegin iv mi 0) mi 1) mi 2) mi 3) lv mi 0 hmi (by decide)) (cwV 0 hts (goodV (fun _ h => tcons h) tw_118 tw_119 tw_120 tw_5 tw_121) rfl rfl rfl (by decide +kernel) ⟨Nat.le_of_ble_eq_true rfl, Nat.le_of_ble_eq_true rfl⟩) (kr_recv hK hP (28 + 2 * mi + 0) (by omega) (E_mon (mi := mi) (m := 0) hmi (by decide) _ _ _ _) rfl) hK hP hD hS hA rfl hl.1 rfl (Nat.le_of_ble_eq_true rfl) dX0_begin_35 ⟨Nat.le_of_ble_eq_true rfl, Nat.le_of_ble_eq_true rfl⟩ (fun H locs hP hD hS => ?_)
  refine lv_iinc (v := 1) (lv' := [(1, .int 1), (0, .ref (ad (14 + mi)))]) hx hb dX0_begin_38 hl (k := 0) rfl (by decide) (by decide) rfl (fun ls hl => ?_)
  refine lv_goto (tgt := 24) hx hb dX0_begin_41 (by decide) ?_
  refine lv_iload_n hx hb dX0_begin_24 rfl (lv_at hl 0 rfl) ?_
  refine lv_iconst (v := 2) hx hb dX0_begin_25 (by decide) ?_
  refine lv_icmp_ge (tgt := 44) hx hb dX0_begin_26 (by decide) (fun c_7 => absurd c_7 (by decide)) (fun c_7 => ?_)
  refine lv_aload_n hx hb dX0_begin_29 rfl (lv_at hl 1 rfl) ?_
  refine kr_get (C := "MonitorWays$Machine") (T := TX0) (N := 3) hx hb hts hin_X0 hown hK hP (14 + mi) (by omega) (E_mach hmi _ _ _ _) rfl 1 (by decide) lk_f19 (fun _ h9 => h9) rfl dX0_begin_30 ?_
  refine lv_iload_n hx hb dX0_begin_33 rfl (lv_at hl 0 rfl) ?_
  refine kr_aald (a := ad (28 + 2 * mi + 1)) hx hb hK hP (18 + mi) 5 (by omega) (E_marr hmi _ _ _ _) rfl (vp_in_nI (n := 1) (by decide) (by decide)) rfl dX0_begin_34 ?_
  refine kr_callVv (As := []) (rest := []) ⟨hx, hb, hml, hown, hts⟩ (c_mBegin l D gc ad ln (m_mBegin (m_wBegin (m_wBegin (m_wBegin (m_wBegin iv mi 0) mi 1) mi 2) mi 3) mi 0) lv mi 1 hmi (by decide)) (cwV 0 hts (goodV (fun _ h => tcons h) tw_118 tw_119 tw_120 tw_5 tw_121) rfl rfl rfl (by decide +kernel) ⟨Nat.le_of_ble_eq_true rfl, Nat.le_of_ble_eq_true rfl⟩) (kr_recv hK hP (28 + 2 * mi + 1) (by omega) (E_mon (mi := mi) (m := 1) hmi (by decide) _ _ _ _) rfl) hK hP hD hS hA rfl hl.1 rfl (Nat.le_of_ble_eq_true rfl) dX0_begin_35 ⟨Nat.le_of_ble_eq_true rfl, Nat.le_of_ble_eq_true rfl⟩ (fun H locs hP hD hS => ?_)
  refine lv_iinc (v := 2) (lv' := [(1, .int 2), (0, .ref (ad (14 + mi)))]) hx hb dX0_begin_38 hl (k := 0) rfl (by decide) (by decide) rfl (fun ls hl => ?_)
  refine lv_goto (tgt := 24) hx hb dX0_begin_41 (by decide) ?_
  refine lv_iload_n hx hb dX0_begin_24 rfl (lv_at hl 0 rfl) ?_
  refine lv_iconst (v := 2) hx hb dX0_begin_25 (by decide) ?_
  refine lv_icmp_ge (tgt := 44) hx hb dX0_begin_26 (by decide) (fun c_8 => ?_) (fun c_8 => absurd (by decide) c_8)
  exact kr_vret hx hb hr hlocks hK hP hD hS rfl dX0_begin_44
def r_aOutc (iv : Nat → Nat → Int32) (mi : Nat) : Int64 := ((((((((0 * 48611) + (r_wOutc iv mi 0)) * 48611) + (r_wOutc iv mi 1)) * 48611) + (r_wOutc iv mi 2)) * 48611) + (r_wOutc iv mi 3))
set_option maxHeartbeats 4000000 in
set_option maxRecDepth 100000 in
theorem c_aOutc (l : Launch) (D : va_G) (gc : Nat → ClassId) (ad ln : Nat → Nat) (iv : Nat → Nat → Int32) (lv : Nat → Nat → Int64) (mi : Nat) (hmi : mi < 2) : kMl l yX0_outcomeNumber wX0_outcomeNumber ({ frames := 1, cells := 0, slots := 0, locals := 20 }) D vwCl (kT gc) 42 (kE gc) [.ref (ad (14 + mi))] (ad, ln, iv, lv) (ad, ln, iv, lv) (r_aOutc iv mi) := by
  refine kl_start (cc := cX0_outcomeNumber) (maxL := 4) (ret := (some .long)) (by decide) rfl (Nat.le_of_ble_eq_true rfl) ?_
  intro p9 e9 s m9 below meth c9 A ls hx hb hr hts hown hlocks hml hA hK hP hD hS hl
  have hl : lv_has ls 4 [(0, .ref (ad (14 + mi)))] := hl
  have hown : s.vm.findClass "MonitorWays$Machine" = some m9.cls := hown
  have hin_X0 : ∀ w ∈ u_ws "MonitorWays$Machine" TX0 3, w ∈ wX0_outcomeNumber := fun w h => tcons (inX0 w h)
  have lk_c156 := hts _ (tcons tw_513)
  have lk_f11 := hts _ (tcons tw_126)
  refine lv_lconst (v := 0) hx hb dX0_outcomeNumber_0 (by decide) ?_
  refine lv_lstore_n (lv' := [(1, .long 0), (0, .ref (ad (14 + mi)))]) hx hb dX0_outcomeNumber_1 rfl hl (by decide) rfl (fun ls hl => ?_)
  refine lv_iconst (v := 0) hx hb dX0_outcomeNumber_2 (by decide) ?_
  refine lv_istore_n (lv' := [(3, .int 0), (1, .long 0), (0, .ref (ad (14 + mi)))]) hx hb dX0_outcomeNumber_3 rfl hl (by decide) rfl (fun ls hl => ?_)
  refine lv_iload_n hx hb dX0_outcomeNumber_4 rfl (lv_at hl 0 rfl) ?_
  refine lv_iconst (v := 4) hx hb dX0_outcomeNumber_5 (by decide) ?_
  refine lv_icmp_ge (tgt := 31) hx hb dX0_outcomeNumber_6 (by decide) (fun c_1 => absurd c_1 (by decide)) (fun c_1 => ?_)
  refine lv_lload_n hx hb dX0_outcomeNumber_9 rfl (lv_at hl 1 rfl) ?_
  refine lv_ldc2 (v := 48611) hx hb hown lk_c156 dX0_outcomeNumber_10 ?_
  refine lv_lmul hx hb dX0_outcomeNumber_13 ?_
  refine lv_aload_n hx hb dX0_outcomeNumber_14 rfl (lv_at hl 2 rfl) ?_
  refine kr_get (C := "MonitorWays$Machine") (T := TX0) (N := 3) hx hb hts hin_X0 hown hK hP (14 + mi) (by omega) (E_mach hmi _ _ _ _) rfl 0 (by decide) lk_f11 (fun _ h9 => h9) rfl dX0_outcomeNumber_15 ?_
  refine lv_iload_n hx hb dX0_outcomeNumber_18 rfl (lv_at hl 0 rfl) ?_
  refine kr_aald (a := ad (20 + 4 * mi + 0)) hx hb hK hP (16 + mi) 4 (by omega) (E_warr hmi _ _ _ _) rfl (vp_in_nI (n := 0) (by decide) (by decide)) rfl dX0_outcomeNumber_19 ?_
  refine kr_callVl (As := []) (rest := [.long (0 * 48611)]) ⟨hx, hb, hml, hown, hts⟩ (c_wOutc l D gc ad ln iv lv mi 0 hmi (by decide)) (cwV 0 hts (goodV (fun _ h => tcons h) tw_514 tw_515 tw_516 tw_4 tw_517) rfl rfl rfl (by decide +kernel) ⟨Nat.le_of_ble_eq_true rfl, Nat.le_of_ble_eq_true rfl⟩) (kr_recv hK hP (20 + 4 * mi + 0) (by omega) (E_wk (mi := mi) (t := 0) hmi (by decide) _ _ _ _) rfl) hK hP hD hS hA rfl hl.1 rfl (Nat.le_of_ble_eq_true rfl) dX0_outcomeNumber_20 ⟨Nat.le_of_ble_eq_true rfl, Nat.le_of_ble_eq_true rfl⟩ (fun H locs hP hD hS => ?_)
  refine lv_ladd hx hb dX0_outcomeNumber_23 ?_
  refine lv_lstore_n (lv' := [(1, .long ((0 * 48611) + (r_wOutc iv mi 0))), (3, .int 0), (0, .ref (ad (14 + mi)))]) hx hb dX0_outcomeNumber_24 rfl hl (by decide) rfl (fun ls hl => ?_)
  refine lv_iinc (v := 1) (lv' := [(3, .int 1), (1, .long ((0 * 48611) + (r_wOutc iv mi 0))), (0, .ref (ad (14 + mi)))]) hx hb dX0_outcomeNumber_25 hl (k := 1) rfl (by decide) (by decide) rfl (fun ls hl => ?_)
  refine lv_goto (tgt := 4) hx hb dX0_outcomeNumber_28 (by decide) ?_
  refine lv_iload_n hx hb dX0_outcomeNumber_4 rfl (lv_at hl 0 rfl) ?_
  refine lv_iconst (v := 4) hx hb dX0_outcomeNumber_5 (by decide) ?_
  refine lv_icmp_ge (tgt := 31) hx hb dX0_outcomeNumber_6 (by decide) (fun c_2 => absurd c_2 (by decide)) (fun c_2 => ?_)
  refine lv_lload_n hx hb dX0_outcomeNumber_9 rfl (lv_at hl 1 rfl) ?_
  refine lv_ldc2 (v := 48611) hx hb hown lk_c156 dX0_outcomeNumber_10 ?_
  refine lv_lmul hx hb dX0_outcomeNumber_13 ?_
  refine lv_aload_n hx hb dX0_outcomeNumber_14 rfl (lv_at hl 2 rfl) ?_
  refine kr_get (C := "MonitorWays$Machine") (T := TX0) (N := 3) hx hb hts hin_X0 hown hK hP (14 + mi) (by omega) (E_mach hmi _ _ _ _) rfl 0 (by decide) lk_f11 (fun _ h9 => h9) rfl dX0_outcomeNumber_15 ?_
  refine lv_iload_n hx hb dX0_outcomeNumber_18 rfl (lv_at hl 0 rfl) ?_
  refine kr_aald (a := ad (20 + 4 * mi + 1)) hx hb hK hP (16 + mi) 4 (by omega) (E_warr hmi _ _ _ _) rfl (vp_in_nI (n := 1) (by decide) (by decide)) rfl dX0_outcomeNumber_19 ?_
  refine kr_callVl (As := []) (rest := [.long (((0 * 48611) + (r_wOutc iv mi 0)) * 48611)]) ⟨hx, hb, hml, hown, hts⟩ (c_wOutc l D gc ad ln iv lv mi 1 hmi (by decide)) (cwV 0 hts (goodV (fun _ h => tcons h) tw_514 tw_515 tw_516 tw_4 tw_517) rfl rfl rfl (by decide +kernel) ⟨Nat.le_of_ble_eq_true rfl, Nat.le_of_ble_eq_true rfl⟩) (kr_recv hK hP (20 + 4 * mi + 1) (by omega) (E_wk (mi := mi) (t := 1) hmi (by decide) _ _ _ _) rfl) hK hP hD hS hA rfl hl.1 rfl (Nat.le_of_ble_eq_true rfl) dX0_outcomeNumber_20 ⟨Nat.le_of_ble_eq_true rfl, Nat.le_of_ble_eq_true rfl⟩ (fun H locs hP hD hS => ?_)
  refine lv_ladd hx hb dX0_outcomeNumber_23 ?_
  refine lv_lstore_n (lv' := [(1, .long ((((0 * 48611) + (r_wOutc iv mi 0)) * 48611) + (r_wOutc iv mi 1))), (3, .int 1), (0, .ref (ad (14 + mi)))]) hx hb dX0_outcomeNumber_24 rfl hl (by decide) rfl (fun ls hl => ?_)
  refine lv_iinc (v := 2) (lv' := [(3, .int 2), (1, .long ((((0 * 48611) + (r_wOutc iv mi 0)) * 48611) + (r_wOutc iv mi 1))), (0, .ref (ad (14 + mi)))]) hx hb dX0_outcomeNumber_25 hl (k := 1) rfl (by decide) (by decide) rfl (fun ls hl => ?_)
  refine lv_goto (tgt := 4) hx hb dX0_outcomeNumber_28 (by decide) ?_
  refine lv_iload_n hx hb dX0_outcomeNumber_4 rfl (lv_at hl 0 rfl) ?_
  refine lv_iconst (v := 4) hx hb dX0_outcomeNumber_5 (by decide) ?_
  refine lv_icmp_ge (tgt := 31) hx hb dX0_outcomeNumber_6 (by decide) (fun c_3 => absurd c_3 (by decide)) (fun c_3 => ?_)
  refine lv_lload_n hx hb dX0_outcomeNumber_9 rfl (lv_at hl 1 rfl) ?_
  refine lv_ldc2 (v := 48611) hx hb hown lk_c156 dX0_outcomeNumber_10 ?_
  refine lv_lmul hx hb dX0_outcomeNumber_13 ?_
  refine lv_aload_n hx hb dX0_outcomeNumber_14 rfl (lv_at hl 2 rfl) ?_
  refine kr_get (C := "MonitorWays$Machine") (T := TX0) (N := 3) hx hb hts hin_X0 hown hK hP (14 + mi) (by omega) (E_mach hmi _ _ _ _) rfl 0 (by decide) lk_f11 (fun _ h9 => h9) rfl dX0_outcomeNumber_15 ?_
  refine lv_iload_n hx hb dX0_outcomeNumber_18 rfl (lv_at hl 0 rfl) ?_
  refine kr_aald (a := ad (20 + 4 * mi + 2)) hx hb hK hP (16 + mi) 4 (by omega) (E_warr hmi _ _ _ _) rfl (vp_in_nI (n := 2) (by decide) (by decide)) rfl dX0_outcomeNumber_19 ?_
  refine kr_callVl (As := []) (rest := [.long (((((0 * 48611) + (r_wOutc iv mi 0)) * 48611) + (r_wOutc iv mi 1)) * 48611)]) ⟨hx, hb, hml, hown, hts⟩ (c_wOutc l D gc ad ln iv lv mi 2 hmi (by decide)) (cwV 0 hts (goodV (fun _ h => tcons h) tw_514 tw_515 tw_516 tw_4 tw_517) rfl rfl rfl (by decide +kernel) ⟨Nat.le_of_ble_eq_true rfl, Nat.le_of_ble_eq_true rfl⟩) (kr_recv hK hP (20 + 4 * mi + 2) (by omega) (E_wk (mi := mi) (t := 2) hmi (by decide) _ _ _ _) rfl) hK hP hD hS hA rfl hl.1 rfl (Nat.le_of_ble_eq_true rfl) dX0_outcomeNumber_20 ⟨Nat.le_of_ble_eq_true rfl, Nat.le_of_ble_eq_true rfl⟩ (fun H locs hP hD hS => ?_)
  refine lv_ladd hx hb dX0_outcomeNumber_23 ?_
  refine lv_lstore_n (lv' := [(1, .long ((((((0 * 48611) + (r_wOutc iv mi 0)) * 48611) + (r_wOutc iv mi 1)) * 48611) + (r_wOutc iv mi 2))), (3, .int 2), (0, .ref (ad (14 + mi)))]) hx hb dX0_outcomeNumber_24 rfl hl (by decide) rfl (fun ls hl => ?_)
  refine lv_iinc (v := 3) (lv' := [(3, .int 3), (1, .long ((((((0 * 48611) + (r_wOutc iv mi 0)) * 48611) + (r_wOutc iv mi 1)) * 48611) + (r_wOutc iv mi 2))), (0, .ref (ad (14 + mi)))]) hx hb dX0_outcomeNumber_25 hl (k := 1) rfl (by decide) (by decide) rfl (fun ls hl => ?_)
  refine lv_goto (tgt := 4) hx hb dX0_outcomeNumber_28 (by decide) ?_
  refine lv_iload_n hx hb dX0_outcomeNumber_4 rfl (lv_at hl 0 rfl) ?_
  refine lv_iconst (v := 4) hx hb dX0_outcomeNumber_5 (by decide) ?_
  refine lv_icmp_ge (tgt := 31) hx hb dX0_outcomeNumber_6 (by decide) (fun c_4 => absurd c_4 (by decide)) (fun c_4 => ?_)
  refine lv_lload_n hx hb dX0_outcomeNumber_9 rfl (lv_at hl 1 rfl) ?_
  refine lv_ldc2 (v := 48611) hx hb hown lk_c156 dX0_outcomeNumber_10 ?_
  refine lv_lmul hx hb dX0_outcomeNumber_13 ?_
  refine lv_aload_n hx hb dX0_outcomeNumber_14 rfl (lv_at hl 2 rfl) ?_
  refine kr_get (C := "MonitorWays$Machine") (T := TX0) (N := 3) hx hb hts hin_X0 hown hK hP (14 + mi) (by omega) (E_mach hmi _ _ _ _) rfl 0 (by decide) lk_f11 (fun _ h9 => h9) rfl dX0_outcomeNumber_15 ?_
  refine lv_iload_n hx hb dX0_outcomeNumber_18 rfl (lv_at hl 0 rfl) ?_
  refine kr_aald (a := ad (20 + 4 * mi + 3)) hx hb hK hP (16 + mi) 4 (by omega) (E_warr hmi _ _ _ _) rfl (vp_in_nI (n := 3) (by decide) (by decide)) rfl dX0_outcomeNumber_19 ?_
  refine kr_callVl (As := []) (rest := [.long (((((((0 * 48611) + (r_wOutc iv mi 0)) * 48611) + (r_wOutc iv mi 1)) * 48611) + (r_wOutc iv mi 2)) * 48611)]) ⟨hx, hb, hml, hown, hts⟩ (c_wOutc l D gc ad ln iv lv mi 3 hmi (by decide)) (cwV 0 hts (goodV (fun _ h => tcons h) tw_514 tw_515 tw_516 tw_4 tw_517) rfl rfl rfl (by decide +kernel) ⟨Nat.le_of_ble_eq_true rfl, Nat.le_of_ble_eq_true rfl⟩) (kr_recv hK hP (20 + 4 * mi + 3) (by omega) (E_wk (mi := mi) (t := 3) hmi (by decide) _ _ _ _) rfl) hK hP hD hS hA rfl hl.1 rfl (Nat.le_of_ble_eq_true rfl) dX0_outcomeNumber_20 ⟨Nat.le_of_ble_eq_true rfl, Nat.le_of_ble_eq_true rfl⟩ (fun H locs hP hD hS => ?_)
  refine lv_ladd hx hb dX0_outcomeNumber_23 ?_
  refine lv_lstore_n (lv' := [(1, .long ((((((((0 * 48611) + (r_wOutc iv mi 0)) * 48611) + (r_wOutc iv mi 1)) * 48611) + (r_wOutc iv mi 2)) * 48611) + (r_wOutc iv mi 3))), (3, .int 3), (0, .ref (ad (14 + mi)))]) hx hb dX0_outcomeNumber_24 rfl hl (by decide) rfl (fun ls hl => ?_)
  refine lv_iinc (v := 4) (lv' := [(3, .int 4), (1, .long ((((((((0 * 48611) + (r_wOutc iv mi 0)) * 48611) + (r_wOutc iv mi 1)) * 48611) + (r_wOutc iv mi 2)) * 48611) + (r_wOutc iv mi 3))), (0, .ref (ad (14 + mi)))]) hx hb dX0_outcomeNumber_25 hl (k := 1) rfl (by decide) (by decide) rfl (fun ls hl => ?_)
  refine lv_goto (tgt := 4) hx hb dX0_outcomeNumber_28 (by decide) ?_
  refine lv_iload_n hx hb dX0_outcomeNumber_4 rfl (lv_at hl 0 rfl) ?_
  refine lv_iconst (v := 4) hx hb dX0_outcomeNumber_5 (by decide) ?_
  refine lv_icmp_ge (tgt := 31) hx hb dX0_outcomeNumber_6 (by decide) (fun c_5 => ?_) (fun c_5 => absurd (by decide) c_5)
  refine lv_lload_n hx hb dX0_outcomeNumber_31 rfl (lv_at hl 1 rfl) ?_
  exact kr_lret hx hb hr hlocks hK hP hD hS rfl rfl dX0_outcomeNumber_32
def r_aWord (iv : Nat → Nat → Int32) (mi t sz : Nat) : Int64 := if 2 ≤ nI t then (r_wPack iv mi t) else ((r_wPack iv mi t) ||| ((r_mPack iv mi t sz) <<< ((40 : Int32).toInt64 &&& 63)))
set_option maxHeartbeats 4000000 in
set_option maxRecDepth 100000 in
theorem c_aWord (l : Launch) (D : va_G) (gc : Nat → ClassId) (ad ln : Nat → Nat) (iv : Nat → Nat → Int32) (lv : Nat → Nat → Int64) (mi t : Nat) (hmi : mi < 2) (ht : t < 4) (sz : Nat) (hsz : t < 2 → iv (28 + 2 * mi + t) 2 = nI sz) (hs4 : sz ≤ 4) : kMl l yX0_wordOf wX0_wordOf ({ frames := 1, cells := 0, slots := 0, locals := 22 }) D vwCl (kT gc) 42 (kE gc) [.ref (ad (14 + mi)), .int (nI t)] (ad, ln, iv, lv) (ad, ln, iv, lv) (r_aWord iv mi t sz) := by
  refine kl_start (cc := cX0_wordOf) (maxL := 4) (ret := (some .long)) (by decide) rfl (Nat.le_of_ble_eq_true rfl) ?_
  intro p9 e9 s m9 below meth c9 A ls hx hb hr hts hown hlocks hml hA hK hP hD hS hl
  have hl : lv_has ls 4 [(0, .ref (ad (14 + mi))), (1, .int (nI t))] := hl
  have hown : s.vm.findClass "MonitorWays$Machine" = some m9.cls := hown
  have hin_X0 : ∀ w ∈ u_ws "MonitorWays$Machine" TX0 3, w ∈ wX0_wordOf := fun w h => tcons (inX0 w h)
  have lk_f11 := hts _ (tcons tw_126)
  have lk_f19 := hts _ (tcons tw_128)
  refine lv_aload_n hx hb dX0_wordOf_0 rfl (lv_at hl 0 rfl) ?_
  refine kr_get (C := "MonitorWays$Machine") (T := TX0) (N := 3) hx hb hts hin_X0 hown hK hP (14 + mi) (by omega) (E_mach hmi _ _ _ _) rfl 0 (by decide) lk_f11 (fun _ h9 => h9) rfl dX0_wordOf_1 ?_
  refine lv_iload_n hx hb dX0_wordOf_4 rfl (lv_at hl 1 rfl) ?_
  refine kr_aald (a := ad (20 + 4 * mi + t)) hx hb hK hP (16 + mi) 4 (by omega) (E_warr hmi _ _ _ _) rfl (vp_in_nI (n := t) (by omega) (by decide)) (by rw [nI_clamp (show t < 2 ^ 31 by omega)]) dX0_wordOf_5 ?_
  refine kr_callVl (As := []) (rest := []) ⟨hx, hb, hml, hown, hts⟩ (c_wPack l D gc ad ln iv lv mi t hmi (by omega)) (cwV 0 hts (goodV (fun _ h => tcons h) tw_464 tw_465 tw_466 tw_4 tw_467) rfl rfl rfl (by decide +kernel) ⟨Nat.le_of_ble_eq_true rfl, Nat.le_of_ble_eq_true rfl⟩) (kr_recv hK hP (20 + 4 * mi + t) (by omega) (E_wk (mi := mi) (t := t) hmi (by omega) _ _ _ _) rfl) hK hP hD hS hA rfl hl.1 rfl (Nat.le_of_ble_eq_true rfl) dX0_wordOf_6 ⟨Nat.le_of_ble_eq_true rfl, Nat.le_of_ble_eq_true rfl⟩ (fun H locs hP hD hS => ?_)
  refine lv_lstore_n (lv' := [(2, .long (r_wPack iv mi t)), (0, .ref (ad (14 + mi))), (1, .int (nI t))]) hx hb dX0_wordOf_9 rfl hl (by decide) rfl (fun ls hl => ?_)
  refine lv_iload_n hx hb dX0_wordOf_10 rfl (lv_at hl 2 rfl) ?_
  refine lv_iconst (v := 2) hx hb dX0_wordOf_11 (by decide) ?_
  refine lv_icmp_ge (tgt := 32) hx hb dX0_wordOf_12 (by decide) (fun c_1 => ?_) (fun c_1 => ?_)
  · refine lv_lload_n hx hb dX0_wordOf_32 rfl (lv_at hl 0 rfl) ?_
    exact kr_lret hx hb hr hlocks hK hP hD hS (by unfold r_aWord; rw [if_pos c_1]) rfl dX0_wordOf_33
  · have ht2 : t < 2 := lt_of_nle (a := 2) (by decide) (by omega) c_1
    refine lv_lload_n hx hb dX0_wordOf_15 rfl (lv_at hl 0 rfl) ?_
    refine lv_aload_n hx hb dX0_wordOf_16 rfl (lv_at hl 1 rfl) ?_
    refine kr_get (C := "MonitorWays$Machine") (T := TX0) (N := 3) hx hb hts hin_X0 hown hK hP (14 + mi) (by omega) (E_mach hmi _ _ _ _) rfl 1 (by decide) lk_f19 (fun _ h9 => h9) rfl dX0_wordOf_17 ?_
    refine lv_iload_n hx hb dX0_wordOf_20 rfl (lv_at hl 2 rfl) ?_
    refine kr_aald (a := ad (28 + 2 * mi + t)) hx hb hK hP (18 + mi) 5 (by omega) (E_marr hmi _ _ _ _) rfl (vp_in_nI (n := t) (by omega) (by decide)) (by rw [nI_clamp (show t < 2 ^ 31 by omega)]) dX0_wordOf_21 ?_
    refine kr_callVl (As := []) (rest := [.long (r_wPack iv mi t)]) ⟨hx, hb, hml, hown, hts⟩ (c_mPack l D gc ad ln iv lv mi t hmi (by omega) sz (hsz ht2) hs4) (cwV 0 hts (goodV (fun _ h => tcons h) tw_468 tw_469 tw_470 tw_5 tw_471) rfl rfl rfl (by decide +kernel) ⟨Nat.le_of_ble_eq_true rfl, Nat.le_of_ble_eq_true rfl⟩) (kr_recv hK hP (28 + 2 * mi + t) (by omega) (E_mon (mi := mi) (m := t) hmi (by omega) _ _ _ _) rfl) hK hP hD hS hA rfl hl.1 rfl (Nat.le_of_ble_eq_true rfl) dX0_wordOf_22 ⟨Nat.le_of_ble_eq_true rfl, Nat.le_of_ble_eq_true rfl⟩ (fun H locs hP hD hS => ?_)
    refine lv_bipush (v := 40) hx hb dX0_wordOf_25 (by decide) ?_
    refine lv_lshl hx hb dX0_wordOf_27 rfl ?_
    refine lv_lor hx hb dX0_wordOf_28 ?_
    refine lv_goto (tgt := 33) hx hb dX0_wordOf_29 (by decide) ?_
    exact kr_lret hx hb hr hlocks hK hP hD hS (by unfold r_aWord; rw [if_neg c_1]) rfl dX0_wordOf_33
def m_aUnword (iv : Nat → Nat → Int32) (mi t : Nat) (x : Int64) (sz : Nat) : Nat → Nat → Int32 := if 2 ≤ nI t then (m_wUnpack iv mi t x) else (m_mUnpack (m_wUnpack iv mi t x) mi t ((x.toUInt64 >>> ((40 : Int32).toInt64.toUInt64 &&& Int64.toUInt64 63)).toInt64) sz)
set_option maxHeartbeats 4000000 in
set_option maxRecDepth 100000 in
theorem c_aUnword (l : Launch) (D : va_G) (gc : Nat → ClassId) (ad ln : Nat → Nat) (iv : Nat → Nat → Int32) (lv : Nat → Nat → Int64) (mi t : Nat) (hmi : mi < 2) (ht : t < 4) (x : Int64) (sz : Nat) (hsz : (if (4 : Int32) < (((((x.toUInt64 >>> ((40 : Int32).toInt64.toUInt64 &&& Int64.toUInt64 63)).toInt64).toInt32 &&& 131071) >>> ((6 : Int32) &&& 31)) &&& 7) then (4 : Int32) else (((((x.toUInt64 >>> ((40 : Int32).toInt64.toUInt64 &&& Int64.toUInt64 63)).toInt64).toInt32 &&& 131071) >>> ((6 : Int32) &&& 31)) &&& 7)) = nI sz) (hs4 : sz ≤ 4) : kMv l yX0_unpackWord wX0_unpackWord ({ frames := 2, cells := 0, slots := 0, locals := 44 }) D vwCl (kT gc) 42 (kE gc) [.ref (ad (14 + mi)), .int (nI t), .long x] (ad, ln, iv, lv) (ad, ln, m_aUnword iv mi t x sz, lv) := by
  refine kv_start (cc := cX0_unpackWord) (maxL := 4) (by decide) rfl (Nat.le_of_ble_eq_true rfl) ?_
  intro p9 e9 s m9 below meth c9 A ls hx hb hr hts hown hlocks hml hA hK hP hD hS hl
  have hl : lv_has ls 4 [(0, .ref (ad (14 + mi))), (1, .int (nI t)), (2, .long x)] := hl
  have hown : s.vm.findClass "MonitorWays$Machine" = some m9.cls := hown
  have hin_X0 : ∀ w ∈ u_ws "MonitorWays$Machine" TX0 3, w ∈ wX0_unpackWord := fun w h => tcons (inX0 w h)
  have lk_f11 := hts _ (tcons tw_126)
  have lk_f19 := hts _ (tcons tw_128)
  refine lv_aload_n hx hb dX0_unpackWord_0 rfl (lv_at hl 0 rfl) ?_
  refine kr_get (C := "MonitorWays$Machine") (T := TX0) (N := 3) hx hb hts hin_X0 hown hK hP (14 + mi) (by omega) (E_mach hmi _ _ _ _) rfl 0 (by decide) lk_f11 (fun _ h9 => h9) rfl dX0_unpackWord_1 ?_
  refine lv_iload_n hx hb dX0_unpackWord_4 rfl (lv_at hl 1 rfl) ?_
  refine kr_aald (a := ad (20 + 4 * mi + t)) hx hb hK hP (16 + mi) 4 (by omega) (E_warr hmi _ _ _ _) rfl (vp_in_nI (n := t) (by omega) (by decide)) (by rw [nI_clamp (show t < 2 ^ 31 by omega)]) dX0_unpackWord_5 ?_
  refine lv_lload_n hx hb dX0_unpackWord_6 rfl (lv_at hl 2 rfl) ?_
  refine kr_callVv (As := [.long x]) (rest := []) ⟨hx, hb, hml, hown, hts⟩ (c_wUnpack l D gc ad ln iv lv mi t hmi (by omega) x) (cwV 1 hts (goodV (fun _ h => tcons h) tw_488 tw_489 tw_490 tw_4 tw_491) rfl rfl rfl (by decide +kernel) ⟨Nat.le_of_ble_eq_true rfl, Nat.le_of_ble_eq_true rfl⟩) (kr_recv hK hP (20 + 4 * mi + t) (by omega) (E_wk (mi := mi) (t := t) hmi (by omega) _ _ _ _) rfl) hK hP hD hS hA rfl hl.1 rfl (Nat.le_of_ble_eq_true rfl) dX0_unpackWord_7 ⟨Nat.le_of_ble_eq_true rfl, Nat.le_of_ble_eq_true rfl⟩ (fun H locs hP hD hS => ?_)
  refine lv_iload_n hx hb dX0_unpackWord_10 rfl (lv_at hl 1 rfl) ?_
  refine lv_iconst (v := 2) hx hb dX0_unpackWord_11 (by decide) ?_
  refine lv_icmp_ge (tgt := 28) hx hb dX0_unpackWord_12 (by decide) (fun c_1 => ?_) (fun c_1 => ?_)
  · exact kr_vret hx hb hr hlocks hK hP hD hS (by unfold m_aUnword; rw [if_pos c_1]) dX0_unpackWord_28
  · have ht2 : t < 2 := lt_of_nle (a := 2) (by decide) (by omega) c_1
    refine lv_aload_n hx hb dX0_unpackWord_15 rfl (lv_at hl 0 rfl) ?_
    refine kr_get (C := "MonitorWays$Machine") (T := TX0) (N := 3) hx hb hts hin_X0 hown hK hP (14 + mi) (by omega) (E_mach hmi _ _ _ _) rfl 1 (by decide) lk_f19 (fun _ h9 => h9) rfl dX0_unpackWord_16 ?_
    refine lv_iload_n hx hb dX0_unpackWord_19 rfl (lv_at hl 1 rfl) ?_
    refine kr_aald (a := ad (28 + 2 * mi + t)) hx hb hK hP (18 + mi) 5 (by omega) (E_marr hmi _ _ _ _) rfl (vp_in_nI (n := t) (by omega) (by decide)) (by rw [nI_clamp (show t < 2 ^ 31 by omega)]) dX0_unpackWord_20 ?_
    refine lv_lload_n hx hb dX0_unpackWord_21 rfl (lv_at hl 2 rfl) ?_
    refine lv_bipush (v := 40) hx hb dX0_unpackWord_22 (by decide) ?_
    refine lv_lushr hx hb dX0_unpackWord_24 rfl ?_
    refine kr_callVv (As := [.long ((x.toUInt64 >>> ((40 : Int32).toInt64.toUInt64 &&& Int64.toUInt64 63)).toInt64)]) (rest := []) ⟨hx, hb, hml, hown, hts⟩ (c_mUnpack l D gc ad ln (m_wUnpack iv mi t x) lv mi t hmi (by omega) ((x.toUInt64 >>> ((40 : Int32).toInt64.toUInt64 &&& Int64.toUInt64 63)).toInt64) sz hsz hs4) (cwV 1 hts (goodV (fun _ h => tcons h) tw_493 tw_494 tw_495 tw_5 tw_496) rfl rfl rfl (by decide +kernel) ⟨Nat.le_of_ble_eq_true rfl, Nat.le_of_ble_eq_true rfl⟩) (kr_recv hK hP (28 + 2 * mi + t) (by omega) (E_mon (mi := mi) (m := t) hmi (by omega) _ _ _ _) rfl) hK hP hD hS hA rfl hl.1 rfl (Nat.le_of_ble_eq_true rfl) dX0_unpackWord_25 ⟨Nat.le_of_ble_eq_true rfl, Nat.le_of_ble_eq_true rfl⟩ (fun H locs hP hD hS => ?_)
    exact kr_vret hx hb hr hlocks hK hP hD hS (by unfold m_aUnword; rw [if_neg c_1]) dX0_unpackWord_28
end
section
theorem vn_lt {x : Int32} {N : Nat} (h : vp_in x N) : x.toNatClampNeg < N := Nat.not_le.mp fun q => h (Or.inr q)
/-- whom waiterAt names is a thread, if the set holds threads -/
theorem hv_of {iv : Nat → Nat → Int32} {mi mm sz : Nat} {k : Int32} (hsz : iv (28 + 2 * mi + mm) 2 = nI sz) (hs4 : sz ≤ 4) (hent : ∀ j, j < sz → vp_in (iv (32 + 2 * mi + mm) j) 4) (h : ¬ r_mWaiter iv mi mm k = -1) : vp_in (r_mWaiter iv mi mm k) 4 := by
  unfold r_mWaiter at h ⊢
  by_cases h1 : k < 0
  · rw [if_pos h1] at h; exact absurd rfl h
  · rw [if_neg h1] at h ⊢
    by_cases h2 : iv (28 + 2 * mi + mm) 2 ≤ k
    · rw [if_pos h2] at h; exact absurd rfl h
    · rw [if_neg h2]
      have h3 := vp_in_iff.mp (in4_of h1 h2 hsz hs4)
      refine hent _ ?_
      rw [hsz, Int32.le_iff_toInt_le, nI_toInt (by omega)] at h2
      have h4 : (k.toNatClampNeg : Int) = k.toInt := by
        obtain ⟨j, hj, rfl⟩ := nI_of h1
        rw [nI_clamp hj, nI_toInt hj]
      omega
def m_aInto (iv : Nat → Nat → Int32) (mi t mm sz : Nat) : Nat → Nat → Int32 := (m_mAdd (m_mSetFree (up2 (up2 iv (20 + 4 * mi + t) 2 (iv (28 + 2 * mi + mm) 1)) (20 + 4 * mi + t) 0 1) mi mm) mi mm (nI t) sz)
set_option maxHeartbeats 4000000 in
set_option maxRecDepth 100000 in
theorem c_aInto (l : Launch) (D : va_G) (gc : Nat → ClassId) (ad ln : Nat → Nat) (iv : Nat → Nat → Int32) (lv : Nat → Nat → Int64) (mi t mm : Nat) (hmi : mi < 2) (ht : t < 4) (hmm : mm < 2) (sz : Nat) (hsz : iv (28 + 2 * mi + mm) 2 = nI sz) (hs4 : sz ≤ 4) : kMv l yX0_goIntoSet wX0_goIntoSet ({ frames := 1, cells := 0, slots := 0, locals := 21 }) D vwCl (kT gc) 42 (kE gc) [.ref (ad (14 + mi)), .int (nI t), .ref (ad (28 + 2 * mi + mm))] (ad, ln, iv, lv) (ad, ln, m_aInto iv mi t mm sz, lv) := by
  refine kv_start (cc := cX0_goIntoSet) (maxL := 3) (by decide) rfl (Nat.le_of_ble_eq_true rfl) ?_
  intro p9 e9 s m9 below meth c9 A ls hx hb hr hts hown hlocks hml hA hK hP hD hS hl
  have hl : lv_has ls 3 [(0, .ref (ad (14 + mi))), (1, .int (nI t)), (2, .ref (ad (28 + 2 * mi + mm)))] := hl
  have hown : s.vm.findClass "MonitorWays$Machine" = some m9.cls := hown
  have hin_X0 : ∀ w ∈ u_ws "MonitorWays$Machine" TX0 3, w ∈ wX0_goIntoSet := fun w h => tcons (inX0 w h)
  have hin_X1 : ∀ w ∈ u_ws "MonitorWays$Monitor" TX1 4, w ∈ wX0_goIntoSet := fun w h => tcons (inX1 w h)
  have hin_X5 : ∀ w ∈ u_ws "MonitorWays$Worker" TX5 8, w ∈ wX0_goIntoSet := fun w h => tcons (inX5 w h)
  have lk_f11 := hts _ (tcons tw_126)
  have lk_f105 := hts _ (tcons tw_97)
  have lk_f131 := hts _ (tcons tw_61)
  have lk_f36 := hts _ (tcons tw_58)
  refine lv_aload_n hx hb dX0_goIntoSet_0 rfl (lv_at hl 0 rfl) ?_
  refine kr_get (C := "MonitorWays$Machine") (T := TX0) (N := 3) hx hb hts hin_X0 hown hK hP (14 + mi) (by omega) (E_mach hmi _ _ _ _) rfl 0 (by decide) lk_f11 (fun _ h9 => h9) rfl dX0_goIntoSet_1 ?_
  refine lv_iload_n hx hb dX0_goIntoSet_4 rfl (lv_at hl 1 rfl) ?_
  refine kr_aald (a := ad (20 + 4 * mi + t)) hx hb hK hP (16 + mi) 4 (by omega) (E_warr hmi _ _ _ _) rfl (vp_in_nI (n := t) (by omega) (by decide)) (by rw [nI_clamp (show t < 2 ^ 31 by omega)]) dX0_goIntoSet_5 ?_
  refine lv_aload_n hx hb dX0_goIntoSet_6 rfl (lv_at hl 2 rfl) ?_
  refine kr_get (C := "MonitorWays$Monitor") (T := TX1) (N := 4) hx hb hts hin_X1 hown hK hP (28 + 2 * mi + mm) (by omega) (E_mon (mi := mi) (m := mm) hmi hmm _ _ _ _) rfl 1 (by decide) lk_f105 (fun _ h9 => h9) rfl dX0_goIntoSet_7 ?_
  refine kr_put (C := "MonitorWays$Worker") (T := TX5) (N := 8) hx hb hts hin_X5 tyX5 ok_tyX5 ok_nX5 hown hK hP hD hS (20 + 4 * mi + t) (by omega) (fun _ => E_wk (mi := mi) (t := t) hmi (by omega) _ _ _ _) rfl 2 (by decide) lk_f131 (fun _ h9 => h9) rfl rfl rfl rfl (fun _ => Nat.le_of_ble_eq_true rfl) (fun _ => rfl) dX0_goIntoSet_10 (fun H locs hP hD hS => ?_)
  refine lv_aload_n hx hb dX0_goIntoSet_13 rfl (lv_at hl 0 rfl) ?_
  refine kr_get (C := "MonitorWays$Machine") (T := TX0) (N := 3) hx hb hts hin_X0 hown hK hP (14 + mi) (by omega) (E_mach hmi _ _ _ _) rfl 0 (by decide) lk_f11 (fun _ h9 => h9) rfl dX0_goIntoSet_14 ?_
  refine lv_iload_n hx hb dX0_goIntoSet_17 rfl (lv_at hl 1 rfl) ?_
  refine kr_aald (a := ad (20 + 4 * mi + t)) hx hb hK hP (16 + mi) 4 (by omega) (E_warr hmi _ _ _ _) rfl (vp_in_nI (n := t) (by omega) (by decide)) (by rw [nI_clamp (show t < 2 ^ 31 by omega)]) dX0_goIntoSet_18 ?_
  refine lv_iconst (v := 1) hx hb dX0_goIntoSet_19 (by decide) ?_
  refine kr_put (C := "MonitorWays$Worker") (T := TX5) (N := 8) hx hb hts hin_X5 tyX5 ok_tyX5 ok_nX5 hown hK hP hD hS (20 + 4 * mi + t) (by omega) (fun _ => E_wk (mi := mi) (t := t) hmi (by omega) _ _ _ _) rfl 0 (by decide) lk_f36 (fun _ h9 => h9) rfl rfl rfl rfl (fun _ => Nat.le_of_ble_eq_true rfl) (fun _ => rfl) dX0_goIntoSet_20 (fun H locs hP hD hS => ?_)
  refine lv_aload_n hx hb dX0_goIntoSet_23 rfl (lv_at hl 2 rfl) ?_
  refine kr_callVv (As := []) (rest := []) ⟨hx, hb, hml, hown, hts⟩ (c_mSetFree l D gc ad ln (up2 (up2 iv (20 + 4 * mi + t) 2 (iv (28 + 2 * mi + mm) 1)) (20 + 4 * mi + t) 0 1) lv mi mm hmi hmm) (cwV 0 hts (goodV (fun _ h => tcons h) tw_332 tw_123 tw_124 tw_5 tw_125) rfl rfl rfl (by decide +kernel) ⟨Nat.le_of_ble_eq_true rfl, Nat.le_of_ble_eq_true rfl⟩) (kr_recv hK hP (28 + 2 * mi + mm) (by omega) (E_mon (mi := mi) (m := mm) hmi hmm _ _ _ _) rfl) hK hP hD hS hA rfl hl.1 rfl (Nat.le_of_ble_eq_true rfl) dX0_goIntoSet_24 ⟨Nat.le_of_ble_eq_true rfl, Nat.le_of_ble_eq_true rfl⟩ (fun H locs hP hD hS => ?_)
  refine lv_aload_n hx hb dX0_goIntoSet_27 rfl (lv_at hl 2 rfl) ?_
  refine lv_iload_n hx hb dX0_goIntoSet_28 rfl (lv_at hl 1 rfl) ?_
  refine kr_callVv (As := [.int (nI t)]) (rest := []) ⟨hx, hb, hml, hown, hts⟩ (c_mAdd l D gc ad ln (m_mSetFree (up2 (up2 iv (20 + 4 * mi + t) 2 (iv (28 + 2 * mi + mm) 1)) (20 + 4 * mi + t) 0 1) mi mm) lv mi mm hmi hmm (nI t) sz (by unfold m_mSetFree; rw [up2_k (by decide), up2_k (by decide), up2_ne (by omega), up2_ne (by omega)]; exact hsz) hs4) (cwV 1 hts (goodV (fun _ h => tcons h) tw_333 tw_334 tw_335 tw_5 tw_336) rfl rfl rfl (by decide +kernel) ⟨Nat.le_of_ble_eq_true rfl, Nat.le_of_ble_eq_true rfl⟩) (kr_recv hK hP (28 + 2 * mi + mm) (by omega) (E_mon (mi := mi) (m := mm) hmi hmm _ _ _ _) rfl) hK hP hD hS hA rfl hl.1 rfl (Nat.le_of_ble_eq_true rfl) dX0_goIntoSet_29 ⟨Nat.le_of_ble_eq_true rfl, Nat.le_of_ble_eq_true rfl⟩ (fun H locs hP hD hS => ?_)
  exact kr_vret hx hb hr hlocks hK hP hD hS rfl dX0_goIntoSet_32
def m_aNotify (iv : Nat → Nat → Int32) (mi mm : Nat) (k : Int32) (sz : Nat) : Nat → Nat → Int32 := if (r_mWaiter iv mi mm k) = (-1) then iv else (up2 (m_wPut (m_mDrop iv mi mm (r_mWaiter iv mi mm k) sz) mi ((r_mWaiter iv mi mm k).toNatClampNeg) 2) (20 + 4 * mi + ((r_mWaiter iv mi mm k).toNatClampNeg)) 0 2)
set_option maxHeartbeats 4000000 in
set_option maxRecDepth 100000 in
theorem c_aNotify (l : Launch) (D : va_G) (gc : Nat → ClassId) (ad ln : Nat → Nat) (iv : Nat → Nat → Int32) (lv : Nat → Nat → Int64) (mi mm : Nat) (hmi : mi < 2) (hmm : mm < 2) (k : Int32) (sz : Nat) (hsz : iv (28 + 2 * mi + mm) 2 = nI sz) (hs4 : sz ≤ 4) (hent : ∀ j, j < sz → vp_in (iv (32 + 2 * mi + mm) j) 4) : kMv l yX0_notifyWaiter wX0_notifyWaiter ({ frames := 1, cells := 0, slots := 0, locals := 23 }) D vwCl (kT gc) 42 (kE gc) [.ref (ad (14 + mi)), .ref (ad (28 + 2 * mi + mm)), .int k] (ad, ln, iv, lv) (ad, ln, m_aNotify iv mi mm k sz, lv) := by
  refine kv_start (cc := cX0_notifyWaiter) (maxL := 4) (by decide) rfl (Nat.le_of_ble_eq_true rfl) ?_
  intro p9 e9 s m9 below meth c9 A ls hx hb hr hts hown hlocks hml hA hK hP hD hS hl
  have hl : lv_has ls 4 [(0, .ref (ad (14 + mi))), (1, .ref (ad (28 + 2 * mi + mm))), (2, .int k)] := hl
  have hown : s.vm.findClass "MonitorWays$Machine" = some m9.cls := hown
  have hin_X0 : ∀ w ∈ u_ws "MonitorWays$Machine" TX0 3, w ∈ wX0_notifyWaiter := fun w h => tcons (inX0 w h)
  have hin_X5 : ∀ w ∈ u_ws "MonitorWays$Worker" TX5 8, w ∈ wX0_notifyWaiter := fun w h => tcons (inX5 w h)
  have lk_f11 := hts _ (tcons tw_126)
  have lk_f36 := hts _ (tcons tw_58)
  refine lv_aload_n hx hb dX0_notifyWaiter_0 rfl (lv_at hl 1 rfl) ?_
  refine lv_iload_n hx hb dX0_notifyWaiter_1 rfl (lv_at hl 2 rfl) ?_
  refine kr_callVi (As := [.int k]) (rest := []) ⟨hx, hb, hml, hown, hts⟩ (c_mWaiter l D gc ad ln iv lv mi mm hmi hmm k sz hsz hs4) (cwV 1 hts (goodV (fun _ h => tcons h) tw_316 tw_317 tw_318 tw_5 tw_319) rfl rfl rfl (by decide +kernel) ⟨Nat.le_of_ble_eq_true rfl, Nat.le_of_ble_eq_true rfl⟩) (kr_recv hK hP (28 + 2 * mi + mm) (by omega) (E_mon (mi := mi) (m := mm) hmi hmm _ _ _ _) rfl) hK hP hD hS hA rfl hl.1 rfl (Nat.le_of_ble_eq_true rfl) dX0_notifyWaiter_2 ⟨Nat.le_of_ble_eq_true rfl, Nat.le_of_ble_eq_true rfl⟩ (fun H locs hP hD hS => ?_)
  refine lv_istore_n (lv' := [(3, .int (r_mWaiter iv mi mm k)), (0, .ref (ad (14 + mi))), (1, .ref (ad (28 + 2 * mi + mm))), (2, .int k)]) hx hb dX0_notifyWaiter_5 rfl hl (by decide) rfl (fun ls hl => ?_)
  refine lv_iload_n hx hb dX0_notifyWaiter_6 rfl (lv_at hl 0 rfl) ?_
  refine lv_iconst (v := (-1)) hx hb dX0_notifyWaiter_7 (by decide) ?_
  refine lv_icmp_eq (tgt := 36) hx hb dX0_notifyWaiter_8 (by decide) (fun c_1 => ?_) (fun c_1 => ?_)
  · exact kr_vret hx hb hr hlocks hK hP hD hS (by unfold m_aNotify; rw [if_pos c_1]) dX0_notifyWaiter_36
  · have hv := hv_of hsz hs4 hent c_1
    have hv4 := vn_lt hv
    refine lv_aload_n hx hb dX0_notifyWaiter_11 rfl (lv_at hl 2 rfl) ?_
    refine lv_iload_n hx hb dX0_notifyWaiter_12 rfl (lv_at hl 0 rfl) ?_
    refine kr_callVv (As := [.int (r_mWaiter iv mi mm k)]) (rest := []) ⟨hx, hb, hml, hown, hts⟩ (c_mDrop l D gc ad ln iv lv mi mm hmi hmm (r_mWaiter iv mi mm k) sz hsz hs4) (cwV 1 hts (goodV (fun _ h => tcons h) tw_320 tw_321 tw_322 tw_5 tw_323) rfl rfl rfl (by decide +kernel) ⟨Nat.le_of_ble_eq_true rfl, Nat.le_of_ble_eq_true rfl⟩) (kr_recv hK hP (28 + 2 * mi + mm) (by omega) (E_mon (mi := mi) (m := mm) hmi hmm _ _ _ _) rfl) hK hP hD hS hA rfl hl.1 rfl (Nat.le_of_ble_eq_true rfl) dX0_notifyWaiter_13 ⟨Nat.le_of_ble_eq_true rfl, Nat.le_of_ble_eq_true rfl⟩ (fun H locs hP hD hS => ?_)
    refine lv_aload_n hx hb dX0_notifyWaiter_16 rfl (lv_at hl 1 rfl) ?_
    refine kr_get (C := "MonitorWays$Machine") (T := TX0) (N := 3) hx hb hts hin_X0 hown hK hP (14 + mi) (by omega) (E_mach hmi _ _ _ _) rfl 0 (by decide) lk_f11 (fun _ h9 => h9) rfl dX0_notifyWaiter_17 ?_
    refine lv_iload_n hx hb dX0_notifyWaiter_20 rfl (lv_at hl 0 rfl) ?_
    refine kr_aald (a := ad (20 + 4 * mi + ((r_mWaiter iv mi mm k).toNatClampNeg))) hx hb hK hP (16 + mi) 4 (by omega) (E_warr hmi _ _ _ _) rfl hv rfl dX0_notifyWaiter_21 ?_
    refine lv_iconst (v := 2) hx hb dX0_notifyWaiter_22 (by decide) ?_
    refine kr_callVv (As := [.int 2]) (rest := []) ⟨hx, hb, hml, hown, hts⟩ (c_wPut l D gc ad ln (m_mDrop iv mi mm (r_mWaiter iv mi mm k) sz) lv mi ((r_mWaiter iv mi mm k).toNatClampNeg) hmi hv4 2) (cwV 1 hts (goodV (fun _ h => tcons h) tw_304 tw_305 tw_306 tw_4 tw_307) rfl rfl rfl (by decide +kernel) ⟨Nat.le_of_ble_eq_true rfl, Nat.le_of_ble_eq_true rfl⟩) (kr_recv hK hP (20 + 4 * mi + ((r_mWaiter iv mi mm k).toNatClampNeg)) (by omega) (E_wk (mi := mi) (t := (r_mWaiter iv mi mm k).toNatClampNeg) hmi hv4 _ _ _ _) rfl) hK hP hD hS hA rfl hl.1 rfl (Nat.le_of_ble_eq_true rfl) dX0_notifyWaiter_23 ⟨Nat.le_of_ble_eq_true rfl, Nat.le_of_ble_eq_true rfl⟩ (fun H locs hP hD hS => ?_)
    refine lv_aload_n hx hb dX0_notifyWaiter_26 rfl (lv_at hl 1 rfl) ?_
    refine kr_get (C := "MonitorWays$Machine") (T := TX0) (N := 3) hx hb hts hin_X0 hown hK hP (14 + mi) (by omega) (E_mach hmi _ _ _ _) rfl 0 (by decide) lk_f11 (fun _ h9 => h9) rfl dX0_notifyWaiter_27 ?_
    refine lv_iload_n hx hb dX0_notifyWaiter_30 rfl (lv_at hl 0 rfl) ?_
    refine kr_aald (a := ad (20 + 4 * mi + ((r_mWaiter iv mi mm k).toNatClampNeg))) hx hb hK hP (16 + mi) 4 (by omega) (E_warr hmi _ _ _ _) rfl hv rfl dX0_notifyWaiter_31 ?_
    refine lv_iconst (v := 2) hx hb dX0_notifyWaiter_32 (by decide) ?_
    refine kr_put (C := "MonitorWays$Worker") (T := TX5) (N := 8) hx hb hts hin_X5 tyX5 ok_tyX5 ok_nX5 hown hK hP hD hS (20 + 4 * mi + ((r_mWaiter iv mi mm k).toNatClampNeg)) (by omega) (fun _ => E_wk (mi := mi) (t := (r_mWaiter iv mi mm k).toNatClampNeg) hmi hv4 _ _ _ _) rfl 0 (by decide) lk_f36 (fun _ h9 => h9) rfl rfl rfl rfl (fun _ => Nat.le_of_ble_eq_true rfl) (fun _ => rfl) dX0_notifyWaiter_33 (fun H locs hP hD hS => ?_)
    exact kr_vret hx hb hr hlocks hK hP hD hS (by unfold m_aNotify; rw [if_neg c_1]) dX0_notifyWaiter_36
def m_aBack (iv : Nat → Nat → Int32) (mi t mm : Nat) : Nat → Nat → Int32 := (m_wRunOn (up2 (m_mOwn iv mi mm (nI t) (iv (20 + 4 * mi + t) 2)) (20 + 4 * mi + t) 2 0) mi t)
set_option maxHeartbeats 4000000 in
set_option maxRecDepth 100000 in
theorem c_aBack (l : Launch) (D : va_G) (gc : Nat → ClassId) (ad ln : Nat → Nat) (iv : Nat → Nat → Int32) (lv : Nat → Nat → Int64) (mi t mm : Nat) (hmi : mi < 2) (ht : t < 4) (hmm : mm < 2) (hpl : vp_in (iv (20 + 4 * mi + t) 1) 6) (hop : r_wOperand iv mi t = nI mm) : kMv l yX0_comeBack wX0_comeBack ({ frames := 2, cells := 0, slots := 0, locals := 41 }) D vwCl (kT gc) 42 (kE gc) [.ref (ad (14 + mi)), .int (nI t)] (ad, ln, iv, lv) (ad, ln, m_aBack iv mi t mm, lv) := by
  refine kv_start (cc := cX0_comeBack) (maxL := 3) (by decide) rfl (Nat.le_of_ble_eq_true rfl) ?_
  intro p9 e9 s m9 below meth c9 A ls hx hb hr hts hown hlocks hml hA hK hP hD hS hl
  have hl : lv_has ls 3 [(0, .ref (ad (14 + mi))), (1, .int (nI t))] := hl
  have hown : s.vm.findClass "MonitorWays$Machine" = some m9.cls := hown
  have hin_X0 : ∀ w ∈ u_ws "MonitorWays$Machine" TX0 3, w ∈ wX0_comeBack := fun w h => tcons (inX0 w h)
  have hin_X5 : ∀ w ∈ u_ws "MonitorWays$Worker" TX5 8, w ∈ wX0_comeBack := fun w h => tcons (inX5 w h)
  have lk_f11 := hts _ (tcons tw_126)
  have lk_f131 := hts _ (tcons tw_61)
  refine lv_aload_n hx hb dX0_comeBack_0 rfl (lv_at hl 0 rfl) ?_
  refine kr_get (C := "MonitorWays$Machine") (T := TX0) (N := 3) hx hb hts hin_X0 hown hK hP (14 + mi) (by omega) (E_mach hmi _ _ _ _) rfl 0 (by decide) lk_f11 (fun _ h9 => h9) rfl dX0_comeBack_1 ?_
  refine lv_iload_n hx hb dX0_comeBack_4 rfl (lv_at hl 1 rfl) ?_
  refine kr_aald (a := ad (20 + 4 * mi + t)) hx hb hK hP (16 + mi) 4 (by omega) (E_warr hmi _ _ _ _) rfl (vp_in_nI (n := t) (by omega) (by decide)) (by rw [nI_clamp (show t < 2 ^ 31 by omega)]) dX0_comeBack_5 ?_
  refine lv_astore_n (lv' := [(2, .ref (ad (20 + 4 * mi + t))), (0, .ref (ad (14 + mi))), (1, .int (nI t))]) hx hb dX0_comeBack_6 rfl hl (by decide) rfl (fun ls hl => ?_)
  refine lv_aload_n hx hb dX0_comeBack_7 rfl (lv_at hl 1 rfl) ?_
  refine lv_aload_n hx hb dX0_comeBack_8 rfl (lv_at hl 0 rfl) ?_
  refine kr_callVr (As := [.ref (ad (20 + 4 * mi + t))]) (rest := []) ⟨hx, hb, hml, hown, hts⟩ (c_aMonOf l D gc ad ln iv lv mi t mm hmi (by omega) hmm hpl hop) (cwV 1 hts (goodV (fun _ h => tcons h) tw_264 tw_266 ts_2 tw_3 tw_267) rfl rfl rfl (by decide +kernel) ⟨Nat.le_of_ble_eq_true rfl, Nat.le_of_ble_eq_true rfl⟩) (kr_recv hK hP (14 + mi) (by omega) (E_mach hmi _ _ _ _) rfl) hK hP hD hS hA rfl hl.1 rfl (Nat.le_of_ble_eq_true rfl) dX0_comeBack_9 ⟨Nat.le_of_ble_eq_true rfl, Nat.le_of_ble_eq_true rfl⟩ (fun H locs hP hD hS => ?_)
  refine lv_iload_n hx hb dX0_comeBack_12 rfl (lv_at hl 2 rfl) ?_
  refine lv_aload_n hx hb dX0_comeBack_13 rfl (lv_at hl 0 rfl) ?_
  refine kr_get (C := "MonitorWays$Worker") (T := TX5) (N := 8) hx hb hts hin_X5 hown hK hP (20 + 4 * mi + t) (by omega) (E_wk (mi := mi) (t := t) hmi (by omega) _ _ _ _) rfl 2 (by decide) lk_f131 (fun _ h9 => h9) rfl dX0_comeBack_14 ?_
  refine kr_callVv (As := [.int (nI t), .int (iv (20 + 4 * mi + t) 2)]) (rest := []) ⟨hx, hb, hml, hown, hts⟩ (c_mOwn l D gc ad ln iv lv mi mm hmi hmm (nI t) (iv (20 + 4 * mi + t) 2)) (cwV 2 hts (goodV (fun _ h => tcons h) tw_300 tw_301 tw_302 tw_5 tw_303) rfl rfl rfl (by decide +kernel) ⟨Nat.le_of_ble_eq_true rfl, Nat.le_of_ble_eq_true rfl⟩) (kr_recv hK hP (28 + 2 * mi + mm) (by omega) (E_mon (mi := mi) (m := mm) hmi hmm _ _ _ _) rfl) hK hP hD hS hA rfl hl.1 rfl (Nat.le_of_ble_eq_true rfl) dX0_comeBack_17 ⟨Nat.le_of_ble_eq_true rfl, Nat.le_of_ble_eq_true rfl⟩ (fun H locs hP hD hS => ?_)
  refine lv_aload_n hx hb dX0_comeBack_20 rfl (lv_at hl 0 rfl) ?_
  refine lv_iconst (v := 0) hx hb dX0_comeBack_21 (by decide) ?_
  refine kr_put (C := "MonitorWays$Worker") (T := TX5) (N := 8) hx hb hts hin_X5 tyX5 ok_tyX5 ok_nX5 hown hK hP hD hS (20 + 4 * mi + t) (by omega) (fun _ => E_wk (mi := mi) (t := t) hmi (by omega) _ _ _ _) rfl 2 (by decide) lk_f131 (fun _ h9 => h9) rfl rfl rfl rfl (fun _ => Nat.le_of_ble_eq_true rfl) (fun _ => rfl) dX0_comeBack_22 (fun H locs hP hD hS => ?_)
  refine lv_aload_n hx hb dX0_comeBack_25 rfl (lv_at hl 0 rfl) ?_
  refine kr_callVv (As := []) (rest := []) ⟨hx, hb, hml, hown, hts⟩ (c_wRunOn l D gc ad ln (up2 (m_mOwn iv mi mm (nI t) (iv (20 + 4 * mi + t) 2)) (20 + 4 * mi + t) 2 0) lv mi t hmi (by omega)) (cwV 0 hts (goodV (fun _ h => tcons h) tw_337 tw_338 tw_339 tw_4 tw_340) rfl rfl rfl (by decide +kernel) ⟨Nat.le_of_ble_eq_true rfl, Nat.le_of_ble_eq_true rfl⟩) (kr_recv hK hP (20 + 4 * mi + t) (by omega) (E_wk (mi := mi) (t := t) hmi (by omega) _ _ _ _) rfl) hK hP hD hS hA rfl hl.1 rfl (Nat.le_of_ble_eq_true rfl) dX0_comeBack_26 ⟨Nat.le_of_ble_eq_true rfl, Nat.le_of_ble_eq_true rfl⟩ (fun H locs hP hD hS => ?_)
  exact kr_vret hx hb hr hlocks hK hP hD hS rfl dX0_comeBack_29
def m_aLeave (iv : Nat → Nat → Int32) (mi t mm : Nat) (way : Int32) (sz : Nat) : Nat → Nat → Int32 := if way = 1 then (up2 (m_mDrop (m_wPut (up2 iv (20 + 4 * mi + t) 3 0) mi t 1) mi mm (nI t) sz) (20 + 4 * mi + t) 0 2) else if way = 2 then (up2 (m_mDrop (up2 iv (20 + 4 * mi + t) 5 1) mi mm (nI t) sz) (20 + 4 * mi + t) 0 2) else (up2 (m_mDrop (m_wPut iv mi t 3) mi mm (nI t) sz) (20 + 4 * mi + t) 0 2)
set_option maxHeartbeats 4000000 in
set_option maxRecDepth 100000 in
theorem c_aLeave (l : Launch) (D : va_G) (gc : Nat → ClassId) (ad ln : Nat → Nat) (iv : Nat → Nat → Int32) (lv : Nat → Nat → Int64) (mi t mm : Nat) (hmi : mi < 2) (ht : t < 4) (hmm : mm < 2) (way : Int32) (hpl : vp_in (iv (20 + 4 * mi + t) 1) 6) (hop : r_wOperand iv mi t = nI mm) (sz : Nat) (hsz : iv (28 + 2 * mi + mm) 2 = nI sz) (hs4 : sz ≤ 4) : kMv l yX0_leaveSetAlone wX0_leaveSetAlone ({ frames := 2, cells := 0, slots := 0, locals := 41 }) D vwCl (kT gc) 42 (kE gc) [.ref (ad (14 + mi)), .int (nI t), .int way] (ad, ln, iv, lv) (ad, ln, m_aLeave iv mi t mm way sz, lv) := by
  refine kv_start (cc := cX0_leaveSetAlone) (maxL := 4) (by decide) rfl (Nat.le_of_ble_eq_true rfl) ?_
  intro p9 e9 s m9 below meth c9 A ls hx hb hr hts hown hlocks hml hA hK hP hD hS hl
  have hl : lv_has ls 4 [(0, .ref (ad (14 + mi))), (1, .int (nI t)), (2, .int way)] := hl
  have hown : s.vm.findClass "MonitorWays$Machine" = some m9.cls := hown
  have hin_X0 : ∀ w ∈ u_ws "MonitorWays$Machine" TX0 3, w ∈ wX0_leaveSetAlone := fun w h => tcons (inX0 w h)
  have hin_X5 : ∀ w ∈ u_ws "MonitorWays$Worker" TX5 8, w ∈ wX0_leaveSetAlone := fun w h => tcons (inX5 w h)
  have lk_f11 := hts _ (tcons tw_126)
  have lk_f36 := hts _ (tcons tw_58)
  have lk_f83 := hts _ (tcons tw_67)
  have lk_f63 := hts _ (tcons tw_63)
  refine lv_aload_n hx hb dX0_leaveSetAlone_0 rfl (lv_at hl 0 rfl) ?_
  refine kr_get (C := "MonitorWays$Machine") (T := TX0) (N := 3) hx hb hts hin_X0 hown hK hP (14 + mi) (by omega) (E_mach hmi _ _ _ _) rfl 0 (by decide) lk_f11 (fun _ h9 => h9) rfl dX0_leaveSetAlone_1 ?_
  refine lv_iload_n hx hb dX0_leaveSetAlone_4 rfl (lv_at hl 1 rfl) ?_
  refine kr_aald (a := ad (20 + 4 * mi + t)) hx hb hK hP (16 + mi) 4 (by omega) (E_warr hmi _ _ _ _) rfl (vp_in_nI (n := t) (by omega) (by decide)) (by rw [nI_clamp (show t < 2 ^ 31 by omega)]) dX0_leaveSetAlone_5 ?_
  refine lv_astore_n (lv' := [(3, .ref (ad (20 + 4 * mi + t))), (0, .ref (ad (14 + mi))), (1, .int (nI t)), (2, .int way)]) hx hb dX0_leaveSetAlone_6 rfl hl (by decide) rfl (fun ls hl => ?_)
  refine lv_iload_n hx hb dX0_leaveSetAlone_7 rfl (lv_at hl 3 rfl) ?_
  refine lv_iconst (v := 1) hx hb dX0_leaveSetAlone_8 (by decide) ?_
  refine lv_icmp_ne (tgt := 25) hx hb dX0_leaveSetAlone_9 (by decide) (fun c_1 => ?_) (fun c_1 => ?_)
  · refine lv_iload_n hx hb dX0_leaveSetAlone_25 rfl (lv_at hl 3 rfl) ?_
    refine lv_iconst (v := 2) hx hb dX0_leaveSetAlone_26 (by decide) ?_
    refine lv_icmp_ne (tgt := 38) hx hb dX0_leaveSetAlone_27 (by decide) (fun c_2 => ?_) (fun c_2 => ?_)
    · refine lv_aload_n hx hb dX0_leaveSetAlone_38 rfl (lv_at hl 0 rfl) ?_
      refine lv_iconst (v := 3) hx hb dX0_leaveSetAlone_39 (by decide) ?_
      refine kr_callVv (As := [.int 3]) (rest := []) ⟨hx, hb, hml, hown, hts⟩ (c_wPut l D gc ad ln iv lv mi t hmi (by omega) 3) (cwV 1 hts (goodV (fun _ h => tcons h) tw_304 tw_305 tw_306 tw_4 tw_307) rfl rfl rfl (by decide +kernel) ⟨Nat.le_of_ble_eq_true rfl, Nat.le_of_ble_eq_true rfl⟩) (kr_recv hK hP (20 + 4 * mi + t) (by omega) (E_wk (mi := mi) (t := t) hmi (by omega) _ _ _ _) rfl) hK hP hD hS hA rfl hl.1 rfl (Nat.le_of_ble_eq_true rfl) dX0_leaveSetAlone_40 ⟨Nat.le_of_ble_eq_true rfl, Nat.le_of_ble_eq_true rfl⟩ (fun H locs hP hD hS => ?_)
      have q1 : (m_wPut iv mi t 3) (20 + 4 * mi + t) 1 = iv (20 + 4 * mi + t) 1 := by (try unfold m_wPut); repeat rw [up2_k (by decide)]
      have q2 : (m_wPut iv mi t 3) (10 + t) = iv (10 + t) := by (try unfold m_wPut); repeat rw [up2_c (by omega)]
      have q3 : (m_wPut iv mi t 3) (28 + 2 * mi + mm) 2 = nI sz := by (try unfold m_wPut); (repeat rw [up2_ne (by omega)]); exact hsz
      have q4 : vp_in ((m_wPut iv mi t 3) (20 + 4 * mi + t) 1) 6 := q1 ▸ hpl
      have q5 : r_wOperand (m_wPut iv mi t 3) mi t = nI mm := by rw [← hop]; unfold r_wOperand; rw [q1, q2]
      refine lv_aload_n hx hb dX0_leaveSetAlone_43 rfl (lv_at hl 1 rfl) ?_
      refine lv_aload_n hx hb dX0_leaveSetAlone_44 rfl (lv_at hl 0 rfl) ?_
      refine kr_callVr (As := [.ref (ad (20 + 4 * mi + t))]) (rest := []) ⟨hx, hb, hml, hown, hts⟩ (c_aMonOf l D gc ad ln (m_wPut iv mi t 3) lv mi t mm hmi (by omega) hmm q4 q5) (cwV 1 hts (goodV (fun _ h => tcons h) tw_264 tw_266 ts_2 tw_3 tw_267) rfl rfl rfl (by decide +kernel) ⟨Nat.le_of_ble_eq_true rfl, Nat.le_of_ble_eq_true rfl⟩) (kr_recv hK hP (14 + mi) (by omega) (E_mach hmi _ _ _ _) rfl) hK hP hD hS hA rfl hl.1 rfl (Nat.le_of_ble_eq_true rfl) dX0_leaveSetAlone_45 ⟨Nat.le_of_ble_eq_true rfl, Nat.le_of_ble_eq_true rfl⟩ (fun H locs hP hD hS => ?_)
      refine lv_iload_n hx hb dX0_leaveSetAlone_48 rfl (lv_at hl 2 rfl) ?_
      refine kr_callVv (As := [.int (nI t)]) (rest := []) ⟨hx, hb, hml, hown, hts⟩ (c_mDrop l D gc ad ln (m_wPut iv mi t 3) lv mi mm hmi hmm (nI t) sz q3 hs4) (cwV 1 hts (goodV (fun _ h => tcons h) tw_320 tw_321 tw_322 tw_5 tw_323) rfl rfl rfl (by decide +kernel) ⟨Nat.le_of_ble_eq_true rfl, Nat.le_of_ble_eq_true rfl⟩) (kr_recv hK hP (28 + 2 * mi + mm) (by omega) (E_mon (mi := mi) (m := mm) hmi hmm _ _ _ _) rfl) hK hP hD hS hA rfl hl.1 rfl (Nat.le_of_ble_eq_true rfl) dX0_leaveSetAlone_49 ⟨Nat.le_of_ble_eq_true rfl, Nat.le_of_ble_eq_true rfl⟩ (fun H locs hP hD hS => ?_)
      refine lv_aload_n hx hb dX0_leaveSetAlone_52 rfl (lv_at hl 0 rfl) ?_
      refine lv_iconst (v := 2) hx hb dX0_leaveSetAlone_53 (by decide) ?_
      refine kr_put (C := "MonitorWays$Worker") (T := TX5) (N := 8) hx hb hts hin_X5 tyX5 ok_tyX5 ok_nX5 hown hK hP hD hS (20 + 4 * mi + t) (by omega) (fun _ => E_wk (mi := mi) (t := t) hmi (by omega) _ _ _ _) rfl 0 (by decide) lk_f36 (fun _ h9 => h9) rfl rfl rfl rfl (fun _ => Nat.le_of_ble_eq_true rfl) (fun _ => rfl) dX0_leaveSetAlone_54 (fun H locs hP hD hS => ?_)
      exact kr_vret hx hb hr hlocks hK hP hD hS (by unfold m_aLeave; rw [if_neg c_1, if_neg c_2]) dX0_leaveSetAlone_57
    · refine lv_aload_n hx hb dX0_leaveSetAlone_30 rfl (lv_at hl 0 rfl) ?_
      refine lv_iconst (v := 1) hx hb dX0_leaveSetAlone_31 (by decide) ?_
      refine kr_put (C := "MonitorWays$Worker") (T := TX5) (N := 8) hx hb hts hin_X5 tyX5 ok_tyX5 ok_nX5 hown hK hP hD hS (20 + 4 * mi + t) (by omega) (fun _ => E_wk (mi := mi) (t := t) hmi (by omega) _ _ _ _) rfl 5 (by decide) lk_f83 (fun _ h9 => h9) rfl rfl (by decide) (by decide) (fun _ => Nat.le_of_ble_eq_true rfl) (fun _ => rfl) dX0_leaveSetAlone_32 (fun H locs hP hD hS => ?_)
      refine lv_goto (tgt := 43) hx hb dX0_leaveSetAlone_35 (by decide) ?_
      have q1 : (up2 iv (20 + 4 * mi + t) 5 1) (20 + 4 * mi + t) 1 = iv (20 + 4 * mi + t) 1 := by (try unfold m_wPut); repeat rw [up2_k (by decide)]
      have q2 : (up2 iv (20 + 4 * mi + t) 5 1) (10 + t) = iv (10 + t) := by (try unfold m_wPut); repeat rw [up2_c (by omega)]
      have q3 : (up2 iv (20 + 4 * mi + t) 5 1) (28 + 2 * mi + mm) 2 = nI sz := by (try unfold m_wPut); (repeat rw [up2_ne (by omega)]); exact hsz
      have q4 : vp_in ((up2 iv (20 + 4 * mi + t) 5 1) (20 + 4 * mi + t) 1) 6 := q1 ▸ hpl
      have q5 : r_wOperand (up2 iv (20 + 4 * mi + t) 5 1) mi t = nI mm := by rw [← hop]; unfold r_wOperand; rw [q1, q2]
      refine lv_aload_n hx hb dX0_leaveSetAlone_43 rfl (lv_at hl 1 rfl) ?_
      refine lv_aload_n hx hb dX0_leaveSetAlone_44 rfl (lv_at hl 0 rfl) ?_
      refine kr_callVr (As := [.ref (ad (20 + 4 * mi + t))]) (rest := []) ⟨hx, hb, hml, hown, hts⟩ (c_aMonOf l D gc ad ln (up2 iv (20 + 4 * mi + t) 5 1) lv mi t mm hmi (by omega) hmm q4 q5) (cwV 1 hts (goodV (fun _ h => tcons h) tw_264 tw_266 ts_2 tw_3 tw_267) rfl rfl rfl (by decide +kernel) ⟨Nat.le_of_ble_eq_true rfl, Nat.le_of_ble_eq_true rfl⟩) (kr_recv hK hP (14 + mi) (by omega) (E_mach hmi _ _ _ _) rfl) hK hP hD hS hA rfl hl.1 rfl (Nat.le_of_ble_eq_true rfl) dX0_leaveSetAlone_45 ⟨Nat.le_of_ble_eq_true rfl, Nat.le_of_ble_eq_true rfl⟩ (fun H locs hP hD hS => ?_)
      refine lv_iload_n hx hb dX0_leaveSetAlone_48 rfl (lv_at hl 2 rfl) ?_
      refine kr_callVv (As := [.int (nI t)]) (rest := []) ⟨hx, hb, hml, hown, hts⟩ (c_mDrop l D gc ad ln (up2 iv (20 + 4 * mi + t) 5 1) lv mi mm hmi hmm (nI t) sz q3 hs4) (cwV 1 hts (goodV (fun _ h => tcons h) tw_320 tw_321 tw_322 tw_5 tw_323) rfl rfl rfl (by decide +kernel) ⟨Nat.le_of_ble_eq_true rfl, Nat.le_of_ble_eq_true rfl⟩) (kr_recv hK hP (28 + 2 * mi + mm) (by omega) (E_mon (mi := mi) (m := mm) hmi hmm _ _ _ _) rfl) hK hP hD hS hA rfl hl.1 rfl (Nat.le_of_ble_eq_true rfl) dX0_leaveSetAlone_49 ⟨Nat.le_of_ble_eq_true rfl, Nat.le_of_ble_eq_true rfl⟩ (fun H locs hP hD hS => ?_)
      refine lv_aload_n hx hb dX0_leaveSetAlone_52 rfl (lv_at hl 0 rfl) ?_
      refine lv_iconst (v := 2) hx hb dX0_leaveSetAlone_53 (by decide) ?_
      refine kr_put (C := "MonitorWays$Worker") (T := TX5) (N := 8) hx hb hts hin_X5 tyX5 ok_tyX5 ok_nX5 hown hK hP hD hS (20 + 4 * mi + t) (by omega) (fun _ => E_wk (mi := mi) (t := t) hmi (by omega) _ _ _ _) rfl 0 (by decide) lk_f36 (fun _ h9 => h9) rfl rfl rfl rfl (fun _ => Nat.le_of_ble_eq_true rfl) (fun _ => rfl) dX0_leaveSetAlone_54 (fun H locs hP hD hS => ?_)
      exact kr_vret hx hb hr hlocks hK hP hD hS (by unfold m_aLeave; rw [if_neg c_1, if_pos c_2]) dX0_leaveSetAlone_57
  · refine lv_aload_n hx hb dX0_leaveSetAlone_12 rfl (lv_at hl 0 rfl) ?_
    refine lv_iconst (v := 0) hx hb dX0_leaveSetAlone_13 (by decide) ?_
    refine kr_put (C := "MonitorWays$Worker") (T := TX5) (N := 8) hx hb hts hin_X5 tyX5 ok_tyX5 ok_nX5 hown hK hP hD hS (20 + 4 * mi + t) (by omega) (fun _ => E_wk (mi := mi) (t := t) hmi (by omega) _ _ _ _) rfl 3 (by decide) lk_f63 (fun _ h9 => h9) rfl rfl (by decide) (by decide) (fun _ => Nat.le_of_ble_eq_true rfl) (fun _ => rfl) dX0_leaveSetAlone_14 (fun H locs hP hD hS => ?_)
    refine lv_aload_n hx hb dX0_leaveSetAlone_17 rfl (lv_at hl 0 rfl) ?_
    refine lv_iconst (v := 1) hx hb dX0_leaveSetAlone_18 (by decide) ?_
    refine kr_callVv (As := [.int 1]) (rest := []) ⟨hx, hb, hml, hown, hts⟩ (c_wPut l D gc ad ln (up2 iv (20 + 4 * mi + t) 3 0) lv mi t hmi (by omega) 1) (cwV 1 hts (goodV (fun _ h => tcons h) tw_304 tw_305 tw_306 tw_4 tw_307) rfl rfl rfl (by decide +kernel) ⟨Nat.le_of_ble_eq_true rfl, Nat.le_of_ble_eq_true rfl⟩) (kr_recv hK hP (20 + 4 * mi + t) (by omega) (E_wk (mi := mi) (t := t) hmi (by omega) _ _ _ _) rfl) hK hP hD hS hA rfl hl.1 rfl (Nat.le_of_ble_eq_true rfl) dX0_leaveSetAlone_19 ⟨Nat.le_of_ble_eq_true rfl, Nat.le_of_ble_eq_true rfl⟩ (fun H locs hP hD hS => ?_)
    refine lv_goto (tgt := 43) hx hb dX0_leaveSetAlone_22 (by decide) ?_
    have q1 : (m_wPut (up2 iv (20 + 4 * mi + t) 3 0) mi t 1) (20 + 4 * mi + t) 1 = iv (20 + 4 * mi + t) 1 := by (try unfold m_wPut); repeat rw [up2_k (by decide)]
    have q2 : (m_wPut (up2 iv (20 + 4 * mi + t) 3 0) mi t 1) (10 + t) = iv (10 + t) := by (try unfold m_wPut); repeat rw [up2_c (by omega)]
    have q3 : (m_wPut (up2 iv (20 + 4 * mi + t) 3 0) mi t 1) (28 + 2 * mi + mm) 2 = nI sz := by (try unfold m_wPut); (repeat rw [up2_ne (by omega)]); exact hsz
    have q4 : vp_in ((m_wPut (up2 iv (20 + 4 * mi + t) 3 0) mi t 1) (20 + 4 * mi + t) 1) 6 := q1 ▸ hpl
    have q5 : r_wOperand (m_wPut (up2 iv (20 + 4 * mi + t) 3 0) mi t 1) mi t = nI mm := by rw [← hop]; unfold r_wOperand; rw [q1, q2]
    refine lv_aload_n hx hb dX0_leaveSetAlone_43 rfl (lv_at hl 1 rfl) ?_
    refine lv_aload_n hx hb dX0_leaveSetAlone_44 rfl (lv_at hl 0 rfl) ?_
    refine kr_callVr (As := [.ref (ad (20 + 4 * mi + t))]) (rest := []) ⟨hx, hb, hml, hown, hts⟩ (c_aMonOf l D gc ad ln (m_wPut (up2 iv (20 + 4 * mi + t) 3 0) mi t 1) lv mi t mm hmi (by omega) hmm q4 q5) (cwV 1 hts (goodV (fun _ h => tcons h) tw_264 tw_266 ts_2 tw_3 tw_267) rfl rfl rfl (by decide +kernel) ⟨Nat.le_of_ble_eq_true rfl, Nat.le_of_ble_eq_true rfl⟩) (kr_recv hK hP (14 + mi) (by omega) (E_mach hmi _ _ _ _) rfl) hK hP hD hS hA rfl hl.1 rfl (Nat.le_of_ble_eq_true rfl) dX0_leaveSetAlone_45 ⟨Nat.le_of_ble_eq_true rfl, Nat.le_of_ble_eq_true rfl⟩ (fun H locs hP hD hS => ?_)
    refine lv_iload_n hx hb dX0_leaveSetAlone_48 rfl (lv_at hl 2 rfl) ?_
    refine kr_callVv (As := [.int (nI t)]) (rest := []) ⟨hx, hb, hml, hown, hts⟩ (c_mDrop l D gc ad ln (m_wPut (up2 iv (20 + 4 * mi + t) 3 0) mi t 1) lv mi mm hmi hmm (nI t) sz q3 hs4) (cwV 1 hts (goodV (fun _ h => tcons h) tw_320 tw_321 tw_322 tw_5 tw_323) rfl rfl rfl (by decide +kernel) ⟨Nat.le_of_ble_eq_true rfl, Nat.le_of_ble_eq_true rfl⟩) (kr_recv hK hP (28 + 2 * mi + mm) (by omega) (E_mon (mi := mi) (m := mm) hmi hmm _ _ _ _) rfl) hK hP hD hS hA rfl hl.1 rfl (Nat.le_of_ble_eq_true rfl) dX0_leaveSetAlone_49 ⟨Nat.le_of_ble_eq_true rfl, Nat.le_of_ble_eq_true rfl⟩ (fun H locs hP hD hS => ?_)
    refine lv_aload_n hx hb dX0_leaveSetAlone_52 rfl (lv_at hl 0 rfl) ?_
    refine lv_iconst (v := 2) hx hb dX0_leaveSetAlone_53 (by decide) ?_
    refine kr_put (C := "MonitorWays$Worker") (T := TX5) (N := 8) hx hb hts hin_X5 tyX5 ok_tyX5 ok_nX5 hown hK hP hD hS (20 + 4 * mi + t) (by omega) (fun _ => E_wk (mi := mi) (t := t) hmi (by omega) _ _ _ _) rfl 0 (by decide) lk_f36 (fun _ h9 => h9) rfl rfl rfl rfl (fun _ => Nat.le_of_ble_eq_true rfl) (fun _ => rfl) dX0_leaveSetAlone_54 (fun H locs hP hD hS => ?_)
    exact kr_vret hx hb hr hlocks hK hP hD hS (by unfold m_aLeave; rw [if_pos c_1]) dX0_leaveSetAlone_57
def m_aPlain (iv : Nat → Nat → Int32) (mi t u : Nat) : Nat → Nat → Int32 := if (r_wAction iv mi t) = 6 then (m_wRunOn (m_aIntr iv mi u) mi t) else if (r_wAction iv mi t) = 7 then if iv (20 + 4 * mi + t) 4 = 0 then if iv (20 + 4 * mi + t) 3 = 0 then (up2 iv (20 + 4 * mi + t) 0 3) else (m_wRunOn (up2 iv (20 + 4 * mi + t) 4 0) mi t) else (m_wRunOn (up2 iv (20 + 4 * mi + t) 4 0) mi t) else if (r_wAction iv mi t) = 8 then (m_wRunOn (m_aUnpark iv mi u) mi t) else if (r_wAction iv mi t) = 9 then if (r_wTakeInt iv mi t) = 0 then (m_wRunOn (m_wTakeInt iv mi t) mi t) else (m_wRunOn (m_wPut (m_wTakeInt iv mi t) mi t 1) mi t) else if (r_wAction iv mi t) = 10 then if (r_wTakeInt iv mi t) = 0 then (m_wRunOn (m_wTakeInt iv mi t) mi t) else (m_wRunOn (m_wPut (m_wTakeInt iv mi t) mi t 1) mi t) else if (r_wAction iv mi t) = 11 then (m_wRunOn (m_wPut iv mi t (8 + (r_wOperand iv mi t))) mi t) else if (r_wAction iv mi t) = 12 then (m_wRunOn (m_wPut (m_wTakeInt iv mi t) mi t (if (r_wTakeInt iv mi t) = 0 then (5 : Int32) else 4)) mi t) else (m_wRunOn iv mi t)
set_option maxHeartbeats 4000000 in
set_option maxRecDepth 100000 in
theorem c_aPlain (l : Launch) (D : va_G) (gc : Nat → ClassId) (ad ln : Nat → Nat) (iv : Nat → Nat → Int32) (lv : Nat → Nat → Int64) (mi t u : Nat) (hmi : mi < 2) (ht : t < 4) (hu : u < 4) (hpl : vp_in (iv (20 + 4 * mi + t) 1) 6) (hou : r_wAction iv mi t = 6 ∨ r_wAction iv mi t = 8 → r_wOperand iv mi t = nI u) (hz : narrow .boolean (.int (iv (20 + 4 * mi + t) 3)) = .int (iv (20 + 4 * mi + t) 3)) : kMv l yX0_doPlainAction wX0_doPlainAction ({ frames := 2, cells := 0, slots := 0, locals := 41 }) D vwCl (kT gc) 42 (kE gc) [.ref (ad (14 + mi)), .ref (ad (20 + 4 * mi + t))] (ad, ln, iv, lv) (ad, ln, m_aPlain iv mi t u, lv) := by
  refine kv_start (cc := cX0_doPlainAction) (maxL := 2) (by decide) rfl (Nat.le_of_ble_eq_true rfl) ?_
  intro p9 e9 s m9 below meth c9 A ls hx hb hr hts hown hlocks hml hA hK hP hD hS hl
  have hl : lv_has ls 2 [(0, .ref (ad (14 + mi))), (1, .ref (ad (20 + 4 * mi + t)))] := hl
  have hown : s.vm.findClass "MonitorWays$Machine" = some m9.cls := hown
  have hin_X0 : ∀ w ∈ u_ws "MonitorWays$Machine" TX0 3, w ∈ wX0_doPlainAction := fun w h => tcons (inX0 w h)
  have hin_X5 : ∀ w ∈ u_ws "MonitorWays$Worker" TX5 8, w ∈ wX0_doPlainAction := fun w h => tcons (inX5 w h)
  have lk_f11 := hts _ (tcons tw_126)
  have lk_f150 := hts _ (tcons tw_65)
  have lk_f63 := hts _ (tcons tw_63)
  have lk_f36 := hts _ (tcons tw_58)
  refine lv_aload_n hx hb dX0_doPlainAction_0 rfl (lv_at hl 1 rfl) ?_
  refine kr_callVi (As := []) (rest := []) ⟨hx, hb, hml, hown, hts⟩ (c_wAction l D gc ad ln iv lv mi t hmi ht hpl) (cwV 0 hts (goodV (fun _ h => tcons h) tw_256 tw_257 tw_258 tw_4 tw_259) rfl rfl rfl (by decide +kernel) ⟨Nat.le_of_ble_eq_true rfl, Nat.le_of_ble_eq_true rfl⟩) (kr_recv hK hP (20 + 4 * mi + t) (by omega) (E_wk (mi := mi) (t := t) hmi ht _ _ _ _) rfl) hK hP hD hS hA rfl hl.1 rfl (Nat.le_of_ble_eq_true rfl) dX0_doPlainAction_1 ⟨Nat.le_of_ble_eq_true rfl, Nat.le_of_ble_eq_true rfl⟩ (fun H locs hP hD hS => ?_)
  by_cases c_1 : (r_wAction iv mi t) = 6
  · refine lv_tableIn (tgt := 48) (off := 44) hx hb dX0_doPlainAction_4 (by rw [c_1]; decide) (by rw [c_1]; decide) (by rw [c_1]; decide) (by decide) ?_
    refine lv_aload_n hx hb dX0_doPlainAction_48 rfl (lv_at hl 0 rfl) ?_
    refine lv_aload_n hx hb dX0_doPlainAction_49 rfl (lv_at hl 0 rfl) ?_
    refine kr_get (C := "MonitorWays$Machine") (T := TX0) (N := 3) hx hb hts hin_X0 hown hK hP (14 + mi) (by omega) (E_mach hmi _ _ _ _) rfl 0 (by decide) lk_f11 (fun _ h9 => h9) rfl dX0_doPlainAction_50 ?_
    refine lv_aload_n hx hb dX0_doPlainAction_53 rfl (lv_at hl 1 rfl) ?_
    refine kr_callVi (As := []) (rest := [.ref (ad (16 + mi)), .ref (ad (14 + mi))]) ⟨hx, hb, hml, hown, hts⟩ (c_wOperand l D gc ad ln iv lv mi t hmi ht hpl) (cwV 0 hts (goodV (fun _ h => tcons h) tw_268 tw_269 tw_270 tw_4 tw_271) rfl rfl rfl (by decide +kernel) ⟨Nat.le_of_ble_eq_true rfl, Nat.le_of_ble_eq_true rfl⟩) (kr_recv hK hP (20 + 4 * mi + t) (by omega) (E_wk (mi := mi) (t := t) hmi ht _ _ _ _) rfl) hK hP hD hS hA rfl hl.1 rfl (Nat.le_of_ble_eq_true rfl) dX0_doPlainAction_54 ⟨Nat.le_of_ble_eq_true rfl, Nat.le_of_ble_eq_true rfl⟩ (fun H locs hP hD hS => ?_)
    refine kr_topi (y := nI u) (hou (Or.inl c_1)) ?_
    refine kr_aald (a := ad (20 + 4 * mi + u)) hx hb hK hP (16 + mi) 4 (by omega) (E_warr hmi _ _ _ _) rfl (vp_in_nI (n := u) (by omega) (by decide)) (by rw [nI_clamp (show u < 2 ^ 31 by omega)]) dX0_doPlainAction_57 ?_
    refine kr_callVv (As := [.ref (ad (20 + 4 * mi + u))]) (rest := []) ⟨hx, hb, hml, hown, hts⟩ (c_aIntr l D gc ad ln iv lv mi u hmi (by omega)) (cwV 1 hts (goodV (fun _ h => tcons h) tw_345 tw_347 ts_10 tw_3 tw_348) rfl rfl rfl (by decide +kernel) ⟨Nat.le_of_ble_eq_true rfl, Nat.le_of_ble_eq_true rfl⟩) (kr_recv hK hP (14 + mi) (by omega) (E_mach hmi _ _ _ _) rfl) hK hP hD hS hA rfl hl.1 rfl (Nat.le_of_ble_eq_true rfl) dX0_doPlainAction_58 ⟨Nat.le_of_ble_eq_true rfl, Nat.le_of_ble_eq_true rfl⟩ (fun H locs hP hD hS => ?_)
    refine lv_goto (tgt := 156) hx hb dX0_doPlainAction_61 (by decide) ?_
    refine lv_aload_n hx hb dX0_doPlainAction_156 rfl (lv_at hl 1 rfl) ?_
    refine kr_callVv (As := []) (rest := []) ⟨hx, hb, hml, hown, hts⟩ (c_wRunOn l D gc ad ln (m_aIntr iv mi u) lv mi t hmi ht) (cwV 0 hts (goodV (fun _ h => tcons h) tw_337 tw_338 tw_339 tw_4 tw_340) rfl rfl rfl (by decide +kernel) ⟨Nat.le_of_ble_eq_true rfl, Nat.le_of_ble_eq_true rfl⟩) (kr_recv hK hP (20 + 4 * mi + t) (by omega) (E_wk (mi := mi) (t := t) hmi ht _ _ _ _) rfl) hK hP hD hS hA rfl hl.1 rfl (Nat.le_of_ble_eq_true rfl) dX0_doPlainAction_157 ⟨Nat.le_of_ble_eq_true rfl, Nat.le_of_ble_eq_true rfl⟩ (fun H locs hP hD hS => ?_)
    exact kr_vret hx hb hr hlocks hK hP hD hS (by unfold m_aPlain; rw [if_pos c_1]) dX0_doPlainAction_160
  by_cases c_2 : (r_wAction iv mi t) = 7
  · refine lv_tableIn (tgt := 64) (off := 60) hx hb dX0_doPlainAction_4 (by rw [c_2]; decide) (by rw [c_2]; decide) (by rw [c_2]; decide) (by decide) ?_
    refine lv_aload_n hx hb dX0_doPlainAction_64 rfl (lv_at hl 1 rfl) ?_
    refine kr_get (C := "MonitorWays$Worker") (T := TX5) (N := 8) hx hb hts hin_X5 hown hK hP (20 + 4 * mi + t) (by omega) (E_wk (mi := mi) (t := t) hmi ht _ _ _ _) rfl 4 (by decide) lk_f150 (fun _ h9 => h9) rfl dX0_doPlainAction_65 ?_
    refine lv_if_ne (tgt := 84) hx hb dX0_doPlainAction_68 (by decide) (fun c_3 => ?_) (fun c_3 => ?_)
    · refine lv_aload_n hx hb dX0_doPlainAction_84 rfl (lv_at hl 1 rfl) ?_
      refine lv_iconst (v := 0) hx hb dX0_doPlainAction_85 (by decide) ?_
      refine kr_put (C := "MonitorWays$Worker") (T := TX5) (N := 8) hx hb hts hin_X5 tyX5 ok_tyX5 ok_nX5 hown hK hP hD hS (20 + 4 * mi + t) (by omega) (fun _ => E_wk (mi := mi) (t := t) hmi ht _ _ _ _) rfl 4 (by decide) lk_f150 (fun _ h9 => h9) rfl rfl (by decide) (by decide) (fun _ => Nat.le_of_ble_eq_true rfl) (fun _ => rfl) dX0_doPlainAction_86 (fun H locs hP hD hS => ?_)
      refine lv_goto (tgt := 156) hx hb dX0_doPlainAction_89 (by decide) ?_
      refine lv_aload_n hx hb dX0_doPlainAction_156 rfl (lv_at hl 1 rfl) ?_
      refine kr_callVv (As := []) (rest := []) ⟨hx, hb, hml, hown, hts⟩ (c_wRunOn l D gc ad ln (up2 iv (20 + 4 * mi + t) 4 0) lv mi t hmi ht) (cwV 0 hts (goodV (fun _ h => tcons h) tw_337 tw_338 tw_339 tw_4 tw_340) rfl rfl rfl (by decide +kernel) ⟨Nat.le_of_ble_eq_true rfl, Nat.le_of_ble_eq_true rfl⟩) (kr_recv hK hP (20 + 4 * mi + t) (by omega) (E_wk (mi := mi) (t := t) hmi ht _ _ _ _) rfl) hK hP hD hS hA rfl hl.1 rfl (Nat.le_of_ble_eq_true rfl) dX0_doPlainAction_157 ⟨Nat.le_of_ble_eq_true rfl, Nat.le_of_ble_eq_true rfl⟩ (fun H locs hP hD hS => ?_)
      exact kr_vret hx hb hr hlocks hK hP hD hS (by unfold m_aPlain; rw [if_neg c_1, if_pos c_2, if_neg c_3]) dX0_doPlainAction_160
    · refine lv_aload_n hx hb dX0_doPlainAction_71 rfl (lv_at hl 1 rfl) ?_
      refine kr_get (C := "MonitorWays$Worker") (T := TX5) (N := 8) hx hb hts hin_X5 hown hK hP (20 + 4 * mi + t) (by omega) (E_wk (mi := mi) (t := t) hmi ht _ _ _ _) rfl 3 (by decide) lk_f63 (fun _ h9 => h9) rfl dX0_doPlainAction_72 ?_
      refine lv_if_ne (tgt := 84) hx hb dX0_doPlainAction_75 (by decide) (fun c_4 => ?_) (fun c_4 => ?_)
      · refine lv_aload_n hx hb dX0_doPlainAction_84 rfl (lv_at hl 1 rfl) ?_
        refine lv_iconst (v := 0) hx hb dX0_doPlainAction_85 (by decide) ?_
        refine kr_put (C := "MonitorWays$Worker") (T := TX5) (N := 8) hx hb hts hin_X5 tyX5 ok_tyX5 ok_nX5 hown hK hP hD hS (20 + 4 * mi + t) (by omega) (fun _ => E_wk (mi := mi) (t := t) hmi ht _ _ _ _) rfl 4 (by decide) lk_f150 (fun _ h9 => h9) rfl rfl (by decide) (by decide) (fun _ => Nat.le_of_ble_eq_true rfl) (fun _ => rfl) dX0_doPlainAction_86 (fun H locs hP hD hS => ?_)
        refine lv_goto (tgt := 156) hx hb dX0_doPlainAction_89 (by decide) ?_
        refine lv_aload_n hx hb dX0_doPlainAction_156 rfl (lv_at hl 1 rfl) ?_
        refine kr_callVv (As := []) (rest := []) ⟨hx, hb, hml, hown, hts⟩ (c_wRunOn l D gc ad ln (up2 iv (20 + 4 * mi + t) 4 0) lv mi t hmi ht) (cwV 0 hts (goodV (fun _ h => tcons h) tw_337 tw_338 tw_339 tw_4 tw_340) rfl rfl rfl (by decide +kernel) ⟨Nat.le_of_ble_eq_true rfl, Nat.le_of_ble_eq_true rfl⟩) (kr_recv hK hP (20 + 4 * mi + t) (by omega) (E_wk (mi := mi) (t := t) hmi ht _ _ _ _) rfl) hK hP hD hS hA rfl hl.1 rfl (Nat.le_of_ble_eq_true rfl) dX0_doPlainAction_157 ⟨Nat.le_of_ble_eq_true rfl, Nat.le_of_ble_eq_true rfl⟩ (fun H locs hP hD hS => ?_)
        exact kr_vret hx hb hr hlocks hK hP hD hS (by unfold m_aPlain; rw [if_neg c_1, if_pos c_2, if_pos c_3, if_neg c_4]) dX0_doPlainAction_160
      · refine lv_aload_n hx hb dX0_doPlainAction_78 rfl (lv_at hl 1 rfl) ?_
        refine lv_iconst (v := 3) hx hb dX0_doPlainAction_79 (by decide) ?_
        refine kr_put (C := "MonitorWays$Worker") (T := TX5) (N := 8) hx hb hts hin_X5 tyX5 ok_tyX5 ok_nX5 hown hK hP hD hS (20 + 4 * mi + t) (by omega) (fun _ => E_wk (mi := mi) (t := t) hmi ht _ _ _ _) rfl 0 (by decide) lk_f36 (fun _ h9 => h9) rfl rfl rfl rfl (fun _ => Nat.le_of_ble_eq_true rfl) (fun _ => rfl) dX0_doPlainAction_80 (fun H locs hP hD hS => ?_)
        exact kr_vret hx hb hr hlocks hK hP hD hS (by unfold m_aPlain; rw [if_neg c_1, if_pos c_2, if_pos c_3, if_pos c_4]) dX0_doPlainAction_83
  by_cases c_5 : (r_wAction iv mi t) = 8
  · refine lv_tableIn (tgt := 92) (off := 88) hx hb dX0_doPlainAction_4 (by rw [c_5]; decide) (by rw [c_5]; decide) (by rw [c_5]; decide) (by decide) ?_
    refine lv_aload_n hx hb dX0_doPlainAction_92 rfl (lv_at hl 0 rfl) ?_
    refine lv_aload_n hx hb dX0_doPlainAction_93 rfl (lv_at hl 0 rfl) ?_
    refine kr_get (C := "MonitorWays$Machine") (T := TX0) (N := 3) hx hb hts hin_X0 hown hK hP (14 + mi) (by omega) (E_mach hmi _ _ _ _) rfl 0 (by decide) lk_f11 (fun _ h9 => h9) rfl dX0_doPlainAction_94 ?_
    refine lv_aload_n hx hb dX0_doPlainAction_97 rfl (lv_at hl 1 rfl) ?_
    refine kr_callVi (As := []) (rest := [.ref (ad (16 + mi)), .ref (ad (14 + mi))]) ⟨hx, hb, hml, hown, hts⟩ (c_wOperand l D gc ad ln iv lv mi t hmi ht hpl) (cwV 0 hts (goodV (fun _ h => tcons h) tw_268 tw_269 tw_270 tw_4 tw_271) rfl rfl rfl (by decide +kernel) ⟨Nat.le_of_ble_eq_true rfl, Nat.le_of_ble_eq_true rfl⟩) (kr_recv hK hP (20 + 4 * mi + t) (by omega) (E_wk (mi := mi) (t := t) hmi ht _ _ _ _) rfl) hK hP hD hS hA rfl hl.1 rfl (Nat.le_of_ble_eq_true rfl) dX0_doPlainAction_98 ⟨Nat.le_of_ble_eq_true rfl, Nat.le_of_ble_eq_true rfl⟩ (fun H locs hP hD hS => ?_)
    refine kr_topi (y := nI u) (hou (Or.inr c_5)) ?_
    refine kr_aald (a := ad (20 + 4 * mi + u)) hx hb hK hP (16 + mi) 4 (by omega) (E_warr hmi _ _ _ _) rfl (vp_in_nI (n := u) (by omega) (by decide)) (by rw [nI_clamp (show u < 2 ^ 31 by omega)]) dX0_doPlainAction_101 ?_
    refine kr_callVv (As := [.ref (ad (20 + 4 * mi + u))]) (rest := []) ⟨hx, hb, hml, hown, hts⟩ (c_aUnpark l D gc ad ln iv lv mi u hmi (by omega)) (cwV 1 hts (goodV (fun _ h => tcons h) tw_349 tw_351 ts_11 tw_3 tw_352) rfl rfl rfl (by decide +kernel) ⟨Nat.le_of_ble_eq_true rfl, Nat.le_of_ble_eq_true rfl⟩) (kr_recv hK hP (14 + mi) (by omega) (E_mach hmi _ _ _ _) rfl) hK hP hD hS hA rfl hl.1 rfl (Nat.le_of_ble_eq_true rfl) dX0_doPlainAction_102 ⟨Nat.le_of_ble_eq_true rfl, Nat.le_of_ble_eq_true rfl⟩ (fun H locs hP hD hS => ?_)
    refine lv_goto (tgt := 156) hx hb dX0_doPlainAction_105 (by decide) ?_
    refine lv_aload_n hx hb dX0_doPlainAction_156 rfl (lv_at hl 1 rfl) ?_
    refine kr_callVv (As := []) (rest := []) ⟨hx, hb, hml, hown, hts⟩ (c_wRunOn l D gc ad ln (m_aUnpark iv mi u) lv mi t hmi ht) (cwV 0 hts (goodV (fun _ h => tcons h) tw_337 tw_338 tw_339 tw_4 tw_340) rfl rfl rfl (by decide +kernel) ⟨Nat.le_of_ble_eq_true rfl, Nat.le_of_ble_eq_true rfl⟩) (kr_recv hK hP (20 + 4 * mi + t) (by omega) (E_wk (mi := mi) (t := t) hmi ht _ _ _ _) rfl) hK hP hD hS hA rfl hl.1 rfl (Nat.le_of_ble_eq_true rfl) dX0_doPlainAction_157 ⟨Nat.le_of_ble_eq_true rfl, Nat.le_of_ble_eq_true rfl⟩ (fun H locs hP hD hS => ?_)
    exact kr_vret hx hb hr hlocks hK hP hD hS (by unfold m_aPlain; rw [if_neg c_1, if_neg c_2, if_pos c_5]) dX0_doPlainAction_160
  by_cases c_6 : (r_wAction iv mi t) = 9
  · refine lv_tableIn (tgt := 108) (off := 104) hx hb dX0_doPlainAction_4 (by rw [c_6]; decide) (by rw [c_6]; decide) (by rw [c_6]; decide) (by decide) ?_
    refine lv_aload_n hx hb dX0_doPlainAction_108 rfl (lv_at hl 1 rfl) ?_
    refine kr_callVi (As := []) (rest := []) ⟨hx, hb, hml, hown, hts⟩ (c_wTakeInt l D gc ad ln iv lv mi t hmi ht hz) (cwV 0 hts (goodV (fun _ h => tcons h) tw_324 tw_325 tw_326 tw_4 tw_327) rfl rfl rfl (by decide +kernel) ⟨Nat.le_of_ble_eq_true rfl, Nat.le_of_ble_eq_true rfl⟩) (kr_recv hK hP (20 + 4 * mi + t) (by omega) (E_wk (mi := mi) (t := t) hmi ht _ _ _ _) rfl) hK hP hD hS hA rfl hl.1 rfl (Nat.le_of_ble_eq_true rfl) dX0_doPlainAction_109 ⟨Nat.le_of_ble_eq_true rfl, Nat.le_of_ble_eq_true rfl⟩ (fun H locs hP hD hS => ?_)
    refine lv_if_eq (tgt := 156) hx hb dX0_doPlainAction_112 (by decide) (fun c_7 => ?_) (fun c_7 => ?_)
    · refine lv_aload_n hx hb dX0_doPlainAction_156 rfl (lv_at hl 1 rfl) ?_
      refine kr_callVv (As := []) (rest := []) ⟨hx, hb, hml, hown, hts⟩ (c_wRunOn l D gc ad ln (m_wTakeInt iv mi t) lv mi t hmi ht) (cwV 0 hts (goodV (fun _ h => tcons h) tw_337 tw_338 tw_339 tw_4 tw_340) rfl rfl rfl (by decide +kernel) ⟨Nat.le_of_ble_eq_true rfl, Nat.le_of_ble_eq_true rfl⟩) (kr_recv hK hP (20 + 4 * mi + t) (by omega) (E_wk (mi := mi) (t := t) hmi ht _ _ _ _) rfl) hK hP hD hS hA rfl hl.1 rfl (Nat.le_of_ble_eq_true rfl) dX0_doPlainAction_157 ⟨Nat.le_of_ble_eq_true rfl, Nat.le_of_ble_eq_true rfl⟩ (fun H locs hP hD hS => ?_)
      exact kr_vret hx hb hr hlocks hK hP hD hS (by unfold m_aPlain; rw [if_neg c_1, if_neg c_2, if_neg c_5, if_pos c_6, if_pos c_7]) dX0_doPlainAction_160
    · refine lv_aload_n hx hb dX0_doPlainAction_115 rfl (lv_at hl 1 rfl) ?_
      refine lv_iconst (v := 1) hx hb dX0_doPlainAction_116 (by decide) ?_
      refine kr_callVv (As := [.int 1]) (rest := []) ⟨hx, hb, hml, hown, hts⟩ (c_wPut l D gc ad ln (m_wTakeInt iv mi t) lv mi t hmi ht 1) (cwV 1 hts (goodV (fun _ h => tcons h) tw_304 tw_305 tw_306 tw_4 tw_307) rfl rfl rfl (by decide +kernel) ⟨Nat.le_of_ble_eq_true rfl, Nat.le_of_ble_eq_true rfl⟩) (kr_recv hK hP (20 + 4 * mi + t) (by omega) (E_wk (mi := mi) (t := t) hmi ht _ _ _ _) rfl) hK hP hD hS hA rfl hl.1 rfl (Nat.le_of_ble_eq_true rfl) dX0_doPlainAction_117 ⟨Nat.le_of_ble_eq_true rfl, Nat.le_of_ble_eq_true rfl⟩ (fun H locs hP hD hS => ?_)
      refine lv_goto (tgt := 156) hx hb dX0_doPlainAction_120 (by decide) ?_
      refine lv_aload_n hx hb dX0_doPlainAction_156 rfl (lv_at hl 1 rfl) ?_
      refine kr_callVv (As := []) (rest := []) ⟨hx, hb, hml, hown, hts⟩ (c_wRunOn l D gc ad ln (m_wPut (m_wTakeInt iv mi t) mi t 1) lv mi t hmi ht) (cwV 0 hts (goodV (fun _ h => tcons h) tw_337 tw_338 tw_339 tw_4 tw_340) rfl rfl rfl (by decide +kernel) ⟨Nat.le_of_ble_eq_true rfl, Nat.le_of_ble_eq_true rfl⟩) (kr_recv hK hP (20 + 4 * mi + t) (by omega) (E_wk (mi := mi) (t := t) hmi ht _ _ _ _) rfl) hK hP hD hS hA rfl hl.1 rfl (Nat.le_of_ble_eq_true rfl) dX0_doPlainAction_157 ⟨Nat.le_of_ble_eq_true rfl, Nat.le_of_ble_eq_true rfl⟩ (fun H locs hP hD hS => ?_)
      exact kr_vret hx hb hr hlocks hK hP hD hS (by unfold m_aPlain; rw [if_neg c_1, if_neg c_2, if_neg c_5, if_pos c_6, if_neg c_7]) dX0_doPlainAction_160
  by_cases c_8 : (r_wAction iv mi t) = 10
  · refine lv_tableIn (tgt := 108) (off := 104) hx hb dX0_doPlainAction_4 (by rw [c_8]; decide) (by rw [c_8]; decide) (by rw [c_8]; decide) (by decide) ?_
    refine lv_aload_n hx hb dX0_doPlainAction_108 rfl (lv_at hl 1 rfl) ?_
    refine kr_callVi (As := []) (rest := []) ⟨hx, hb, hml, hown, hts⟩ (c_wTakeInt l D gc ad ln iv lv mi t hmi ht hz) (cwV 0 hts (goodV (fun _ h => tcons h) tw_324 tw_325 tw_326 tw_4 tw_327) rfl rfl rfl (by decide +kernel) ⟨Nat.le_of_ble_eq_true rfl, Nat.le_of_ble_eq_true rfl⟩) (kr_recv hK hP (20 + 4 * mi + t) (by omega) (E_wk (mi := mi) (t := t) hmi ht _ _ _ _) rfl) hK hP hD hS hA rfl hl.1 rfl (Nat.le_of_ble_eq_true rfl) dX0_doPlainAction_109 ⟨Nat.le_of_ble_eq_true rfl, Nat.le_of_ble_eq_true rfl⟩ (fun H locs hP hD hS => ?_)
    refine lv_if_eq (tgt := 156) hx hb dX0_doPlainAction_112 (by decide) (fun c_9 => ?_) (fun c_9 => ?_)
    · refine lv_aload_n hx hb dX0_doPlainAction_156 rfl (lv_at hl 1 rfl) ?_
      refine kr_callVv (As := []) (rest := []) ⟨hx, hb, hml, hown, hts⟩ (c_wRunOn l D gc ad ln (m_wTakeInt iv mi t) lv mi t hmi ht) (cwV 0 hts (goodV (fun _ h => tcons h) tw_337 tw_338 tw_339 tw_4 tw_340) rfl rfl rfl (by decide +kernel) ⟨Nat.le_of_ble_eq_true rfl, Nat.le_of_ble_eq_true rfl⟩) (kr_recv hK hP (20 + 4 * mi + t) (by omega) (E_wk (mi := mi) (t := t) hmi ht _ _ _ _) rfl) hK hP hD hS hA rfl hl.1 rfl (Nat.le_of_ble_eq_true rfl) dX0_doPlainAction_157 ⟨Nat.le_of_ble_eq_true rfl, Nat.le_of_ble_eq_true rfl⟩ (fun H locs hP hD hS => ?_)
      exact kr_vret hx hb hr hlocks hK hP hD hS (by unfold m_aPlain; rw [if_neg c_1, if_neg c_2, if_neg c_5, if_neg c_6, if_pos c_8, if_pos c_9]) dX0_doPlainAction_160
    · refine lv_aload_n hx hb dX0_doPlainAction_115 rfl (lv_at hl 1 rfl) ?_
      refine lv_iconst (v := 1) hx hb dX0_doPlainAction_116 (by decide) ?_
      refine kr_callVv (As := [.int 1]) (rest := []) ⟨hx, hb, hml, hown, hts⟩ (c_wPut l D gc ad ln (m_wTakeInt iv mi t) lv mi t hmi ht 1) (cwV 1 hts (goodV (fun _ h => tcons h) tw_304 tw_305 tw_306 tw_4 tw_307) rfl rfl rfl (by decide +kernel) ⟨Nat.le_of_ble_eq_true rfl, Nat.le_of_ble_eq_true rfl⟩) (kr_recv hK hP (20 + 4 * mi + t) (by omega) (E_wk (mi := mi) (t := t) hmi ht _ _ _ _) rfl) hK hP hD hS hA rfl hl.1 rfl (Nat.le_of_ble_eq_true rfl) dX0_doPlainAction_117 ⟨Nat.le_of_ble_eq_true rfl, Nat.le_of_ble_eq_true rfl⟩ (fun H locs hP hD hS => ?_)
      refine lv_goto (tgt := 156) hx hb dX0_doPlainAction_120 (by decide) ?_
      refine lv_aload_n hx hb dX0_doPlainAction_156 rfl (lv_at hl 1 rfl) ?_
      refine kr_callVv (As := []) (rest := []) ⟨hx, hb, hml, hown, hts⟩ (c_wRunOn l D gc ad ln (m_wPut (m_wTakeInt iv mi t) mi t 1) lv mi t hmi ht) (cwV 0 hts (goodV (fun _ h => tcons h) tw_337 tw_338 tw_339 tw_4 tw_340) rfl rfl rfl (by decide +kernel) ⟨Nat.le_of_ble_eq_true rfl, Nat.le_of_ble_eq_true rfl⟩) (kr_recv hK hP (20 + 4 * mi + t) (by omega) (E_wk (mi := mi) (t := t) hmi ht _ _ _ _) rfl) hK hP hD hS hA rfl hl.1 rfl (Nat.le_of_ble_eq_true rfl) dX0_doPlainAction_157 ⟨Nat.le_of_ble_eq_true rfl, Nat.le_of_ble_eq_true rfl⟩ (fun H locs hP hD hS => ?_)
      exact kr_vret hx hb hr hlocks hK hP hD hS (by unfold m_aPlain; rw [if_neg c_1, if_neg c_2, if_neg c_5, if_neg c_6, if_pos c_8, if_neg c_9]) dX0_doPlainAction_160
  by_cases c_10 : (r_wAction iv mi t) = 11
  · refine lv_tableIn (tgt := 123) (off := 119) hx hb dX0_doPlainAction_4 (by rw [c_10]; decide) (by rw [c_10]; decide) (by rw [c_10]; decide) (by decide) ?_
    refine lv_aload_n hx hb dX0_doPlainAction_123 rfl (lv_at hl 1 rfl) ?_
    refine lv_bipush (v := 8) hx hb dX0_doPlainAction_124 (by decide) ?_
    refine lv_aload_n hx hb dX0_doPlainAction_126 rfl (lv_at hl 1 rfl) ?_
    refine kr_callVi (As := []) (rest := [.int 8, .ref (ad (20 + 4 * mi + t))]) ⟨hx, hb, hml, hown, hts⟩ (c_wOperand l D gc ad ln iv lv mi t hmi ht hpl) (cwV 0 hts (goodV (fun _ h => tcons h) tw_268 tw_269 tw_270 tw_4 tw_271) rfl rfl rfl (by decide +kernel) ⟨Nat.le_of_ble_eq_true rfl, Nat.le_of_ble_eq_true rfl⟩) (kr_recv hK hP (20 + 4 * mi + t) (by omega) (E_wk (mi := mi) (t := t) hmi ht _ _ _ _) rfl) hK hP hD hS hA rfl hl.1 rfl (Nat.le_of_ble_eq_true rfl) dX0_doPlainAction_127 ⟨Nat.le_of_ble_eq_true rfl, Nat.le_of_ble_eq_true rfl⟩ (fun H locs hP hD hS => ?_)
    refine lv_iadd hx hb dX0_doPlainAction_130 ?_
    refine kr_callVv (As := [.int (8 + (r_wOperand iv mi t))]) (rest := []) ⟨hx, hb, hml, hown, hts⟩ (c_wPut l D gc ad ln iv lv mi t hmi ht (8 + (r_wOperand iv mi t))) (cwV 1 hts (goodV (fun _ h => tcons h) tw_304 tw_305 tw_306 tw_4 tw_307) rfl rfl rfl (by decide +kernel) ⟨Nat.le_of_ble_eq_true rfl, Nat.le_of_ble_eq_true rfl⟩) (kr_recv hK hP (20 + 4 * mi + t) (by omega) (E_wk (mi := mi) (t := t) hmi ht _ _ _ _) rfl) hK hP hD hS hA rfl hl.1 rfl (Nat.le_of_ble_eq_true rfl) dX0_doPlainAction_131 ⟨Nat.le_of_ble_eq_true rfl, Nat.le_of_ble_eq_true rfl⟩ (fun H locs hP hD hS => ?_)
    refine lv_goto (tgt := 156) hx hb dX0_doPlainAction_134 (by decide) ?_
    refine lv_aload_n hx hb dX0_doPlainAction_156 rfl (lv_at hl 1 rfl) ?_
    refine kr_callVv (As := []) (rest := []) ⟨hx, hb, hml, hown, hts⟩ (c_wRunOn l D gc ad ln (m_wPut iv mi t (8 + (r_wOperand iv mi t))) lv mi t hmi ht) (cwV 0 hts (goodV (fun _ h => tcons h) tw_337 tw_338 tw_339 tw_4 tw_340) rfl rfl rfl (by decide +kernel) ⟨Nat.le_of_ble_eq_true rfl, Nat.le_of_ble_eq_true rfl⟩) (kr_recv hK hP (20 + 4 * mi + t) (by omega) (E_wk (mi := mi) (t := t) hmi ht _ _ _ _) rfl) hK hP hD hS hA rfl hl.1 rfl (Nat.le_of_ble_eq_true rfl) dX0_doPlainAction_157 ⟨Nat.le_of_ble_eq_true rfl, Nat.le_of_ble_eq_true rfl⟩ (fun H locs hP hD hS => ?_)
    exact kr_vret hx hb hr hlocks hK hP hD hS (by unfold m_aPlain; rw [if_neg c_1, if_neg c_2, if_neg c_5, if_neg c_6, if_neg c_8, if_pos c_10]) dX0_doPlainAction_160
  by_cases c_11 : (r_wAction iv mi t) = 12
  · refine lv_tableIn (tgt := 137) (off := 133) hx hb dX0_doPlainAction_4 (by rw [c_11]; decide) (by rw [c_11]; decide) (by rw [c_11]; decide) (by decide) ?_
    refine lv_aload_n hx hb dX0_doPlainAction_137 rfl (lv_at hl 1 rfl) ?_
    refine lv_aload_n hx hb dX0_doPlainAction_138 rfl (lv_at hl 1 rfl) ?_
    refine kr_callVi (As := []) (rest := [.ref (ad (20 + 4 * mi + t))]) ⟨hx, hb, hml, hown, hts⟩ (c_wTakeInt l D gc ad ln iv lv mi t hmi ht hz) (cwV 0 hts (goodV (fun _ h => tcons h) tw_324 tw_325 tw_326 tw_4 tw_327) rfl rfl rfl (by decide +kernel) ⟨Nat.le_of_ble_eq_true rfl, Nat.le_of_ble_eq_true rfl⟩) (kr_recv hK hP (20 + 4 * mi + t) (by omega) (E_wk (mi := mi) (t := t) hmi ht _ _ _ _) rfl) hK hP hD hS hA rfl hl.1 rfl (Nat.le_of_ble_eq_true rfl) dX0_doPlainAction_139 ⟨Nat.le_of_ble_eq_true rfl, Nat.le_of_ble_eq_true rfl⟩ (fun H locs hP hD hS => ?_)
    refine kr_tern (M := 150) (cnd := (r_wTakeInt iv mi t) = 0) (a := 5) (b := 4) (rest := [.ref (ad (20 + 4 * mi + t))]) (fun ja jb => ?_) ?_
    · refine lv_if_eq (tgt := 149) hx hb dX0_doPlainAction_142 (by decide) (fun c_12 => ?_) (fun c_12 => ?_)
      · refine lv_iconst (v := 5) hx hb dX0_doPlainAction_149 (by decide) ?_
        exact ja c_12
      · refine lv_iconst (v := 4) hx hb dX0_doPlainAction_145 (by decide) ?_
        refine lv_goto (tgt := 150) hx hb dX0_doPlainAction_146 (by decide) ?_
        exact jb c_12
    refine kr_callVv (As := [.int (if (r_wTakeInt iv mi t) = 0 then (5 : Int32) else 4)]) (rest := []) ⟨hx, hb, hml, hown, hts⟩ (c_wPut l D gc ad ln (m_wTakeInt iv mi t) lv mi t hmi ht (if (r_wTakeInt iv mi t) = 0 then (5 : Int32) else 4)) (cwV 1 hts (goodV (fun _ h => tcons h) tw_304 tw_305 tw_306 tw_4 tw_307) rfl rfl rfl (by decide +kernel) ⟨Nat.le_of_ble_eq_true rfl, Nat.le_of_ble_eq_true rfl⟩) (kr_recv hK hP (20 + 4 * mi + t) (by omega) (E_wk (mi := mi) (t := t) hmi ht _ _ _ _) rfl) hK hP hD hS hA rfl hl.1 rfl (Nat.le_of_ble_eq_true rfl) dX0_doPlainAction_150 ⟨Nat.le_of_ble_eq_true rfl, Nat.le_of_ble_eq_true rfl⟩ (fun H locs hP hD hS => ?_)
    refine lv_goto (tgt := 156) hx hb dX0_doPlainAction_153 (by decide) ?_
    refine lv_aload_n hx hb dX0_doPlainAction_156 rfl (lv_at hl 1 rfl) ?_
    refine kr_callVv (As := []) (rest := []) ⟨hx, hb, hml, hown, hts⟩ (c_wRunOn l D gc ad ln (m_wPut (m_wTakeInt iv mi t) mi t (if (r_wTakeInt iv mi t) = 0 then (5 : Int32) else 4)) lv mi t hmi ht) (cwV 0 hts (goodV (fun _ h => tcons h) tw_337 tw_338 tw_339 tw_4 tw_340) rfl rfl rfl (by decide +kernel) ⟨Nat.le_of_ble_eq_true rfl, Nat.le_of_ble_eq_true rfl⟩) (kr_recv hK hP (20 + 4 * mi + t) (by omega) (E_wk (mi := mi) (t := t) hmi ht _ _ _ _) rfl) hK hP hD hS hA rfl hl.1 rfl (Nat.le_of_ble_eq_true rfl) dX0_doPlainAction_157 ⟨Nat.le_of_ble_eq_true rfl, Nat.le_of_ble_eq_true rfl⟩ (fun H locs hP hD hS => ?_)
    exact kr_vret hx hb hr hlocks hK hP hD hS (by unfold m_aPlain; rw [if_neg c_1, if_neg c_2, if_neg c_5, if_neg c_6, if_neg c_8, if_neg c_10, if_pos c_11]) dX0_doPlainAction_160
  refine lv_tableOut (tgt := 156) hx hb dX0_doPlainAction_4 (sw_6_12 c_1 c_2 c_5 c_6 c_8 c_10 c_11) (by decide) ?_
  refine lv_aload_n hx hb dX0_doPlainAction_156 rfl (lv_at hl 1 rfl) ?_
  refine kr_callVv (As := []) (rest := []) ⟨hx, hb, hml, hown, hts⟩ (c_wRunOn l D gc ad ln iv lv mi t hmi ht) (cwV 0 hts (goodV (fun _ h => tcons h) tw_337 tw_338 tw_339 tw_4 tw_340) rfl rfl rfl (by decide +kernel) ⟨Nat.le_of_ble_eq_true rfl, Nat.le_of_ble_eq_true rfl⟩) (kr_recv hK hP (20 + 4 * mi + t) (by omega) (E_wk (mi := mi) (t := t) hmi ht _ _ _ _) rfl) hK hP hD hS hA rfl hl.1 rfl (Nat.le_of_ble_eq_true rfl) dX0_doPlainAction_157 ⟨Nat.le_of_ble_eq_true rfl, Nat.le_of_ble_eq_true rfl⟩ (fun H locs hP hD hS => ?_)
  exact kr_vret hx hb hr hlocks hK hP hD hS (by unfold m_aPlain; rw [if_neg c_1, if_neg c_2, if_neg c_5, if_neg c_6, if_neg c_8, if_neg c_10, if_neg c_11]) dX0_doPlainAction_160
end
section
theorem dropL_row {c a : Nat} {x : Int32} {sz : Nat} (h : a ≠ c) : ∀ (k lf : Nat) (iv : Nat → Nat → Int32), (dropL c x sz k lf iv).1 a = iv a
  | 0, _, _ => rfl
  | k + 1, lf, iv => by
    rw [dropL]
    split
    · exact dropL_row h k lf iv
    · rw [dropL_row h k (lf + 1) _, up2_c h]
theorem dropL_ok {P : Int32 → Prop} {c : Nat} {x : Int32} {sz : Nat} : ∀ (k lf : Nat) (iv : Nat → Nat → Int32), lf + k ≤ sz → (∀ j, j < lf → P (iv c j)) → (∀ j, sz - k ≤ j → j < sz → P (iv c j)) → (dropL c x sz k lf iv).2 ≤ lf + k ∧ ∀ j, j < (dropL c x sz k lf iv).2 → P ((dropL c x sz k lf iv).1 c j)
  | 0, lf, iv => fun _ h1 _ => ⟨Nat.le_refl _, h1⟩
  | k + 1, lf, iv => by
    intro hk h1 h2
    rw [dropL]
    split
    · obtain ⟨a, b⟩ := dropL_ok (P := P) (c := c) (x := x) (sz := sz) k lf iv (by omega) h1 (fun j q1 q2 => h2 j (by omega) q2)
      exact ⟨by omega, b⟩
    · obtain ⟨a, b⟩ := dropL_ok (P := P) (c := c) (x := x) (sz := sz) k (lf + 1) (up2 iv c lf (iv c (sz - (k + 1)))) (by omega) (fun j q1 => by
        by_cases hj : j = lf
        · rw [hj, up2_s]; exact h2 _ (by omega) (by omega)
        · rw [up2_k hj]; exact h1 j (by omega)) (fun j q1 q2 => by rw [up2_k (by omega)]; exact h2 j (by omega) q2)
      exact ⟨by omega, b⟩
/-- the set of monitor mm holds threads -/
def okS (iv : Nat → Nat → Int32) (mi mm : Nat) : Prop := vp_in (iv (28 + 2 * mi + mm) 2) 5 ∧ ∀ j, j < (iv (28 + 2 * mi + mm) 2).toNatClampNeg → vp_in (iv (32 + 2 * mi + mm) j) 4
theorem vn_eq {x : Int32} {N : Nat} (h : vp_in x N) : x = nI x.toNatClampNeg := by
  obtain ⟨j, hj, rfl⟩ := nI_of (fun q => h (Or.inl q))
  rw [nI_clamp hj]
theorem okS_of {iv : Nat → Nat → Int32} {mi mm sz : Nat} (hsz : iv (28 + 2 * mi + mm) 2 = nI sz) (hs4 : sz ≤ 4) (hent : ∀ j, j < sz → vp_in (iv (32 + 2 * mi + mm) j) 4) : okS iv mi mm := by
  refine ⟨by rw [hsz]; exact vp_in_nI (by omega) (by decide), fun j hj => ?_⟩
  rw [hsz, nI_clamp (by omega)] at hj
  exact hent j hj
theorem okS_notify {iv : Nat → Nat → Int32} {mi mm : Nat} {k : Int32} (hmi : mi < 2) (hmm : mm < 2) (h : okS iv mi mm) : okS (m_aNotify iv mi mm k (iv (28 + 2 * mi + mm) 2).toNatClampNeg) mi mm := by
  have hsz := vn_eq h.1
  have hs5 := vn_lt h.1
  generalize hn : (iv (28 + 2 * mi + mm) 2).toNatClampNeg = sz at *
  unfold m_aNotify
  by_cases hr : r_mWaiter iv mi mm k = -1
  · rw [if_pos hr]; exact okS_of hsz (by omega) (fun j hj => h.2 j (by rw [hn]; exact hj))
  · rw [if_neg hr]
    have hv := vn_lt (hv_of hsz (by omega) (fun j hj => h.2 j (by rw [hn]; exact hj)) hr)
    obtain ⟨a, b⟩ := dropL_ok (P := fun x => vp_in x 4) (c := 32 + 2 * mi + mm) (x := r_mWaiter iv mi mm k) (sz := sz) sz 0 iv (by omega) (fun j h => absurd h (Nat.not_lt_zero _)) (fun j _ q => h.2 j (by rw [hn]; exact q))
    refine okS_of (sz := (dropL (32 + 2 * mi + mm) (r_mWaiter iv mi mm k) sz sz 0 iv).2) ?_ (by omega) (fun j hj => ?_)
    · rw [up2_ne (by omega)]; unfold m_wPut; rw [up2_ne (by omega)]; unfold m_mDrop; rw [up2_s]
    · rw [up2_ne (by omega)]; unfold m_wPut; rw [up2_ne (by omega)]; unfold m_mDrop; rw [up2_ne (by omega)]; exact b j hj
/-- NOTIFY ALL: k times the first one -/
def nAll (mi mm : Nat) : Nat → (Nat → Nat → Int32) → Nat → Nat → Int32
  | 0, iv => iv
  | k + 1, iv => nAll mi mm k (m_aNotify iv mi mm 0 (iv (28 + 2 * mi + mm) 2).toNatClampNeg)
theorem nAll_s {mi mm k : Nat} {iv : Nat → Nat → Int32} (h : 0 < k) : nAll mi mm (k - 1) (m_aNotify iv mi mm 0 (iv (28 + 2 * mi + mm) 2).toNatClampNeg) = nAll mi mm k iv := by
  obtain ⟨j, rfl⟩ : ∃ j, k = j + 1 := ⟨k - 1, by omega⟩
  rfl
theorem gt0_of {k : Nat} (hk : k < 2 ^ 31) (h : ¬ nI k ≤ 0) : 0 < k := by
  rcases Nat.eq_zero_or_pos k with rfl | h1
  · exact absurd (Int32.le_refl 0) h
  · exact h1
theorem eq0_of {k : Nat} (hk : k < 2 ^ 31) (h : nI k ≤ 0) : k = 0 := by
  rcases Nat.eq_zero_or_pos k with h1 | h1
  · exact h1
  · exact absurd h (nI_nle h1 hk)
def m_aUse (iv : Nat → Nat → Int32) (mi t mm : Nat) (way : Int32) (sz : Nat) : Nat → Nat → Int32 := if (r_wAction iv mi t) = 0 then (m_wRunOn (m_mOwn iv mi mm (nI t) ((iv (28 + 2 * mi + mm) 1) + 1)) mi t) else if iv (28 + 2 * mi + mm) 0 = nI t then if (r_wAction iv mi t) = 1 then (m_wRunOn (m_mLeave iv mi mm) mi t) else if (r_wAction iv mi t) = 4 then if way = 1 then (m_wRunOn (m_aNotify iv mi mm 0 sz) mi t) else (m_wRunOn (m_aNotify iv mi mm ((nI sz) - 1) sz) mi t) else if (r_wAction iv mi t) = 5 then (m_wRunOn (nAll mi mm sz iv) mi t) else if (r_wTakeInt iv mi t) = 0 then (m_aInto (m_wTakeInt iv mi t) mi t mm sz) else (m_wRunOn (m_wPut (m_wTakeInt iv mi t) mi t 1) mi t) else (m_wRunOn (m_wPut iv mi t 0) mi t)
set_option maxHeartbeats 4000000 in
set_option maxRecDepth 100000 in
theorem c_aUse (l : Launch) (D : va_G) (gc : Nat → ClassId) (ad ln : Nat → Nat) (iv : Nat → Nat → Int32) (lv : Nat → Nat → Int64) (mi t mm : Nat) (hmi : mi < 2) (ht : t < 4) (hmm : mm < 2) (way : Int32) (hpl : vp_in (iv (20 + 4 * mi + t) 1) 6) (hop : r_wOperand iv mi t = nI mm) (sz : Nat) (hsz : iv (28 + 2 * mi + mm) 2 = nI sz) (hs4 : sz ≤ 4) (hent : ∀ j, j < sz → vp_in (iv (32 + 2 * mi + mm) j) 4) (hz : narrow .boolean (.int (iv (20 + 4 * mi + t) 3)) = .int (iv (20 + 4 * mi + t) 3)) : kMv l yX0_useMonitor wX0_useMonitor ({ frames := 2, cells := 0, slots := 0, locals := 46 }) D vwCl (kT gc) 42 (kE gc) [.ref (ad (14 + mi)), .int (nI t), .int way] (ad, ln, iv, lv) (ad, ln, m_aUse iv mi t mm way sz, lv) := by
  refine kv_start (cc := cX0_useMonitor) (maxL := 7) (by decide) rfl (Nat.le_of_ble_eq_true rfl) ?_
  intro p9 e9 s m9 below meth c9 A ls hx hb hr hts hown hlocks hml hA hK hP hD hS hl
  have hl : lv_has ls 7 [(0, .ref (ad (14 + mi))), (1, .int (nI t)), (2, .int way)] := hl
  have hown : s.vm.findClass "MonitorWays$Machine" = some m9.cls := hown
  have hin_X0 : ∀ w ∈ u_ws "MonitorWays$Machine" TX0 3, w ∈ wX0_useMonitor := fun w h => tcons (inX0 w h)
  have hin_X1 : ∀ w ∈ u_ws "MonitorWays$Monitor" TX1 4, w ∈ wX0_useMonitor := fun w h => tcons (inX1 w h)
  have lk_f11 := hts _ (tcons tw_126)
  have lk_f70 := hts _ (tcons tw_93)
  have lk_f73 := hts _ (tcons tw_99)
  have lk_f105 := hts _ (tcons tw_97)
  refine lv_aload_n hx hb dX0_useMonitor_0 rfl (lv_at hl 0 rfl) ?_
  refine kr_get (C := "MonitorWays$Machine") (T := TX0) (N := 3) hx hb hts hin_X0 hown hK hP (14 + mi) (by omega) (E_mach hmi _ _ _ _) rfl 0 (by decide) lk_f11 (fun _ h9 => h9) rfl dX0_useMonitor_1 ?_
  refine lv_iload_n hx hb dX0_useMonitor_4 rfl (lv_at hl 1 rfl) ?_
  refine kr_aald (a := ad (20 + 4 * mi + t)) hx hb hK hP (16 + mi) 4 (by omega) (E_warr hmi _ _ _ _) rfl (vp_in_nI (n := t) (by omega) (by decide)) (by rw [nI_clamp (show t < 2 ^ 31 by omega)]) dX0_useMonitor_5 ?_
  refine lv_astore_n (lv' := [(3, .ref (ad (20 + 4 * mi + t))), (0, .ref (ad (14 + mi))), (1, .int (nI t)), (2, .int way)]) hx hb dX0_useMonitor_6 rfl hl (by decide) rfl (fun ls hl => ?_)
  refine lv_aload_n hx hb dX0_useMonitor_7 rfl (lv_at hl 1 rfl) ?_
  refine lv_aload_n hx hb dX0_useMonitor_8 rfl (lv_at hl 0 rfl) ?_
  refine kr_callVr (As := [.ref (ad (20 + 4 * mi + t))]) (rest := []) ⟨hx, hb, hml, hown, hts⟩ (c_aMonOf l D gc ad ln iv lv mi t mm hmi (by omega) hmm hpl hop) (cwV 1 hts (goodV (fun _ h => tcons h) tw_264 tw_266 ts_2 tw_3 tw_267) rfl rfl rfl (by decide +kernel) ⟨Nat.le_of_ble_eq_true rfl, Nat.le_of_ble_eq_true rfl⟩) (kr_recv hK hP (14 + mi) (by omega) (E_mach hmi _ _ _ _) rfl) hK hP hD hS hA rfl hl.1 rfl (Nat.le_of_ble_eq_true rfl) dX0_useMonitor_9 ⟨Nat.le_of_ble_eq_true rfl, Nat.le_of_ble_eq_true rfl⟩ (fun H locs hP hD hS => ?_)
  refine lv_astore (lv' := [(4, .ref (ad (28 + 2 * mi + mm))), (3, .ref (ad (20 + 4 * mi + t))), (0, .ref (ad (14 + mi))), (1, .int (nI t)), (2, .int way)]) hx hb dX0_useMonitor_12 hl (by decide) rfl (fun ls hl => ?_)
  refine lv_aload_n hx hb dX0_useMonitor_14 rfl (lv_at hl 1 rfl) ?_
  refine kr_callVi (As := []) (rest := []) ⟨hx, hb, hml, hown, hts⟩ (c_wAction l D gc ad ln iv lv mi t hmi (by omega) hpl) (cwV 0 hts (goodV (fun _ h => tcons h) tw_256 tw_257 tw_258 tw_4 tw_259) rfl rfl rfl (by decide +kernel) ⟨Nat.le_of_ble_eq_true rfl, Nat.le_of_ble_eq_true rfl⟩) (kr_recv hK hP (20 + 4 * mi + t) (by omega) (E_wk (mi := mi) (t := t) hmi (by omega) _ _ _ _) rfl) hK hP hD hS hA rfl hl.1 rfl (Nat.le_of_ble_eq_true rfl) dX0_useMonitor_15 ⟨Nat.le_of_ble_eq_true rfl, Nat.le_of_ble_eq_true rfl⟩ (fun H locs hP hD hS => ?_)
  refine lv_istore (lv' := [(5, .int (r_wAction iv mi t)), (4, .ref (ad (28 + 2 * mi + mm))), (3, .ref (ad (20 + 4 * mi + t))), (0, .ref (ad (14 + mi))), (1, .int (nI t)), (2, .int way)]) hx hb dX0_useMonitor_18 hl (by decide) rfl (fun ls hl => ?_)
  refine lv_iload hx hb dX0_useMonitor_20 (lv_at hl 0 rfl) ?_
  refine lv_if_ne (tgt := 41) hx hb dX0_useMonitor_22 (by decide) (fun c_1 => ?_) (fun c_1 => ?_)
  · refine lv_aload hx hb dX0_useMonitor_41 (lv_at hl 1 rfl) ?_
    refine kr_get (C := "MonitorWays$Monitor") (T := TX1) (N := 4) hx hb hts hin_X1 hown hK hP (28 + 2 * mi + mm) (by omega) (E_mon (mi := mi) (m := mm) hmi hmm _ _ _ _) rfl 0 (by decide) lk_f70 (fun _ h9 => h9) rfl dX0_useMonitor_43 ?_
    refine lv_iload_n hx hb dX0_useMonitor_46 rfl (lv_at hl 4 rfl) ?_
    refine lv_icmp_eq (tgt := 58) hx hb dX0_useMonitor_47 (by decide) (fun c_2 => ?_) (fun c_2 => ?_)
    · refine lv_iload hx hb dX0_useMonitor_58 (lv_at hl 0 rfl) ?_
      refine lv_iconst (v := 1) hx hb dX0_useMonitor_60 (by decide) ?_
      refine lv_icmp_ne (tgt := 72) hx hb dX0_useMonitor_61 (by decide) (fun c_3 => ?_) (fun c_3 => ?_)
      · refine lv_iload hx hb dX0_useMonitor_72 (lv_at hl 0 rfl) ?_
        refine lv_iconst (v := 4) hx hb dX0_useMonitor_74 (by decide) ?_
        refine lv_icmp_ne (tgt := 103) hx hb dX0_useMonitor_75 (by decide) (fun c_4 => ?_) (fun c_4 => ?_)
        · refine lv_iload hx hb dX0_useMonitor_103 (lv_at hl 0 rfl) ?_
          refine lv_iconst (v := 5) hx hb dX0_useMonitor_105 (by decide) ?_
          refine lv_icmp_ne (tgt := 137) hx hb dX0_useMonitor_106 (by decide) (fun c_5 => ?_) (fun c_5 => ?_)
          · refine lv_aload_n hx hb dX0_useMonitor_137 rfl (lv_at hl 2 rfl) ?_
            refine kr_callVi (As := []) (rest := []) ⟨hx, hb, hml, hown, hts⟩ (c_wTakeInt l D gc ad ln iv lv mi t hmi (by omega) hz) (cwV 0 hts (goodV (fun _ h => tcons h) tw_324 tw_325 tw_326 tw_4 tw_327) rfl rfl rfl (by decide +kernel) ⟨Nat.le_of_ble_eq_true rfl, Nat.le_of_ble_eq_true rfl⟩) (kr_recv hK hP (20 + 4 * mi + t) (by omega) (E_wk (mi := mi) (t := t) hmi (by omega) _ _ _ _) rfl) hK hP hD hS hA rfl hl.1 rfl (Nat.le_of_ble_eq_true rfl) dX0_useMonitor_138 ⟨Nat.le_of_ble_eq_true rfl, Nat.le_of_ble_eq_true rfl⟩ (fun H locs hP hD hS => ?_)
            refine lv_if_eq (tgt := 152) hx hb dX0_useMonitor_141 (by decide) (fun c_6 => ?_) (fun c_6 => ?_)
            · refine lv_aload_n hx hb dX0_useMonitor_152 rfl (lv_at hl 3 rfl) ?_
              refine lv_iload_n hx hb dX0_useMonitor_153 rfl (lv_at hl 4 rfl) ?_
              refine lv_aload hx hb dX0_useMonitor_154 (lv_at hl 1 rfl) ?_
              refine kr_callVv (As := [.int (nI t), .ref (ad (28 + 2 * mi + mm))]) (rest := []) ⟨hx, hb, hml, hown, hts⟩ (c_aInto l D gc ad ln (m_wTakeInt iv mi t) lv mi t mm hmi (by omega) hmm sz (by unfold m_wTakeInt; rw [up2_ne (by omega)]; exact hsz) hs4) (cwV 2 hts (goodV (fun _ h => tcons h) tw_328 tw_330 ts_8 tw_3 tw_331) rfl rfl rfl (by decide +kernel) ⟨Nat.le_of_ble_eq_true rfl, Nat.le_of_ble_eq_true rfl⟩) (kr_recv hK hP (14 + mi) (by omega) (E_mach hmi _ _ _ _) rfl) hK hP hD hS hA rfl hl.1 rfl (Nat.le_of_ble_eq_true rfl) dX0_useMonitor_156 ⟨Nat.le_of_ble_eq_true rfl, Nat.le_of_ble_eq_true rfl⟩ (fun H locs hP hD hS => ?_)
              exact kr_vret hx hb hr hlocks hK hP hD hS (by unfold m_aUse; rw [if_neg c_1, if_pos c_2, if_neg c_3, if_neg c_4, if_neg c_5, if_pos c_6]) dX0_useMonitor_159
            · refine lv_aload_n hx hb dX0_useMonitor_144 rfl (lv_at hl 2 rfl) ?_
              refine lv_iconst (v := 1) hx hb dX0_useMonitor_145 (by decide) ?_
              refine kr_callVv (As := [.int 1]) (rest := []) ⟨hx, hb, hml, hown, hts⟩ (c_wPut l D gc ad ln (m_wTakeInt iv mi t) lv mi t hmi (by omega) 1) (cwV 1 hts (goodV (fun _ h => tcons h) tw_304 tw_305 tw_306 tw_4 tw_307) rfl rfl rfl (by decide +kernel) ⟨Nat.le_of_ble_eq_true rfl, Nat.le_of_ble_eq_true rfl⟩) (kr_recv hK hP (20 + 4 * mi + t) (by omega) (E_wk (mi := mi) (t := t) hmi (by omega) _ _ _ _) rfl) hK hP hD hS hA rfl hl.1 rfl (Nat.le_of_ble_eq_true rfl) dX0_useMonitor_146 ⟨Nat.le_of_ble_eq_true rfl, Nat.le_of_ble_eq_true rfl⟩ (fun H locs hP hD hS => ?_)
              refine lv_goto (tgt := 160) hx hb dX0_useMonitor_149 (by decide) ?_
              refine lv_aload_n hx hb dX0_useMonitor_160 rfl (lv_at hl 2 rfl) ?_
              refine kr_callVv (As := []) (rest := []) ⟨hx, hb, hml, hown, hts⟩ (c_wRunOn l D gc ad ln (m_wPut (m_wTakeInt iv mi t) mi t 1) lv mi t hmi (by omega)) (cwV 0 hts (goodV (fun _ h => tcons h) tw_337 tw_338 tw_339 tw_4 tw_340) rfl rfl rfl (by decide +kernel) ⟨Nat.le_of_ble_eq_true rfl, Nat.le_of_ble_eq_true rfl⟩) (kr_recv hK hP (20 + 4 * mi + t) (by omega) (E_wk (mi := mi) (t := t) hmi (by omega) _ _ _ _) rfl) hK hP hD hS hA rfl hl.1 rfl (Nat.le_of_ble_eq_true rfl) dX0_useMonitor_161 ⟨Nat.le_of_ble_eq_true rfl, Nat.le_of_ble_eq_true rfl⟩ (fun H locs hP hD hS => ?_)
              exact kr_vret hx hb hr hlocks hK hP hD hS (by unfold m_aUse; rw [if_neg c_1, if_pos c_2, if_neg c_3, if_neg c_4, if_neg c_5, if_neg c_6]) dX0_useMonitor_164
          · refine lv_aload hx hb dX0_useMonitor_109 (lv_at hl 1 rfl) ?_
            refine kr_get (C := "MonitorWays$Monitor") (T := TX1) (N := 4) hx hb hts hin_X1 hown hK hP (28 + 2 * mi + mm) (by omega) (E_mon (mi := mi) (m := mm) hmi hmm _ _ _ _) rfl 2 (by decide) lk_f73 (fun _ h9 => h9) rfl dX0_useMonitor_111 ?_
            refine kr_topi (y := nI sz) hsz ?_
            refine lv_istore (lv' := [(6, .int (nI sz)), (5, .int (r_wAction iv mi t)), (4, .ref (ad (28 + 2 * mi + mm))), (3, .ref (ad (20 + 4 * mi + t))), (0, .ref (ad (14 + mi))), (1, .int (nI t)), (2, .int way)]) hx hb dX0_useMonitor_114 hl (by decide) rfl (fun ls hl => ?_)
            refine kr_loop (σ := Nat × ((Nat → Nat → Int32))) (fun z9 => match z9 with | (lf, ivk) => lf) (fun z9 H locs ls => match z9 with | (lf, ivk) => (lf ≤ 4) ∧ (okS ivk mi mm) ∧ (nAll mi mm lf ivk = nAll mi mm sz iv) ∧ va_P D vwCl (mW 42 (kE gc) (ad, ln, ivk, lv)) H ∧ va_D A (mW 42 (kE gc) (ad, ln, ivk, lv)) ∧ va_S A s.heap H locs ∧ lv_has ls 7 [(0, .ref (ad (14 + mi))), (1, .int (nI t)), (2, .int way), (3, .ref (ad (20 + 4 * mi + t))), (4, .ref (ad (28 + 2 * mi + mm))), (5, .int (r_wAction iv mi t)), (6, .int (nI lf))]) 116 (sz, iv) ⟨hs4, (okS_of hsz hs4 hent), rfl, hP, hD, hS, lv_sub hl [4, 5, 6, 3, 2, 1, 0] rfl⟩ ?_
            intro z9 H locs ls hI ih
            obtain ⟨lf, ivk⟩ := z9
            obtain ⟨hlf, hok, heq, hP, hD, hS, hl⟩ := hI
            refine lv_iload hx hb dX0_useMonitor_116 (lv_at hl 6 rfl) ?_
            refine lv_if_le (tgt := 134) hx hb dX0_useMonitor_118 (by decide) (fun c_7 => ?_) (fun c_7 => ?_)
            · have hl0 := eq0_of (by omega) c_7
              subst hl0
              have hke : ivk = nAll mi mm sz iv := heq
              subst hke
              refine lv_goto (tgt := 160) hx hb dX0_useMonitor_134 (by decide) ?_
              refine lv_aload_n hx hb dX0_useMonitor_160 rfl (lv_at hl 3 rfl) ?_
              refine kr_callVv (As := []) (rest := []) ⟨hx, hb, hml, hown, hts⟩ (c_wRunOn l D gc ad ln (nAll mi mm sz iv) lv mi t hmi (by omega)) (cwV 0 hts (goodV (fun _ h => tcons h) tw_337 tw_338 tw_339 tw_4 tw_340) rfl rfl rfl (by decide +kernel) ⟨Nat.le_of_ble_eq_true rfl, Nat.le_of_ble_eq_true rfl⟩) (kr_recv hK hP (20 + 4 * mi + t) (by omega) (E_wk (mi := mi) (t := t) hmi (by omega) _ _ _ _) rfl) hK hP hD hS hA rfl hl.1 rfl (Nat.le_of_ble_eq_true rfl) dX0_useMonitor_161 ⟨Nat.le_of_ble_eq_true rfl, Nat.le_of_ble_eq_true rfl⟩ (fun H locs hP hD hS => ?_)
              exact kr_vret hx hb hr hlocks hK hP hD hS (by unfold m_aUse; rw [if_neg c_1, if_pos c_2, if_neg c_3, if_neg c_4, if_pos c_5]) dX0_useMonitor_164
            · have hpos := gt0_of (by omega) c_7
              refine lv_aload_n hx hb dX0_useMonitor_121 rfl (lv_at hl 0 rfl) ?_
              refine lv_aload hx hb dX0_useMonitor_122 (lv_at hl 4 rfl) ?_
              refine lv_iconst (v := 0) hx hb dX0_useMonitor_124 (by decide) ?_
              refine kr_callVv (As := [.ref (ad (28 + 2 * mi + mm)), .int 0]) (rest := []) ⟨hx, hb, hml, hown, hts⟩ (c_aNotify l D gc ad ln ivk lv mi mm hmi hmm 0 ((ivk (28 + 2 * mi + mm) 2).toNatClampNeg) (vn_eq hok.1) (Nat.le_of_lt_succ (vn_lt hok.1)) hok.2) (cwV 2 hts (goodV (fun _ h => tcons h) tw_312 tw_314 ts_7 tw_3 tw_315) rfl rfl rfl (by decide +kernel) ⟨Nat.le_of_ble_eq_true rfl, Nat.le_of_ble_eq_true rfl⟩) (kr_recv hK hP (14 + mi) (by omega) (E_mach hmi _ _ _ _) rfl) hK hP hD hS hA rfl hl.1 rfl (Nat.le_of_ble_eq_true rfl) dX0_useMonitor_125 ⟨Nat.le_of_ble_eq_true rfl, Nat.le_of_ble_eq_true rfl⟩ (fun H locs hP hD hS => ?_)
              refine lv_iinc (v := nI (lf - 1)) (lv' := [(6, .int (nI (lf - 1))), (0, .ref (ad (14 + mi))), (1, .int (nI t)), (2, .int way), (3, .ref (ad (20 + 4 * mi + t))), (4, .ref (ad (28 + 2 * mi + mm))), (5, .int (r_wAction iv mi t))]) hx hb dX0_useMonitor_128 hl (k := 6) rfl (sb_m1 hpos) (by decide) rfl (fun ls hl => ?_)
              refine lv_goto (tgt := 116) hx hb dX0_useMonitor_131 (by decide) ?_
              exact ih (lf - 1, (m_aNotify ivk mi mm 0 (ivk (28 + 2 * mi + mm) 2).toNatClampNeg)) H locs ls ⟨by omega, (okS_notify hmi hmm hok), (nAll_s hpos).trans heq, hP, hD, hS, lv_sub hl [1, 2, 3, 4, 5, 6, 0] rfl⟩ (by show (lf - 1) < lf; omega)
        · refine lv_aload_n hx hb dX0_useMonitor_78 rfl (lv_at hl 3 rfl) ?_
          refine lv_aload hx hb dX0_useMonitor_79 (lv_at hl 1 rfl) ?_
          refine lv_iload_n hx hb dX0_useMonitor_81 rfl (lv_at hl 5 rfl) ?_
          refine lv_iconst (v := 1) hx hb dX0_useMonitor_82 (by decide) ?_
          refine lv_icmp_ne (tgt := 90) hx hb dX0_useMonitor_83 (by decide) (fun c_8 => ?_) (fun c_8 => ?_)
          · refine lv_aload hx hb dX0_useMonitor_90 (lv_at hl 1 rfl) ?_
            refine kr_get (C := "MonitorWays$Monitor") (T := TX1) (N := 4) hx hb hts hin_X1 hown hK hP (28 + 2 * mi + mm) (by omega) (E_mon (mi := mi) (m := mm) hmi hmm _ _ _ _) rfl 2 (by decide) lk_f73 (fun _ h9 => h9) rfl dX0_useMonitor_92 ?_
            refine kr_topi (y := nI sz) hsz ?_
            refine lv_iconst (v := 1) hx hb dX0_useMonitor_95 (by decide) ?_
            refine lv_isub hx hb dX0_useMonitor_96 ?_
            refine kr_callVv (As := [.ref (ad (28 + 2 * mi + mm)), .int ((nI sz) - 1)]) (rest := []) ⟨hx, hb, hml, hown, hts⟩ (c_aNotify l D gc ad ln iv lv mi mm hmi hmm ((nI sz) - 1) sz hsz hs4 hent) (cwV 2 hts (goodV (fun _ h => tcons h) tw_312 tw_314 ts_7 tw_3 tw_315) rfl rfl rfl (by decide +kernel) ⟨Nat.le_of_ble_eq_true rfl, Nat.le_of_ble_eq_true rfl⟩) (kr_recv hK hP (14 + mi) (by omega) (E_mach hmi _ _ _ _) rfl) hK hP hD hS hA rfl hl.1 rfl (Nat.le_of_ble_eq_true rfl) dX0_useMonitor_97 ⟨Nat.le_of_ble_eq_true rfl, Nat.le_of_ble_eq_true rfl⟩ (fun H locs hP hD hS => ?_)
            refine lv_goto (tgt := 160) hx hb dX0_useMonitor_100 (by decide) ?_
            refine lv_aload_n hx hb dX0_useMonitor_160 rfl (lv_at hl 2 rfl) ?_
            refine kr_callVv (As := []) (rest := []) ⟨hx, hb, hml, hown, hts⟩ (c_wRunOn l D gc ad ln (m_aNotify iv mi mm ((nI sz) - 1) sz) lv mi t hmi (by omega)) (cwV 0 hts (goodV (fun _ h => tcons h) tw_337 tw_338 tw_339 tw_4 tw_340) rfl rfl rfl (by decide +kernel) ⟨Nat.le_of_ble_eq_true rfl, Nat.le_of_ble_eq_true rfl⟩) (kr_recv hK hP (20 + 4 * mi + t) (by omega) (E_wk (mi := mi) (t := t) hmi (by omega) _ _ _ _) rfl) hK hP hD hS hA rfl hl.1 rfl (Nat.le_of_ble_eq_true rfl) dX0_useMonitor_161 ⟨Nat.le_of_ble_eq_true rfl, Nat.le_of_ble_eq_true rfl⟩ (fun H locs hP hD hS => ?_)
            exact kr_vret hx hb hr hlocks hK hP hD hS (by unfold m_aUse; rw [if_neg c_1, if_pos c_2, if_neg c_3, if_pos c_4, if_neg c_8]) dX0_useMonitor_164
          · refine lv_iconst (v := 0) hx hb dX0_useMonitor_86 (by decide) ?_
            refine lv_goto (tgt := 97) hx hb dX0_useMonitor_87 (by decide) ?_
            refine kr_callVv (As := [.ref (ad (28 + 2 * mi + mm)), .int 0]) (rest := []) ⟨hx, hb, hml, hown, hts⟩ (c_aNotify l D gc ad ln iv lv mi mm hmi hmm 0 sz hsz hs4 hent) (cwV 2 hts (goodV (fun _ h => tcons h) tw_312 tw_314 ts_7 tw_3 tw_315) rfl rfl rfl (by decide +kernel) ⟨Nat.le_of_ble_eq_true rfl, Nat.le_of_ble_eq_true rfl⟩) (kr_recv hK hP (14 + mi) (by omega) (E_mach hmi _ _ _ _) rfl) hK hP hD hS hA rfl hl.1 rfl (Nat.le_of_ble_eq_true rfl) dX0_useMonitor_97 ⟨Nat.le_of_ble_eq_true rfl, Nat.le_of_ble_eq_true rfl⟩ (fun H locs hP hD hS => ?_)
            refine lv_goto (tgt := 160) hx hb dX0_useMonitor_100 (by decide) ?_
            refine lv_aload_n hx hb dX0_useMonitor_160 rfl (lv_at hl 2 rfl) ?_
            refine kr_callVv (As := []) (rest := []) ⟨hx, hb, hml, hown, hts⟩ (c_wRunOn l D gc ad ln (m_aNotify iv mi mm 0 sz) lv mi t hmi (by omega)) (cwV 0 hts (goodV (fun _ h => tcons h) tw_337 tw_338 tw_339 tw_4 tw_340) rfl rfl rfl (by decide +kernel) ⟨Nat.le_of_ble_eq_true rfl, Nat.le_of_ble_eq_true rfl⟩) (kr_recv hK hP (20 + 4 * mi + t) (by omega) (E_wk (mi := mi) (t := t) hmi (by omega) _ _ _ _) rfl) hK hP hD hS hA rfl hl.1 rfl (Nat.le_of_ble_eq_true rfl) dX0_useMonitor_161 ⟨Nat.le_of_ble_eq_true rfl, Nat.le_of_ble_eq_true rfl⟩ (fun H locs hP hD hS => ?_)
            exact kr_vret hx hb hr hlocks hK hP hD hS (by unfold m_aUse; rw [if_neg c_1, if_pos c_2, if_neg c_3, if_pos c_4, if_pos c_8]) dX0_useMonitor_164
      · refine lv_aload hx hb dX0_useMonitor_64 (lv_at hl 1 rfl) ?_
        refine kr_callVv (As := []) (rest := []) ⟨hx, hb, hml, hown, hts⟩ (c_mLeave l D gc ad ln iv lv mi mm hmi hmm) (cwV 0 hts (goodV (fun _ h => tcons h) tw_308 tw_309 tw_310 tw_5 tw_311) rfl rfl rfl (by decide +kernel) ⟨Nat.le_of_ble_eq_true rfl, Nat.le_of_ble_eq_true rfl⟩) (kr_recv hK hP (28 + 2 * mi + mm) (by omega) (E_mon (mi := mi) (m := mm) hmi hmm _ _ _ _) rfl) hK hP hD hS hA rfl hl.1 rfl (Nat.le_of_ble_eq_true rfl) dX0_useMonitor_66 ⟨Nat.le_of_ble_eq_true rfl, Nat.le_of_ble_eq_true rfl⟩ (fun H locs hP hD hS => ?_)
        refine lv_goto (tgt := 160) hx hb dX0_useMonitor_69 (by decide) ?_
        refine lv_aload_n hx hb dX0_useMonitor_160 rfl (lv_at hl 2 rfl) ?_
        refine kr_callVv (As := []) (rest := []) ⟨hx, hb, hml, hown, hts⟩ (c_wRunOn l D gc ad ln (m_mLeave iv mi mm) lv mi t hmi (by omega)) (cwV 0 hts (goodV (fun _ h => tcons h) tw_337 tw_338 tw_339 tw_4 tw_340) rfl rfl rfl (by decide +kernel) ⟨Nat.le_of_ble_eq_true rfl, Nat.le_of_ble_eq_true rfl⟩) (kr_recv hK hP (20 + 4 * mi + t) (by omega) (E_wk (mi := mi) (t := t) hmi (by omega) _ _ _ _) rfl) hK hP hD hS hA rfl hl.1 rfl (Nat.le_of_ble_eq_true rfl) dX0_useMonitor_161 ⟨Nat.le_of_ble_eq_true rfl, Nat.le_of_ble_eq_true rfl⟩ (fun H locs hP hD hS => ?_)
        exact kr_vret hx hb hr hlocks hK hP hD hS (by unfold m_aUse; rw [if_neg c_1, if_pos c_2, if_pos c_3]) dX0_useMonitor_164
    · refine lv_aload_n hx hb dX0_useMonitor_50 rfl (lv_at hl 2 rfl) ?_
      refine lv_iconst (v := 0) hx hb dX0_useMonitor_51 (by decide) ?_
      refine kr_callVv (As := [.int 0]) (rest := []) ⟨hx, hb, hml, hown, hts⟩ (c_wPut l D gc ad ln iv lv mi t hmi (by omega) 0) (cwV 1 hts (goodV (fun _ h => tcons h) tw_304 tw_305 tw_306 tw_4 tw_307) rfl rfl rfl (by decide +kernel) ⟨Nat.le_of_ble_eq_true rfl, Nat.le_of_ble_eq_true rfl⟩) (kr_recv hK hP (20 + 4 * mi + t) (by omega) (E_wk (mi := mi) (t := t) hmi (by omega) _ _ _ _) rfl) hK hP hD hS hA rfl hl.1 rfl (Nat.le_of_ble_eq_true rfl) dX0_useMonitor_52 ⟨Nat.le_of_ble_eq_true rfl, Nat.le_of_ble_eq_true rfl⟩ (fun H locs hP hD hS => ?_)
      refine lv_goto (tgt := 160) hx hb dX0_useMonitor_55 (by decide) ?_
      refine lv_aload_n hx hb dX0_useMonitor_160 rfl (lv_at hl 2 rfl) ?_
      refine kr_callVv (As := []) (rest := []) ⟨hx, hb, hml, hown, hts⟩ (c_wRunOn l D gc ad ln (m_wPut iv mi t 0) lv mi t hmi (by omega)) (cwV 0 hts (goodV (fun _ h => tcons h) tw_337 tw_338 tw_339 tw_4 tw_340) rfl rfl rfl (by decide +kernel) ⟨Nat.le_of_ble_eq_true rfl, Nat.le_of_ble_eq_true rfl⟩) (kr_recv hK hP (20 + 4 * mi + t) (by omega) (E_wk (mi := mi) (t := t) hmi (by omega) _ _ _ _) rfl) hK hP hD hS hA rfl hl.1 rfl (Nat.le_of_ble_eq_true rfl) dX0_useMonitor_161 ⟨Nat.le_of_ble_eq_true rfl, Nat.le_of_ble_eq_true rfl⟩ (fun H locs hP hD hS => ?_)
      exact kr_vret hx hb hr hlocks hK hP hD hS (by unfold m_aUse; rw [if_neg c_1, if_neg c_2]) dX0_useMonitor_164
  · refine lv_aload hx hb dX0_useMonitor_25 (lv_at hl 1 rfl) ?_
    refine lv_iload_n hx hb dX0_useMonitor_27 rfl (lv_at hl 4 rfl) ?_
    refine lv_aload hx hb dX0_useMonitor_28 (lv_at hl 1 rfl) ?_
    refine kr_get (C := "MonitorWays$Monitor") (T := TX1) (N := 4) hx hb hts hin_X1 hown hK hP (28 + 2 * mi + mm) (by omega) (E_mon (mi := mi) (m := mm) hmi hmm _ _ _ _) rfl 1 (by decide) lk_f105 (fun _ h9 => h9) rfl dX0_useMonitor_30 ?_
    refine lv_iconst (v := 1) hx hb dX0_useMonitor_33 (by decide) ?_
    refine lv_iadd hx hb dX0_useMonitor_34 ?_
    refine kr_callVv (As := [.int (nI t), .int ((iv (28 + 2 * mi + mm) 1) + 1)]) (rest := []) ⟨hx, hb, hml, hown, hts⟩ (c_mOwn l D gc ad ln iv lv mi mm hmi hmm (nI t) ((iv (28 + 2 * mi + mm) 1) + 1)) (cwV 2 hts (goodV (fun _ h => tcons h) tw_300 tw_301 tw_302 tw_5 tw_303) rfl rfl rfl (by decide +kernel) ⟨Nat.le_of_ble_eq_true rfl, Nat.le_of_ble_eq_true rfl⟩) (kr_recv hK hP (28 + 2 * mi + mm) (by omega) (E_mon (mi := mi) (m := mm) hmi hmm _ _ _ _) rfl) hK hP hD hS hA rfl hl.1 rfl (Nat.le_of_ble_eq_true rfl) dX0_useMonitor_35 ⟨Nat.le_of_ble_eq_true rfl, Nat.le_of_ble_eq_true rfl⟩ (fun H locs hP hD hS => ?_)
    refine lv_goto (tgt := 160) hx hb dX0_useMonitor_38 (by decide) ?_
    refine lv_aload_n hx hb dX0_useMonitor_160 rfl (lv_at hl 2 rfl) ?_
    refine kr_callVv (As := []) (rest := []) ⟨hx, hb, hml, hown, hts⟩ (c_wRunOn l D gc ad ln (m_mOwn iv mi mm (nI t) ((iv (28 + 2 * mi + mm) 1) + 1)) lv mi t hmi (by omega)) (cwV 0 hts (goodV (fun _ h => tcons h) tw_337 tw_338 tw_339 tw_4 tw_340) rfl rfl rfl (by decide +kernel) ⟨Nat.le_of_ble_eq_true rfl, Nat.le_of_ble_eq_true rfl⟩) (kr_recv hK hP (20 + 4 * mi + t) (by omega) (E_wk (mi := mi) (t := t) hmi (by omega) _ _ _ _) rfl) hK hP hD hS hA rfl hl.1 rfl (Nat.le_of_ble_eq_true rfl) dX0_useMonitor_161 ⟨Nat.le_of_ble_eq_true rfl, Nat.le_of_ble_eq_true rfl⟩ (fun H locs hP hD hS => ?_)
    exact kr_vret hx hb hr hlocks hK hP hD hS (by unfold m_aUse; rw [if_pos c_1]) dX0_useMonitor_164
end
section
/-- what a choice of thread t rests on: where it stands, its operand as a monitor mm or a thread u -/
def okT (iv : Nat → Nat → Int32) (mi t mm u : Nat) : Prop :=
  (¬ iv (20 + 4 * mi + t) 0 = 4 → vp_in (iv (20 + 4 * mi + t) 1) 6) ∧
  (iv (20 + 4 * mi + t) 0 = 0 → ¬ 5 < r_wAction iv mi t → r_wOperand iv mi t = nI mm) ∧
  (iv (20 + 4 * mi + t) 0 = 0 → r_wAction iv mi t = 6 ∨ r_wAction iv mi t = 8 ∨ r_wAction iv mi t = 9 → r_wOperand iv mi t = nI u) ∧
  (iv (20 + 4 * mi + t) 0 = 1 ∨ iv (20 + 4 * mi + t) 0 = 2 → r_wOperand iv mi t = nI mm) ∧
  narrow .boolean (.int (iv (20 + 4 * mi + t) 3)) = .int (iv (20 + 4 * mi + t) 3)
theorem okT_pl {iv : Nat → Nat → Int32} {mi t mm u : Nat} {j : Int32} (h : okT iv mi t mm u) (hs : iv (20 + 4 * mi + t) 0 = j) (hj : ¬ j = 4) : vp_in (iv (20 + 4 * mi + t) 1) 6 := h.1 (by rw [hs]; exact hj)
theorem nb_aWaitMay {iv : Nat → Nat → Int32} {mi t : Nat} {way : Int32} (hz : narrow .boolean (.int (iv (20 + 4 * mi + t) 3)) = .int (iv (20 + 4 * mi + t) 3)) : narrow .boolean (.int (r_aWaitMay iv mi t way)) = .int (r_aWaitMay iv mi t way) := by
  unfold r_aWaitMay
  split
  · exact hz
  · split
    · exact nb_aStray iv mi t
    · repeat' split
      all_goals rfl
def r_aMay (iv : Nat → Nat → Int32) (mi t mm u : Nat) (way : Int32) : Int32 := if iv (20 + 4 * mi + t) 0 = 0 then if 5 < (r_wAction iv mi t) then (r_aPlainMay iv mi t u way) else (r_aMonMay iv mi t mm way) else if iv (20 + 4 * mi + t) 0 = 1 then (r_aWaitMay iv mi t way) else if iv (20 + 4 * mi + t) 0 = 2 then if way = 0 then (if (r_mIsFree iv mi mm) = 0 then (0 : Int32) else 1) else 0 else if iv (20 + 4 * mi + t) 0 = 3 then if way = 1 then iv (20 + 4 * mi + t) 3 else if way = 3 then (if (r_aStray iv mi t) = 0 then (0 : Int32) else 1) else 0 else 0
set_option maxHeartbeats 4000000 in
set_option maxRecDepth 100000 in
theorem c_aMay (l : Launch) (D : va_G) (gc : Nat → ClassId) (ad ln : Nat → Nat) (iv : Nat → Nat → Int32) (lv : Nat → Nat → Int64) (mi t mm u : Nat) (hmi : mi < 2) (ht : t < 4) (hmm : mm < 2) (hu : u < 4) (way : Int32) (hT : okT iv mi t mm u) : kMi l yX0_allows wX0_allows ({ frames := 3, cells := 0, slots := 0, locals := 66 }) D vwCl (kT gc) 42 (kE gc) [.ref (ad (14 + mi)), .int (nI t), .int way] (ad, ln, iv, lv) (ad, ln, iv, lv) (r_aMay iv mi t mm u way) := by
  refine ki_start (cc := cX0_allows) (maxL := 4) (ret := (some .boolean)) (by decide) rfl (Nat.le_of_ble_eq_true rfl) ?_
  intro p9 e9 s m9 below meth c9 A ls hx hb hr hts hown hlocks hml hA hK hP hD hS hl
  have hl : lv_has ls 4 [(0, .ref (ad (14 + mi))), (1, .int (nI t)), (2, .int way)] := hl
  have hown : s.vm.findClass "MonitorWays$Machine" = some m9.cls := hown
  have hin_X0 : ∀ w ∈ u_ws "MonitorWays$Machine" TX0 3, w ∈ wX0_allows := fun w h => tcons (inX0 w h)
  have hin_X5 : ∀ w ∈ u_ws "MonitorWays$Worker" TX5 8, w ∈ wX0_allows := fun w h => tcons (inX5 w h)
  have lk_f11 := hts _ (tcons tw_126)
  have lk_f36 := hts _ (tcons tw_58)
  have lk_f63 := hts _ (tcons tw_63)
  refine lv_aload_n hx hb dX0_allows_0 rfl (lv_at hl 0 rfl) ?_
  refine kr_get (C := "MonitorWays$Machine") (T := TX0) (N := 3) hx hb hts hin_X0 hown hK hP (14 + mi) (by omega) (E_mach hmi _ _ _ _) rfl 0 (by decide) lk_f11 (fun _ h9 => h9) rfl dX0_allows_1 ?_
  refine lv_iload_n hx hb dX0_allows_4 rfl (lv_at hl 1 rfl) ?_
  refine kr_aald (a := ad (20 + 4 * mi + t)) hx hb hK hP (16 + mi) 4 (by omega) (E_warr hmi _ _ _ _) rfl (vp_in_nI (n := t) (by omega) (by decide)) (by rw [nI_clamp (show t < 2 ^ 31 by omega)]) dX0_allows_5 ?_
  refine lv_astore_n (lv' := [(3, .ref (ad (20 + 4 * mi + t))), (0, .ref (ad (14 + mi))), (1, .int (nI t)), (2, .int way)]) hx hb dX0_allows_6 rfl hl (by decide) rfl (fun ls hl => ?_)
  refine lv_aload_n hx hb dX0_allows_7 rfl (lv_at hl 0 rfl) ?_
  refine kr_get (C := "MonitorWays$Worker") (T := TX5) (N := 8) hx hb hts hin_X5 hown hK hP (20 + 4 * mi + t) (by omega) (E_wk (mi := mi) (t := t) hmi (by omega) _ _ _ _) rfl 0 (by decide) lk_f36 (fun _ h9 => h9) rfl dX0_allows_8 ?_
  by_cases c_1 : iv (20 + 4 * mi + t) 0 = 0
  · refine lv_tableIn (tgt := 40) (off := 29) hx hb dX0_allows_11 (by rw [c_1]; decide) (by rw [c_1]; decide) (by rw [c_1]; decide) (by decide) ?_
    refine lv_aload_n hx hb dX0_allows_40 rfl (lv_at hl 0 rfl) ?_
    refine kr_callVi (As := []) (rest := []) ⟨hx, hb, hml, hown, hts⟩ (c_wAction l D gc ad ln iv lv mi t hmi (by omega) (okT_pl hT c_1 (by decide))) (cwV 0 hts (goodV (fun _ h => tcons h) tw_256 tw_257 tw_258 tw_4 tw_259) rfl rfl rfl (by decide +kernel) ⟨Nat.le_of_ble_eq_true rfl, Nat.le_of_ble_eq_true rfl⟩) (kr_recv hK hP (20 + 4 * mi + t) (by omega) (E_wk (mi := mi) (t := t) hmi (by omega) _ _ _ _) rfl) hK hP hD hS hA rfl hl.1 rfl (Nat.le_of_ble_eq_true rfl) dX0_allows_41 ⟨Nat.le_of_ble_eq_true rfl, Nat.le_of_ble_eq_true rfl⟩ (fun H locs hP hD hS => ?_)
    refine lv_iconst (v := 5) hx hb dX0_allows_44 (by decide) ?_
    refine lv_icmp_gt (tgt := 57) hx hb dX0_allows_45 (by decide) (fun c_2 => ?_) (fun c_2 => ?_)
    · refine lv_aload_n hx hb dX0_allows_57 rfl (lv_at hl 1 rfl) ?_
      refine lv_aload_n hx hb dX0_allows_58 rfl (lv_at hl 0 rfl) ?_
      refine lv_iload_n hx hb dX0_allows_59 rfl (lv_at hl 3 rfl) ?_
      refine kr_callVi (As := [.ref (ad (20 + 4 * mi + t)), .int way]) (rest := []) ⟨hx, hb, hml, hown, hts⟩ (c_aPlainMay l D gc ad ln iv lv mi t u hmi (by omega) hu way (okT_pl hT c_1 (by decide)) (fun h => hT.2.2.1 c_1 (Or.inr (Or.inr h)))) (cwV 2 hts (goodV (fun _ h => tcons h) tw_276 tw_278 ts_3 tw_3 tw_279) rfl rfl rfl (by decide +kernel) ⟨Nat.le_of_ble_eq_true rfl, Nat.le_of_ble_eq_true rfl⟩) (kr_recv hK hP (14 + mi) (by omega) (E_mach hmi _ _ _ _) rfl) hK hP hD hS hA rfl hl.1 rfl (Nat.le_of_ble_eq_true rfl) dX0_allows_60 ⟨Nat.le_of_ble_eq_true rfl, Nat.le_of_ble_eq_true rfl⟩ (fun H locs hP hD hS => ?_)
      exact kr_zret hx hb hr hlocks hK hP hD hS (nb_aPlainMay iv mi t u way) (by unfold r_aMay; rw [if_pos c_1, if_pos c_2]) rfl dX0_allows_63
    · refine lv_aload_n hx hb dX0_allows_48 rfl (lv_at hl 1 rfl) ?_
      refine lv_iload_n hx hb dX0_allows_49 rfl (lv_at hl 2 rfl) ?_
      refine lv_iload_n hx hb dX0_allows_50 rfl (lv_at hl 3 rfl) ?_
      refine kr_callVi (As := [.int (nI t), .int way]) (rest := []) ⟨hx, hb, hml, hown, hts⟩ (c_aMonMay l D gc ad ln iv lv mi t mm hmi (by omega) hmm way (okT_pl hT c_1 (by decide)) (hT.2.1 c_1 c_2)) (cwV 2 hts (goodV (fun _ h => tcons h) tw_260 tw_262 ts_1 tw_3 tw_263) rfl rfl rfl (by decide +kernel) ⟨Nat.le_of_ble_eq_true rfl, Nat.le_of_ble_eq_true rfl⟩) (kr_recv hK hP (14 + mi) (by omega) (E_mach hmi _ _ _ _) rfl) hK hP hD hS hA rfl hl.1 rfl (Nat.le_of_ble_eq_true rfl) dX0_allows_51 ⟨Nat.le_of_ble_eq_true rfl, Nat.le_of_ble_eq_true rfl⟩ (fun H locs hP hD hS => ?_)
      refine lv_goto (tgt := 63) hx hb dX0_allows_54 (by decide) ?_
      exact kr_zret hx hb hr hlocks hK hP hD hS (nb_aMonMay iv mi t mm way) (by unfold r_aMay; rw [if_pos c_1, if_neg c_2]) rfl dX0_allows_63
  by_cases c_3 : iv (20 + 4 * mi + t) 0 = 1
  · refine lv_tableIn (tgt := 64) (off := 53) hx hb dX0_allows_11 (by rw [c_3]; decide) (by rw [c_3]; decide) (by rw [c_3]; decide) (by decide) ?_
    refine lv_aload_n hx hb dX0_allows_64 rfl (lv_at hl 1 rfl) ?_
    refine lv_aload_n hx hb dX0_allows_65 rfl (lv_at hl 0 rfl) ?_
    refine lv_iload_n hx hb dX0_allows_66 rfl (lv_at hl 3 rfl) ?_
    refine kr_callVi (As := [.ref (ad (20 + 4 * mi + t)), .int way]) (rest := []) ⟨hx, hb, hml, hown, hts⟩ (c_aWaitMay l D gc ad ln iv lv mi t hmi (by omega) way (okT_pl hT c_3 (by decide)) hT.2.2.2.2) (cwV 2 hts (goodV (fun _ h => tcons h) tw_284 tw_286 ts_4 tw_3 tw_287) rfl rfl rfl (by decide +kernel) ⟨Nat.le_of_ble_eq_true rfl, Nat.le_of_ble_eq_true rfl⟩) (kr_recv hK hP (14 + mi) (by omega) (E_mach hmi _ _ _ _) rfl) hK hP hD hS hA rfl hl.1 rfl (Nat.le_of_ble_eq_true rfl) dX0_allows_67 ⟨Nat.le_of_ble_eq_true rfl, Nat.le_of_ble_eq_true rfl⟩ (fun H locs hP hD hS => ?_)
    exact kr_zret hx hb hr hlocks hK hP hD hS (nb_aWaitMay hT.2.2.2.2) (by unfold r_aMay; rw [if_neg c_1, if_pos c_3]) rfl dX0_allows_70
  by_cases c_4 : iv (20 + 4 * mi + t) 0 = 2
  · refine lv_tableIn (tgt := 71) (off := 60) hx hb dX0_allows_11 (by rw [c_4]; decide) (by rw [c_4]; decide) (by rw [c_4]; decide) (by decide) ?_
    refine lv_iload_n hx hb dX0_allows_71 rfl (lv_at hl 3 rfl) ?_
    refine lv_if_ne (tgt := 90) hx hb dX0_allows_72 (by decide) (fun c_5 => ?_) (fun c_5 => ?_)
    · refine lv_iconst (v := 0) hx hb dX0_allows_90 (by decide) ?_
      exact kr_zret hx hb hr hlocks hK hP hD hS (by decide) (by unfold r_aMay; rw [if_neg c_1, if_neg c_3, if_pos c_4, if_neg c_5]) rfl dX0_allows_91
    · refine lv_aload_n hx hb dX0_allows_75 rfl (lv_at hl 1 rfl) ?_
      refine lv_aload_n hx hb dX0_allows_76 rfl (lv_at hl 0 rfl) ?_
      refine kr_callVr (As := [.ref (ad (20 + 4 * mi + t))]) (rest := []) ⟨hx, hb, hml, hown, hts⟩ (c_aMonOf l D gc ad ln iv lv mi t mm hmi (by omega) hmm (okT_pl hT c_4 (by decide)) (hT.2.2.2.1 (Or.inr c_4))) (cwV 1 hts (goodV (fun _ h => tcons h) tw_264 tw_266 ts_2 tw_3 tw_267) rfl rfl rfl (by decide +kernel) ⟨Nat.le_of_ble_eq_true rfl, Nat.le_of_ble_eq_true rfl⟩) (kr_recv hK hP (14 + mi) (by omega) (E_mach hmi _ _ _ _) rfl) hK hP hD hS hA rfl hl.1 rfl (Nat.le_of_ble_eq_true rfl) dX0_allows_77 ⟨Nat.le_of_ble_eq_true rfl, Nat.le_of_ble_eq_true rfl⟩ (fun H locs hP hD hS => ?_)
      refine kr_callVi (As := []) (rest := []) ⟨hx, hb, hml, hown, hts⟩ (c_mIsFree l D gc ad ln iv lv mi mm hmi hmm) (cwV 0 hts (goodV (fun _ h => tcons h) tw_272 tw_273 tw_274 tw_5 tw_275) rfl rfl rfl (by decide +kernel) ⟨Nat.le_of_ble_eq_true rfl, Nat.le_of_ble_eq_true rfl⟩) (kr_recv hK hP (28 + 2 * mi + mm) (by omega) (E_mon (mi := mi) (m := mm) hmi hmm _ _ _ _) rfl) hK hP hD hS hA rfl hl.1 rfl (Nat.le_of_ble_eq_true rfl) dX0_allows_80 ⟨Nat.le_of_ble_eq_true rfl, Nat.le_of_ble_eq_true rfl⟩ (fun H locs hP hD hS => ?_)
      refine kr_tern (M := 91) (cnd := (r_mIsFree iv mi mm) = 0) (a := 0) (b := 1) (rest := []) (fun ja jb => ?_) ?_
      · refine lv_if_eq (tgt := 90) hx hb dX0_allows_83 (by decide) (fun c_6 => ?_) (fun c_6 => ?_)
        · refine lv_iconst (v := 0) hx hb dX0_allows_90 (by decide) ?_
          exact ja c_6
        · refine lv_iconst (v := 1) hx hb dX0_allows_86 (by decide) ?_
          refine lv_goto (tgt := 91) hx hb dX0_allows_87 (by decide) ?_
          exact jb c_6
      exact kr_zret hx hb hr hlocks hK hP hD hS (nb_ite (by decide) (by decide)) (by unfold r_aMay; rw [if_neg c_1, if_neg c_3, if_pos c_4, if_pos c_5]) rfl dX0_allows_91
  by_cases c_7 : iv (20 + 4 * mi + t) 0 = 3
  · refine lv_tableIn (tgt := 92) (off := 81) hx hb dX0_allows_11 (by rw [c_7]; decide) (by rw [c_7]; decide) (by rw [c_7]; decide) (by decide) ?_
    refine lv_iload_n hx hb dX0_allows_92 rfl (lv_at hl 3 rfl) ?_
    refine lv_iconst (v := 1) hx hb dX0_allows_93 (by decide) ?_
    refine lv_icmp_ne (tgt := 104) hx hb dX0_allows_94 (by decide) (fun c_8 => ?_) (fun c_8 => ?_)
    · refine lv_iload_n hx hb dX0_allows_104 rfl (lv_at hl 3 rfl) ?_
      refine lv_iconst (v := 3) hx hb dX0_allows_105 (by decide) ?_
      refine lv_icmp_ne (tgt := 121) hx hb dX0_allows_106 (by decide) (fun c_9 => ?_) (fun c_9 => ?_)
      · refine lv_iconst (v := 0) hx hb dX0_allows_121 (by decide) ?_
        exact kr_zret hx hb hr hlocks hK hP hD hS (by decide) (by unfold r_aMay; rw [if_neg c_1, if_neg c_3, if_neg c_4, if_pos c_7, if_neg c_8, if_neg c_9]) rfl dX0_allows_122
      · refine lv_aload_n hx hb dX0_allows_109 rfl (lv_at hl 1 rfl) ?_
        refine lv_aload_n hx hb dX0_allows_110 rfl (lv_at hl 0 rfl) ?_
        refine kr_callVi (As := [.ref (ad (20 + 4 * mi + t))]) (rest := []) ⟨hx, hb, hml, hown, hts⟩ (c_aStray l D gc ad ln iv lv mi t hmi (by omega)) (cwV 1 hts (goodV (fun _ h => tcons h) tw_288 tw_290 ts_5 tw_3 tw_291) rfl rfl rfl (by decide +kernel) ⟨Nat.le_of_ble_eq_true rfl, Nat.le_of_ble_eq_true rfl⟩) (kr_recv hK hP (14 + mi) (by omega) (E_mach hmi _ _ _ _) rfl) hK hP hD hS hA rfl hl.1 rfl (Nat.le_of_ble_eq_true rfl) dX0_allows_111 ⟨Nat.le_of_ble_eq_true rfl, Nat.le_of_ble_eq_true rfl⟩ (fun H locs hP hD hS => ?_)
        refine kr_tern (M := 122) (cnd := (r_aStray iv mi t) = 0) (a := 0) (b := 1) (rest := []) (fun ja jb => ?_) ?_
        · refine lv_if_eq (tgt := 121) hx hb dX0_allows_114 (by decide) (fun c_10 => ?_) (fun c_10 => ?_)
          · refine lv_iconst (v := 0) hx hb dX0_allows_121 (by decide) ?_
            exact ja c_10
          · refine lv_iconst (v := 1) hx hb dX0_allows_117 (by decide) ?_
            refine lv_goto (tgt := 122) hx hb dX0_allows_118 (by decide) ?_
            exact jb c_10
        exact kr_zret hx hb hr hlocks hK hP hD hS (nb_ite (by decide) (by decide)) (by unfold r_aMay; rw [if_neg c_1, if_neg c_3, if_neg c_4, if_pos c_7, if_neg c_8, if_pos c_9]) rfl dX0_allows_122
    · refine lv_aload_n hx hb dX0_allows_97 rfl (lv_at hl 0 rfl) ?_
      refine kr_get (C := "MonitorWays$Worker") (T := TX5) (N := 8) hx hb hts hin_X5 hown hK hP (20 + 4 * mi + t) (by omega) (E_wk (mi := mi) (t := t) hmi (by omega) _ _ _ _) rfl 3 (by decide) lk_f63 (fun _ h9 => h9) rfl dX0_allows_98 ?_
      refine lv_goto (tgt := 122) hx hb dX0_allows_101 (by decide) ?_
      exact kr_zret hx hb hr hlocks hK hP hD hS hT.2.2.2.2 (by unfold r_aMay; rw [if_neg c_1, if_neg c_3, if_neg c_4, if_pos c_7, if_pos c_8]) rfl dX0_allows_122
  refine lv_tableOut (tgt := 123) hx hb dX0_allows_11 (sw_0_3 c_1 c_3 c_4 c_7) (by decide) ?_
  refine lv_iconst (v := 0) hx hb dX0_allows_123 (by decide) ?_
  exact kr_zret hx hb hr hlocks hK hP hD hS (by decide) (by unfold r_aMay; rw [if_neg c_1, if_neg c_3, if_neg c_4, if_neg c_7]) rfl dX0_allows_124
def m_aTake (iv : Nat → Nat → Int32) (mi t mm u : Nat) (way : Int32) (sz : Nat) : Nat → Nat → Int32 := if iv (20 + 4 * mi + t) 0 = 0 then if 5 < (r_wAction iv mi t) then (m_aPlain iv mi t u) else (m_aUse iv mi t mm way sz) else if iv (20 + 4 * mi + t) 0 = 1 then (m_aLeave iv mi t mm way sz) else if iv (20 + 4 * mi + t) 0 = 2 then (m_aBack iv mi t mm) else if iv (20 + 4 * mi + t) 0 = 3 then (m_aStopPark iv mi t way) else iv
set_option maxHeartbeats 4000000 in
set_option maxRecDepth 100000 in
theorem c_aTake (l : Launch) (D : va_G) (gc : Nat → ClassId) (ad ln : Nat → Nat) (iv : Nat → Nat → Int32) (lv : Nat → Nat → Int64) (mi t mm u : Nat) (hmi : mi < 2) (ht : t < 4) (hmm : mm < 2) (hu : u < 4) (way : Int32) (hT : okT iv mi t mm u) (sz : Nat) (hsz : iv (28 + 2 * mi + mm) 2 = nI sz) (hs4 : sz ≤ 4) (hent : ∀ j, j < sz → vp_in (iv (32 + 2 * mi + mm) j) 4) : kMv l yX0_take wX0_take ({ frames := 3, cells := 0, slots := 0, locals := 72 }) D vwCl (kT gc) 42 (kE gc) [.ref (ad (14 + mi)), .int (nI t), .int way] (ad, ln, iv, lv) (ad, ln, m_aTake iv mi t mm u way sz, lv) := by
  refine kv_start (cc := cX0_take) (maxL := 4) (by decide) rfl (Nat.le_of_ble_eq_true rfl) ?_
  intro p9 e9 s m9 below meth c9 A ls hx hb hr hts hown hlocks hml hA hK hP hD hS hl
  have hl : lv_has ls 4 [(0, .ref (ad (14 + mi))), (1, .int (nI t)), (2, .int way)] := hl
  have hown : s.vm.findClass "MonitorWays$Machine" = some m9.cls := hown
  have hin_X0 : ∀ w ∈ u_ws "MonitorWays$Machine" TX0 3, w ∈ wX0_take := fun w h => tcons (inX0 w h)
  have hin_X5 : ∀ w ∈ u_ws "MonitorWays$Worker" TX5 8, w ∈ wX0_take := fun w h => tcons (inX5 w h)
  have lk_f11 := hts _ (tcons tw_126)
  have lk_f36 := hts _ (tcons tw_58)
  refine lv_aload_n hx hb dX0_take_0 rfl (lv_at hl 0 rfl) ?_
  refine kr_get (C := "MonitorWays$Machine") (T := TX0) (N := 3) hx hb hts hin_X0 hown hK hP (14 + mi) (by omega) (E_mach hmi _ _ _ _) rfl 0 (by decide) lk_f11 (fun _ h9 => h9) rfl dX0_take_1 ?_
  refine lv_iload_n hx hb dX0_take_4 rfl (lv_at hl 1 rfl) ?_
  refine kr_aald (a := ad (20 + 4 * mi + t)) hx hb hK hP (16 + mi) 4 (by omega) (E_warr hmi _ _ _ _) rfl (vp_in_nI (n := t) (by omega) (by decide)) (by rw [nI_clamp (show t < 2 ^ 31 by omega)]) dX0_take_5 ?_
  refine lv_astore_n (lv' := [(3, .ref (ad (20 + 4 * mi + t))), (0, .ref (ad (14 + mi))), (1, .int (nI t)), (2, .int way)]) hx hb dX0_take_6 rfl hl (by decide) rfl (fun ls hl => ?_)
  refine lv_aload_n hx hb dX0_take_7 rfl (lv_at hl 0 rfl) ?_
  refine kr_get (C := "MonitorWays$Worker") (T := TX5) (N := 8) hx hb hts hin_X5 hown hK hP (20 + 4 * mi + t) (by omega) (E_wk (mi := mi) (t := t) hmi (by omega) _ _ _ _) rfl 0 (by decide) lk_f36 (fun _ h9 => h9) rfl dX0_take_8 ?_
  by_cases c_1 : iv (20 + 4 * mi + t) 0 = 0
  · refine lv_tableIn (tgt := 40) (off := 29) hx hb dX0_take_11 (by rw [c_1]; decide) (by rw [c_1]; decide) (by rw [c_1]; decide) (by decide) ?_
    refine lv_aload_n hx hb dX0_take_40 rfl (lv_at hl 0 rfl) ?_
    refine kr_callVi (As := []) (rest := []) ⟨hx, hb, hml, hown, hts⟩ (c_wAction l D gc ad ln iv lv mi t hmi (by omega) (okT_pl hT c_1 (by decide))) (cwV 0 hts (goodV (fun _ h => tcons h) tw_256 tw_257 tw_258 tw_4 tw_259) rfl rfl rfl (by decide +kernel) ⟨Nat.le_of_ble_eq_true rfl, Nat.le_of_ble_eq_true rfl⟩) (kr_recv hK hP (20 + 4 * mi + t) (by omega) (E_wk (mi := mi) (t := t) hmi (by omega) _ _ _ _) rfl) hK hP hD hS hA rfl hl.1 rfl (Nat.le_of_ble_eq_true rfl) dX0_take_41 ⟨Nat.le_of_ble_eq_true rfl, Nat.le_of_ble_eq_true rfl⟩ (fun H locs hP hD hS => ?_)
    refine lv_iconst (v := 5) hx hb dX0_take_44 (by decide) ?_
    refine lv_icmp_gt (tgt := 57) hx hb dX0_take_45 (by decide) (fun c_2 => ?_) (fun c_2 => ?_)
    · refine lv_aload_n hx hb dX0_take_57 rfl (lv_at hl 1 rfl) ?_
      refine lv_aload_n hx hb dX0_take_58 rfl (lv_at hl 0 rfl) ?_
      refine kr_callVv (As := [.ref (ad (20 + 4 * mi + t))]) (rest := []) ⟨hx, hb, hml, hown, hts⟩ (c_aPlain l D gc ad ln iv lv mi t u hmi (by omega) hu (okT_pl hT c_1 (by decide)) (fun h => hT.2.2.1 c_1 (h.elim Or.inl (fun h => Or.inr (Or.inl h)))) hT.2.2.2.2) (cwV 1 hts (goodV (fun _ h => tcons h) tw_341 tw_343 ts_9 tw_3 tw_344) rfl rfl rfl (by decide +kernel) ⟨Nat.le_of_ble_eq_true rfl, Nat.le_of_ble_eq_true rfl⟩) (kr_recv hK hP (14 + mi) (by omega) (E_mach hmi _ _ _ _) rfl) hK hP hD hS hA rfl hl.1 rfl (Nat.le_of_ble_eq_true rfl) dX0_take_59 ⟨Nat.le_of_ble_eq_true rfl, Nat.le_of_ble_eq_true rfl⟩ (fun H locs hP hD hS => ?_)
      refine lv_goto (tgt := 91) hx hb dX0_take_62 (by decide) ?_
      exact kr_vret hx hb hr hlocks hK hP hD hS (by unfold m_aTake; rw [if_pos c_1, if_pos c_2]) dX0_take_91
    · refine lv_aload_n hx hb dX0_take_48 rfl (lv_at hl 1 rfl) ?_
      refine lv_iload_n hx hb dX0_take_49 rfl (lv_at hl 2 rfl) ?_
      refine lv_iload_n hx hb dX0_take_50 rfl (lv_at hl 3 rfl) ?_
      refine kr_callVv (As := [.int (nI t), .int way]) (rest := []) ⟨hx, hb, hml, hown, hts⟩ (c_aUse l D gc ad ln iv lv mi t mm hmi (by omega) hmm way (okT_pl hT c_1 (by decide)) (hT.2.1 c_1 c_2) sz hsz hs4 hent hT.2.2.2.2) (cwV 2 hts (goodV (fun _ h => tcons h) tw_296 tw_298 ts_6 tw_3 tw_299) rfl rfl rfl (by decide +kernel) ⟨Nat.le_of_ble_eq_true rfl, Nat.le_of_ble_eq_true rfl⟩) (kr_recv hK hP (14 + mi) (by omega) (E_mach hmi _ _ _ _) rfl) hK hP hD hS hA rfl hl.1 rfl (Nat.le_of_ble_eq_true rfl) dX0_take_51 ⟨Nat.le_of_ble_eq_true rfl, Nat.le_of_ble_eq_true rfl⟩ (fun H locs hP hD hS => ?_)
      refine lv_goto (tgt := 91) hx hb dX0_take_54 (by decide) ?_
      exact kr_vret hx hb hr hlocks hK hP hD hS (by unfold m_aTake; rw [if_pos c_1, if_neg c_2]) dX0_take_91
  by_cases c_3 : iv (20 + 4 * mi + t) 0 = 1
  · refine lv_tableIn (tgt := 65) (off := 54) hx hb dX0_take_11 (by rw [c_3]; decide) (by rw [c_3]; decide) (by rw [c_3]; decide) (by decide) ?_
    refine lv_aload_n hx hb dX0_take_65 rfl (lv_at hl 1 rfl) ?_
    refine lv_iload_n hx hb dX0_take_66 rfl (lv_at hl 2 rfl) ?_
    refine lv_iload_n hx hb dX0_take_67 rfl (lv_at hl 3 rfl) ?_
    refine kr_callVv (As := [.int (nI t), .int way]) (rest := []) ⟨hx, hb, hml, hown, hts⟩ (c_aLeave l D gc ad ln iv lv mi t mm hmi (by omega) hmm way (okT_pl hT c_3 (by decide)) (hT.2.2.2.1 (Or.inl c_3)) sz hsz hs4) (cwV 2 hts (goodV (fun _ h => tcons h) tw_353 tw_355 ts_12 tw_3 tw_356) rfl rfl rfl (by decide +kernel) ⟨Nat.le_of_ble_eq_true rfl, Nat.le_of_ble_eq_true rfl⟩) (kr_recv hK hP (14 + mi) (by omega) (E_mach hmi _ _ _ _) rfl) hK hP hD hS hA rfl hl.1 rfl (Nat.le_of_ble_eq_true rfl) dX0_take_68 ⟨Nat.le_of_ble_eq_true rfl, Nat.le_of_ble_eq_true rfl⟩ (fun H locs hP hD hS => ?_)
    refine lv_goto (tgt := 91) hx hb dX0_take_71 (by decide) ?_
    exact kr_vret hx hb hr hlocks hK hP hD hS (by unfold m_aTake; rw [if_neg c_1, if_pos c_3]) dX0_take_91
  by_cases c_4 : iv (20 + 4 * mi + t) 0 = 2
  · refine lv_tableIn (tgt := 74) (off := 63) hx hb dX0_take_11 (by rw [c_4]; decide) (by rw [c_4]; decide) (by rw [c_4]; decide) (by decide) ?_
    refine lv_aload_n hx hb dX0_take_74 rfl (lv_at hl 1 rfl) ?_
    refine lv_iload_n hx hb dX0_take_75 rfl (lv_at hl 2 rfl) ?_
    refine kr_callVv (As := [.int (nI t)]) (rest := []) ⟨hx, hb, hml, hown, hts⟩ (c_aBack l D gc ad ln iv lv mi t mm hmi (by omega) hmm (okT_pl hT c_4 (by decide)) (hT.2.2.2.1 (Or.inr c_4))) (cwV 1 hts (goodV (fun _ h => tcons h) tw_357 tw_359 ts_13 tw_3 tw_360) rfl rfl rfl (by decide +kernel) ⟨Nat.le_of_ble_eq_true rfl, Nat.le_of_ble_eq_true rfl⟩) (kr_recv hK hP (14 + mi) (by omega) (E_mach hmi _ _ _ _) rfl) hK hP hD hS hA rfl hl.1 rfl (Nat.le_of_ble_eq_true rfl) dX0_take_76 ⟨Nat.le_of_ble_eq_true rfl, Nat.le_of_ble_eq_true rfl⟩ (fun H locs hP hD hS => ?_)
    refine lv_goto (tgt := 91) hx hb dX0_take_79 (by decide) ?_
    exact kr_vret hx hb hr hlocks hK hP hD hS (by unfold m_aTake; rw [if_neg c_1, if_neg c_3, if_pos c_4]) dX0_take_91
  by_cases c_5 : iv (20 + 4 * mi + t) 0 = 3
  · refine lv_tableIn (tgt := 82) (off := 71) hx hb dX0_take_11 (by rw [c_5]; decide) (by rw [c_5]; decide) (by rw [c_5]; decide) (by decide) ?_
    refine lv_aload_n hx hb dX0_take_82 rfl (lv_at hl 1 rfl) ?_
    refine lv_aload_n hx hb dX0_take_83 rfl (lv_at hl 0 rfl) ?_
    refine lv_iload_n hx hb dX0_take_84 rfl (lv_at hl 3 rfl) ?_
    refine kr_callVv (As := [.ref (ad (20 + 4 * mi + t)), .int way]) (rest := []) ⟨hx, hb, hml, hown, hts⟩ (c_aStopPark l D gc ad ln iv lv mi t hmi (by omega) way) (cwV 2 hts (goodV (fun _ h => tcons h) tw_361 tw_363 ts_14 tw_3 tw_364) rfl rfl rfl (by decide +kernel) ⟨Nat.le_of_ble_eq_true rfl, Nat.le_of_ble_eq_true rfl⟩) (kr_recv hK hP (14 + mi) (by omega) (E_mach hmi _ _ _ _) rfl) hK hP hD hS hA rfl hl.1 rfl (Nat.le_of_ble_eq_true rfl) dX0_take_85 ⟨Nat.le_of_ble_eq_true rfl, Nat.le_of_ble_eq_true rfl⟩ (fun H locs hP hD hS => ?_)
    refine lv_goto (tgt := 91) hx hb dX0_take_88 (by decide) ?_
    exact kr_vret hx hb hr hlocks hK hP hD hS (by unfold m_aTake; rw [if_neg c_1, if_neg c_3, if_neg c_4, if_pos c_5]) dX0_take_91
  refine lv_tableOut (tgt := 91) hx hb dX0_take_11 (sw_0_3 c_1 c_3 c_4 c_5) (by decide) ?_
  exact kr_vret hx hb hr hlocks hK hP hD hS (by unfold m_aTake; rw [if_neg c_1, if_neg c_3, if_neg c_4, if_neg c_5]) dX0_take_91
end
