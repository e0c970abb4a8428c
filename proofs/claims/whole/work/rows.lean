section
-- ===== PART A: goes FIRST, ahead of the names: the tables' words, and 'selects' of the private methods out of them =====
/-- a private method of a class that the tables say can be made, by its rows of tables_1 -/
def lw_okq (q : MethodName × Nat) : Prop := (q.1.cls ≠ "java/lang/invoke/MethodHandle" ∧ q.1.cls ≠ "java/lang/invoke/VarHandle") ∧ Cond.instantiable q.1.cls q.2 ∈ tables_1 ∧ Cond.privateMethod q.1 ∈ tables_1 ∧ Cond.instanceMethod q.1 ∈ tables_1
theorem lw_p0 : lw_okq (⟨"java/lang/Throwable", "fillInStackTrace", "(I)Ljava/lang/Throwable;"⟩, 6) := ⟨⟨by decide +kernel, by decide +kernel⟩, List.mem_of_getElem? (i := 259) (by decide +kernel), List.mem_of_getElem? (i := 257) (by decide +kernel), List.mem_of_getElem? (i := 258) (by decide +kernel)⟩
theorem lw_p1 : lw_okq (⟨"FleetSettings", "voidWhatIsNotOld", "(I)I"⟩, 16) := ⟨⟨by decide +kernel, by decide +kernel⟩, List.mem_of_getElem? (i := 17) (by decide +kernel), List.mem_of_getElem? (i := 333) (by decide +kernel), List.mem_of_getElem? (i := 334) (by decide +kernel)⟩
theorem lw_p2 : lw_okq (⟨"FleetSettings", "findHeads", "()V"⟩, 16) := ⟨⟨by decide +kernel, by decide +kernel⟩, List.mem_of_getElem? (i := 17) (by decide +kernel), List.mem_of_getElem? (i := 357) (by decide +kernel), List.mem_of_getElem? (i := 358) (by decide +kernel)⟩
theorem lw_p3 : lw_okq (⟨"FleetSettings", "nearestLayerNotHeld", "(LFleetSettings$Machine;)I"⟩, 16) := ⟨⟨by decide +kernel, by decide +kernel⟩, List.mem_of_getElem? (i := 17) (by decide +kernel), List.mem_of_getElem? (i := 369) (by decide +kernel), List.mem_of_getElem? (i := 370) (by decide +kernel)⟩
theorem lw_p4 : lw_okq (⟨"FleetSettings", "isTakenNotHeld", "(I)Z"⟩, 16) := ⟨⟨by decide +kernel, by decide +kernel⟩, List.mem_of_getElem? (i := 17) (by decide +kernel), List.mem_of_getElem? (i := 376) (by decide +kernel), List.mem_of_getElem? (i := 377) (by decide +kernel)⟩
theorem lw_p5 : lw_okq (⟨"FleetSettings", "isChange", "(I)Z"⟩, 16) := ⟨⟨by decide +kernel, by decide +kernel⟩, List.mem_of_getElem? (i := 17) (by decide +kernel), List.mem_of_getElem? (i := 380) (by decide +kernel), List.mem_of_getElem? (i := 381) (by decide +kernel)⟩
theorem lw_p6 : lw_okq (⟨"FleetSettings", "stepMachines", "()I"⟩, 16) := ⟨⟨by decide +kernel, by decide +kernel⟩, List.mem_of_getElem? (i := 17) (by decide +kernel), List.mem_of_getElem? (i := 400) (by decide +kernel), List.mem_of_getElem? (i := 401) (by decide +kernel)⟩
theorem lw_p7 : lw_okq (⟨"FleetSettings", "goBack", "(LFleetSettings$Machine;I)V"⟩, 16) := ⟨⟨by decide +kernel, by decide +kernel⟩, List.mem_of_getElem? (i := 17) (by decide +kernel), List.mem_of_getElem? (i := 404) (by decide +kernel), List.mem_of_getElem? (i := 405) (by decide +kernel)⟩
theorem lw_p8 : lw_okq (⟨"FleetSettings", "takeFarthestLayer", "(LFleetSettings$Machine;)Z"⟩, 16) := ⟨⟨by decide +kernel, by decide +kernel⟩, List.mem_of_getElem? (i := 17) (by decide +kernel), List.mem_of_getElem? (i := 408) (by decide +kernel), List.mem_of_getElem? (i := 409) (by decide +kernel)⟩
theorem lw_p9 : lw_okq (⟨"FleetSettings", "isBehindIn", "(LFleetSettings$Machine;I)Z"⟩, 16) := ⟨⟨by decide +kernel, by decide +kernel⟩, List.mem_of_getElem? (i := 17) (by decide +kernel), List.mem_of_getElem? (i := 412) (by decide +kernel), List.mem_of_getElem? (i := 413) (by decide +kernel)⟩
theorem lw_p10 : lw_okq (⟨"FleetSettings", "takeLayer", "(LFleetSettings$Machine;I)V"⟩, 16) := ⟨⟨by decide +kernel, by decide +kernel⟩, List.mem_of_getElem? (i := 17) (by decide +kernel), List.mem_of_getElem? (i := 416) (by decide +kernel), List.mem_of_getElem? (i := 417) (by decide +kernel)⟩
theorem lw_p11 : lw_okq (⟨"FleetSettings", "isAnyBusy", "()Z"⟩, 16) := ⟨⟨by decide +kernel, by decide +kernel⟩, List.mem_of_getElem? (i := 17) (by decide +kernel), List.mem_of_getElem? (i := 420) (by decide +kernel), List.mem_of_getElem? (i := 421) (by decide +kernel)⟩
theorem lw_p12 : lw_okq (⟨"FleetSettings", "requireGroup", "(I)V"⟩, 16) := ⟨⟨by decide +kernel, by decide +kernel⟩, List.mem_of_getElem? (i := 17) (by decide +kernel), List.mem_of_getElem? (i := 431) (by decide +kernel), List.mem_of_getElem? (i := 432) (by decide +kernel)⟩
theorem lw_p13 : lw_okq (⟨"FleetSettings$Machine", "dropOtherGroups", "()V"⟩, 6) := ⟨⟨by decide +kernel, by decide +kernel⟩, List.mem_of_getElem? (i := 92) (by decide +kernel), List.mem_of_getElem? (i := 449) (by decide +kernel), List.mem_of_getElem? (i := 450) (by decide +kernel)⟩
theorem lw_p14 : lw_okq (⟨"FleetSettings$Machine", "isLayer", "(I)Z"⟩, 6) := ⟨⟨by decide +kernel, by decide +kernel⟩, List.mem_of_getElem? (i := 92) (by decide +kernel), List.mem_of_getElem? (i := 453) (by decide +kernel), List.mem_of_getElem? (i := 454) (by decide +kernel)⟩
theorem lw_p15 : lw_okq (⟨"FleetSettings$Machine", "drop", "(I)V"⟩, 6) := ⟨⟨by decide +kernel, by decide +kernel⟩, List.mem_of_getElem? (i := 92) (by decide +kernel), List.mem_of_getElem? (i := 457) (by decide +kernel), List.mem_of_getElem? (i := 458) (by decide +kernel)⟩
def lw_privs_1 : List (MethodName × Nat) := [(⟨"java/lang/Throwable", "fillInStackTrace", "(I)Ljava/lang/Throwable;"⟩, 6), (⟨"FleetSettings", "voidWhatIsNotOld", "(I)I"⟩, 16), (⟨"FleetSettings", "findHeads", "()V"⟩, 16), (⟨"FleetSettings", "nearestLayerNotHeld", "(LFleetSettings$Machine;)I"⟩, 16), (⟨"FleetSettings", "isTakenNotHeld", "(I)Z"⟩, 16), (⟨"FleetSettings", "isChange", "(I)Z"⟩, 16), (⟨"FleetSettings", "stepMachines", "()I"⟩, 16), (⟨"FleetSettings", "goBack", "(LFleetSettings$Machine;I)V"⟩, 16), (⟨"FleetSettings", "takeFarthestLayer", "(LFleetSettings$Machine;)Z"⟩, 16), (⟨"FleetSettings", "isBehindIn", "(LFleetSettings$Machine;I)Z"⟩, 16), (⟨"FleetSettings", "takeLayer", "(LFleetSettings$Machine;I)V"⟩, 16), (⟨"FleetSettings", "isAnyBusy", "()Z"⟩, 16), (⟨"FleetSettings", "requireGroup", "(I)V"⟩, 16), (⟨"FleetSettings$Machine", "dropOtherGroups", "()V"⟩, 6), (⟨"FleetSettings$Machine", "isLayer", "(I)Z"⟩, 6), (⟨"FleetSettings$Machine", "drop", "(I)V"⟩, 6)]
theorem lw_r1 : ∀ q ∈ lw_privs_1, lw_okq q := List.forall_mem_cons.mpr ⟨lw_p0, List.forall_mem_cons.mpr ⟨lw_p1, List.forall_mem_cons.mpr ⟨lw_p2, List.forall_mem_cons.mpr ⟨lw_p3, List.forall_mem_cons.mpr ⟨lw_p4, List.forall_mem_cons.mpr ⟨lw_p5, List.forall_mem_cons.mpr ⟨lw_p6, List.forall_mem_cons.mpr ⟨lw_p7, List.forall_mem_cons.mpr ⟨lw_p8, List.forall_mem_cons.mpr ⟨lw_p9, List.forall_mem_cons.mpr ⟨lw_p10, List.forall_mem_cons.mpr ⟨lw_p11, List.forall_mem_cons.mpr ⟨lw_p12, List.forall_mem_cons.mpr ⟨lw_p13, List.forall_mem_cons.mpr ⟨lw_p14, List.forall_mem_cons.mpr ⟨lw_p15, fun _ h => absurd h List.not_mem_nil⟩⟩⟩⟩⟩⟩⟩⟩⟩⟩⟩⟩⟩⟩⟩⟩
theorem lw_p16 : lw_okq (⟨"FleetSettings", "requireMachine", "(I)V"⟩, 16) := ⟨⟨by decide +kernel, by decide +kernel⟩, List.mem_of_getElem? (i := 17) (by decide +kernel), List.mem_of_getElem? (i := 469) (by decide +kernel), List.mem_of_getElem? (i := 470) (by decide +kernel)⟩
theorem lw_p17 : lw_okq (⟨"FleetSettings", "requirePlace", "(I)V"⟩, 16) := ⟨⟨by decide +kernel, by decide +kernel⟩, List.mem_of_getElem? (i := 17) (by decide +kernel), List.mem_of_getElem? (i := 512) (by decide +kernel), List.mem_of_getElem? (i := 513) (by decide +kernel)⟩
theorem lw_p18 : lw_okq (⟨"FleetSettings", "slotOf", "(I)I"⟩, 16) := ⟨⟨by decide +kernel, by decide +kernel⟩, List.mem_of_getElem? (i := 17) (by decide +kernel), List.mem_of_getElem? (i := 516) (by decide +kernel), List.mem_of_getElem? (i := 517) (by decide +kernel)⟩
theorem lw_p19 : lw_okq (⟨"FleetSettings", "requireChange", "(I)V"⟩, 16) := ⟨⟨by decide +kernel, by decide +kernel⟩, List.mem_of_getElem? (i := 17) (by decide +kernel), List.mem_of_getElem? (i := 538) (by decide +kernel), List.mem_of_getElem? (i := 539) (by decide +kernel)⟩
theorem lw_p20 : lw_okq (⟨"FleetSettings", "isOnDuty", "(I)Z"⟩, 16) := ⟨⟨by decide +kernel, by decide +kernel⟩, List.mem_of_getElem? (i := 17) (by decide +kernel), List.mem_of_getElem? (i := 543) (by decide +kernel), List.mem_of_getElem? (i := 544) (by decide +kernel)⟩
theorem lw_p21 : lw_okq (⟨"FleetSettings", "hold", "(I)V"⟩, 16) := ⟨⟨by decide +kernel, by decide +kernel⟩, List.mem_of_getElem? (i := 17) (by decide +kernel), List.mem_of_getElem? (i := 558) (by decide +kernel), List.mem_of_getElem? (i := 559) (by decide +kernel)⟩
theorem lw_p22 : lw_okq (⟨"FleetSettings", "whatIsToldBy", "(I)I"⟩, 16) := ⟨⟨by decide +kernel, by decide +kernel⟩, List.mem_of_getElem? (i := 17) (by decide +kernel), List.mem_of_getElem? (i := 607) (by decide +kernel), List.mem_of_getElem? (i := 608) (by decide +kernel)⟩
theorem lw_p23 : lw_okq (⟨"FleetSettings", "findRunning", "(LFleetSettings$Machine;)V"⟩, 16) := ⟨⟨by decide +kernel, by decide +kernel⟩, List.mem_of_getElem? (i := 17) (by decide +kernel), List.mem_of_getElem? (i := 626) (by decide +kernel), List.mem_of_getElem? (i := 627) (by decide +kernel)⟩
theorem lw_p24 : lw_okq (⟨"FleetSettings", "findOutcome", "(LFleetSettings$Machine;[I[I)V"⟩, 16) := ⟨⟨by decide +kernel, by decide +kernel⟩, List.mem_of_getElem? (i := 17) (by decide +kernel), List.mem_of_getElem? (i := 635) (by decide +kernel), List.mem_of_getElem? (i := 636) (by decide +kernel)⟩
theorem lw_p25 : lw_okq (⟨"FleetSettings", "decide", "(LFleetSettings$Machine;[I[II)V"⟩, 16) := ⟨⟨by decide +kernel, by decide +kernel⟩, List.mem_of_getElem? (i := 17) (by decide +kernel), List.mem_of_getElem? (i := 639) (by decide +kernel), List.mem_of_getElem? (i := 640) (by decide +kernel)⟩
theorem lw_p26 : lw_okq (⟨"FleetSettings$Outcome", "yields", "(II)Z"⟩, 4) := ⟨⟨by decide +kernel, by decide +kernel⟩, List.mem_of_getElem? (i := 50) (by decide +kernel), List.mem_of_getElem? (i := 652) (by decide +kernel), List.mem_of_getElem? (i := 653) (by decide +kernel)⟩
theorem lw_p27 : lw_okq (⟨"FleetSettings", "findHeadsAnew", "()V"⟩, 16) := ⟨⟨by decide +kernel, by decide +kernel⟩, List.mem_of_getElem? (i := 17) (by decide +kernel), List.mem_of_getElem? (i := 687) (by decide +kernel), List.mem_of_getElem? (i := 688) (by decide +kernel)⟩
theorem lw_p28 : lw_okq (⟨"FleetSettings$Change", "countGoodAt", "(I[LFleetSettings$Person;)I"⟩, 8) := ⟨⟨by decide +kernel, by decide +kernel⟩, List.mem_of_getElem? (i := 121) (by decide +kernel), List.mem_of_getElem? (i := 695) (by decide +kernel), List.mem_of_getElem? (i := 696) (by decide +kernel)⟩
theorem lw_p29 : lw_okq (⟨"FleetSettingsModel", "fails", "(I)I"⟩, 26) := ⟨⟨by decide +kernel, by decide +kernel⟩, List.mem_of_getElem? (i := 728) (by decide +kernel), List.mem_of_getElem? (i := 824) (by decide +kernel), List.mem_of_getElem? (i := 825) (by decide +kernel)⟩
theorem lw_p30 : lw_okq (⟨"FleetSettingsModel", "voids", "(I)I"⟩, 26) := ⟨⟨by decide +kernel, by decide +kernel⟩, List.mem_of_getElem? (i := 728) (by decide +kernel), List.mem_of_getElem? (i := 835) (by decide +kernel), List.mem_of_getElem? (i := 836) (by decide +kernel)⟩
theorem lw_p31 : lw_okq (⟨"FleetSettingsModel", "good", "(I)I"⟩, 26) := ⟨⟨by decide +kernel, by decide +kernel⟩, List.mem_of_getElem? (i := 728) (by decide +kernel), List.mem_of_getElem? (i := 839) (by decide +kernel), List.mem_of_getElem? (i := 840) (by decide +kernel)⟩
def lw_privs_2 : List (MethodName × Nat) := [(⟨"FleetSettings", "requireMachine", "(I)V"⟩, 16), (⟨"FleetSettings", "requirePlace", "(I)V"⟩, 16), (⟨"FleetSettings", "slotOf", "(I)I"⟩, 16), (⟨"FleetSettings", "requireChange", "(I)V"⟩, 16), (⟨"FleetSettings", "isOnDuty", "(I)Z"⟩, 16), (⟨"FleetSettings", "hold", "(I)V"⟩, 16), (⟨"FleetSettings", "whatIsToldBy", "(I)I"⟩, 16), (⟨"FleetSettings", "findRunning", "(LFleetSettings$Machine;)V"⟩, 16), (⟨"FleetSettings", "findOutcome", "(LFleetSettings$Machine;[I[I)V"⟩, 16), (⟨"FleetSettings", "decide", "(LFleetSettings$Machine;[I[II)V"⟩, 16), (⟨"FleetSettings$Outcome", "yields", "(II)Z"⟩, 4), (⟨"FleetSettings", "findHeadsAnew", "()V"⟩, 16), (⟨"FleetSettings$Change", "countGoodAt", "(I[LFleetSettings$Person;)I"⟩, 8), (⟨"FleetSettingsModel", "fails", "(I)I"⟩, 26), (⟨"FleetSettingsModel", "voids", "(I)I"⟩, 26), (⟨"FleetSettingsModel", "good", "(I)I"⟩, 26)]
theorem lw_r2 : ∀ q ∈ lw_privs_2, lw_okq q := List.forall_mem_cons.mpr ⟨lw_p16, List.forall_mem_cons.mpr ⟨lw_p17, List.forall_mem_cons.mpr ⟨lw_p18, List.forall_mem_cons.mpr ⟨lw_p19, List.forall_mem_cons.mpr ⟨lw_p20, List.forall_mem_cons.mpr ⟨lw_p21, List.forall_mem_cons.mpr ⟨lw_p22, List.forall_mem_cons.mpr ⟨lw_p23, List.forall_mem_cons.mpr ⟨lw_p24, List.forall_mem_cons.mpr ⟨lw_p25, List.forall_mem_cons.mpr ⟨lw_p26, List.forall_mem_cons.mpr ⟨lw_p27, List.forall_mem_cons.mpr ⟨lw_p28, List.forall_mem_cons.mpr ⟨lw_p29, List.forall_mem_cons.mpr ⟨lw_p30, List.forall_mem_cons.mpr ⟨lw_p31, fun _ h => absurd h List.not_mem_nil⟩⟩⟩⟩⟩⟩⟩⟩⟩⟩⟩⟩⟩⟩⟩⟩
theorem lw_p32 : lw_okq (⟨"FleetSettingsModel", "isHalted", "(I)Z"⟩, 26) := ⟨⟨by decide +kernel, by decide +kernel⟩, List.mem_of_getElem? (i := 728) (by decide +kernel), List.mem_of_getElem? (i := 843) (by decide +kernel), List.mem_of_getElem? (i := 844) (by decide +kernel)⟩
theorem lw_p33 : lw_okq (⟨"FleetSettingsModel", "cells", "(II)I"⟩, 26) := ⟨⟨by decide +kernel, by decide +kernel⟩, List.mem_of_getElem? (i := 728) (by decide +kernel), List.mem_of_getElem? (i := 847) (by decide +kernel), List.mem_of_getElem? (i := 848) (by decide +kernel)⟩
theorem lw_p34 : lw_okq (⟨"FleetSettingsModel", "passes", "()I"⟩, 26) := ⟨⟨by decide +kernel, by decide +kernel⟩, List.mem_of_getElem? (i := 728) (by decide +kernel), List.mem_of_getElem? (i := 859) (by decide +kernel), List.mem_of_getElem? (i := 860) (by decide +kernel)⟩
theorem lw_p35 : lw_okq (⟨"FleetSettingsModel", "goesBack", "(I)V"⟩, 26) := ⟨⟨by decide +kernel, by decide +kernel⟩, List.mem_of_getElem? (i := 728) (by decide +kernel), List.mem_of_getElem? (i := 863) (by decide +kernel), List.mem_of_getElem? (i := 864) (by decide +kernel)⟩
theorem lw_p36 : lw_okq (⟨"FleetSettingsModel", "slot", "(II)I"⟩, 26) := ⟨⟨by decide +kernel, by decide +kernel⟩, List.mem_of_getElem? (i := 728) (by decide +kernel), List.mem_of_getElem? (i := 867) (by decide +kernel), List.mem_of_getElem? (i := 868) (by decide +kernel)⟩
theorem lw_p37 : lw_okq (⟨"FleetSettingsModel", "topOf", "(III)I"⟩, 26) := ⟨⟨by decide +kernel, by decide +kernel⟩, List.mem_of_getElem? (i := 728) (by decide +kernel), List.mem_of_getElem? (i := 871) (by decide +kernel), List.mem_of_getElem? (i := 872) (by decide +kernel)⟩
theorem lw_p38 : lw_okq (⟨"FleetSettingsModel", "top", "(II)I"⟩, 26) := ⟨⟨by decide +kernel, by decide +kernel⟩, List.mem_of_getElem? (i := 728) (by decide +kernel), List.mem_of_getElem? (i := 875) (by decide +kernel), List.mem_of_getElem? (i := 876) (by decide +kernel)⟩
theorem lw_p39 : lw_okq (⟨"FleetSettingsModel", "works", "(I)Z"⟩, 26) := ⟨⟨by decide +kernel, by decide +kernel⟩, List.mem_of_getElem? (i := 728) (by decide +kernel), List.mem_of_getElem? (i := 879) (by decide +kernel), List.mem_of_getElem? (i := 880) (by decide +kernel)⟩
theorem lw_p40 : lw_okq (⟨"FleetSettingsModel", "takes", "(I)Z"⟩, 26) := ⟨⟨by decide +kernel, by decide +kernel⟩, List.mem_of_getElem? (i := 728) (by decide +kernel), List.mem_of_getElem? (i := 883) (by decide +kernel), List.mem_of_getElem? (i := 884) (by decide +kernel)⟩
theorem lw_p41 : lw_okq (⟨"FleetSettingsModel", "layers", "(I)I"⟩, 26) := ⟨⟨by decide +kernel, by decide +kernel⟩, List.mem_of_getElem? (i := 728) (by decide +kernel), List.mem_of_getElem? (i := 887) (by decide +kernel), List.mem_of_getElem? (i := 888) (by decide +kernel)⟩
theorem lw_p42 : lw_okq (⟨"FleetSettingsModel", "lags", "(II)Z"⟩, 26) := ⟨⟨by decide +kernel, by decide +kernel⟩, List.mem_of_getElem? (i := 728) (by decide +kernel), List.mem_of_getElem? (i := 891) (by decide +kernel), List.mem_of_getElem? (i := 892) (by decide +kernel)⟩
theorem lw_p43 : lw_okq (⟨"FleetSettingsModel", "isGroup", "(I)Z"⟩, 26) := ⟨⟨by decide +kernel, by decide +kernel⟩, List.mem_of_getElem? (i := 728) (by decide +kernel), List.mem_of_getElem? (i := 903) (by decide +kernel), List.mem_of_getElem? (i := 904) (by decide +kernel)⟩
theorem lw_p44 : lw_okq (⟨"FleetSettingsModel", "isMachine", "(I)Z"⟩, 26) := ⟨⟨by decide +kernel, by decide +kernel⟩, List.mem_of_getElem? (i := 728) (by decide +kernel), List.mem_of_getElem? (i := 915) (by decide +kernel), List.mem_of_getElem? (i := 916) (by decide +kernel)⟩
theorem lw_p45 : lw_okq (⟨"FleetSettingsModel", "isOver", "(II)Z"⟩, 26) := ⟨⟨by decide +kernel, by decide +kernel⟩, List.mem_of_getElem? (i := 728) (by decide +kernel), List.mem_of_getElem? (i := 919) (by decide +kernel), List.mem_of_getElem? (i := 920) (by decide +kernel)⟩
theorem lw_p46 : lw_okq (⟨"FleetSettingsModel", "isPlace", "(I)Z"⟩, 26) := ⟨⟨by decide +kernel, by decide +kernel⟩, List.mem_of_getElem? (i := 728) (by decide +kernel), List.mem_of_getElem? (i := 943) (by decide +kernel), List.mem_of_getElem? (i := 944) (by decide +kernel)⟩
theorem lw_p47 : lw_okq (⟨"FleetSettingsModel", "isChange", "(I)Z"⟩, 26) := ⟨⟨by decide +kernel, by decide +kernel⟩, List.mem_of_getElem? (i := 728) (by decide +kernel), List.mem_of_getElem? (i := 954) (by decide +kernel), List.mem_of_getElem? (i := 955) (by decide +kernel)⟩
def lw_privs_3 : List (MethodName × Nat) := [(⟨"FleetSettingsModel", "isHalted", "(I)Z"⟩, 26), (⟨"FleetSettingsModel", "cells", "(II)I"⟩, 26), (⟨"FleetSettingsModel", "passes", "()I"⟩, 26), (⟨"FleetSettingsModel", "goesBack", "(I)V"⟩, 26), (⟨"FleetSettingsModel", "slot", "(II)I"⟩, 26), (⟨"FleetSettingsModel", "topOf", "(III)I"⟩, 26), (⟨"FleetSettingsModel", "top", "(II)I"⟩, 26), (⟨"FleetSettingsModel", "works", "(I)Z"⟩, 26), (⟨"FleetSettingsModel", "takes", "(I)Z"⟩, 26), (⟨"FleetSettingsModel", "layers", "(I)I"⟩, 26), (⟨"FleetSettingsModel", "lags", "(II)Z"⟩, 26), (⟨"FleetSettingsModel", "isGroup", "(I)Z"⟩, 26), (⟨"FleetSettingsModel", "isMachine", "(I)Z"⟩, 26), (⟨"FleetSettingsModel", "isOver", "(II)Z"⟩, 26), (⟨"FleetSettingsModel", "isPlace", "(I)Z"⟩, 26), (⟨"FleetSettingsModel", "isChange", "(I)Z"⟩, 26)]
theorem lw_r3 : ∀ q ∈ lw_privs_3, lw_okq q := List.forall_mem_cons.mpr ⟨lw_p32, List.forall_mem_cons.mpr ⟨lw_p33, List.forall_mem_cons.mpr ⟨lw_p34, List.forall_mem_cons.mpr ⟨lw_p35, List.forall_mem_cons.mpr ⟨lw_p36, List.forall_mem_cons.mpr ⟨lw_p37, List.forall_mem_cons.mpr ⟨lw_p38, List.forall_mem_cons.mpr ⟨lw_p39, List.forall_mem_cons.mpr ⟨lw_p40, List.forall_mem_cons.mpr ⟨lw_p41, List.forall_mem_cons.mpr ⟨lw_p42, List.forall_mem_cons.mpr ⟨lw_p43, List.forall_mem_cons.mpr ⟨lw_p44, List.forall_mem_cons.mpr ⟨lw_p45, List.forall_mem_cons.mpr ⟨lw_p46, List.forall_mem_cons.mpr ⟨lw_p47, fun _ h => absurd h List.not_mem_nil⟩⟩⟩⟩⟩⟩⟩⟩⟩⟩⟩⟩⟩⟩⟩⟩
theorem lw_p48 : lw_okq (⟨"FleetSettingsModel", "isAsked", "(IIZ)Z"⟩, 26) := ⟨⟨by decide +kernel, by decide +kernel⟩, List.mem_of_getElem? (i := 728) (by decide +kernel), List.mem_of_getElem? (i := 994) (by decide +kernel), List.mem_of_getElem? (i := 995) (by decide +kernel)⟩
theorem lw_p49 : lw_okq (⟨"FleetSettingsModel", "looks", "(IZ)V"⟩, 26) := ⟨⟨by decide +kernel, by decide +kernel⟩, List.mem_of_getElem? (i := 728) (by decide +kernel), List.mem_of_getElem? (i := 998) (by decide +kernel), List.mem_of_getElem? (i := 999) (by decide +kernel)⟩
theorem lw_p50 : lw_okq (⟨"FleetSettingsModel", "isHidden", "(I)Z"⟩, 26) := ⟨⟨by decide +kernel, by decide +kernel⟩, List.mem_of_getElem? (i := 728) (by decide +kernel), List.mem_of_getElem? (i := 1002) (by decide +kernel), List.mem_of_getElem? (i := 1003) (by decide +kernel)⟩
theorem lw_p51 : lw_okq (⟨"FleetSettingsModel", "isDue", "(II)I"⟩, 26) := ⟨⟨by decide +kernel, by decide +kernel⟩, List.mem_of_getElem? (i := 728) (by decide +kernel), List.mem_of_getElem? (i := 1014) (by decide +kernel), List.mem_of_getElem? (i := 1015) (by decide +kernel)⟩
def lw_privs_4 : List (MethodName × Nat) := [(⟨"FleetSettingsModel", "isAsked", "(IIZ)Z"⟩, 26), (⟨"FleetSettingsModel", "looks", "(IZ)V"⟩, 26), (⟨"FleetSettingsModel", "isHidden", "(I)Z"⟩, 26), (⟨"FleetSettingsModel", "isDue", "(II)I"⟩, 26)]
theorem lw_r4 : ∀ q ∈ lw_privs_4, lw_okq q := List.forall_mem_cons.mpr ⟨lw_p48, List.forall_mem_cons.mpr ⟨lw_p49, List.forall_mem_cons.mpr ⟨lw_p50, List.forall_mem_cons.mpr ⟨lw_p51, fun _ h => absurd h List.not_mem_nil⟩⟩⟩⟩
def lw_privs : List (MethodName × Nat) := lw_privs_1 ++ (lw_privs_2 ++ (lw_privs_3 ++ (lw_privs_4)))
def lw_tbl : List Cond := k2_sels lw_privs ++ tables_1
theorem lw_privs_ok : ∀ q ∈ lw_privs, lw_okq q := by
  show ∀ q ∈ lw_privs_1 ++ (lw_privs_2 ++ (lw_privs_3 ++ (lw_privs_4))), lw_okq q
  exact List.forall_mem_append.mpr ⟨lw_r1, List.forall_mem_append.mpr ⟨lw_r2, List.forall_mem_append.mpr ⟨lw_r3, lw_r4⟩⟩⟩
-- ===== end of PART A; then your names; then what follows =====
/-! THE CLAIM OUT OF ONE WALK OF THE LAW'S BODY. Your part is whole_start (and what it stands on); all else here is the same for every law, but numbers. -/
def R_law : String := "FleetSettingsLaw"
def lw_P (b : Addr) (xs : List Int32) (args : Array Value) (s : State) : Prop := args = #[.ref b] ∧ s.IntsAt b xs ∧ xs.length ≤ 2560 ∧ (Jvm.Cond.and given_1 narrow_1).before args s = true
def lw_Q (_ : Array Value) (s : State) (o : Outcome) (t : State) : Prop := o = .returned (some (.int 1)) ∧ Framed s o t [] 601024 7293034
def lw_Z (below : List Frame) (a : Array Value) (s : State) : State → Prop := fun t => ∃ o, t.status = .running ∧ Ended t below o ∧ lw_Q a s o t
/-- the law's own end, with 1 on the stack, nothing written that was there before, its room as the claim has it -/
theorem lw_ret {p : Program} {l : Launch} {e : Env} {s : State} {m : MethodId} {below : List Frame} {meth : Method} {c : Code} {b : Nat} (hx : p.tables.exec = Jvm.exec) (hb : c.code = code) (hr : meth.sig.returnType = ret) (hlocks : meth.locks = false) {pc : Nat} {H : Heap} {ls : Array Slot} (hdg : decode code pc = .ok (.ireturn, 1)) : W p l e room_1 s m #[Value.ref b] below meth c H [] 601024 7293034 (lw_Z below #[Value.ref b] s) (F0 m pc ls [.int 1]) := by
  intro T hT X
  obtain ⟨fs, hret, hrun, hended, hW, hframe⟩ := X.leave (v := some (.int 1)) (hlocks := hlocks) (fun h => by rw [hr] at h; cases h)
  have hmeth' : T.vm.method? m = some meth := X.method'
  refine ⟨T.setFrames fs, ?_, .returned (some (.int 1)), hrun, hended, rfl, ⟨_, rfl⟩, hW, hframe⟩
  jvm_step X.here [X.here.top, hx, hb, hdg, hmeth', hr, ret, narrow_b1]
  (try refine ⟨rfl, ?_⟩); (try refine ⟨rfl, ?_⟩)
  first | (intro acts; rw [hret _ acts rfl rfl rfl]) | rw [hret _ _ rfl rfl rfl]
  exact Steps.refl _
/-- what holds at the law's entry: the machine, the code, the tables' words (any of lw_tbl by 'hts w (by decide +kernel)'), the script of L ints xs at the cell b, what the Statement gives of the start (any of its parts by flat_of_before) -/
def lw_At (p : Program) (s : State) (m : MethodId) (meth : Method) (c : Code) (b L : Nat) (xs : Nat → Int32) : Prop :=
  p.tables.exec = Jvm.exec ∧ c.code = code ∧ meth.sig.returnType = ret ∧ c.maxLocals = 7 ∧ s.vm.findClass R_law = some m.cls ∧ (∀ w ∈ lw_tbl, w.before #[Value.ref b] s = true) ∧ va_X b L xs s s.heap ∧ b < s.heap.size ∧ meth.locks = false ∧ (Jvm.Cond.and given_1 narrow_1).before #[Value.ref b] s = true
end
section
/-! ===== BEGIN words of one list among another's, by their places ===== -/
theorem goodIn_r {big : List Cond} (ws : List Cond) (ps : List Nat) (hp : ws = ps.filterMap (fun i => big[i]?)) (h : ws.all goodWord = true) : GoodIn big ws := by
  intro w hw
  have h1 := List.all_eq_true.mp h w hw
  rw [hp] at hw
  obtain ⟨i, -, hi⟩ := List.mem_filterMap.mp hw
  have hm : w ∈ big := by first | exact List.mem_of_getElem? hi | exact List.getElem?_mem hi
  exact ⟨hm, good_of_word h1⟩
theorem goodIn_app {big a b : List Cond} (ha : GoodIn big a) (hb : GoodIn big b) : GoodIn big (a ++ b) := fun w h => (List.mem_append.mp h).elim (ha w) (hb w)
theorem goodIn_ca {big a b : List Cond} {c : Cond} (ha : GoodIn big (c :: a)) (hb : GoodIn big b) : GoodIn big (c :: (a ++ b)) := fun w h => (List.mem_cons.mp h).elim (fun e => ha w (List.mem_cons.mpr (Or.inl e))) (fun h => (List.mem_append.mp h).elim (fun h => ha w (List.mem_cons.mpr (Or.inr h))) (hb w))
theorem goodIn_sub {big ws : List Cond} (hm : ∀ w ∈ ws, w ∈ big) (h : ws.all goodWord = true) : GoodIn big ws := fun w hw => ⟨hm w hw, good_of_word (List.all_eq_true.mp h w hw)⟩
/-! ===== END ===== -/

/-! ===== BEGIN exceptions that leave a method, and their catching by the caller (launches without stack traces) ===== -/
section VXA
/-! The laws vx_back, vx_callV, vx_callS, vx_callSW, vx_throw0, vx_throwS follow proofs of the library, with one case more: JvmDerived/Free/Laws.lean (Back.of_free), Shelf42/LK1.lean (callV, callS), Shelf/KitTraced.lean (throwNew0V, throwNewS). -/
/-- where a method has thrown q: the class by its name, the cell, what was written, the world -/
def vx_T (XC : String → State → State → Prop) (st : State) (q : Addr) (t : State) (mc ms : Nat) (free : Addr → Prop) : Prop :=
  ∃ (E : String) (ce : Cell) (L : List Loc), XC E st t ∧ t.heap[q]? = some ce ∧ ce.vm = .none ∧ st.vm.findClass E = some ce.cls ∧ st.WarmedH t.vm ∧ st.sameButNew ({ t with vm := st.vm } : State) L mc ms ∧ ∀ z ∈ L, free z.base
def vx_Q (Qc : Array Value → State → Outcome → State → Prop) (XC : String → State → State → Prop) (mc ms : Nat) (free : Addr → Prop) : Array Value → State → Outcome → State → Prop := fun a st o t =>
  (Qc a st o t ∧ ∃ L, FrameEnd st o t L mc ms ∧ ∀ q ∈ L, free q.base) ∨ ∃ q, o = .threw q ∧ vx_T XC st q t mc ms free
/-- a callee that returns or throws -/
def vx_Met (l : Launch) (y : MethodName) (ws : List Cond) (rm : Room) (Pc : Array Value → State → Prop) (Qc : Array Value → State → Outcome → State → Prop) (XC : String → State → State → Prop) (mc ms : Nat) (free : Addr → Prop) : Prop :=
  MetFree l y (headSpec ws rm) Pc (fun _ _ _ _ _ => True) (vx_Q Qc XC mc ms free)
def vx_Post (XC : String → State → State → Prop) (mc ms : Nat) (free : Addr → Prop) : Pt → Array Value → Addr → Pt → Prop := fun A a q B =>
  ∃ (g : JFrame) (mk : MethodId) (t : State) (L : List Loc) (E : String) (ce : Cell), B.U.heap = t.heap ∧ B.U.vm = t.vm ∧ XC E (A.U.calling g mk a) t ∧ t.heap[q]? = some ce ∧ ce.vm = .none ∧ A.U.vm.findClass E = some ce.cls ∧ B.locs = A.locs ++ L ∧ (∀ z ∈ L, free z.base) ∧ B.cells = A.cells + mc ∧ B.slots = A.slots + ms
def vx_Back (l : Launch) (R : Room) (p : Program) (e : Env) (below : List Frame) (s : State) (sargs : Array Value) (y : MethodName) (len W9 : Nat)
    (Pre : Pt → Array Value → Prop) (Post : Pt → Array Value → Option Value → Pt → Prop) (PostX : Pt → Array Value → Addr → Pt → Prop) : Prop :=
  ∀ (m : MethodId) (meth : Method) (c : Code) (A : Pt) (g : JFrame) (ig : Instr) (mk : MethodId) (a : Array Value),
    Stand p l e R s m sargs below meth c A.U A.locs A.cells A.slots → g.method = m → g.locals.size = c.maxLocals → decode c.code g.pc = .ok (ig, len) →
    2 * g.monitorRoom + (g.stack.map fun v => v.category).sum ≤ W9 → A.U.methodNamed? y = some mk → Pre A a →
    (∃ (v : Option Value) (B : Pt), Stand p l e R s m sargs below meth c B.U B.locs B.cells B.slots ∧ Post A a v B ∧
      Steps p.tables e below (doInvoke e (A.U.setTop g) [] mk a).1 (B.U.setTop { g with pc := g.pc + len, stack := v.toList ++ g.stack })) ∨
    (∃ (q : Addr) (B : Pt), Stand p l e R s m sargs below meth c B.U B.locs B.cells B.slots ∧ PostX A a q B ∧
      Steps p.tables e below (doInvoke e (A.U.setTop g) [] mk a).1 ((B.U.setTop g).pushFrame (.throwing q)))
section Payer
variable {l : Launch} {R : Room} {p : Program} {e : Env} {below : List Frame} {s : State} {sargs : Array Value} {y : MethodName} {len W9 : Nat}
theorem vx_back {ws : List Cond} {rm : Room} {Pc : Array Value → State → Prop} {Qc : Array Value → State → Outcome → State → Prop} {XC : String → State → State → Prop} {mc ms : Nat} {free : Addr → Prop} {bytes : ByteArray} {maxL : Nat} {ret : Option FieldType}
    (hM : vx_Met l y ws rm Pc Qc XC mc ms free) (hblind : FrameBlind Pc) (hrc : rm.cells = mc) (hrs : rm.slots = ms)
    (hframes : rm.frames + 1 ≤ R.frames) (hlocals : W9 + (maxL + 11) + rm.locals ≤ R.locals)
    (hws : ∀ w ∈ ws, ∀ a' U, s.WarmedH U.vm → w.before a' U = true) (hcode : Cond.code y bytes maxL ret ∈ ws) (hinit : ∀ a' U, s.WarmedH U.vm → (Cond.initialized y.cls).before a' U = true) :
    vx_Back l R p e below s sargs y len W9 (PreOf R mc ms Pc) (PostOf Qc mc ms free) (vx_Post XC mc ms free) := by
  intro m meth c A g ig mk a X hg hsize hdg hW hn hp
  have h1 : (headSpec ws rm).pre.before a A.U = true := atoms_intro fun w hw => hws w hw _ _ X.warmed
  have h2 : (Cond.code y bytes maxL ret).before a A.U = true := hws _ hcode _ _ X.warmed
  have h3 : (Cond.initialized y.cls).before a A.U = true := hinit _ _ X.warmed
  have h4 : A.cells + (headSpec ws rm).room.cells ≤ R.cells := by rw [show (headSpec ws rm).room.cells = mc from hrc]; exact hp.1
  have h5 : A.slots + (headSpec ws rm).room.slots ≤ R.slots := by rw [show (headSpec ws rm).room.slots = ms from hrs]; exact hp.2.1
  have hPc : Pc a (A.U.calling g mk a) := hblind _ _ _ _ hp.2.2
  obtain ⟨U, Ls, c0, s0⟩ := A
  dsimp only [Pt.U, Pt.locs, Pt.cells, Pt.slots] at h1 h2 h3 h4 h5 X hn hPc ⊢
  obtain ⟨methY, cY, hmY, hcY, -, hlY, -, -, -, -⟩ := Cond.code_spec hn h2
  obtain ⟨kY, hkY, -⟩ := className_of_methodNamed hn
  have hinitY : kY.init = .initialized := Cond.initialized_spec (findClass_of_methodNamed hn) hkY h3
  have h : At U g.method c below := by rw [hg]; exact X.here
  have hlocals9 : W9 + (maxL + 11) + (headSpec ws rm).room.locals ≤ R.locals := hlocals
  have happ : (headSpec ws rm).appliesLoose y e.platform (U.calling g mk a) = true :=
    Spec.appliesLoose_calling (g := g) h hdg hn hkY hinitY
      (X.room_calling (g := g) (R' := (headSpec ws rm).room) hsize hmY hcY hframes (by rw [hlY]; omega) h4 h5) h1
  obtain ⟨mid, hmid⟩ := h.above
  have hfr : (U.setTop g).frames = (.java g :: mid) ++ below := by rw [State.frames_setTop' g h.top, hmid]; rfl
  obtain ⟨o, s₂, hsteps, -, hend, hq⟩ := Steps.callFree hM p X.admits X.cas X.clock (acts := []) hfr happ hPc trivial
  have hq' : vx_Q Qc XC mc ms free a (U.calling g mk a) o s₂ := hq
  rw [State.frames_setTop' g h.top] at hend
  obtain ⟨g₀, hg0⟩ := Option.isSome_iff_exists.mp h.top
  obtain ⟨r, hr⟩ := State.topJava?_eq_some.mp hg0
  have hr' : (({ U with heap := s₂.heap, slotsUsed := s₂.slotsUsed } : State).setVm s₂.vm).frames = .java g₀ :: r := hr
  rcases hq' with ⟨hqc, L, hfe, hL⟩ | ⟨q, rfl, E, ce, L, hx, hce, hcv, hcl, hW₂, hsm, hL⟩
  · obtain ⟨⟨v, rfl⟩, hW₂, e2, q2, q3, q4, q5, q6⟩ := id hfe
    have e3 : s₂ = ({ (U.calling g mk a).setFrames s₂.frames with heap := s₂.heap, slotsUsed := s₂.slotsUsed } : State).setVm s₂.vm := by
      have : s₂ = ({ s₂ with vm := (U.calling g mk a).vm } : State).setVm s₂.vm := rfl
      rw [e2] at this
      exact this
    obtain ⟨c₂, i₂, len₂, hc₂, hd₂, hf₂⟩ := hend
    have hW' : U.WarmedH s₂.vm := hW₂
    have hcc : c₂ = c := by
      have h1 : s₂.code? g.method = U.code? g.method := by
        rw [State.code?_eq, State.code?_eq, hW'.alike.method?]
      exact Option.some.inj (hc₂.symm.trans (h1.trans h.code))
    subst hcc
    have hlen : len₂ = len := by rw [hdg] at hd₂; cases hd₂; rfl
    subst hlen
    have hs₂ : s₂ = (({ U with heap := s₂.heap, slotsUsed := s₂.slotsUsed } : State).setVm s₂.vm).setTop { g with pc := g.pc + len₂, stack := v.toList ++ g.stack } := by
      refine e3.trans ?_
      rw [hf₂, State.calling_eq h.top, State.setFrames_setFrames, State.setTop_of_frames _ hr', hr]
      rfl
    have hsame : U.sameButNew ({ U with heap := s₂.heap, slotsUsed := s₂.slotsUsed } : State) L mc ms := by
      refine ⟨?_, q2, q3, q4, q5, q6⟩
      obtain ⟨t, ht, -⟩ := State.frames_cons hr
      show ({ U with heap := s₂.heap, slotsUsed := s₂.slotsUsed } : State) = { U.setFrames U.frames with heap := s₂.heap, slotsUsed := s₂.slotsUsed }
      rw [State.setFrames_self ht]
    subst hg
    refine Or.inl ⟨v, ⟨(({ U with heap := s₂.heap, slotsUsed := s₂.slotsUsed } : State).setVm s₂.vm), Ls ++ L, c0 + mc, s0 + ms⟩,
      ⟨X.admits, X.cas, X.clock, X.frames, X.room, X.hears, X.method, X.code, (X.here.setHeapUsed s₂.heap s₂.slotsUsed).setVm hW'.alike, X.tail, State.WarmedH.trans X.warmed hW', X.limits, X.bytes, X.same.trans (hsame.setVm s.vm)⟩,
      ⟨g, mk, s₂, L, rfl, rfl, hqc, rfl, hL, rfl, rfl⟩, ?_⟩
    show Steps p.tables e below _ ((({ U with heap := s₂.heap, slotsUsed := s₂.slotsUsed } : State).setVm s₂.vm).setTop { g with pc := g.pc + len₂, stack := v.toList ++ g.stack })
    rw [← hs₂]
    exact hsteps
  · obtain ⟨e2, q2, q3, q4, q5, q6⟩ := id hsm
    have e3 : s₂ = ({ (U.calling g mk a).setFrames s₂.frames with heap := s₂.heap, slotsUsed := s₂.slotsUsed } : State).setVm s₂.vm := by
      have : s₂ = ({ s₂ with vm := (U.calling g mk a).vm } : State).setVm s₂.vm := rfl
      rw [e2] at this
      exact this
    have hf₂ : s₂.frames = .throwing q :: .java g :: U.frames.tail := hend
    have hW' : U.WarmedH s₂.vm := hW₂
    have hs₂ : s₂ = ((({ U with heap := s₂.heap, slotsUsed := s₂.slotsUsed } : State).setVm s₂.vm).setTop g).pushFrame (.throwing q) := by
      refine e3.trans ?_
      rw [hf₂, State.calling_eq h.top, State.setFrames_setFrames, State.pushFrame, State.frames_setTop _ hr', State.setTop_of_frames _ hr', State.setFrames_setFrames, hr]
      rfl
    have hsame : U.sameButNew ({ U with heap := s₂.heap, slotsUsed := s₂.slotsUsed } : State) L mc ms := by
      refine ⟨?_, q2, q3, q4, q5, q6⟩
      obtain ⟨t, ht, -⟩ := State.frames_cons hr
      show ({ U with heap := s₂.heap, slotsUsed := s₂.slotsUsed } : State) = { U.setFrames U.frames with heap := s₂.heap, slotsUsed := s₂.slotsUsed }
      rw [State.setFrames_self ht]
    subst hg
    refine Or.inr ⟨q, ⟨(({ U with heap := s₂.heap, slotsUsed := s₂.slotsUsed } : State).setVm s₂.vm), Ls ++ L, c0 + mc, s0 + ms⟩,
      ⟨X.admits, X.cas, X.clock, X.frames, X.room, X.hears, X.method, X.code, (X.here.setHeapUsed s₂.heap s₂.slotsUsed).setVm hW'.alike, X.tail, State.WarmedH.trans X.warmed hW', X.limits, X.bytes, X.same.trans (hsame.setVm s.vm)⟩,
      ⟨g, mk, s₂, L, E, ce, rfl, rfl, hx, hce, hcv, hcl, rfl, hL, rfl, rfl⟩, ?_⟩
    show Steps p.tables e below _ (((({ U with heap := s₂.heap, slotsUsed := s₂.slotsUsed } : State).setVm s₂.vm).setTop g).pushFrame (.throwing q))
    rw [← hs₂]
    exact hsteps
end Payer
section Calls
variable {p : Program} {l : Launch} {e : Env} {R : Room} {s : State} {m : MethodId} {args : Array Value} {below : List Frame} {meth : Method} {c : Code} {T : State} {locs : List Loc} {cells slots : Nat}
theorem vx_callV (X : Stand p l e R s m args below meth c T locs cells slots) (hexec : p.tables.exec = Jvm.exec) {own C : String} {index : Nat} {y : MethodName} {bytes : ByteArray} {maxL : Nat} {ret : Option FieldType}
    (hown : s.vm.findClass own = some m.cls) (hlink : (Cond.methodLink own index y).before args s = true) (hinst : (Cond.instanceMethod y).before args s = true) (hsel : (Cond.selects C y y).before args s = true)
    (hcode : (Cond.code y bytes maxL ret).before args s = true) (hy : y.cls ≠ "java/lang/invoke/MethodHandle" ∧ y.cls ≠ "java/lang/invoke/VarHandle")
    {W9 : Nat} {Pre : Pt → Array Value → Prop} {Post : Pt → Array Value → Option Value → Pt → Prop} {PostX : Pt → Array Value → Addr → Pt → Prop} (hK : vx_Back l R p e below s args y 3 W9 Pre Post PostX)
    {b : Addr} {cellB : Cell} (hcell : T.heap[b]? = some cellB) (hobj : cellB.vm.isStatics = false) (hcls : s.vm.findClass C = some cellB.cls)
    {g : JFrame} (hg : g.method = m) (hsize : g.locals.size = c.maxLocals) {argsL rest : List Value} (hlen : ∀ sig, parseMethodDescriptor y.desc = some sig → argsL.length = sig.parameters.length)
    (hstack : g.stack = argsL.reverse ++ .ref b :: rest) (hW : 2 * g.monitorRoom + (rest.map fun v => v.category).sum ≤ W9) (hdg : decode c.code g.pc = .ok (.invokevirtual index, 3))
    (hpre : ∀ vm₁, s.WarmedH vm₁ → Pre ⟨T.setVm vm₁, locs, cells, slots⟩ (Value.ref b :: argsL).toArray) :
    (∃ (v : Option Value) (vm₁ : Vm) (B : Pt), s.WarmedH vm₁ ∧ Stand p l e R s m args below meth c B.U B.locs B.cells B.slots ∧ Post ⟨T.setVm vm₁, locs, cells, slots⟩ (Value.ref b :: argsL).toArray v B ∧
      ∀ target, Steps p.tables e below (B.U.setTop { g with pc := g.pc + 3, stack := v.toList ++ rest }) target → Steps p.tables e below (T.setTop g) target) ∨
    (∃ (q : Addr) (vm₁ : Vm) (B : Pt), s.WarmedH vm₁ ∧ Stand p l e R s m args below meth c B.U B.locs B.cells B.slots ∧ PostX ⟨T.setVm vm₁, locs, cells, slots⟩ (Value.ref b :: argsL).toArray q B ∧
      Steps p.tables e below (T.setTop g) ((B.U.setTop { g with stack := rest }).pushFrame (.throwing q))) := by
  obtain ⟨mk, methM, hnamed, hmethM, hstM, habM⟩ := Cond.instanceMethod_spec hinst
  obtain ⟨methM', cM, hmethM', -, -, -, -, -, -, hsigM⟩ := Cond.code_spec hnamed hcode
  cases hmethM.symm.trans hmethM'
  obtain ⟨c2, r2, m2, q1, q2, q3, q4, kP, hkP, hkPi⟩ := Cond.selects_spec hsel
  cases hcls.symm.trans q1
  cases (State.methodFound?_of_named hnamed hy).symm.trans q2
  cases hnamed.symm.trans q3
  have hselP : selectMethod e.platform s.vm cellB.cls mk = .method mk := by rw [Launch.admits_selectMethod X.admits]; exact q4
  obtain ⟨vm₁, X₁, hstep₁⟩ := X.invokevirtual hexec hown hlink hnamed hmethM hstM hkP hkPi hy (a := b) (cell := cellB) hcell
    (fun z h => by rw [h] at hobj; cases hobj) hselP hmethM habM hkP hkPi (g := g) hg (argsL := argsL) (rest := rest) (hlen _ hsigM) hstack hdg
  rcases hK m meth c ⟨T.setVm vm₁, locs, cells, slots⟩ { g with stack := rest } (.invokevirtual index) mk (Value.ref b :: argsL).toArray X₁ hg hsize hdg hW (X₁.named hnamed) (hpre vm₁ X₁.warmed) with ⟨v, B, X', hpost, hsteps⟩ | ⟨q, B, X', hpost, hsteps⟩
  · exact Or.inl ⟨v, vm₁, B, X₁.warmed, X', hpost, fun target h => hstep₁ _ fun acts => by rw [doInvoke_state]; exact hsteps.trans h⟩
  · exact Or.inr ⟨q, vm₁, B, X₁.warmed, X', hpost, hstep₁ _ fun acts => by rw [doInvoke_state]; exact hsteps⟩
theorem vx_callS (X : Stand p l e R s m args below meth c T locs cells slots) (hexec : p.tables.exec = Jvm.exec) {own : String} {index : Nat} {y : MethodName} {bytes : ByteArray} {maxL : Nat} {ret : Option FieldType}
    (hown : s.vm.findClass own = some m.cls) (hlink : (Cond.methodLink own index y).before args s = true) (hstat : (Cond.static y).before args s = true) (hinit : (Cond.initialized y.cls).before args s = true)
    (hcode : (Cond.code y bytes maxL ret).before args s = true) (hy : y.cls ≠ "java/lang/invoke/MethodHandle" ∧ y.cls ≠ "java/lang/invoke/VarHandle")
    {W9 : Nat} {Pre : Pt → Array Value → Prop} {Post : Pt → Array Value → Option Value → Pt → Prop} {PostX : Pt → Array Value → Addr → Pt → Prop} (hK : vx_Back l R p e below s args y 3 W9 Pre Post PostX)
    {g : JFrame} (hg : g.method = m) (hsize : g.locals.size = c.maxLocals) {argsL rest : List Value} (hlen : ∀ sig, parseMethodDescriptor y.desc = some sig → argsL.length = sig.parameters.length)
    (hstack : g.stack = argsL.reverse ++ rest) (hW : 2 * g.monitorRoom + (rest.map fun v => v.category).sum ≤ W9) (hdg : decode c.code g.pc = .ok (.invokestatic index, 3))
    (hpre : ∀ vm₁, s.WarmedH vm₁ → Pre ⟨T.setVm vm₁, locs, cells, slots⟩ argsL.toArray) :
    (∃ (v : Option Value) (vm₁ : Vm) (B : Pt), s.WarmedH vm₁ ∧ Stand p l e R s m args below meth c B.U B.locs B.cells B.slots ∧ Post ⟨T.setVm vm₁, locs, cells, slots⟩ argsL.toArray v B ∧
      ∀ target, Steps p.tables e below (B.U.setTop { g with pc := g.pc + 3, stack := v.toList ++ rest }) target → Steps p.tables e below (T.setTop g) target) ∨
    (∃ (q : Addr) (vm₁ : Vm) (B : Pt), s.WarmedH vm₁ ∧ Stand p l e R s m args below meth c B.U B.locs B.cells B.slots ∧ PostX ⟨T.setVm vm₁, locs, cells, slots⟩ argsL.toArray q B ∧
      Steps p.tables e below (T.setTop g) ((B.U.setTop { g with stack := rest }).pushFrame (.throwing q))) := by
  obtain ⟨mk, hnamed⟩ := Cond.code_named hcode
  obtain ⟨methM, cM, hmethM, -, -, -, -, -, -, hsigM⟩ := Cond.code_spec hnamed hcode
  have hstatic : methM.isStatic = true := Cond.static_spec hnamed hmethM hstat
  obtain ⟨kP, hkP, -⟩ := className_of_methodNamed hnamed
  have hinitP : kP.init = .initialized := Cond.initialized_spec (findClass_of_methodNamed hnamed) hkP hinit
  obtain ⟨vm₁, X₁, hstep₁⟩ := X.invokestatic hexec hown hlink hnamed hmethM hstatic hkP hinitP hy (g := g) hg (argsL := argsL) (rest := rest) (hlen _ hsigM) hstack hdg
  rcases hK m meth c ⟨T.setVm vm₁, locs, cells, slots⟩ { g with stack := rest } (.invokestatic index) mk argsL.toArray X₁ hg hsize hdg hW (X₁.named hnamed) (hpre vm₁ X₁.warmed) with ⟨v, B, X', hpost, hsteps⟩ | ⟨q, B, X', hpost, hsteps⟩
  · exact Or.inl ⟨v, vm₁, B, X₁.warmed, X', hpost, fun target h => hstep₁ _ fun acts => by rw [doInvoke_state]; exact hsteps.trans h⟩
  · exact Or.inr ⟨q, vm₁, B, X₁.warmed, X', hpost, hstep₁ _ fun acts => by rw [doInvoke_state]; exact hsteps⟩
end Calls
theorem vx_cls {s : State} {T : State} {vm₁ : Vm} {E : String} {k : ClassId} (hW : s.WarmedH vm₁) (h : (T.setVm vm₁).vm.findClass E = some k) : s.vm.findClass E = some k := by
  have h1 : vm₁.findClass E = some k := h
  rw [hW.alike.findClass] at h1
  exact h1
/-- the method's frame g, with q thrown over it -/
def vx_W (p : Program) (l : Launch) (e : Env) (R : Room) (s : State) (m : MethodId) (args : Array Value) (below : List Frame) (meth : Method) (c : Code) (H : Heap) (locs : List Loc) (cells slots : Nat) (Q : State → Prop) (g : JFrame) (q : Addr) : Prop :=
  ∀ T : State, T.heap = H → Stand p l e R s m args below meth c T locs cells slots → ∃ t, Steps p.tables e below ((T.setTop g).pushFrame (.throwing q)) t ∧ Q t
def vx_Run (p : Program) (l : Launch) (e : Env) (R : Room) (s : State) (m : MethodId) (args : Array Value) (below : List Frame) (meth : Method) (c : Code) (H : Heap) (locs : List Loc) (cells slots mc ms : Nat) (g : JFrame) (rest : List Value) (Qa : State → Outcome → State → Prop) (XC : String → State → State → Prop) (free : Addr → Prop) : Prop :=
  ∀ T : State, T.heap = H → Stand p l e R s m args below meth c T locs cells slots →
    (∃ (v : Option Value) (st₀ t T' : State) (L : List Loc), st₀.heap = H ∧ Stand p l e R s m args below meth c T' (locs ++ L) (cells + mc) (slots + ms) ∧ (∀ q ∈ L, free q.base) ∧ T'.heap = t.heap ∧ T'.vm = t.vm ∧ Qa st₀ (.returned v) t ∧
      Goes p e below T g T' { g with pc := g.pc + 3, stack := v.toList ++ rest }) ∨
    (∃ (q : Addr) (st₀ t T' : State) (L : List Loc) (E : String) (ce : Cell), st₀.heap = H ∧ Stand p l e R s m args below meth c T' (locs ++ L) (cells + mc) (slots + ms) ∧ (∀ z ∈ L, free z.base) ∧ T'.heap = t.heap ∧ T'.vm = t.vm ∧ XC E st₀ t ∧ t.heap[q]? = some ce ∧ ce.vm = .none ∧ s.vm.findClass E = some ce.cls ∧
      Steps p.tables e below (T.setTop g) ((T'.setTop { g with stack := rest }).pushFrame (.throwing q)))
def vx_X {S : Type} (px : S → Prop) (B : String → S → State → Prop) (A : Nat → Prop) : String → State → State → Prop := fun E st t => ∃ u : S, px u ∧ B E u t ∧ va_F A st t
section Runs
variable {p : Program} {l : Launch} {e : Env} {R : Room} {s : State} {m : MethodId} {args : Array Value} {below : List Frame} {meth : Method} {c : Code} {H : Heap} {locs : List Loc} {cells slots : Nat}
variable {y : MethodName} {bytes cc : ByteArray} {maxL nL mc ms n index : Nat} {ret : Option FieldType} {ws : List Cond} {rm : Room} {Pc : Array Value → State → Prop} {Qc : Array Value → State → Outcome → State → Prop} {XC : String → State → State → Prop} {free : Addr → Prop} {Ts : List Cond} {own C : String} {b : Addr} {As rest : List Value} {g : JFrame}
theorem vx_callBack (cb : CallB R s args own index y bytes maxL ret ws rm mc ms n) (hM : vx_Met l y ws rm Pc Qc XC mc ms free) (hbl : FrameBlind Pc) : vx_Back l R p e below s args y 3 8 (PreOf R mc ms Pc) (PostOf Qc mc ms free) (vx_Post XC mc ms free) := by
  obtain ⟨hrc, hrs, hfr, hlo, hws, hcw, -, hini, -⟩ := cb
  exact vx_back (bytes := bytes) (maxL := maxL) (ret := ret) hM hbl hrc hrs hfr hlo hws hcw (fun a' U hW => word_at hW (Or.inl (by first | rfl | simp [Cond.onTables, Cond.keeps, Cond.steady])) hini)
theorem vx_runV (S : CallFix p m c cc nL s args Ts own) (hM : vx_Met l y ws rm Pc Qc XC mc ms free) (cw : CallW R s args own C index y bytes maxL ret ws rm mc ms n) (hp : PreV s H C b Pc As)
    (hg : g.method = m) (hn : As.length = n) (hsize : g.locals.size = nL) (hstack : g.stack = As.reverse ++ .ref b :: rest) (hW : 2 * g.monitorRoom + (rest.map fun v => v.category).sum ≤ 8) (hdg : decode cc g.pc = .ok (.invokevirtual index, 3)) (hf : cells + mc ≤ R.cells ∧ slots + ms ≤ R.slots) :
    vx_Run p l e R s m args below meth c H locs cells slots mc ms g rest (Qc (Value.ref b :: As).toArray) XC free := by
  have hK : vx_Back l R p e below s args y 3 8 (PreOf R mc ms Pc) (PostOf Qc mc ms free) (vx_Post XC mc ms free) := vx_callBack cw.1 hM hp.1
  obtain ⟨⟨-, -, -, -, -, -, hcode, -, hy, hlen, hl⟩, hin, hse⟩ := cw
  obtain ⟨hx, hb, hml, ho, -⟩ := S
  obtain ⟨-, ⟨cellB, hcB, hoB, hclB⟩, hPc⟩ := hp
  intro T hT X
  rcases vx_callV X hx (C := C) (bytes := bytes) (maxL := maxL) (ret := ret) ho hl hin hse hcode hy hK (by rw [hT]; exact hcB) hoB hclB hg (hsize.trans hml.symm) (argsL := As) (rest := rest) (fun sig h => hn.trans (hlen sig h)) hstack hW (by rw [hb]; exact hdg)
    (fun vm₁ hW₁ => ⟨hf.1, hf.2, hPc (T.setVm vm₁) hT hW₁⟩) with ⟨v, vm₁, ⟨U', l2, c2, s2⟩, hW₁, X', ⟨g', mk, t, L, e1, e2, hq, h1, hL, h2, h3⟩, st⟩ | ⟨q, vm₁, ⟨U', l2, c2, s2⟩, hW₁, X', ⟨g', mk, t, L, E, ce, e1, e2, hq, hce, hcv, hcl, h1, hL, h2, h3⟩, st⟩
  · dsimp only [Pt.U, Pt.locs, Pt.cells, Pt.slots] at X' e1 e2 h1 h2 h3 st
    subst h1; subst h2; subst h3
    exact Or.inl ⟨v, (T.setVm vm₁).calling g' mk (Value.ref b :: As).toArray, t, U', L, hT, X', hL, e1, e2, hq, st⟩
  · dsimp only [Pt.U, Pt.locs, Pt.cells, Pt.slots] at X' e1 e2 h1 h2 h3 st hcl
    subst h1; subst h2; subst h3
    exact Or.inr ⟨q, (T.setVm vm₁).calling g' mk (Value.ref b :: As).toArray, t, U', L, E, ce, hT, X', hL, e1, e2, hq, hce, hcv, vx_cls hW₁ hcl, st⟩
theorem vx_runS (S : CallFix p m c cc nL s args Ts own) (hM : vx_Met l y ws rm Pc Qc XC mc ms free) (cw : CallB R s args own index y bytes maxL ret ws rm mc ms n ∧ (Cond.static y).before args s = true) (hp : PreS s H Pc As)
    (hg : g.method = m) (hn : As.length = n) (hsize : g.locals.size = nL) (hstack : g.stack = As.reverse ++ rest) (hW : 2 * g.monitorRoom + (rest.map fun v => v.category).sum ≤ 8) (hdg : decode cc g.pc = .ok (.invokestatic index, 3)) (hf : cells + mc ≤ R.cells ∧ slots + ms ≤ R.slots) :
    vx_Run p l e R s m args below meth c H locs cells slots mc ms g rest (Qc As.toArray) XC free := by
  have hK : vx_Back l R p e below s args y 3 8 (PreOf R mc ms Pc) (PostOf Qc mc ms free) (vx_Post XC mc ms free) := vx_callBack cw.1 hM hp.1
  obtain ⟨⟨-, -, -, -, -, -, hcode, hini, hy, hlen, hl⟩, hstt⟩ := cw
  obtain ⟨hx, hb, hml, ho, -⟩ := S
  intro T hT X
  rcases vx_callS X hx (bytes := bytes) (maxL := maxL) (ret := ret) ho hl hstt hini hcode hy hK hg (hsize.trans hml.symm) (argsL := As) (rest := rest) (fun sig h => hn.trans (hlen sig h)) hstack hW (by rw [hb]; exact hdg)
    (fun vm₁ hW₁ => ⟨hf.1, hf.2, hp.2 (T.setVm vm₁) hT hW₁⟩) with ⟨v, vm₁, ⟨U', l2, c2, s2⟩, hW₁, X', ⟨g', mk, t, L, e1, e2, hq, h1, hL, h2, h3⟩, st⟩ | ⟨q, vm₁, ⟨U', l2, c2, s2⟩, hW₁, X', ⟨g', mk, t, L, E, ce, e1, e2, hq, hce, hcv, hcl, h1, hL, h2, h3⟩, st⟩
  · dsimp only [Pt.U, Pt.locs, Pt.cells, Pt.slots] at X' e1 e2 h1 h2 h3 st
    subst h1; subst h2; subst h3
    exact Or.inl ⟨v, (T.setVm vm₁).calling g' mk As.toArray, t, U', L, hT, X', hL, e1, e2, hq, st⟩
  · dsimp only [Pt.U, Pt.locs, Pt.cells, Pt.slots] at X' e1 e2 h1 h2 h3 st hcl
    subst h1; subst h2; subst h3
    exact Or.inr ⟨q, (T.setVm vm₁).calling g' mk As.toArray, t, U', L, E, ce, hT, X', hL, e1, e2, hq, hce, hcv, vx_cls hW₁ hcl, st⟩
end Runs
section Rows
variable {p : Program} {l : Launch} {e : Env} {R : Room} {s : State} {m : MethodId} {args : Array Value} {below : List Frame} {meth : Method} {c : Code} {H : Heap} {locs : List Loc} {cells slots : Nat} {Q : State → Prop}
variable {mc ms : Nat} {free : Addr → Prop} {A0 A1 : Nat → Prop} {H0 : Heap} {a : Array Value} {pc : Nat} {ls : Array Slot} {st0 rest : List Value}
theorem vx_keep {st₀ t T' : State} {L : List Loc} (h0 : st₀.heap = H) (e1 : T'.heap = t.heap) (hS : va_S A0 H0 H locs) (hA : ∀ q, q < H.size → A1 q → A0 q) (hf : ∀ q, free q → A0 q) (hL : ∀ q ∈ L, free q.base) (hF : va_F A1 st₀ t) :
    H.size ≤ T'.heap.size ∧ (∀ q : Nat, q < H.size → ¬ A1 q → T'.heap[q]? = H[q]?) ∧ va_S A0 H0 T'.heap (locs ++ L) := by
  obtain ⟨hz, hk⟩ := hF
  rw [h0] at hz hk
  exact ⟨by rw [e1]; exact hz, fun q h1 h2 => by rw [e1]; exact hk q h1 h2,
    ⟨Nat.le_trans hS.1 (by rw [e1]; exact hz), fun q h1 h2 => by rw [e1, hk q (Nat.lt_of_lt_of_le h1 hS.1) (fun z => h2 (hA q (Nat.lt_of_lt_of_le h1 hS.1) z))]; exact hS.2.1 q h1 h2, fun q hq => by
      rcases List.mem_append.mp hq with h | h
      · exact hS.2.2 q h
      · exact hf _ (hL q h)⟩⟩
theorem vx_calli {S SX : Type} {post : Int32 → S → Prop} {px : SX → Prop} {B : S → State → Prop} {BX : String → SX → State → Prop} {AX : Nat → Prop} (hr : vx_Run p l e R s m args below meth c H locs cells slots mc ms (F0 m pc ls st0) rest (va_Qi post B A1 a) (vx_X px BX AX) free) (hS : va_S A0 H0 H locs) (hA : ∀ q, q < H.size → A1 q → A0 q) (hf : ∀ q, free q → A0 q) (hAX : ∀ q, q < H.size → AX q → A0 q)
    (kx : ∀ (E : String) (ce : Cell) (q9 : Addr) (u : SX) (t : State) (H1 : Heap) (locs1 : List Loc), t.heap = H1 → s.vm.Alike t.vm → px u → BX E u t → H.size ≤ H1.size → (∀ q : Nat, q < H.size → ¬ AX q → H1[q]? = H[q]?) → va_S A0 H0 H1 locs1 → H1[q9]? = some ce → ce.vm = .none → s.vm.findClass E = some ce.cls → vx_W p l e R s m args below meth c H1 locs1 (cells + mc) (slots + ms) Q (F0 m pc ls rest) q9)
    (kk : ∀ (r : Int32) (u : S) (t : State) (H1 : Heap) (locs1 : List Loc), t.heap = H1 → s.vm.Alike t.vm → post r u → B u t → H.size ≤ H1.size → (∀ q : Nat, q < H.size → ¬ A1 q → H1[q]? = H[q]?) → va_S A0 H0 H1 locs1 → W p l e R s m args below meth c H1 locs1 (cells + mc) (slots + ms) Q (F0 m (pc + 3) ls (.int r :: rest))) : W p l e R s m args below meth c H locs cells slots Q (F0 m pc ls st0) := by
  intro T hT X
  rcases hr T hT X with ⟨v, st₀, t, T', L, h0, X', hL, e1, e2, ⟨⟨r, u, hv, hp, hb⟩, hF⟩, st⟩ | ⟨q, st₀, t, T', L, E, ce, h0, X', hL, e1, e2, ⟨u, hp, hb, hF⟩, hce, hcv, hcl, st⟩
  · cases hv
    obtain ⟨k1, k2, k3⟩ := vx_keep h0 e1 hS hA hf hL hF
    obtain ⟨t2, a1, b1⟩ := kk r u t T'.heap (locs ++ L) e1.symm (by rw [← e2]; exact X'.warmed.alike) hp hb k1 k2 k3 T' rfl X'
    exact ⟨t2, st t2 a1, b1⟩
  · obtain ⟨k1, k2, k3⟩ := vx_keep h0 e1 hS hAX hf hL hF
    obtain ⟨t2, a1, b1⟩ := kx E ce q u t T'.heap (locs ++ L) e1.symm (by rw [← e2]; exact X'.warmed.alike) hp hb k1 k2 k3 (by rw [e1]; exact hce) hcv hcl T' rfl X'
    exact ⟨t2, st.trans a1, b1⟩
theorem vx_calll {S SX : Type} {post : Int64 → S → Prop} {px : SX → Prop} {B : S → State → Prop} {BX : String → SX → State → Prop} {AX : Nat → Prop} (hr : vx_Run p l e R s m args below meth c H locs cells slots mc ms (F0 m pc ls st0) rest (va_Ql post B A1 a) (vx_X px BX AX) free) (hS : va_S A0 H0 H locs) (hA : ∀ q, q < H.size → A1 q → A0 q) (hf : ∀ q, free q → A0 q) (hAX : ∀ q, q < H.size → AX q → A0 q)
    (kx : ∀ (E : String) (ce : Cell) (q9 : Addr) (u : SX) (t : State) (H1 : Heap) (locs1 : List Loc), t.heap = H1 → s.vm.Alike t.vm → px u → BX E u t → H.size ≤ H1.size → (∀ q : Nat, q < H.size → ¬ AX q → H1[q]? = H[q]?) → va_S A0 H0 H1 locs1 → H1[q9]? = some ce → ce.vm = .none → s.vm.findClass E = some ce.cls → vx_W p l e R s m args below meth c H1 locs1 (cells + mc) (slots + ms) Q (F0 m pc ls rest) q9)
    (kk : ∀ (r : Int64) (u : S) (t : State) (H1 : Heap) (locs1 : List Loc), t.heap = H1 → s.vm.Alike t.vm → post r u → B u t → H.size ≤ H1.size → (∀ q : Nat, q < H.size → ¬ A1 q → H1[q]? = H[q]?) → va_S A0 H0 H1 locs1 → W p l e R s m args below meth c H1 locs1 (cells + mc) (slots + ms) Q (F0 m (pc + 3) ls (.long r :: rest))) : W p l e R s m args below meth c H locs cells slots Q (F0 m pc ls st0) := by
  intro T hT X
  rcases hr T hT X with ⟨v, st₀, t, T', L, h0, X', hL, e1, e2, ⟨⟨r, u, hv, hp, hb⟩, hF⟩, st⟩ | ⟨q, st₀, t, T', L, E, ce, h0, X', hL, e1, e2, ⟨u, hp, hb, hF⟩, hce, hcv, hcl, st⟩
  · cases hv
    obtain ⟨k1, k2, k3⟩ := vx_keep h0 e1 hS hA hf hL hF
    obtain ⟨t2, a1, b1⟩ := kk r u t T'.heap (locs ++ L) e1.symm (by rw [← e2]; exact X'.warmed.alike) hp hb k1 k2 k3 T' rfl X'
    exact ⟨t2, st t2 a1, b1⟩
  · obtain ⟨k1, k2, k3⟩ := vx_keep h0 e1 hS hAX hf hL hF
    obtain ⟨t2, a1, b1⟩ := kx E ce q u t T'.heap (locs ++ L) e1.symm (by rw [← e2]; exact X'.warmed.alike) hp hb k1 k2 k3 (by rw [e1]; exact hce) hcv hcl T' rfl X'
    exact ⟨t2, st.trans a1, b1⟩
theorem vx_callf {S SX : Type} {post : UInt32 → S → Prop} {px : SX → Prop} {B : S → State → Prop} {BX : String → SX → State → Prop} {AX : Nat → Prop} (hr : vx_Run p l e R s m args below meth c H locs cells slots mc ms (F0 m pc ls st0) rest (va_Qf post B A1 a) (vx_X px BX AX) free) (hS : va_S A0 H0 H locs) (hA : ∀ q, q < H.size → A1 q → A0 q) (hf : ∀ q, free q → A0 q) (hAX : ∀ q, q < H.size → AX q → A0 q)
    (kx : ∀ (E : String) (ce : Cell) (q9 : Addr) (u : SX) (t : State) (H1 : Heap) (locs1 : List Loc), t.heap = H1 → s.vm.Alike t.vm → px u → BX E u t → H.size ≤ H1.size → (∀ q : Nat, q < H.size → ¬ AX q → H1[q]? = H[q]?) → va_S A0 H0 H1 locs1 → H1[q9]? = some ce → ce.vm = .none → s.vm.findClass E = some ce.cls → vx_W p l e R s m args below meth c H1 locs1 (cells + mc) (slots + ms) Q (F0 m pc ls rest) q9)
    (kk : ∀ (r : UInt32) (u : S) (t : State) (H1 : Heap) (locs1 : List Loc), t.heap = H1 → s.vm.Alike t.vm → post r u → B u t → H.size ≤ H1.size → (∀ q : Nat, q < H.size → ¬ A1 q → H1[q]? = H[q]?) → va_S A0 H0 H1 locs1 → W p l e R s m args below meth c H1 locs1 (cells + mc) (slots + ms) Q (F0 m (pc + 3) ls (.float r :: rest))) : W p l e R s m args below meth c H locs cells slots Q (F0 m pc ls st0) := by
  intro T hT X
  rcases hr T hT X with ⟨v, st₀, t, T', L, h0, X', hL, e1, e2, ⟨⟨r, u, hv, hp, hb⟩, hF⟩, st⟩ | ⟨q, st₀, t, T', L, E, ce, h0, X', hL, e1, e2, ⟨u, hp, hb, hF⟩, hce, hcv, hcl, st⟩
  · cases hv
    obtain ⟨k1, k2, k3⟩ := vx_keep h0 e1 hS hA hf hL hF
    obtain ⟨t2, a1, b1⟩ := kk r u t T'.heap (locs ++ L) e1.symm (by rw [← e2]; exact X'.warmed.alike) hp hb k1 k2 k3 T' rfl X'
    exact ⟨t2, st t2 a1, b1⟩
  · obtain ⟨k1, k2, k3⟩ := vx_keep h0 e1 hS hAX hf hL hF
    obtain ⟨t2, a1, b1⟩ := kx E ce q u t T'.heap (locs ++ L) e1.symm (by rw [← e2]; exact X'.warmed.alike) hp hb k1 k2 k3 (by rw [e1]; exact hce) hcv hcl T' rfl X'
    exact ⟨t2, st.trans a1, b1⟩
theorem vx_calld {S SX : Type} {post : UInt64 → S → Prop} {px : SX → Prop} {B : S → State → Prop} {BX : String → SX → State → Prop} {AX : Nat → Prop} (hr : vx_Run p l e R s m args below meth c H locs cells slots mc ms (F0 m pc ls st0) rest (va_Qd post B A1 a) (vx_X px BX AX) free) (hS : va_S A0 H0 H locs) (hA : ∀ q, q < H.size → A1 q → A0 q) (hf : ∀ q, free q → A0 q) (hAX : ∀ q, q < H.size → AX q → A0 q)
    (kx : ∀ (E : String) (ce : Cell) (q9 : Addr) (u : SX) (t : State) (H1 : Heap) (locs1 : List Loc), t.heap = H1 → s.vm.Alike t.vm → px u → BX E u t → H.size ≤ H1.size → (∀ q : Nat, q < H.size → ¬ AX q → H1[q]? = H[q]?) → va_S A0 H0 H1 locs1 → H1[q9]? = some ce → ce.vm = .none → s.vm.findClass E = some ce.cls → vx_W p l e R s m args below meth c H1 locs1 (cells + mc) (slots + ms) Q (F0 m pc ls rest) q9)
    (kk : ∀ (r : UInt64) (u : S) (t : State) (H1 : Heap) (locs1 : List Loc), t.heap = H1 → s.vm.Alike t.vm → post r u → B u t → H.size ≤ H1.size → (∀ q : Nat, q < H.size → ¬ A1 q → H1[q]? = H[q]?) → va_S A0 H0 H1 locs1 → W p l e R s m args below meth c H1 locs1 (cells + mc) (slots + ms) Q (F0 m (pc + 3) ls (.double r :: rest))) : W p l e R s m args below meth c H locs cells slots Q (F0 m pc ls st0) := by
  intro T hT X
  rcases hr T hT X with ⟨v, st₀, t, T', L, h0, X', hL, e1, e2, ⟨⟨r, u, hv, hp, hb⟩, hF⟩, st⟩ | ⟨q, st₀, t, T', L, E, ce, h0, X', hL, e1, e2, ⟨u, hp, hb, hF⟩, hce, hcv, hcl, st⟩
  · cases hv
    obtain ⟨k1, k2, k3⟩ := vx_keep h0 e1 hS hA hf hL hF
    obtain ⟨t2, a1, b1⟩ := kk r u t T'.heap (locs ++ L) e1.symm (by rw [← e2]; exact X'.warmed.alike) hp hb k1 k2 k3 T' rfl X'
    exact ⟨t2, st t2 a1, b1⟩
  · obtain ⟨k1, k2, k3⟩ := vx_keep h0 e1 hS hAX hf hL hF
    obtain ⟨t2, a1, b1⟩ := kx E ce q u t T'.heap (locs ++ L) e1.symm (by rw [← e2]; exact X'.warmed.alike) hp hb k1 k2 k3 (by rw [e1]; exact hce) hcv hcl T' rfl X'
    exact ⟨t2, st.trans a1, b1⟩
theorem vx_callv {S SX : Type} {post : S → Prop} {px : SX → Prop} {B : S → State → Prop} {BX : String → SX → State → Prop} {AX : Nat → Prop} (hr : vx_Run p l e R s m args below meth c H locs cells slots mc ms (F0 m pc ls st0) rest (va_Qv post B A1 a) (vx_X px BX AX) free) (hS : va_S A0 H0 H locs) (hA : ∀ q, q < H.size → A1 q → A0 q) (hf : ∀ q, free q → A0 q) (hAX : ∀ q, q < H.size → AX q → A0 q)
    (kx : ∀ (E : String) (ce : Cell) (q9 : Addr) (u : SX) (t : State) (H1 : Heap) (locs1 : List Loc), t.heap = H1 → s.vm.Alike t.vm → px u → BX E u t → H.size ≤ H1.size → (∀ q : Nat, q < H.size → ¬ AX q → H1[q]? = H[q]?) → va_S A0 H0 H1 locs1 → H1[q9]? = some ce → ce.vm = .none → s.vm.findClass E = some ce.cls → vx_W p l e R s m args below meth c H1 locs1 (cells + mc) (slots + ms) Q (F0 m pc ls rest) q9)
    (kk : ∀ (u : S) (t : State) (H1 : Heap) (locs1 : List Loc), t.heap = H1 → s.vm.Alike t.vm → post u → B u t → H.size ≤ H1.size → (∀ q : Nat, q < H.size → ¬ A1 q → H1[q]? = H[q]?) → va_S A0 H0 H1 locs1 → W p l e R s m args below meth c H1 locs1 (cells + mc) (slots + ms) Q (F0 m (pc + 3) ls (rest))) : W p l e R s m args below meth c H locs cells slots Q (F0 m pc ls st0) := by
  intro T hT X
  rcases hr T hT X with ⟨v, st₀, t, T', L, h0, X', hL, e1, e2, ⟨⟨u, hv, hp, hb⟩, hF⟩, st⟩ | ⟨q, st₀, t, T', L, E, ce, h0, X', hL, e1, e2, ⟨u, hp, hb, hF⟩, hce, hcv, hcl, st⟩
  · cases hv
    obtain ⟨k1, k2, k3⟩ := vx_keep h0 e1 hS hA hf hL hF
    obtain ⟨t2, a1, b1⟩ := kk u t T'.heap (locs ++ L) e1.symm (by rw [← e2]; exact X'.warmed.alike) hp hb k1 k2 k3 T' rfl X'
    exact ⟨t2, st t2 a1, b1⟩
  · obtain ⟨k1, k2, k3⟩ := vx_keep h0 e1 hS hAX hf hL hF
    obtain ⟨t2, a1, b1⟩ := kx E ce q u t T'.heap (locs ++ L) e1.symm (by rw [← e2]; exact X'.warmed.alike) hp hb k1 k2 k3 (by rw [e1]; exact hce) hcv hcl T' rfl X'
    exact ⟨t2, st.trans a1, b1⟩
/-- caught by the row x of this method's table; the rows ahead don't take it -/
theorem vx_catch {own name : String} {E : String} {ce : Cell} {q : Addr} (hown : s.vm.findClass own = some m.cls) (pre : List ExceptionTableEntry) (x : ExceptionTableEntry) (suf : List ExceptionTableEntry) (hsplit : c.exceptionTable.toList = pre ++ x :: suf)
    (hpass : ∀ z ∈ pre, covers z pc = false ∨ (z.catchType ≠ 0 ∧ ∃ nm : String, (Cond.classLink own z.catchType nm).before args s = true ∧ va_Nc E nm s)) (hx : covers x pc = true) (h0 : x.catchType ≠ 0)
    (hlink : (Cond.classLink own x.catchType name).before args s = true) (hcast : (Cond.castable E name).before args s = true) (hcell : H[q]? = some ce) (hv : ce.vm = .none) (hcl : s.vm.findClass E = some ce.cls)
    (kk : W p l e R s m args below meth c H locs cells slots Q (F0 m x.handlerPc ls [.ref q])) : vx_W p l e R s m args below meth c H locs cells slots Q (F0 m pc ls rest) q := by
  intro T hT X
  have hpl : e.platform.magicAccessors = ({} : Platform).magicAccessors := by rw [X.admits.platform]
  obtain ⟨c3, c4, hc3, hc4, hasg⟩ := Cond.castable_spec hcast
  cases Option.some.inj (hc3.symm.trans hcl)
  obtain ⟨c5, hc5, hcl5⟩ := Cond.classLink_spec hown hlink e.platform hpl
  cases Option.some.inj (hc4.symm.trans hc5)
  obtain ⟨vm', X', st⟩ := X.thenCaughtThrough q (g := F0 m pc ls rest) rfl (Steps.refl _) (by rw [hT]; exact hcell) (by rw [hv]; rfl) (by obtain ⟨k9, h9, -⟩ := Vm.findClass_spec hcl; exact ⟨k9, h9⟩) pre x suf hsplit
    (fun z hz => by
      rcases hpass z hz with h | ⟨hz0, nm, hl1, hn1⟩
      · exact Or.inl h
      · obtain ⟨c6, hc6, hcl6⟩ := Cond.classLink_spec hown hl1 e.platform hpl
        obtain ⟨a8, b8, h1, h2, h3⟩ := hn1
        cases Option.some.inj (h1.symm.trans hcl)
        cases Option.some.inj (h2.symm.trans hc6)
        exact Or.inr ⟨hz0, _, hcl6, h3⟩) hx (Or.inr ⟨h0, c4, hcl5, hasg⟩)
  obtain ⟨t, a1, b1⟩ := kk (T.setVm vm') hT X'
  exact ⟨t, st.trans a1, b1⟩
end Rows
section Ends
variable {p : Program} {l : Launch} {e : Env} {R : Room} {s : State} {m : MethodId} {args : Array Value} {below : List Frame} {meth : Method} {c : Code} {H : Heap} {locs : List Loc} {cells slots : Nat} {Q : State → Prop}
variable {mc ms : Nat} {free : Addr → Prop} {A0 A1 : Nat → Prop} {H0 : Heap} {a : Array Value} {ls : Array Slot} {st0 rest : List Value}
variable {Qc : Array Value → State → Outcome → State → Prop} {XC : String → State → State → Prop}
/-- what a body that may throw owes at its end -/
def vx_MQ (below : List Frame) (Qc : Array Value → State → Outcome → State → Prop) (XC : String → State → State → Prop) (a : Array Value) (s : State) (mc ms : Nat) (free : Addr → Prop) : State → Prop := fun t =>
  ∃ o, t.status = .running ∧ Ended t below o ∧ vx_Q Qc XC mc ms free a s o t
theorem vx_ret {g : JFrame} {mc ms : Nat} (k : W p l e R s m args below meth c H locs cells slots (MQ below Qc args s mc ms free) g) : W p l e R s m args below meth c H locs cells slots (vx_MQ below Qc XC args s mc ms free) g := by
  intro T hT X
  obtain ⟨t, a1, o, b1, b2, b3, b4⟩ := k T hT X
  exact ⟨t, a1, o, b1, b2, Or.inl ⟨b3, b4⟩⟩
/-- not caught here: it goes on to the caller -/
theorem vx_widen {g : JFrame} {q : Addr} {k n : Nat} (h1 : cells ≤ k) (h2 : slots ≤ n) (kk : vx_W p l e R s m args below meth c H locs k n Q g q) : vx_W p l e R s m args below meth c H locs cells slots Q g q := fun T hT X => kk T hT (stand_widen X h1 h2)
theorem vx_out {pc : Nat} {E : String} {ce : Cell} {q : Addr} {mc ms : Nat} (hout : ∀ x ∈ c.exceptionTable.toList, covers x pc = false) (hlocks : meth.locks = false) (hcell : H[q]? = some ce) (hv : ce.vm = .none) (hcl : s.vm.findClass E = some ce.cls)
    (hx : ∀ t : State, t.heap = H → s.vm.Alike t.vm → XC E s t) (hf : ∀ z ∈ locs, free z.base) (hc : cells ≤ mc) (hs : slots ≤ ms) :
    vx_W p l e R s m args below meth c H locs cells slots (vx_MQ below Qc XC args s mc ms free) (F0 m pc ls rest) q := by
  intro T hT X
  obtain ⟨st1, hrun, hend, hW, hsm⟩ := X.leaveThrown q (g := F0 m pc ls rest) rfl rfl rfl hout hlocks
  have hcell9 : (T.setFrames (.throwing q :: below)).heap[q]? = some ce := by
    show T.heap[q]? = some ce
    rw [hT]; exact hcell
  exact ⟨_, st1, .threw q, hrun, hend, Or.inr ⟨q, rfl, E, ce, locs, hx _ hT hW.alike, hcell9, hv, hcl, hW, hsm.mono hc hs, hf⟩⟩
theorem vx_frame {U : State} {k n : Nat} (h : s.sameButNew ({ U with vm := s.vm } : State) locs k n) : s.heap.size ≤ U.heap.size ∧ ∀ q : Nat, q < s.heap.size → (∀ z ∈ locs, z.base ≠ q) → U.heap[q]? = s.heap[q]? := by
  obtain ⟨-, h2, -, -, -, h6⟩ := h
  refine ⟨h2, fun q hq hz => ?_⟩
  obtain ⟨c9, e1, e2, e3, e4⟩ := h6 q _ (Array.getElem?_eq_getElem hq)
  have hs : c9.slots = (s.heap[q]).slots := Array.ext_getElem? fun i => e4 i fun hm => hz _ hm rfl
  have h9 : c9 = s.heap[q] := by
    rw [hs] at e2
    exact e2
  have e5 : U.heap[q]? = some c9 := e1
  rw [e5, h9, Array.getElem?_eq_getElem hq]
/-- the words of a throw but the four that speak of the heap -/
def vx_no (w : Cond) : Bool := decide (w ≠ .isRef (.static Bundle.tN "UNASSIGNED_STACK" Bundle.steD)) && decide (w ≠ .isRef (.static Bundle.tN "SUPPRESSED_SENTINEL" Bundle.listD)) && decide (w ≠ .laysStatic Bundle.tN "UNASSIGNED_STACK" Bundle.steD) && decide (w ≠ .laysStatic Bundle.tN "SUPPRESSED_SENTINEL" Bundle.listD)
def vx_at0 (own : String) (ic : Nat) (X : String) (names : List String) : List Cond := (Bundle.ownAtoms0 own ic X names).filter vx_no
def vx_atS (own : String) (ic : Nat) (X : String) (names : List String) : List Cond := (Bundle.ownAtoms own ic X names).filter vx_no
/-- a word that the tables alone decide, or a good one -/
def vx_ot (w : Cond) : Bool := w.onTables || goodWord w
theorem vx_ot_at {args a' : Array Value} {s U : State} {w : Cond} (hW : s.WarmedH U.vm) (hvm : s.vm = U.vm) (hg : vx_ot w = true) (h : w.before args s = true) : w.before a' U = true := by
  simp only [vx_ot, Bool.or_eq_true] at hg
  rcases hg with hg | hg
  · exact va_tabs hg hvm h
  · exact word_at hW (good_of_word hg) h
/-- a list's words: the good ones out of the method's own list, the others by premises of their own -/
theorem vx_hat {args : Array Value} {s : State} {L B : List Cond} (h1 : ∀ w ∈ L.filter goodWord, w.before args s = true) (h2 : ∀ w ∈ L.filter (fun w => !goodWord w), w ∈ B) (h3 : ∀ w ∈ B, w.before args s = true) : ∀ w ∈ L, w.before args s = true := by
  intro w hw
  by_cases g : goodWord w = true
  · exact h1 w (List.mem_filter.mpr ⟨hw, g⟩)
  · refine h3 w (h2 w (List.mem_filter.mpr ⟨hw, ?_⟩))
    show (!goodWord w) = true
    cases hgw : goodWord w
    · rfl
    · exact absurd hgw g
theorem vx_c {args : Array Value} {s : State} {w : Cond} {B : List Cond} (h : w.before args s = true) (t : ∀ w ∈ B, w.before args s = true) : ∀ w' ∈ w :: B, w'.before args s = true := fun w' h' => (List.mem_cons.mp h').elim (fun e => by rw [e]; exact h) (t w')
theorem vx_n {args : Array Value} {s : State} : ∀ w ∈ ([] : List Cond), w.before args s = true := fun _ h => nomatch h
theorem vx_own {args : Array Value} {s : State} {L : List Cond} (h1 : ∀ w ∈ L.filter vx_no, w.before args s = true)
    (hU : (Cond.isRef (.static Bundle.tN "UNASSIGNED_STACK" Bundle.steD)).before args s = true) (hN : (Cond.isRef (.static Bundle.tN "SUPPRESSED_SENTINEL" Bundle.listD)).before args s = true)
    (lU : (Cond.laysStatic Bundle.tN "UNASSIGNED_STACK" Bundle.steD).before args s = true) (lN : (Cond.laysStatic Bundle.tN "SUPPRESSED_SENTINEL" Bundle.listD).before args s = true) : ∀ w ∈ L, w.before args s = true := by
  intro w hw
  by_cases e1 : w = .isRef (.static Bundle.tN "UNASSIGNED_STACK" Bundle.steD)
  · rw [e1]; exact hU
  · by_cases e2 : w = .isRef (.static Bundle.tN "SUPPRESSED_SENTINEL" Bundle.listD)
    · rw [e2]; exact hN
    · by_cases e3 : w = .laysStatic Bundle.tN "UNASSIGNED_STACK" Bundle.steD
      · rw [e3]; exact lU
      · by_cases e4 : w = .laysStatic Bundle.tN "SUPPRESSED_SENTINEL" Bundle.listD
        · rw [e4]; exact lN
        · exact h1 w (List.mem_filter.mpr ⟨hw, by unfold vx_no; rw [decide_eq_true e1, decide_eq_true e2, decide_eq_true e3, decide_eq_true e4]; rfl⟩)
/-- where a static field lies, its class's statics cell in H -/
def vx_L (C n d : String) (A : Nat → Prop) (U : State) (H : Heap) : Prop := ∃ (c : ClassId) (k : Class) (i : Nat) (f : Field) (a : Nat) (cell : Cell), U.vm.findClass C = some c ∧ U.fieldFound? C n d = some (c, k, i, f) ∧ f.isStatic = true ∧ k.statics = some a ∧ H[a]? = some cell ∧ cell.vm.isStatics = true ∧ cell.cls = c ∧ f.slot < cell.slots.size ∧ k.staticTypes[f.slot]? = some f.type ∧ ¬ A a
theorem vx_L.moved {C n d : String} {A : Nat → Prop} {u U : State} {H : Heap} (hvm : u.vm.Alike U.vm) (h : vx_L C n d A u H) : vx_L C n d A U H := by
  obtain ⟨c, k, i, f, a, cell, h1, h2, h3, h4, h5, h6, h7, h8, h9, h10⟩ := h
  obtain ⟨k', hi', he⟩ := State.fieldFound?_setVm hvm h2
  exact ⟨c, k', i, f, a, cell, by rw [hvm.findClass]; exact h1, hi', h3, by rw [he]; exact h4, h5, h6, h7, h8, by rw [he]; exact h9, h10⟩
theorem vx_L.kept {C n d : String} {A : Nat → Prop} {U : State} {H H1 : Heap} (h : vx_L C n d A U H) (hq : ∀ a : Nat, a < H.size → ¬ A a → H1[a]? = H[a]?) : vx_L C n d A U H1 := by
  obtain ⟨c, k, i, f, a, cell, h1, h2, h3, h4, h5, h6, h7, h8, h9, h10⟩ := h
  exact ⟨c, k, i, f, a, cell, h1, h2, h3, h4, by rw [hq a (Array.getElem?_eq_some_iff.mp h5).1 h10]; exact h5, h6, h7, h8, h9, h10⟩
theorem vx_L.narrow {C n d : String} {A B : Nat → Prop} {U : State} {H : Heap} (h : vx_L C n d A U H) (hAB : ∀ q, B q → A q) : vx_L C n d B U H := by
  obtain ⟨c, k, i, f, a, cell, h1, h2, h3, h4, h5, h6, h7, h8, h9, h10⟩ := h
  exact ⟨c, k, i, f, a, cell, h1, h2, h3, h4, h5, h6, h7, h8, h9, fun z => h10 (hAB _ z)⟩
theorem vx_L.word {C n d : String} {A : Nat → Prop} {s : State} {args : Array Value} (h : vx_L C n d A s s.heap) : (Cond.laysStatic C n d).before args s = true := by
  obtain ⟨c, k, i, f, a, cell, h1, h2, h3, h4, h5, h6, h7, h8, h9, -⟩ := h
  show (Cond.laysStatic C n d).holds args s none s [] = true
  exact Cond.laysStatic_of h1 h2 h3 h4 h5 h6 h7 h8 h9
/-- .. and what it holds: null or some reference -/
def vx_Zq (C n d : String) (A : Nat → Prop) (U : State) (H : Heap) : Prop := va_Zq C n d A U H ∧ vx_L C n d A U H
theorem vx_Zq.moved {C n d : String} {A : Nat → Prop} {u U : State} {H : Heap} (hvm : u.vm.Alike U.vm) (h : vx_Zq C n d A u H) : vx_Zq C n d A U H := ⟨va_Zq.moved hvm h.1, vx_L.moved hvm h.2⟩
theorem vx_Zq.kept {C n d : String} {A : Nat → Prop} {U : State} {H H1 : Heap} (h : vx_Zq C n d A U H) (hq : ∀ a : Nat, a < H.size → ¬ A a → H1[a]? = H[a]?) : vx_Zq C n d A U H1 := ⟨va_Zq.kept h.1 hq, vx_L.kept h.2 hq⟩
theorem vx_Zq.narrow {C n d : String} {A B : Nat → Prop} {U : State} {H : Heap} (h : vx_Zq C n d A U H) (hAB : ∀ q, B q → A q) : vx_Zq C n d B U H := ⟨va_Zq.narrow h.1 hAB, vx_L.narrow h.2 hAB⟩
theorem vx_Zqof {args : Array Value} {s : State} {C n d : String} {A : Nat → Prop} (hl : (Cond.laysStatic C n d).before args s = true) (hini : (Cond.initialized C).before args s = true) (h : (Cond.isRef (.static C n d)).before args s = true) (hA : ∀ a : Nat, a < s.heap.size → ¬ A a) : vx_Zq C n d A s s.heap := by
  refine ⟨va_Zqof hl hini h hA, ?_⟩
  obtain ⟨c, k, i, f, a, cell, h1, h2, h3, h4, h5, h6, h7, h8, h9⟩ := Cond.laysStatic_spec hl
  exact ⟨c, k, i, f, a, cell, h1, h2, h3, h4, h5, h6, h7, h8, h9, hA a (Array.getElem?_eq_some_iff.mp h5).1⟩
theorem vx_isRef {C n d : String} {v : Value} {A : Nat → Prop} {s : State} {args : Array Value} (h : va_Z C n d v A s s.heap) (hv : v.isRef = true) : (Cond.isRef (.static C n d)).before args s = true := by
  obtain ⟨cf, kf, fi, f, a, cell, h1, h2, h3, h4, h5, h6, h7, -⟩ := h
  have he : (Term.static C n d).eval args s none [] s = some v := by
    simp [Term.eval, State.fieldNamed?, h1, h2, h4, h5, h6, h7]
  simp only [Cond.before, Cond.holds, Cond.value, he]
  cases v <;> simp_all [Value.isRef]
theorem vx_isRefq {C n d : String} {A : Nat → Prop} {s : State} {args : Array Value} (h : va_Zq C n d A s s.heap) : (Cond.isRef (.static C n d)).before args s = true := by
  rcases h with h | ⟨t, h⟩
  · exact vx_isRef h rfl
  · exact vx_isRef h rfl
/-- the same frame, seen from here: as if the method were called anew in this heap -/
theorem vx_rebase {T : State} (X : Stand p l e R s m args below meth c T locs cells slots) {R' : Room} (hf : R'.frames ≤ R.frames) (hl : R'.locals ≤ R.locals) (hc : cells + R'.cells ≤ R.cells) (hs : slots + R'.slots ≤ R.slots) :
    Stand p l e R' ((T.setVm s.vm).setFrames (.invoking m args :: below)) m args below meth c T [] 0 0 := by
  have htop : (T.setVm s.vm).topJava?.isSome := X.here.top
  have hF : ((T.setVm s.vm).setFrames (.invoking m args :: below)).frames = .invoking m args :: below := State.frames_setFrames _ (State.cur_lt_of_top htop)
  obtain ⟨g₀, hg0⟩ := Option.isSome_iff_exists.mp htop
  obtain ⟨r, hr⟩ := State.topJava?_eq_some.mp hg0
  have hl9 : e.platform.stackLimits (T.setVm s.vm).me = e.platform.stackLimits s.me := X.limits
  have hb9 : (T.setVm s.vm).me.stackBytes = s.me.stackBytes := X.bytes
  refine ⟨X.admits, X.cas, X.clock, hF, ?_, X.hears, X.method, X.code, X.here, X.tail, X.warmed, ?_, ?_, ?_⟩
  · have h := X.room
    have hU : ((T.setVm s.vm).setFrames (.invoking m args :: below)).localsInUse = s.localsInUse := by
      rw [State.localsInUse_invoking hF (meth := meth) (c := c) X.method X.code, State.localsInUse_invoking X.frames X.method X.code]
    simp only [State.hasRoom, Bool.and_eq_true, decide_eq_true_eq] at h ⊢
    obtain ⟨⟨⟨⟨h1, h2, h3, h4, h5, h6⟩, h7⟩, h8⟩, h9⟩ := h
    rw [X.frames, List.length_cons] at h2 h3
    have q1 := X.heapSize
    have q2 := X.used
    simp only [hF, hU, List.length_cons, State.stackLimits_setFrames, State.stackBytes_setFrames, hl9, hb9]
    refine ⟨⟨⟨⟨by omega, by omega, by omega, by omega, by omega, h6⟩, ?_⟩, ?_⟩, X.book⟩
    · show T.heap.size + R'.cells ≤ e.platform.maxCells
      omega
    · show T.slotsUsed + R'.slots ≤ e.platform.maxSlots
      omega
  · rw [State.stackLimits_setFrames]; rfl
  · rw [State.stackBytes_setFrames]; rfl
  · refine ⟨?_, Nat.le_refl _, Nat.le_refl _, ?_, ?_, fun a c9 h9 => ⟨c9, h9, rfl, rfl, fun _ _ => rfl⟩⟩
    · obtain ⟨t, ht, -⟩ := State.frames_cons hr
      show T.setVm s.vm = { ((T.setVm s.vm).setFrames (.invoking m args :: below)).setFrames (T.setVm s.vm).frames with heap := T.heap, slotsUsed := T.slotsUsed }
      rw [State.setFrames_setFrames, State.setFrames_self ht]
      rfl
    · show T.slotsUsed = T.slotsUsed + ((T.heap.toList.drop T.heap.size).map (·.slots.size)).sum
      rw [List.drop_eq_nil_of_le (Nat.le_of_eq Array.length_toList)]
      rfl
    · show ((T.heap.toList.drop T.heap.size).map (·.slots.size)).sum ≤ 0
      rw [List.drop_eq_nil_of_le (Nat.le_of_eq Array.length_toList)]
      exact Nat.le_refl _
/-- 'throw new E()': new; dup; invokespecial; athrow -/
theorem vx_throw0 {cc : ByteArray} {pc : Nat} (hexec : p.tables.exec = Jvm.exec) (hb : c.code = cc) (hl : l.stackTraces = false) {own cls : String} {names : List String} {ik ic mc ms : Nat} {A : Nat → Prop}
    (hown : s.vm.findClass own = some m.cls) (hcls : Bundle.fit cls = true) (hnames : ∀ n ∈ names, Bundle.fit n = true)
    (hk : (Cond.classLink own ik cls).before args s = true) (hini : (Cond.initialized cls).before args s = true) (hat : ∀ w ∈ vx_at0 own ic cls names, w.before args s = true)
    (hgood : ∀ w ∈ Cond.classLink own ik cls :: Cond.initialized cls :: vx_at0 own ic cls names, vx_ot w = true)
    (hU : vx_Zq Bundle.tN "UNASSIGNED_STACK" Bundle.steD A s s.heap) (hN : vx_Zq Bundle.tN "SUPPRESSED_SENTINEL" Bundle.listD A s s.heap) (hS : va_S A s.heap H locs) (hsize : ls.size = c.maxLocals)
    (d0 : decode cc pc = .ok (.new ik, 3)) (d3 : decode cc (pc + 3) = .ok (.dup, 1)) (d4 : decode cc (pc + 4) = .ok (.invokespecial ic, 3)) (d7 : decode cc (pc + 7) = .ok (.athrow, 1))
    (hout : ∀ x ∈ c.exceptionTable.toList, covers x (pc + 7) = false)
    (hRframes : names.length + 3 < R.frames) (hRlocals : (rest.map fun v => v.category).sum + (13 * (names.length + 1) + 42) ≤ R.locals) (hRcells : cells + 1 ≤ R.cells) (hRslots : slots + 6 ≤ R.slots) (hlocks : meth.locks = false)
    (hx : ∀ t : State, s.vm.Alike t.vm → H.size ≤ t.heap.size → (∀ q : Nat, q < H.size → t.heap[q]? = H[q]?) → XC cls s t)
    (hf : ∀ z ∈ locs, free z.base) (hc : cells + 1 ≤ mc) (hs : slots + 6 ≤ ms) :
    W p l e R s m args below meth c H locs cells slots (vx_MQ below Qc XC args s mc ms free) (F0 m pc ls rest) := by
  intro T hT X
  have htr : e.platform.stackTraces = false := (show e.platform.stackTraces = l.stackTraces by rw [X.admits.platform]).trans hl
  have Y := vx_rebase X (R' := { frames := R.frames, locals := R.locals, cells := 1, slots := 6 }) (Nat.le_refl _) (Nat.le_refl _) hRcells hRslots
  obtain ⟨s', hA⟩ : ∃ z, z = (T.setVm s.vm).setFrames (.invoking m args :: below) := ⟨_, rfl⟩
  rw [← hA] at Y
  have hvm : s'.vm = s.vm := by rw [hA]; rfl
  have hhp : s'.heap = H := by rw [hA]; exact hT
  have hW0 : s.WarmedH s'.vm := by rw [hvm]; exact State.WarmedH.refl s
  have hat' : ∀ w ∈ vx_at0 own ic cls names, w.before args s' = true := fun w hw => vx_ot_at hW0 hvm.symm (hgood w (List.mem_cons_of_mem _ (List.mem_cons_of_mem _ hw))) (hat w hw)
  have hk' : (Cond.classLink own ik cls).before args s' = true := vx_ot_at hW0 hvm.symm (hgood _ List.mem_cons_self) hk
  have hini' : (Cond.initialized cls).before args s' = true := vx_ot_at hW0 hvm.symm (hgood _ (List.mem_cons_of_mem _ List.mem_cons_self)) hini
  have hU' : vx_Zq Bundle.tN "UNASSIGNED_STACK" Bundle.steD A s' s'.heap := by rw [hhp]; exact vx_Zq.moved hW0.alike (hU.kept hS.2.1)
  have hN' : vx_Zq Bundle.tN "SUPPRESSED_SENTINEL" Bundle.listD A s' s'.heap := by rw [hhp]; exact vx_Zq.moved hW0.alike (hN.kept hS.2.1)
  have h : ∀ w ∈ Bundle.ownAtoms0 own ic cls names, w.before args s' = true := vx_own hat' (vx_isRefq hU'.1) (vx_isRefq hN'.1) hU'.2.word hN'.2.word
  have hown' : s'.vm.findClass own = some m.cls := by rw [hvm]; exact hown
  have hins : (Cond.instantiable cls 6).before args s' = true := h _ (by simp [Bundle.ownAtoms0])
  obtain ⟨vm₁, cX, kX, hfX, hkX, -, -, X₁, st1⟩ := Y.newCold hexec (own := own) (C := cls) (index := ik) (n := 6) hown' hk' hins hini'
    (g := F0 m pc ls rest) rfl (by rw [hb]; exact d0) (Nat.le_refl _) (Nat.le_refl _)
  generalize hT1 : (T.setVm vm₁).pushCell { cls := cX, slots := kX.instanceTypes.map defaultValue, vm := .none } = T1 at X₁ st1
  have hcat : (Value.ref T.heap.size).category = 1 := rfl
  have hcellA : T1.heap[T.heap.size]? = some (freshCell cX kX) := by rw [← hT1]; exact State.heap_pushCell_size _ _
  have d3' : decode c.code (pc + 3) = .ok (.dup, 1) := by rw [hb]; exact d3
  obtain ⟨U, hsteps, hrun, hend, hW, hsame, ce, hce, hO⟩ := X₁.ctorThrow0 hexec htr (own := own) (cls := cls) (names := names) (ic := ic) hown' hcls hnames h (fun x hx => nomatch hx) hfX hkX hcellA (by rw [hhp, hT]; exact Nat.le_refl _)
    (g := { method := m, pc := pc + 4, locals := ls, stack := .ref T.heap.size :: .ref T.heap.size :: rest, locked := none }) rfl hsize rfl rfl (rest := rest) rfl
    (by rw [hb]; exact d4) (by rw [hb]; exact d7) hout hRframes (by simp only [List.map_cons, List.sum_cons, hcat]; omega) hlocks
  obtain ⟨f1, f2⟩ := vx_frame hsame
  rw [hhp] at f1 f2
  have hWs : s.WarmedH U.vm := State.WarmedH.trans hW0 hW
  have hcl : s.vm.findClass cls = some ce.cls := by
    have h9 := hO.cls
    rw [hvm] at h9
    exact h9
  have hall : s.sameButNew ({ U with vm := s.vm } : State) locs mc ms := by
    subst hA
    obtain ⟨e1, e2⟩ := hsame
    rw [State.setFrames_setFrames] at e1
    have h2 : (T.setVm s.vm).sameButNew ({ U with vm := s.vm } : State) [] (0 + 1) (0 + 6) := ⟨e1, e2⟩
    have h3 := X.same.trans h2
    rw [List.append_nil] at h3
    exact h3.mono hc hs
  refine ⟨U, ?_, .threw T.heap.size, hrun, hend, Or.inr ⟨T.heap.size, rfl, cls, ce, locs, hx U hWs.alike f1 (fun q hq => f2 q hq (fun z hz => nomatch hz)), hce, hO.vm, hcl, hWs, hall, hf⟩⟩
  refine st1 _ ?_
  show Steps p.tables e below (T1.setTop { method := m, pc := pc + 3, locals := ls, stack := .ref T.heap.size :: rest, locked := none }) _
  jvm_step X₁.here [X₁.here.top, hexec, d3', Value.category]
  exact hsteps
/-- 'throw new E("text")': new; dup; ldc; invokespecial; athrow -/
theorem vx_throwS {cc : ByteArray} {pc : Nat} (hexec : p.tables.exec = Jvm.exec) (hb : c.code = cc) (hl : l.stackTraces = false) {own cls text : String} {names : List String} {ik is ic mc ms sa : Nat} {A : Nat → Prop}
    (hown : s.vm.findClass own = some m.cls) (hcls : Bundle.fit cls = true) (hnames : ∀ n ∈ names, Bundle.fit n = true)
    (hk : (Cond.classLink own ik cls).before args s = true) (hini : (Cond.initialized cls).before args s = true) (hstr : vk_R own is text sa s) (hat : ∀ w ∈ vx_atS own ic cls names, w.before args s = true)
    (hgood : ∀ w ∈ Cond.classLink own ik cls :: Cond.initialized cls :: vx_atS own ic cls names, vx_ot w = true)
    (hU : vx_Zq Bundle.tN "UNASSIGNED_STACK" Bundle.steD A s s.heap) (hN : vx_Zq Bundle.tN "SUPPRESSED_SENTINEL" Bundle.listD A s s.heap) (hS : va_S A s.heap H locs) (hsize : ls.size = c.maxLocals)
    (d0 : decode cc pc = .ok (.new ik, 3)) (d3 : decode cc (pc + 3) = .ok (.dup, 1)) (d4 : decode cc (pc + 4) = .ok (.ldc is, 2)) (d6 : decode cc (pc + 6) = .ok (.invokespecial ic, 3)) (d9 : decode cc (pc + 9) = .ok (.athrow, 1))
    (hout : ∀ x ∈ c.exceptionTable.toList, covers x (pc + 9) = false)
    (hRframes : names.length + 3 < R.frames) (hRlocals : (rest.map fun v => v.category).sum + (13 * (names.length + 1) + 43) ≤ R.locals) (hRcells : cells + 1 ≤ R.cells) (hRslots : slots + 6 ≤ R.slots) (hlocks : meth.locks = false)
    (hx : ∀ t : State, s.vm.Alike t.vm → H.size ≤ t.heap.size → (∀ q : Nat, q < H.size → t.heap[q]? = H[q]?) → XC cls s t)
    (hf : ∀ z ∈ locs, free z.base) (hc : cells + 1 ≤ mc) (hs : slots + 6 ≤ ms) :
    W p l e R s m args below meth c H locs cells slots (vx_MQ below Qc XC args s mc ms free) (F0 m pc ls rest) := by
  intro T hT X
  have htr : e.platform.stackTraces = false := (show e.platform.stackTraces = l.stackTraces by rw [X.admits.platform]).trans hl
  have Y := vx_rebase X (R' := { frames := R.frames, locals := R.locals, cells := 1, slots := 6 }) (Nat.le_refl _) (Nat.le_refl _) hRcells hRslots
  obtain ⟨s', hA⟩ : ∃ z, z = (T.setVm s.vm).setFrames (.invoking m args :: below) := ⟨_, rfl⟩
  rw [← hA] at Y
  have hvm : s'.vm = s.vm := by rw [hA]; rfl
  have hhp : s'.heap = H := by rw [hA]; exact hT
  have hW0 : s.WarmedH s'.vm := by rw [hvm]; exact State.WarmedH.refl s
  have hat' : ∀ w ∈ vx_atS own ic cls names, w.before args s' = true := fun w hw => vx_ot_at hW0 hvm.symm (hgood w (List.mem_cons_of_mem _ (List.mem_cons_of_mem _ hw))) (hat w hw)
  have hk' : (Cond.classLink own ik cls).before args s' = true := vx_ot_at hW0 hvm.symm (hgood _ List.mem_cons_self) hk
  have hini' : (Cond.initialized cls).before args s' = true := vx_ot_at hW0 hvm.symm (hgood _ (List.mem_cons_of_mem _ List.mem_cons_self)) hini
  have hU' : vx_Zq Bundle.tN "UNASSIGNED_STACK" Bundle.steD A s' s'.heap := by rw [hhp]; exact vx_Zq.moved hW0.alike (hU.kept hS.2.1)
  have hN' : vx_Zq Bundle.tN "SUPPRESSED_SENTINEL" Bundle.listD A s' s'.heap := by rw [hhp]; exact vx_Zq.moved hW0.alike (hN.kept hS.2.1)
  have h : ∀ w ∈ Bundle.ownAtoms own ic cls names, w.before args s' = true := vx_own hat' (vx_isRefq hU'.1) (vx_isRefq hN'.1) hU'.2.word hN'.2.word
  have hown' : s'.vm.findClass own = some m.cls := by rw [hvm]; exact hown
  have hins : (Cond.instantiable cls 6).before args s' = true := h _ (by simp [Bundle.ownAtoms])
  obtain ⟨vm₁, cX, kX, hfX, hkX, -, -, X₁, st1⟩ := Y.newCold hexec (own := own) (C := cls) (index := ik) (n := 6) hown' hk' hins hini'
    (g := F0 m pc ls rest) rfl (by rw [hb]; exact d0) (Nat.le_refl _) (Nat.le_refl _)
  generalize hT1 : (T.setVm vm₁).pushCell { cls := cX, slots := kX.instanceTypes.map defaultValue, vm := .none } = T1 at X₁ st1
  have hcat : (Value.ref T.heap.size).category = 1 := rfl
  have hcellA : T1.heap[T.heap.size]? = some (freshCell cX kX) := by rw [← hT1]; exact State.heap_pushCell_size _ _
  have d3' : decode c.code (pc + 3) = .ok (.dup, 1) := by rw [hb]; exact d3
  have d4' : decode c.code (pc + 4) = .ok (.ldc is, 2) := by rw [hb]; exact d4
  have hstr' : vk_R own is text sa s' := vk_R.warm hW0 hstr
  obtain ⟨U, hsteps, hrun, hend, hW, hsame, ce, hce, hO⟩ := X₁.ctorThrowS hexec htr (own := own) (cls := cls) (names := names) (ic := ic) hown' hcls hnames h (fun x hx => nomatch hx) hfX hkX hcellA (by rw [hhp, hT]; exact Nat.le_refl _) (msg := .ref sa) rfl
    (g := { method := m, pc := pc + 6, locals := ls, stack := .ref sa :: .ref T.heap.size :: .ref T.heap.size :: rest, locked := none }) rfl hsize rfl rfl (rest := rest) rfl
    (by rw [hb]; exact d6) (by rw [hb]; exact d9) hout hRframes (by simp only [List.map_cons, List.sum_cons, hcat]; omega) hlocks
  obtain ⟨f1, f2⟩ := vx_frame hsame
  rw [hhp] at f1 f2
  have hWs : s.WarmedH U.vm := State.WarmedH.trans hW0 hW
  have hcl : s.vm.findClass cls = some ce.cls := by
    have h9 := hO.cls
    rw [hvm] at h9
    exact h9
  have hall : s.sameButNew ({ U with vm := s.vm } : State) locs mc ms := by
    subst hA
    obtain ⟨e1, e2⟩ := hsame
    rw [State.setFrames_setFrames] at e1
    have h2 : (T.setVm s.vm).sameButNew ({ U with vm := s.vm } : State) [] (0 + 1) (0 + 6) := ⟨e1, e2⟩
    have h3 := X.same.trans h2
    rw [List.append_nil] at h3
    exact h3.mono hc hs
  refine ⟨U, ?_, .threw T.heap.size, hrun, hend, Or.inr ⟨T.heap.size, rfl, cls, ce, locs, hx U hWs.alike f1 (fun q hq => f2 q hq (fun z hz => nomatch hz)), hce, hO.vm, hcl, hWs, hall, hf⟩⟩
  refine st1 _ ?_
  show Steps p.tables e below (T1.setTop { method := m, pc := pc + 3, locals := ls, stack := .ref T.heap.size :: rest, locked := none }) _
  jvm_step X₁.here [X₁.here.top, hexec, d3', Value.category]
  exact X₁.ldcString hexec (own := own) (text := text) (index := is) (a := sa) hown' hstr'.1 hstr'.2
    (g := { method := m, pc := pc + 4, locals := ls, stack := .ref T.heap.size :: .ref T.heap.size :: rest, locked := none }) rfl d4' _ hsteps
/-- 'throw new E("text")', the text by a wide index -/
theorem vx_throwSW {cc : ByteArray} {pc : Nat} (hexec : p.tables.exec = Jvm.exec) (hb : c.code = cc) (hl : l.stackTraces = false) {own cls text : String} {names : List String} {ik is ic mc ms sa : Nat} {A : Nat → Prop}
    (hown : s.vm.findClass own = some m.cls) (hcls : Bundle.fit cls = true) (hnames : ∀ n ∈ names, Bundle.fit n = true)
    (hk : (Cond.classLink own ik cls).before args s = true) (hini : (Cond.initialized cls).before args s = true) (hstr : vk_R own is text sa s) (hat : ∀ w ∈ vx_atS own ic cls names, w.before args s = true)
    (hgood : ∀ w ∈ Cond.classLink own ik cls :: Cond.initialized cls :: vx_atS own ic cls names, vx_ot w = true)
    (hU : vx_Zq Bundle.tN "UNASSIGNED_STACK" Bundle.steD A s s.heap) (hN : vx_Zq Bundle.tN "SUPPRESSED_SENTINEL" Bundle.listD A s s.heap) (hS : va_S A s.heap H locs) (hsize : ls.size = c.maxLocals)
    (d0 : decode cc pc = .ok (.new ik, 3)) (d3 : decode cc (pc + 3) = .ok (.dup, 1)) (d4 : decode cc (pc + 4) = .ok (.ldc_w is, 3)) (d7 : decode cc (pc + 7) = .ok (.invokespecial ic, 3)) (d10 : decode cc (pc + 10) = .ok (.athrow, 1))
    (hout : ∀ x ∈ c.exceptionTable.toList, covers x (pc + 10) = false)
    (hRframes : names.length + 3 < R.frames) (hRlocals : (rest.map fun v => v.category).sum + (13 * (names.length + 1) + 43) ≤ R.locals) (hRcells : cells + 1 ≤ R.cells) (hRslots : slots + 6 ≤ R.slots) (hlocks : meth.locks = false)
    (hx : ∀ t : State, s.vm.Alike t.vm → H.size ≤ t.heap.size → (∀ q : Nat, q < H.size → t.heap[q]? = H[q]?) → XC cls s t)
    (hf : ∀ z ∈ locs, free z.base) (hc : cells + 1 ≤ mc) (hs : slots + 6 ≤ ms) :
    W p l e R s m args below meth c H locs cells slots (vx_MQ below Qc XC args s mc ms free) (F0 m pc ls rest) := by
  intro T hT X
  have htr : e.platform.stackTraces = false := (show e.platform.stackTraces = l.stackTraces by rw [X.admits.platform]).trans hl
  have Y := vx_rebase X (R' := { frames := R.frames, locals := R.locals, cells := 1, slots := 6 }) (Nat.le_refl _) (Nat.le_refl _) hRcells hRslots
  obtain ⟨s', hA⟩ : ∃ z, z = (T.setVm s.vm).setFrames (.invoking m args :: below) := ⟨_, rfl⟩
  rw [← hA] at Y
  have hvm : s'.vm = s.vm := by rw [hA]; rfl
  have hhp : s'.heap = H := by rw [hA]; exact hT
  have hW0 : s.WarmedH s'.vm := by rw [hvm]; exact State.WarmedH.refl s
  have hat' : ∀ w ∈ vx_atS own ic cls names, w.before args s' = true := fun w hw => vx_ot_at hW0 hvm.symm (hgood w (List.mem_cons_of_mem _ (List.mem_cons_of_mem _ hw))) (hat w hw)
  have hk' : (Cond.classLink own ik cls).before args s' = true := vx_ot_at hW0 hvm.symm (hgood _ List.mem_cons_self) hk
  have hini' : (Cond.initialized cls).before args s' = true := vx_ot_at hW0 hvm.symm (hgood _ (List.mem_cons_of_mem _ List.mem_cons_self)) hini
  have hU' : vx_Zq Bundle.tN "UNASSIGNED_STACK" Bundle.steD A s' s'.heap := by rw [hhp]; exact vx_Zq.moved hW0.alike (hU.kept hS.2.1)
  have hN' : vx_Zq Bundle.tN "SUPPRESSED_SENTINEL" Bundle.listD A s' s'.heap := by rw [hhp]; exact vx_Zq.moved hW0.alike (hN.kept hS.2.1)
  have h : ∀ w ∈ Bundle.ownAtoms own ic cls names, w.before args s' = true := vx_own hat' (vx_isRefq hU'.1) (vx_isRefq hN'.1) hU'.2.word hN'.2.word
  have hown' : s'.vm.findClass own = some m.cls := by rw [hvm]; exact hown
  have hins : (Cond.instantiable cls 6).before args s' = true := h _ (by simp [Bundle.ownAtoms])
  obtain ⟨vm₁, cX, kX, hfX, hkX, -, -, X₁, st1⟩ := Y.newCold hexec (own := own) (C := cls) (index := ik) (n := 6) hown' hk' hins hini'
    (g := F0 m pc ls rest) rfl (by rw [hb]; exact d0) (Nat.le_refl _) (Nat.le_refl _)
  generalize hT1 : (T.setVm vm₁).pushCell { cls := cX, slots := kX.instanceTypes.map defaultValue, vm := .none } = T1 at X₁ st1
  have hcat : (Value.ref T.heap.size).category = 1 := rfl
  have hcellA : T1.heap[T.heap.size]? = some (freshCell cX kX) := by rw [← hT1]; exact State.heap_pushCell_size _ _
  have d3' : decode c.code (pc + 3) = .ok (.dup, 1) := by rw [hb]; exact d3
  have d4' : decode c.code (pc + 4) = .ok (.ldc_w is, 3) := by rw [hb]; exact d4
  have hstr' : vk_R own is text sa s' := vk_R.warm hW0 hstr
  obtain ⟨U, hsteps, hrun, hend, hW, hsame, ce, hce, hO⟩ := X₁.ctorThrowS hexec htr (own := own) (cls := cls) (names := names) (ic := ic) hown' hcls hnames h (fun x hx => nomatch hx) hfX hkX hcellA (by rw [hhp, hT]; exact Nat.le_refl _) (msg := .ref sa) rfl
    (g := { method := m, pc := pc + 7, locals := ls, stack := .ref sa :: .ref T.heap.size :: .ref T.heap.size :: rest, locked := none }) rfl hsize rfl rfl (rest := rest) rfl
    (by rw [hb]; exact d7) (by rw [hb]; exact d10) hout hRframes (by simp only [List.map_cons, List.sum_cons, hcat]; omega) hlocks
  obtain ⟨f1, f2⟩ := vx_frame hsame
  rw [hhp] at f1 f2
  have hWs : s.WarmedH U.vm := State.WarmedH.trans hW0 hW
  have hcl : s.vm.findClass cls = some ce.cls := by
    have h9 := hO.cls
    rw [hvm] at h9
    exact h9
  have hall : s.sameButNew ({ U with vm := s.vm } : State) locs mc ms := by
    subst hA
    obtain ⟨e1, e2⟩ := hsame
    rw [State.setFrames_setFrames] at e1
    have h2 : (T.setVm s.vm).sameButNew ({ U with vm := s.vm } : State) [] (0 + 1) (0 + 6) := ⟨e1, e2⟩
    have h3 := X.same.trans h2
    rw [List.append_nil] at h3
    exact h3.mono hc hs
  refine ⟨U, ?_, .threw T.heap.size, hrun, hend, Or.inr ⟨T.heap.size, rfl, cls, ce, locs, hx U hWs.alike f1 (fun q hq => f2 q hq (fun z hz => nomatch hz)), hce, hO.vm, hcl, hWs, hall, hf⟩⟩
  refine st1 _ ?_
  show Steps p.tables e below (T1.setTop { method := m, pc := pc + 3, locals := ls, stack := .ref T.heap.size :: rest, locked := none }) _
  jvm_step X₁.here [X₁.here.top, hexec, d3', Value.category]
  exact X₁.ldcStringW hexec (own := own) (text := text) (index := is) (a := sa) hown' hstr'.1 hstr'.2
    (g := { method := m, pc := pc + 4, locals := ls, stack := .ref T.heap.size :: .ref T.heap.size :: rest, locked := none }) rfl d4' _ hsteps
end Ends
section Bodies
variable {l : Launch}
theorem vx_ofW {y : MethodName} {ws ws' : List Cond} {rm : Room} {Pc : Array Value → State → Prop} {Qc : Array Value → State → Outcome → State → Prop} {XC : String → State → State → Prop} {mc ms : Nat} {free : Addr → Prop} {cc : ByteArray} {maxL : Nat} {ret : Option FieldType}
    (hy : plainName y.cls = true) (hw : ws = Cond.code y cc maxL ret :: ws')
    (body : ∀ p e s m args below meth c s₁, BodyLoose p l y (headSpec ws rm) cc maxL ret e s m args below meth c s₁ → c.maxLocals = maxL → (∀ x ∈ c.exceptionTable.toList, False) → Pc args s →
      W p l e (headSpec ws rm).room s m args below meth c s.heap [] 0 0 (vx_MQ below Qc XC args s mc ms free) (entryFrame m args maxL)) : vx_Met l y ws rm Pc Qc XC mc ms free := by
  refine MetFree.of_bodyS (code := cc) (maxLocals := maxL) (ret := ret) hy ?_ ?_
  · intro args s m h hn
    obtain ⟨meth, c, h1, h2, h3, h4, h5, h6, -, -⟩ := Cond.code_spec hn (atoms_spec (ws := ws) h _ (by rw [hw]; exact List.mem_cons_self))
    exact ⟨meth, c, h1, h2, h3, h4, h5, h6⟩
  · intro p e s m args below meth c s₁ B hml hP _
    have hh0 : s₁.heap = s.heap := by rw [B.state]; rfl
    have ht : ∀ x ∈ c.exceptionTable.toList, False := by
      obtain ⟨meth9, c9, h1, h2, -, -, -, -, h7, -⟩ := Cond.code_spec B.named (atoms_spec (ws := ws) B.pre _ (by rw [hw]; exact List.mem_cons_self))
      cases Option.some.inj (h1.symm.trans B.method)
      cases Option.some.inj (h2.symm.trans (Stand.of_body B).code)
      intro x hx
      rw [Array.isEmpty_iff.mp h7] at hx
      cases hx
    obtain ⟨t, a1, o, b1, b2, b3⟩ := body p e s m args below meth c s₁ B hml ht hP s₁ hh0 (Stand.of_body B)
    exact ⟨t, o, a1, b1, b2, b3⟩
/-- the table of a body with handlers -/
theorem vx_table {p : Program} {x y : MethodName} {S : Spec} {cc bytes : ByteArray} {maxL maxL' : Nat} {ret ret' : Option FieldType} {e : Env} {s s₁ : State} {m : MethodId} {args : Array Value} {below : List Frame} {meth : Method} {c : Code} {hh : List (Nat × Nat × Nat × Nat)}
    (B : BodyLoose p l y S cc maxL ret e s m args below meth c s₁) (h : (Cond.codeWith y bytes maxL' ret' hh).before args s = true) : c.exceptionTable.toList = tableOf hh := by
  obtain ⟨m9, meth9, c9, hn9, h1, h2, -, -, h6, -⟩ := Cond.codeWith_spec h
  cases Option.some.inj (hn9.symm.trans B.named)
  cases Option.some.inj (h1.symm.trans B.method)
  cases Option.some.inj (h2.symm.trans (Stand.of_body B).code)
  rw [← h6, table_eq]
end Bodies
end VXA
/-! ===== END ===== -/
/-! ===== BEGIN a static call of a method with an exception table ===== -/
section VXS
variable {p : Program} {l : Launch} {e : Env} {R : Room} {s : State} {m : MethodId} {args : Array Value} {below : List Frame} {meth : Method} {c : Code} {T : State} {H : Heap} {locs : List Loc} {cells slots : Nat}
abbrev vx_CSW (R : Room) (s : State) (args : Array Value) (own : String) (index : Nat) (y : MethodName) (bytes : ByteArray) (maxL : Nat) (ret : Option FieldType) (hh : List (Nat × Nat × Nat × Nat)) (ws : List Cond) (rm : Room) (mc ms n : Nat) : Prop :=
  (rm.cells = mc ∧ rm.slots = ms ∧ rm.frames + 1 ≤ R.frames ∧ 8 + (maxL + 11) + rm.locals ≤ R.locals ∧ (∀ w ∈ ws, ∀ (a' : Array Value) (U : State), s.WarmedH U.vm → w.before a' U = true) ∧ Cond.codeWith y bytes maxL ret hh ∈ ws) ∧
  (Cond.codeWith y bytes maxL ret hh).before args s = true ∧ (Cond.initialized y.cls).before args s = true ∧ (y.cls ≠ "java/lang/invoke/MethodHandle" ∧ y.cls ≠ "java/lang/invoke/VarHandle") ∧
  (∀ sig, parseMethodDescriptor y.desc = some sig → n = sig.parameters.length) ∧ (Cond.methodLink own index y).before args s = true ∧ (Cond.static y).before args s = true
theorem vx_cwSW {own : String} {index maxL mc ms : Nat} {y : MethodName} {bytes : ByteArray} {ret : Option FieldType} {hh : List (Nat × Nat × Nat × Nat)} {Ts ws ws' : List Cond} {rm : Room} (n : Nat) (ht : ∀ w ∈ Ts, w.before args s = true) (hT : GoodIn Ts (va_wsS own index y ws)) (hw : ws = Cond.codeWith y bytes maxL ret hh :: ws') (hrc : rm.cells = mc) (hrs : rm.slots = ms)
    (hd : y.cls ≠ "java/lang/invoke/MethodHandle" ∧ y.cls ≠ "java/lang/invoke/VarHandle" ∧ (parseMethodDescriptor y.desc).map (fun d => d.parameters.length) = some n) (hR : rm.frames + 1 ≤ R.frames ∧ 8 + (maxL + 11) + rm.locals ≤ R.locals) :
    vx_CSW R s args own index y bytes maxL ret hh ws rm mc ms n := by
  have ok : ∀ w ∈ va_wsS own index y ws, w.before args s = true := fun w h => ht w (hT w h).1
  have hG : GoodIn Ts ws := fun w h => hT w (by unfold va_wsS; exact List.mem_append_right _ h)
  have hc : Cond.codeWith y bytes maxL ret hh ∈ ws := by rw [hw]; exact List.mem_cons_self
  refine ⟨⟨hrc, hrs, hR.1, hR.2, pay_in ht hG, hc⟩, ht _ (hG _ hc).1, ok _ (by simp [va_wsS]), ⟨hd.1, hd.2.1⟩, fun sig h => ?_, ok _ (by simp [va_wsS]), ok _ (by simp [va_wsS])⟩
  have h2 := hd.2.2
  rw [h] at h2
  exact (Option.some.inj h2).symm
theorem vx_callSW (X : Stand p l e R s m args below meth c T locs cells slots) (hexec : p.tables.exec = Jvm.exec) {own : String} {index : Nat} {y : MethodName} {bytes : ByteArray} {maxL : Nat} {ret : Option FieldType} {hh : List (Nat × Nat × Nat × Nat)}
    (hown : s.vm.findClass own = some m.cls) (hlink : (Cond.methodLink own index y).before args s = true) (hstat : (Cond.static y).before args s = true) (hinit : (Cond.initialized y.cls).before args s = true)
    (hcode : (Cond.codeWith y bytes maxL ret hh).before args s = true) (hy : y.cls ≠ "java/lang/invoke/MethodHandle" ∧ y.cls ≠ "java/lang/invoke/VarHandle")
    {W9 : Nat} {Pre : Pt → Array Value → Prop} {Post : Pt → Array Value → Option Value → Pt → Prop} (hK : Back l R p e below s args y 3 W9 Pre Post)
    {g : JFrame} (hg : g.method = m) (hsize : g.locals.size = c.maxLocals) {argsL rest : List Value} (hlen : ∀ sig, parseMethodDescriptor y.desc = some sig → argsL.length = sig.parameters.length)
    (hstack : g.stack = argsL.reverse ++ rest) (hW : 2 * g.monitorRoom + (rest.map fun v => v.category).sum ≤ W9) (hdg : decode c.code g.pc = .ok (.invokestatic index, 3))
    (hpre : ∀ vm₁, s.WarmedH vm₁ → Pre ⟨T.setVm vm₁, locs, cells, slots⟩ argsL.toArray) :
    ∃ (v : Option Value) (vm₁ : Vm) (B : Pt), s.WarmedH vm₁ ∧ Stand p l e R s m args below meth c B.U B.locs B.cells B.slots ∧ Post ⟨T.setVm vm₁, locs, cells, slots⟩ argsL.toArray v B ∧
      ∀ target, Steps p.tables e below (B.U.setTop { g with pc := g.pc + 3, stack := v.toList ++ rest }) target → Steps p.tables e below (T.setTop g) target := by
  obtain ⟨mk, methM, cM, hnamed, hmethM, -, -, -, -, -, -, hsigM⟩ := Cond.codeWith_spec hcode
  have hstatic : methM.isStatic = true := Cond.static_spec hnamed hmethM hstat
  obtain ⟨kP, hkP, -⟩ := className_of_methodNamed hnamed
  have hinitP : kP.init = .initialized := Cond.initialized_spec (findClass_of_methodNamed hnamed) hkP hinit
  obtain ⟨vm₁, X₁, hstep₁⟩ := X.invokestatic hexec hown hlink hnamed hmethM hstatic hkP hinitP hy (g := g) hg (argsL := argsL) (rest := rest) (hlen _ hsigM) hstack hdg
  obtain ⟨v, B, X', hpost, hsteps⟩ := hK m meth c ⟨T.setVm vm₁, locs, cells, slots⟩ { g with stack := rest } (.invokestatic index) mk argsL.toArray X₁ hg hsize hdg hW (X₁.named hnamed) (hpre vm₁ X₁.warmed)
  exact ⟨v, vm₁, B, X₁.warmed, X', hpost, fun target h => hstep₁ _ fun acts => by rw [doInvoke_state]; exact hsteps.trans h⟩
theorem vx_runSW {y : MethodName} {bytes cc : ByteArray} {maxL nL mc ms n index : Nat} {ret : Option FieldType} {hh : List (Nat × Nat × Nat × Nat)} {ws : List Cond} {rm : Room} {Pc : Array Value → State → Prop} {Qc : Array Value → State → Outcome → State → Prop} {free : Addr → Prop} {Ts : List Cond} {own : String} {As rest : List Value} {g : JFrame}
    (S : CallFix p m c cc nL s args Ts own) (hM : Met l y ws rm Pc Qc mc ms free) (cw : vx_CSW R s args own index y bytes maxL ret hh ws rm mc ms n) (hp : PreS s H Pc As)
    (hg : g.method = m) (hn : As.length = n) (hsize : g.locals.size = nL) (hstack : g.stack = As.reverse ++ rest) (hW : 2 * g.monitorRoom + (rest.map fun v => v.category).sum ≤ 8) (hdg : decode cc g.pc = .ok (.invokestatic index, 3)) (hf : cells + mc ≤ R.cells ∧ slots + ms ≤ R.slots) :
    va_Run p l e R s m args below meth c H locs cells slots mc ms g rest (Qc As.toArray) (free) := by
  obtain ⟨⟨hrc, hrs, hfr, hlo, hws, hcw⟩, hcode, hini, hy, hlen, hl, hstt⟩ := cw
  have hK : Back l R p e below s args y 3 8 (PreOf R mc ms Pc) (PostOf Qc mc ms free) := va_backW (hh := hh) (bytes := bytes) (maxL := maxL) (ret := ret) hM hp.1 hrc hrs hfr hlo hws hcw (fun a' U hW => word_at hW (Or.inl (by first | rfl | simp [Cond.onTables, Cond.keeps, Cond.steady])) hini)
  obtain ⟨hx, hb, hml, ho, -⟩ := S
  intro T hT X
  obtain ⟨v, vm₁, ⟨U', l2, c2, s2⟩, hW₁, X', ⟨g', mk, t, L, e1, e2, hq, h1, hL, h2, h3⟩, st⟩ := vx_callSW X hx (hh := hh) (bytes := bytes) (maxL := maxL) (ret := ret) ho hl hstt hini hcode hy hK hg (hsize.trans hml.symm) (argsL := As) (rest := rest) (fun sig h => hn.trans (hlen sig h)) hstack hW (by rw [hb]; exact hdg)
    (fun vm₁ hW₁ => ⟨hf.1, hf.2, hp.2 (T.setVm vm₁) hT hW₁⟩)
  dsimp only [Pt.U, Pt.locs, Pt.cells, Pt.slots] at X' e1 e2 h1 h2 h3 st
  subst h1; subst h2; subst h3
  exact ⟨v, (T.setVm vm₁).calling g' mk As.toArray, t, U', L, hT, X', hL, e1, e2, hq, st⟩
/-- not caught here, past rows that name other classes: it goes on to the caller -/
theorem vx_outP {p : Program} {l : Launch} {e : Env} {R : Room} {s : State} {m : MethodId} {args : Array Value} {below : List Frame} {meth : Method} {c : Code} {H : Heap} {locs : List Loc} {cells slots : Nat} {free : Addr → Prop} {ls : Array Slot} {rest : List Value} {Qc : Array Value → State → Outcome → State → Prop} {XC : String → State → State → Prop}
    {pc : Nat} {own E : String} {ce : Cell} {q : Addr} {mc ms : Nat} (hown : s.vm.findClass own = some m.cls) (hlocks : meth.locks = false)
    (hpass : ∀ z ∈ c.exceptionTable.toList, covers z pc = false ∨ (z.catchType ≠ 0 ∧ ∃ nm : String, (Cond.classLink own z.catchType nm).before args s = true ∧ va_Nc E nm s)) (hcell : H[q]? = some ce) (hv : ce.vm = .none) (hcl : s.vm.findClass E = some ce.cls)
    (hx : ∀ t : State, t.heap = H → s.vm.Alike t.vm → XC E s t) (hf : ∀ z ∈ locs, free z.base) (hc : cells ≤ mc) (hs : slots ≤ ms) :
    vx_W p l e R s m args below meth c H locs cells slots (vx_MQ below Qc XC args s mc ms free) (F0 m pc ls rest) q := by
  intro T hT X
  have hpl : e.platform.magicAccessors = ({} : Platform).magicAccessors := by rw [X.admits.platform]
  obtain ⟨vm', hW', X', st⟩ := X.outThrough hlocks q (g := F0 m pc ls rest) rfl rfl rfl (cell := ce) (by rw [hT]; exact hcell) (by rw [hv]; rfl)
    (by obtain ⟨k9, h9, -⟩ := Vm.findClass_spec hcl; exact ⟨k9, h9⟩) (fun z hz => by
      rcases hpass z hz with h | ⟨hz0, nm, hl1, hn1⟩
      · exact Or.inl h
      · obtain ⟨c6, hc6, hcl6⟩ := Cond.classLink_spec hown hl1 e.platform hpl
        obtain ⟨a8, b8, h1, h2, h3⟩ := hn1
        cases Option.some.inj (h1.symm.trans hcl)
        cases Option.some.inj (h2.symm.trans hc6)
        exact Or.inr ⟨hz0, _, hcl6, h3⟩)
  obtain ⟨g₀, hfr⟩ := X'.frames_eq
  have hcell9 : ((T.setVm vm').setFrames (.throwing q :: below)).heap[q]? = some ce := by
    show T.heap[q]? = some ce
    rw [hT]; exact hcell
  have hend : Ended ((T.setVm vm').setFrames (.throwing q :: below)) below (.threw q) := State.frames_setFrames _ (State.cur_lt_of_frames hfr)
  refine ⟨(T.setVm vm').setFrames (.throwing q :: below), ?_, .threw q, X'.here.running, hend, Or.inr ⟨q, rfl, E, ce, locs, hx _ hT (X'.ends _).1.alike, hcell9, hv, hcl, (X'.ends _).1, (X'.ends _).2.mono hc hs, hf⟩⟩
  rw [X.pushThrowing_eq]
  exact st
/-- a thing of a world lies in the heap -/
theorem vx_lt {D : va_G} {cl : List vw_C} {ws : va_W} {H1 : Heap} (h : va_P D cl ws H1) {k : Nat} {q : Nat × va_E} (hk : ws[k]? = some q) : q.1 < H1.size := (h k q hk).lt
end VXS
/-! ===== END ===== -/
/-! ===== BEGIN methods with a table of their own: called by a name, returning or throwing ===== -/
section VXH
/-! vx_backW, vx_callVX, vx_callSX, vx_callVW, vx_runVW, vx_runVX, vx_runSX, vx_ofWH follow the same proofs as their sisters above (Free/Laws.lean, Shelf42/LK1.lean); vx_outP calls Shelf42/NT130.lean (outThrough). -/
section
variable {l : Launch} {R : Room} {p : Program} {e : Env} {below : List Frame} {s : State} {sargs : Array Value} {y : MethodName} {len W9 : Nat}
theorem vx_backW {ws : List Cond} {rm : Room} {Pc : Array Value → State → Prop} {Qc : Array Value → State → Outcome → State → Prop} {XC : String → State → State → Prop} {mc ms : Nat} {free : Addr → Prop} {bytes : ByteArray} {maxL : Nat} {ret : Option FieldType} {hh : List (Nat × Nat × Nat × Nat)}
    (hM : vx_Met l y ws rm Pc Qc XC mc ms free) (hblind : FrameBlind Pc) (hrc : rm.cells = mc) (hrs : rm.slots = ms)
    (hframes : rm.frames + 1 ≤ R.frames) (hlocals : W9 + (maxL + 11) + rm.locals ≤ R.locals)
    (hws : ∀ w ∈ ws, ∀ a' U, s.WarmedH U.vm → w.before a' U = true) (hcode : Cond.codeWith y bytes maxL ret hh ∈ ws) (hinit : ∀ a' U, s.WarmedH U.vm → (Cond.initialized y.cls).before a' U = true) :
    vx_Back l R p e below s sargs y len W9 (PreOf R mc ms Pc) (PostOf Qc mc ms free) (vx_Post XC mc ms free) := by
  intro m meth c A g ig mk a X hg hsize hdg hW hn hp
  have h1 : (headSpec ws rm).pre.before a A.U = true := atoms_intro fun w hw => hws w hw _ _ X.warmed
  have h2 : (Cond.codeWith y bytes maxL ret hh).before a A.U = true := hws _ hcode _ _ X.warmed
  have h3 : (Cond.initialized y.cls).before a A.U = true := hinit _ _ X.warmed
  have h4 : A.cells + (headSpec ws rm).room.cells ≤ R.cells := by rw [show (headSpec ws rm).room.cells = mc from hrc]; exact hp.1
  have h5 : A.slots + (headSpec ws rm).room.slots ≤ R.slots := by rw [show (headSpec ws rm).room.slots = ms from hrs]; exact hp.2.1
  have hPc : Pc a (A.U.calling g mk a) := hblind _ _ _ _ hp.2.2
  obtain ⟨U, Ls, c0, s0⟩ := A
  dsimp only [Pt.U, Pt.locs, Pt.cells, Pt.slots] at h1 h2 h3 h4 h5 X hn hPc ⊢
  obtain ⟨m9, methY, cY, hn9, hmY, hcY, -, hlY, -⟩ := Cond.codeWith_spec h2
  cases Option.some.inj (hn9.symm.trans hn)
  obtain ⟨kY, hkY, -⟩ := className_of_methodNamed hn
  have hinitY : kY.init = .initialized := Cond.initialized_spec (findClass_of_methodNamed hn) hkY h3
  have h : At U g.method c below := by rw [hg]; exact X.here
  have hlocals9 : W9 + (maxL + 11) + (headSpec ws rm).room.locals ≤ R.locals := hlocals
  have happ : (headSpec ws rm).appliesLoose y e.platform (U.calling g mk a) = true :=
    Spec.appliesLoose_calling (g := g) h hdg hn hkY hinitY
      (X.room_calling (g := g) (R' := (headSpec ws rm).room) hsize hmY hcY hframes (by rw [hlY]; omega) h4 h5) h1
  obtain ⟨mid, hmid⟩ := h.above
  have hfr : (U.setTop g).frames = (.java g :: mid) ++ below := by rw [State.frames_setTop' g h.top, hmid]; rfl
  obtain ⟨o, s₂, hsteps, -, hend, hq⟩ := Steps.callFree hM p X.admits X.cas X.clock (acts := []) hfr happ hPc trivial
  have hq' : vx_Q Qc XC mc ms free a (U.calling g mk a) o s₂ := hq
  rw [State.frames_setTop' g h.top] at hend
  obtain ⟨g₀, hg0⟩ := Option.isSome_iff_exists.mp h.top
  obtain ⟨r, hr⟩ := State.topJava?_eq_some.mp hg0
  have hr' : (({ U with heap := s₂.heap, slotsUsed := s₂.slotsUsed } : State).setVm s₂.vm).frames = .java g₀ :: r := hr
  rcases hq' with ⟨hqc, L, hfe, hL⟩ | ⟨q, rfl, E, ce, L, hx, hce, hcv, hcl, hW₂, hsm, hL⟩
  · obtain ⟨⟨v, rfl⟩, hW₂, e2, q2, q3, q4, q5, q6⟩ := id hfe
    have e3 : s₂ = ({ (U.calling g mk a).setFrames s₂.frames with heap := s₂.heap, slotsUsed := s₂.slotsUsed } : State).setVm s₂.vm := by
      have : s₂ = ({ s₂ with vm := (U.calling g mk a).vm } : State).setVm s₂.vm := rfl
      rw [e2] at this
      exact this
    obtain ⟨c₂, i₂, len₂, hc₂, hd₂, hf₂⟩ := hend
    have hW' : U.WarmedH s₂.vm := hW₂
    have hcc : c₂ = c := by
      have h1 : s₂.code? g.method = U.code? g.method := by
        rw [State.code?_eq, State.code?_eq, hW'.alike.method?]
      exact Option.some.inj (hc₂.symm.trans (h1.trans h.code))
    subst hcc
    have hlen : len₂ = len := by rw [hdg] at hd₂; cases hd₂; rfl
    subst hlen
    have hs₂ : s₂ = (({ U with heap := s₂.heap, slotsUsed := s₂.slotsUsed } : State).setVm s₂.vm).setTop { g with pc := g.pc + len₂, stack := v.toList ++ g.stack } := by
      refine e3.trans ?_
      rw [hf₂, State.calling_eq h.top, State.setFrames_setFrames, State.setTop_of_frames _ hr', hr]
      rfl
    have hsame : U.sameButNew ({ U with heap := s₂.heap, slotsUsed := s₂.slotsUsed } : State) L mc ms := by
      refine ⟨?_, q2, q3, q4, q5, q6⟩
      obtain ⟨t, ht, -⟩ := State.frames_cons hr
      show ({ U with heap := s₂.heap, slotsUsed := s₂.slotsUsed } : State) = { U.setFrames U.frames with heap := s₂.heap, slotsUsed := s₂.slotsUsed }
      rw [State.setFrames_self ht]
    subst hg
    refine Or.inl ⟨v, ⟨(({ U with heap := s₂.heap, slotsUsed := s₂.slotsUsed } : State).setVm s₂.vm), Ls ++ L, c0 + mc, s0 + ms⟩,
      ⟨X.admits, X.cas, X.clock, X.frames, X.room, X.hears, X.method, X.code, (X.here.setHeapUsed s₂.heap s₂.slotsUsed).setVm hW'.alike, X.tail, State.WarmedH.trans X.warmed hW', X.limits, X.bytes, X.same.trans (hsame.setVm s.vm)⟩,
      ⟨g, mk, s₂, L, rfl, rfl, hqc, rfl, hL, rfl, rfl⟩, ?_⟩
    show Steps p.tables e below _ ((({ U with heap := s₂.heap, slotsUsed := s₂.slotsUsed } : State).setVm s₂.vm).setTop { g with pc := g.pc + len₂, stack := v.toList ++ g.stack })
    rw [← hs₂]
    exact hsteps
  · obtain ⟨e2, q2, q3, q4, q5, q6⟩ := id hsm
    have e3 : s₂ = ({ (U.calling g mk a).setFrames s₂.frames with heap := s₂.heap, slotsUsed := s₂.slotsUsed } : State).setVm s₂.vm := by
      have : s₂ = ({ s₂ with vm := (U.calling g mk a).vm } : State).setVm s₂.vm := rfl
      rw [e2] at this
      exact this
    have hf₂ : s₂.frames = .throwing q :: .java g :: U.frames.tail := hend
    have hW' : U.WarmedH s₂.vm := hW₂
    have hs₂ : s₂ = ((({ U with heap := s₂.heap, slotsUsed := s₂.slotsUsed } : State).setVm s₂.vm).setTop g).pushFrame (.throwing q) := by
      refine e3.trans ?_
      rw [hf₂, State.calling_eq h.top, State.setFrames_setFrames, State.pushFrame, State.frames_setTop _ hr', State.setTop_of_frames _ hr', State.setFrames_setFrames, hr]
      rfl
    have hsame : U.sameButNew ({ U with heap := s₂.heap, slotsUsed := s₂.slotsUsed } : State) L mc ms := by
      refine ⟨?_, q2, q3, q4, q5, q6⟩
      obtain ⟨t, ht, -⟩ := State.frames_cons hr
      show ({ U with heap := s₂.heap, slotsUsed := s₂.slotsUsed } : State) = { U.setFrames U.frames with heap := s₂.heap, slotsUsed := s₂.slotsUsed }
      rw [State.setFrames_self ht]
    subst hg
    refine Or.inr ⟨q, ⟨(({ U with heap := s₂.heap, slotsUsed := s₂.slotsUsed } : State).setVm s₂.vm), Ls ++ L, c0 + mc, s0 + ms⟩,
      ⟨X.admits, X.cas, X.clock, X.frames, X.room, X.hears, X.method, X.code, (X.here.setHeapUsed s₂.heap s₂.slotsUsed).setVm hW'.alike, X.tail, State.WarmedH.trans X.warmed hW', X.limits, X.bytes, X.same.trans (hsame.setVm s.vm)⟩,
      ⟨g, mk, s₂, L, E, ce, rfl, rfl, hx, hce, hcv, hcl, rfl, hL, rfl, rfl⟩, ?_⟩
    show Steps p.tables e below _ (((({ U with heap := s₂.heap, slotsUsed := s₂.slotsUsed } : State).setVm s₂.vm).setTop g).pushFrame (.throwing q))
    rw [← hs₂]
    exact hsteps
end
variable {p : Program} {l : Launch} {e : Env} {R : Room} {s : State} {m : MethodId} {args : Array Value} {below : List Frame} {meth : Method} {c : Code} {T : State} {H : Heap} {locs : List Loc} {cells slots : Nat}
theorem vx_callVX (X : Stand p l e R s m args below meth c T locs cells slots) (hexec : p.tables.exec = Jvm.exec) {own C : String} {index : Nat} {y : MethodName} {bytes : ByteArray} {maxL : Nat} {ret : Option FieldType} {hh : List (Nat × Nat × Nat × Nat)}
    (hown : s.vm.findClass own = some m.cls) (hlink : (Cond.methodLink own index y).before args s = true) (hinst : (Cond.instanceMethod y).before args s = true) (hsel : (Cond.selects C y y).before args s = true)
    (hcode : (Cond.codeWith y bytes maxL ret hh).before args s = true) (hy : y.cls ≠ "java/lang/invoke/MethodHandle" ∧ y.cls ≠ "java/lang/invoke/VarHandle")
    {W9 : Nat} {Pre : Pt → Array Value → Prop} {Post : Pt → Array Value → Option Value → Pt → Prop} {PostX : Pt → Array Value → Addr → Pt → Prop} (hK : vx_Back l R p e below s args y 3 W9 Pre Post PostX)
    {b : Addr} {cellB : Cell} (hcell : T.heap[b]? = some cellB) (hobj : cellB.vm.isStatics = false) (hcls : s.vm.findClass C = some cellB.cls)
    {g : JFrame} (hg : g.method = m) (hsize : g.locals.size = c.maxLocals) {argsL rest : List Value} (hlen : ∀ sig, parseMethodDescriptor y.desc = some sig → argsL.length = sig.parameters.length)
    (hstack : g.stack = argsL.reverse ++ .ref b :: rest) (hW : 2 * g.monitorRoom + (rest.map fun v => v.category).sum ≤ W9) (hdg : decode c.code g.pc = .ok (.invokevirtual index, 3))
    (hpre : ∀ vm₁, s.WarmedH vm₁ → Pre ⟨T.setVm vm₁, locs, cells, slots⟩ (Value.ref b :: argsL).toArray) :
    (∃ (v : Option Value) (vm₁ : Vm) (B : Pt), s.WarmedH vm₁ ∧ Stand p l e R s m args below meth c B.U B.locs B.cells B.slots ∧ Post ⟨T.setVm vm₁, locs, cells, slots⟩ (Value.ref b :: argsL).toArray v B ∧
      ∀ target, Steps p.tables e below (B.U.setTop { g with pc := g.pc + 3, stack := v.toList ++ rest }) target → Steps p.tables e below (T.setTop g) target) ∨
    (∃ (q : Addr) (vm₁ : Vm) (B : Pt), s.WarmedH vm₁ ∧ Stand p l e R s m args below meth c B.U B.locs B.cells B.slots ∧ PostX ⟨T.setVm vm₁, locs, cells, slots⟩ (Value.ref b :: argsL).toArray q B ∧
      Steps p.tables e below (T.setTop g) ((B.U.setTop { g with stack := rest }).pushFrame (.throwing q))) := by
  obtain ⟨mk, methM, hnamed, hmethM, hstM, habM⟩ := Cond.instanceMethod_spec hinst
  obtain ⟨m8, methM', cM, hn8, hmethM', -, -, -, -, -, -, hsigM⟩ := Cond.codeWith_spec hcode
  cases Option.some.inj (hn8.symm.trans hnamed)
  cases hmethM.symm.trans hmethM'
  obtain ⟨c2, r2, m2, q1, q2, q3, q4, kP, hkP, hkPi⟩ := Cond.selects_spec hsel
  cases hcls.symm.trans q1
  cases (State.methodFound?_of_named hnamed hy).symm.trans q2
  cases hnamed.symm.trans q3
  have hselP : selectMethod e.platform s.vm cellB.cls mk = .method mk := by rw [Launch.admits_selectMethod X.admits]; exact q4
  obtain ⟨vm₁, X₁, hstep₁⟩ := X.invokevirtual hexec hown hlink hnamed hmethM hstM hkP hkPi hy (a := b) (cell := cellB) hcell
    (fun z h => by rw [h] at hobj; cases hobj) hselP hmethM habM hkP hkPi (g := g) hg (argsL := argsL) (rest := rest) (hlen _ hsigM) hstack hdg
  rcases hK m meth c ⟨T.setVm vm₁, locs, cells, slots⟩ { g with stack := rest } (.invokevirtual index) mk (Value.ref b :: argsL).toArray X₁ hg hsize hdg hW (X₁.named hnamed) (hpre vm₁ X₁.warmed) with ⟨v, B, X', hpost, hsteps⟩ | ⟨q, B, X', hpost, hsteps⟩
  · exact Or.inl ⟨v, vm₁, B, X₁.warmed, X', hpost, fun target h => hstep₁ _ fun acts => by rw [doInvoke_state]; exact hsteps.trans h⟩
  · exact Or.inr ⟨q, vm₁, B, X₁.warmed, X', hpost, hstep₁ _ fun acts => by rw [doInvoke_state]; exact hsteps⟩
theorem vx_callSX (X : Stand p l e R s m args below meth c T locs cells slots) (hexec : p.tables.exec = Jvm.exec) {own : String} {index : Nat} {y : MethodName} {bytes : ByteArray} {maxL : Nat} {ret : Option FieldType} {hh : List (Nat × Nat × Nat × Nat)}
    (hown : s.vm.findClass own = some m.cls) (hlink : (Cond.methodLink own index y).before args s = true) (hstat : (Cond.static y).before args s = true) (hinit : (Cond.initialized y.cls).before args s = true)
    (hcode : (Cond.codeWith y bytes maxL ret hh).before args s = true) (hy : y.cls ≠ "java/lang/invoke/MethodHandle" ∧ y.cls ≠ "java/lang/invoke/VarHandle")
    {W9 : Nat} {Pre : Pt → Array Value → Prop} {Post : Pt → Array Value → Option Value → Pt → Prop} {PostX : Pt → Array Value → Addr → Pt → Prop} (hK : vx_Back l R p e below s args y 3 W9 Pre Post PostX)
    {g : JFrame} (hg : g.method = m) (hsize : g.locals.size = c.maxLocals) {argsL rest : List Value} (hlen : ∀ sig, parseMethodDescriptor y.desc = some sig → argsL.length = sig.parameters.length)
    (hstack : g.stack = argsL.reverse ++ rest) (hW : 2 * g.monitorRoom + (rest.map fun v => v.category).sum ≤ W9) (hdg : decode c.code g.pc = .ok (.invokestatic index, 3))
    (hpre : ∀ vm₁, s.WarmedH vm₁ → Pre ⟨T.setVm vm₁, locs, cells, slots⟩ argsL.toArray) :
    (∃ (v : Option Value) (vm₁ : Vm) (B : Pt), s.WarmedH vm₁ ∧ Stand p l e R s m args below meth c B.U B.locs B.cells B.slots ∧ Post ⟨T.setVm vm₁, locs, cells, slots⟩ argsL.toArray v B ∧
      ∀ target, Steps p.tables e below (B.U.setTop { g with pc := g.pc + 3, stack := v.toList ++ rest }) target → Steps p.tables e below (T.setTop g) target) ∨
    (∃ (q : Addr) (vm₁ : Vm) (B : Pt), s.WarmedH vm₁ ∧ Stand p l e R s m args below meth c B.U B.locs B.cells B.slots ∧ PostX ⟨T.setVm vm₁, locs, cells, slots⟩ argsL.toArray q B ∧
      Steps p.tables e below (T.setTop g) ((B.U.setTop { g with stack := rest }).pushFrame (.throwing q))) := by
  obtain ⟨mk, methM, cM, hnamed, hmethM, -, -, -, -, -, -, hsigM⟩ := Cond.codeWith_spec hcode
  have hstatic : methM.isStatic = true := Cond.static_spec hnamed hmethM hstat
  obtain ⟨kP, hkP, -⟩ := className_of_methodNamed hnamed
  have hinitP : kP.init = .initialized := Cond.initialized_spec (findClass_of_methodNamed hnamed) hkP hinit
  obtain ⟨vm₁, X₁, hstep₁⟩ := X.invokestatic hexec hown hlink hnamed hmethM hstatic hkP hinitP hy (g := g) hg (argsL := argsL) (rest := rest) (hlen _ hsigM) hstack hdg
  rcases hK m meth c ⟨T.setVm vm₁, locs, cells, slots⟩ { g with stack := rest } (.invokestatic index) mk argsL.toArray X₁ hg hsize hdg hW (X₁.named hnamed) (hpre vm₁ X₁.warmed) with ⟨v, B, X', hpost, hsteps⟩ | ⟨q, B, X', hpost, hsteps⟩
  · exact Or.inl ⟨v, vm₁, B, X₁.warmed, X', hpost, fun target h => hstep₁ _ fun acts => by rw [doInvoke_state]; exact hsteps.trans h⟩
  · exact Or.inr ⟨q, vm₁, B, X₁.warmed, X', hpost, hstep₁ _ fun acts => by rw [doInvoke_state]; exact hsteps⟩
theorem vx_callVW (X : Stand p l e R s m args below meth c T locs cells slots) (hexec : p.tables.exec = Jvm.exec) {own C : String} {index : Nat} {y : MethodName} {bytes : ByteArray} {maxL : Nat} {ret : Option FieldType} {hh : List (Nat × Nat × Nat × Nat)}
    (hown : s.vm.findClass own = some m.cls) (hlink : (Cond.methodLink own index y).before args s = true) (hinst : (Cond.instanceMethod y).before args s = true) (hsel : (Cond.selects C y y).before args s = true)
    (hcode : (Cond.codeWith y bytes maxL ret hh).before args s = true) (hy : y.cls ≠ "java/lang/invoke/MethodHandle" ∧ y.cls ≠ "java/lang/invoke/VarHandle")
    {W9 : Nat} {Pre : Pt → Array Value → Prop} {Post : Pt → Array Value → Option Value → Pt → Prop} (hK : Back l R p e below s args y 3 W9 Pre Post)
    {b : Addr} {cellB : Cell} (hcell : T.heap[b]? = some cellB) (hobj : cellB.vm.isStatics = false) (hcls : s.vm.findClass C = some cellB.cls)
    {g : JFrame} (hg : g.method = m) (hsize : g.locals.size = c.maxLocals) {argsL rest : List Value} (hlen : ∀ sig, parseMethodDescriptor y.desc = some sig → argsL.length = sig.parameters.length)
    (hstack : g.stack = argsL.reverse ++ .ref b :: rest) (hW : 2 * g.monitorRoom + (rest.map fun v => v.category).sum ≤ W9) (hdg : decode c.code g.pc = .ok (.invokevirtual index, 3))
    (hpre : ∀ vm₁, s.WarmedH vm₁ → Pre ⟨T.setVm vm₁, locs, cells, slots⟩ (Value.ref b :: argsL).toArray) :
    ∃ (v : Option Value) (vm₁ : Vm) (B : Pt), s.WarmedH vm₁ ∧ Stand p l e R s m args below meth c B.U B.locs B.cells B.slots ∧ Post ⟨T.setVm vm₁, locs, cells, slots⟩ (Value.ref b :: argsL).toArray v B ∧
      ∀ target, Steps p.tables e below (B.U.setTop { g with pc := g.pc + 3, stack := v.toList ++ rest }) target → Steps p.tables e below (T.setTop g) target := by
  obtain ⟨mk, methM, hnamed, hmethM, hstM, habM⟩ := Cond.instanceMethod_spec hinst
  obtain ⟨m8, methM', cM, hn8, hmethM', -, -, -, -, -, -, hsigM⟩ := Cond.codeWith_spec hcode
  cases Option.some.inj (hn8.symm.trans hnamed)
  cases hmethM.symm.trans hmethM'
  obtain ⟨c2, r2, m2, q1, q2, q3, q4, kP, hkP, hkPi⟩ := Cond.selects_spec hsel
  cases hcls.symm.trans q1
  cases (State.methodFound?_of_named hnamed hy).symm.trans q2
  cases hnamed.symm.trans q3
  have hselP : selectMethod e.platform s.vm cellB.cls mk = .method mk := by rw [Launch.admits_selectMethod X.admits]; exact q4
  obtain ⟨vm₁, X₁, hstep₁⟩ := X.invokevirtual hexec hown hlink hnamed hmethM hstM hkP hkPi hy (a := b) (cell := cellB) hcell
    (fun z h => by rw [h] at hobj; cases hobj) hselP hmethM habM hkP hkPi (g := g) hg (argsL := argsL) (rest := rest) (hlen _ hsigM) hstack hdg
  obtain ⟨v, B, X', hpost, hsteps⟩ := hK m meth c ⟨T.setVm vm₁, locs, cells, slots⟩ { g with stack := rest } (.invokevirtual index) mk (Value.ref b :: argsL).toArray X₁ hg hsize hdg hW (X₁.named hnamed) (hpre vm₁ X₁.warmed)
  exact ⟨v, vm₁, B, X₁.warmed, X', hpost, fun target h => hstep₁ _ fun acts => by rw [doInvoke_state]; exact hsteps.trans h⟩
abbrev vx_CVW (R : Room) (s : State) (args : Array Value) (own C : String) (index : Nat) (y : MethodName) (bytes : ByteArray) (maxL : Nat) (ret : Option FieldType) (hh : List (Nat × Nat × Nat × Nat)) (ws : List Cond) (rm : Room) (mc ms n : Nat) : Prop :=
  (rm.cells = mc ∧ rm.slots = ms ∧ rm.frames + 1 ≤ R.frames ∧ 8 + (maxL + 11) + rm.locals ≤ R.locals ∧ (∀ w ∈ ws, ∀ (a' : Array Value) (U : State), s.WarmedH U.vm → w.before a' U = true) ∧ Cond.codeWith y bytes maxL ret hh ∈ ws) ∧
  (Cond.codeWith y bytes maxL ret hh).before args s = true ∧ (Cond.initialized y.cls).before args s = true ∧ (y.cls ≠ "java/lang/invoke/MethodHandle" ∧ y.cls ≠ "java/lang/invoke/VarHandle") ∧
  (∀ sig, parseMethodDescriptor y.desc = some sig → n = sig.parameters.length) ∧ (Cond.methodLink own index y).before args s = true ∧ (Cond.instanceMethod y).before args s = true ∧ (Cond.selects C y y).before args s = true
theorem vx_cwVW {own C : String} {index maxL mc ms : Nat} {y : MethodName} {bytes : ByteArray} {ret : Option FieldType} {hh : List (Nat × Nat × Nat × Nat)} {Ts ws ws' : List Cond} {rm : Room} (n : Nat) (ht : ∀ w ∈ Ts, w.before args s = true) (hT : GoodIn Ts (wsV own index C y ws)) (hw : ws = Cond.codeWith y bytes maxL ret hh :: ws') (hrc : rm.cells = mc) (hrs : rm.slots = ms)
    (hd : y.cls = C ∧ y.cls ≠ "java/lang/invoke/MethodHandle" ∧ y.cls ≠ "java/lang/invoke/VarHandle" ∧ (parseMethodDescriptor y.desc).map (fun d => d.parameters.length) = some n) (hR : rm.frames + 1 ≤ R.frames ∧ 8 + (maxL + 11) + rm.locals ≤ R.locals) :
    vx_CVW R s args own C index y bytes maxL ret hh ws rm mc ms n := by
  obtain ⟨hC, hd⟩ := hd
  subst hC
  have ok : ∀ w ∈ wsV own index y.cls y ws, w.before args s = true := fun w h => ht w (hT w h).1
  have hG : GoodIn Ts ws := fun w h => hT w (by unfold wsV; exact List.mem_append_right _ h)
  have hc : Cond.codeWith y bytes maxL ret hh ∈ ws := by rw [hw]; exact List.mem_cons_self
  refine ⟨⟨hrc, hrs, hR.1, hR.2, pay_in ht hG, hc⟩, ht _ (hG _ hc).1, ok _ (by simp [wsV]), ⟨hd.1, hd.2.1⟩, fun sig h => ?_, ok _ (by simp [wsV]), ok _ (by simp [wsV]), ok _ (by simp [wsV])⟩
  have h2 := hd.2.2
  rw [h] at h2
  exact (Option.some.inj h2).symm
theorem vx_runVW {y : MethodName} {bytes cc : ByteArray} {maxL nL mc ms n index : Nat} {ret : Option FieldType} {hh : List (Nat × Nat × Nat × Nat)} {ws : List Cond} {rm : Room} {Pc : Array Value → State → Prop} {Qc : Array Value → State → Outcome → State → Prop} {free : Addr → Prop} {Ts : List Cond} {own C : String} {b : Addr} {As rest : List Value} {g : JFrame}
    (S : CallFix p m c cc nL s args Ts own) (hM : Met l y ws rm Pc Qc mc ms free) (cw : vx_CVW R s args own C index y bytes maxL ret hh ws rm mc ms n) (hp : PreV s H C b Pc As)
    (hg : g.method = m) (hn : As.length = n) (hsize : g.locals.size = nL) (hstack : g.stack = As.reverse ++ .ref b :: rest) (hW : 2 * g.monitorRoom + (rest.map fun v => v.category).sum ≤ 8) (hdg : decode cc g.pc = .ok (.invokevirtual index, 3)) (hf : cells + mc ≤ R.cells ∧ slots + ms ≤ R.slots) :
    va_Run p l e R s m args below meth c H locs cells slots mc ms g rest (Qc (Value.ref b :: As).toArray) free := by
  obtain ⟨⟨hrc, hrs, hfr, hlo, hws, hcw⟩, hcode, hini, hy, hlen, hl, hin, hse⟩ := cw
  have hK : Back l R p e below s args y 3 8 (PreOf R mc ms Pc) (PostOf Qc mc ms free) := va_backW (hh := hh) (bytes := bytes) (maxL := maxL) (ret := ret) hM hp.1 hrc hrs hfr hlo hws hcw (fun a' U hW => word_at hW (Or.inl (by first | rfl | simp [Cond.onTables, Cond.keeps, Cond.steady])) hini)
  obtain ⟨hx, hb, hml, ho, -⟩ := S
  obtain ⟨-, ⟨cellB, hcB, hoB, hclB⟩, hPc⟩ := hp
  intro T hT X
  obtain ⟨v, vm₁, ⟨U', l2, c2, s2⟩, hW₁, X', ⟨g', mk, t, L, e1, e2, hq, h1, hL, h2, h3⟩, st⟩ := vx_callVW X hx (C := C) (hh := hh) (bytes := bytes) (maxL := maxL) (ret := ret) ho hl hin hse hcode hy hK (by rw [hT]; exact hcB) hoB hclB hg (hsize.trans hml.symm) (argsL := As) (rest := rest) (fun sig h => hn.trans (hlen sig h)) hstack hW (by rw [hb]; exact hdg)
    (fun vm₁ hW₁ => ⟨hf.1, hf.2, hPc (T.setVm vm₁) hT hW₁⟩)
  dsimp only [Pt.U, Pt.locs, Pt.cells, Pt.slots] at X' e1 e2 h1 h2 h3 st
  subst h1; subst h2; subst h3
  exact ⟨v, (T.setVm vm₁).calling g' mk (Value.ref b :: As).toArray, t, U', L, hT, X', hL, e1, e2, hq, st⟩
section
variable {y : MethodName} {bytes cc : ByteArray} {maxL nL mc ms n index : Nat} {ret : Option FieldType} {ws : List Cond} {rm : Room} {Pc : Array Value → State → Prop} {Qc : Array Value → State → Outcome → State → Prop} {XC : String → State → State → Prop} {free : Addr → Prop} {Ts : List Cond} {own C : String} {b : Addr} {As rest : List Value} {g : JFrame}
theorem vx_runVX {hh : List (Nat × Nat × Nat × Nat)} (S : CallFix p m c cc nL s args Ts own) (hM : vx_Met l y ws rm Pc Qc XC mc ms free) (cw : vx_CVW R s args own C index y bytes maxL ret hh ws rm mc ms n) (hp : PreV s H C b Pc As)
    (hg : g.method = m) (hn : As.length = n) (hsize : g.locals.size = nL) (hstack : g.stack = As.reverse ++ .ref b :: rest) (hW : 2 * g.monitorRoom + (rest.map fun v => v.category).sum ≤ 8) (hdg : decode cc g.pc = .ok (.invokevirtual index, 3)) (hf : cells + mc ≤ R.cells ∧ slots + ms ≤ R.slots) :
    vx_Run p l e R s m args below meth c H locs cells slots mc ms g rest (Qc (Value.ref b :: As).toArray) XC free := by
  obtain ⟨⟨hrc, hrs, hfr, hlo, hws, hcw⟩, hcode, hini, hy, hlen, hl, hin, hse⟩ := cw
  have hK : vx_Back l R p e below s args y 3 8 (PreOf R mc ms Pc) (PostOf Qc mc ms free) (vx_Post XC mc ms free) := vx_backW (hh := hh) (bytes := bytes) (maxL := maxL) (ret := ret) hM hp.1 hrc hrs hfr hlo hws hcw (fun a' U hW => word_at hW (Or.inl (by first | rfl | simp [Cond.onTables, Cond.keeps, Cond.steady])) hini)
  obtain ⟨hx, hb, hml, ho, -⟩ := S
  obtain ⟨-, ⟨cellB, hcB, hoB, hclB⟩, hPc⟩ := hp
  intro T hT X
  rcases vx_callVX X hx (C := C) (hh := hh) (bytes := bytes) (maxL := maxL) (ret := ret) ho hl hin hse hcode hy hK (by rw [hT]; exact hcB) hoB hclB hg (hsize.trans hml.symm) (argsL := As) (rest := rest) (fun sig h => hn.trans (hlen sig h)) hstack hW (by rw [hb]; exact hdg)
    (fun vm₁ hW₁ => ⟨hf.1, hf.2, hPc (T.setVm vm₁) hT hW₁⟩) with ⟨v, vm₁, ⟨U', l2, c2, s2⟩, hW₁, X', ⟨g', mk, t, L, e1, e2, hq, h1, hL, h2, h3⟩, st⟩ | ⟨q, vm₁, ⟨U', l2, c2, s2⟩, hW₁, X', ⟨g', mk, t, L, E, ce, e1, e2, hq, hce, hcv, hcl, h1, hL, h2, h3⟩, st⟩
  · dsimp only [Pt.U, Pt.locs, Pt.cells, Pt.slots] at X' e1 e2 h1 h2 h3 st
    subst h1; subst h2; subst h3
    exact Or.inl ⟨v, (T.setVm vm₁).calling g' mk (Value.ref b :: As).toArray, t, U', L, hT, X', hL, e1, e2, hq, st⟩
  · dsimp only [Pt.U, Pt.locs, Pt.cells, Pt.slots] at X' e1 e2 h1 h2 h3 st hcl
    subst h1; subst h2; subst h3
    exact Or.inr ⟨q, (T.setVm vm₁).calling g' mk (Value.ref b :: As).toArray, t, U', L, E, ce, hT, X', hL, e1, e2, hq, hce, hcv, vx_cls hW₁ hcl, st⟩
theorem vx_runSX {hh : List (Nat × Nat × Nat × Nat)} (S : CallFix p m c cc nL s args Ts own) (hM : vx_Met l y ws rm Pc Qc XC mc ms free) (cw : vx_CSW R s args own index y bytes maxL ret hh ws rm mc ms n) (hp : PreS s H Pc As)
    (hg : g.method = m) (hn : As.length = n) (hsize : g.locals.size = nL) (hstack : g.stack = As.reverse ++ rest) (hW : 2 * g.monitorRoom + (rest.map fun v => v.category).sum ≤ 8) (hdg : decode cc g.pc = .ok (.invokestatic index, 3)) (hf : cells + mc ≤ R.cells ∧ slots + ms ≤ R.slots) :
    vx_Run p l e R s m args below meth c H locs cells slots mc ms g rest (Qc As.toArray) XC free := by
  obtain ⟨⟨hrc, hrs, hfr, hlo, hws, hcw⟩, hcode, hini, hy, hlen, hl, hstt⟩ := cw
  have hK : vx_Back l R p e below s args y 3 8 (PreOf R mc ms Pc) (PostOf Qc mc ms free) (vx_Post XC mc ms free) := vx_backW (hh := hh) (bytes := bytes) (maxL := maxL) (ret := ret) hM hp.1 hrc hrs hfr hlo hws hcw (fun a' U hW => word_at hW (Or.inl (by first | rfl | simp [Cond.onTables, Cond.keeps, Cond.steady])) hini)
  obtain ⟨hx, hb, hml, ho, -⟩ := S
  intro T hT X
  rcases vx_callSX X hx (hh := hh) (bytes := bytes) (maxL := maxL) (ret := ret) ho hl hstt hini hcode hy hK hg (hsize.trans hml.symm) (argsL := As) (rest := rest) (fun sig h => hn.trans (hlen sig h)) hstack hW (by rw [hb]; exact hdg)
    (fun vm₁ hW₁ => ⟨hf.1, hf.2, hp.2 (T.setVm vm₁) hT hW₁⟩) with ⟨v, vm₁, ⟨U', l2, c2, s2⟩, hW₁, X', ⟨g', mk, t, L, e1, e2, hq, h1, hL, h2, h3⟩, st⟩ | ⟨q, vm₁, ⟨U', l2, c2, s2⟩, hW₁, X', ⟨g', mk, t, L, E, ce, e1, e2, hq, hce, hcv, hcl, h1, hL, h2, h3⟩, st⟩
  · dsimp only [Pt.U, Pt.locs, Pt.cells, Pt.slots] at X' e1 e2 h1 h2 h3 st
    subst h1; subst h2; subst h3
    exact Or.inl ⟨v, (T.setVm vm₁).calling g' mk As.toArray, t, U', L, hT, X', hL, e1, e2, hq, st⟩
  · dsimp only [Pt.U, Pt.locs, Pt.cells, Pt.slots] at X' e1 e2 h1 h2 h3 st hcl
    subst h1; subst h2; subst h3
    exact Or.inr ⟨q, (T.setVm vm₁).calling g' mk As.toArray, t, U', L, E, ce, hT, X', hL, e1, e2, hq, hce, hcv, vx_cls hW₁ hcl, st⟩
end
end VXH
theorem vx_ofWH {l : Launch} {y : MethodName} {ws ws' : List Cond} {rm : Room} {Pc : Array Value → State → Prop} {Qc : Array Value → State → Outcome → State → Prop} {XC : String → State → State → Prop} {mc ms : Nat} {free : Addr → Prop} {cc : ByteArray} {maxL : Nat} {ret : Option FieldType} {hh : List (Nat × Nat × Nat × Nat)}
    (hy : plainName y.cls = true) (hw : ws = Cond.codeWith y cc maxL ret hh :: ws')
    (body : ∀ p e s m args below meth c s₁, BodyLoose p l y (headSpec ws rm) cc maxL ret e s m args below meth c s₁ → c.maxLocals = maxL → Pc args s →
      W p l e (headSpec ws rm).room s m args below meth c s.heap [] 0 0 (vx_MQ below Qc XC args s mc ms free) (entryFrame m args maxL)) : vx_Met l y ws rm Pc Qc XC mc ms free := by
  refine MetFree.of_bodyS (code := cc) (maxLocals := maxL) (ret := ret) hy ?_ ?_
  · intro args s m h hn
    obtain ⟨m9, meth, c, hn9, h1, h2, h3, h4, -, h5, h6, -⟩ := Cond.codeWith_spec (atoms_spec (ws := ws) h _ (by rw [hw]; exact List.mem_cons_self))
    cases hn.symm.trans hn9
    exact ⟨meth, c, h1, h2, h3, h4, h5, h6⟩
  · intro p e s m args below meth c s₁ B hml hP _
    have hh0 : s₁.heap = s.heap := by rw [B.state]; rfl
    obtain ⟨t, a1, o, b1, b2, b3⟩ := body p e s m args below meth c s₁ B hml hP s₁ hh0 (Stand.of_body B)
    exact ⟨t, o, a1, b1, b2, b3⟩
/-! ===== END ===== -/
end
section
/-! ===== BEGIN printed: names, fields, word lists, decode rows ===== -/
def RX0 : String := "FleetSettings$Change"
def TX0 : u_T := fun k => match k with
  | 0 => ("FleetSettings$Change", "author", "I", false)
  | 1 => ("FleetSettings$Change", "cell", "I", false)
  | 2 => ("FleetSettings$Change", "what", "I", false)
  | 3 => ("FleetSettings$Change", "proposedDay", "I", false)
  | 4 => ("FleetSettings$Change", "condition", "I", false)
  | 5 => ("FleetSettings$Change", "goodApprovers", "I", false)
  | 6 => ("FleetSettings$Change", "approvedDay", "[I", true)
  | _ => ("FleetSettings$Change", "approvedMoment", "[I", true)
def tyX0 : Nat → FieldType := fun k => match k with
  | 0 => .int
  | 1 => .int
  | 2 => .int
  | 3 => .int
  | 4 => .int
  | 5 => .int
  | 6 => .array .int
  | _ => .array .int
abbrev wsX00 : List Cond := u_ws RX0 TX0 8
theorem nmX0 : ∀ a, a < 8 → ∀ b, b < 8 → a ≠ b → (TX0 a).2.1 ≠ (TX0 b).2.1 := by decide +kernel
theorem tyX0_ok : ∀ k, k < 8 → parseFieldDescriptor (TX0 k).2.2.1 = some (tyX0 k) := by decide +kernel
abbrev cX0_init : ByteArray := prog_2_method_1_code
def yX0_init : MethodName := ⟨RX0, "<init>", "()V"⟩
abbrev cX0_begin : ByteArray := prog_2_method_2_code
def yX0_begin : MethodName := ⟨RX0, "begin", "(IIII)V"⟩
abbrev cX0_canBeApprovedBy : ByteArray := prog_2_method_3_code
def yX0_canBeApprovedBy : MethodName := ⟨RX0, "canBeApprovedBy", "(I)Z"⟩
abbrev cX0_addApproval : ByteArray := prog_2_method_4_code
def yX0_addApproval : MethodName := ⟨RX0, "addApproval", "(III)V"⟩
abbrev cX0_countGood : ByteArray := prog_2_method_5_code
def yX0_countGood : MethodName := ⟨RX0, "countGood", "()I"⟩
abbrev cX0_loseByLeaving : ByteArray := prog_2_method_6_code
def yX0_loseByLeaving : MethodName := ⟨RX0, "loseByLeaving", "(II)Z"⟩
abbrev cX0_isHeldAnew : ByteArray := prog_2_method_7_code
def yX0_isHeldAnew : MethodName := ⟨RX0, "isHeldAnew", "([LFleetSettings$Person;)Z"⟩
abbrev cX0_firstHeldMoment : ByteArray := prog_2_method_8_code
def yX0_firstHeldMoment : MethodName := ⟨RX0, "firstHeldMoment", "([LFleetSettings$Person;)I"⟩
abbrev cX0_countGoodAt : ByteArray := prog_2_method_9_code
def yX0_countGoodAt : MethodName := ⟨RX0, "countGoodAt", "(I[LFleetSettings$Person;)I"⟩
def RX1 : String := "FleetSettings$Heads"
def TX1 : u_T := fun k => match k with
  | 0 => ("FleetSettings$Heads", "changeAt", "[I", true)
  | _ => ("FleetSettings$Heads", "rankOfChange", "[I", true)
def tyX1 : Nat → FieldType := fun k => match k with
  | 0 => .array .int
  | _ => .array .int
abbrev wsX10 : List Cond := u_ws RX1 TX1 2
theorem nmX1 : ∀ a, a < 2 → ∀ b, b < 2 → a ≠ b → (TX1 a).2.1 ≠ (TX1 b).2.1 := by decide +kernel
theorem tyX1_ok : ∀ k, k < 2 → parseFieldDescriptor (TX1 k).2.2.1 = some (tyX1 k) := by decide +kernel
abbrev cX1_init : ByteArray := prog_3_method_1_code
def yX1_init : MethodName := ⟨RX1, "<init>", "()V"⟩
abbrev cX1_forgetChanges : ByteArray := prog_3_method_2_code
def yX1_forgetChanges : MethodName := ⟨RX1, "forgetChanges", "()V"⟩
abbrev cX1_raise : ByteArray := prog_3_method_3_code
def yX1_raise : MethodName := ⟨RX1, "raise", "(II)V"⟩
def RX2 : String := "FleetSettings$Machine"
def TX2 : u_T := fun k => match k with
  | 0 => ("FleetSettings$Machine", "ownSlot", "I", true)
  | 1 => ("FleetSettings$Machine", "group", "I", false)
  | 2 => ("FleetSettings$Machine", "freeFrom", "I", false)
  | 3 => ("FleetSettings$Machine", "layerCount", "I", false)
  | 4 => ("FleetSettings$Machine", "slotOfLayer", "[I", true)
  | _ => ("FleetSettings$Machine", "takenAt", "[I", true)
def tyX2 : Nat → FieldType := fun k => match k with
  | 0 => .int
  | 1 => .int
  | 2 => .int
  | 3 => .int
  | 4 => .array .int
  | _ => .array .int
abbrev wsX20 : List Cond := u_ws RX2 TX2 6
theorem nmX2 : ∀ a, a < 6 → ∀ b, b < 6 → a ≠ b → (TX2 a).2.1 ≠ (TX2 b).2.1 := by decide +kernel
theorem tyX2_ok : ∀ k, k < 6 → parseFieldDescriptor (TX2 k).2.2.1 = some (tyX2 k) := by decide +kernel
abbrev cX2_init : ByteArray := prog_4_method_1_code
def yX2_init : MethodName := ⟨RX2, "<init>", "(I)V"⟩
abbrev cX2_enterGroup : ByteArray := prog_4_method_2_code
def yX2_enterGroup : MethodName := ⟨RX2, "enterGroup", "(I[I)V"⟩
abbrev cX2_dropOtherGroups : ByteArray := prog_4_method_3_code
def yX2_dropOtherGroups : MethodName := ⟨RX2, "dropOtherGroups", "()V"⟩
abbrev cX2_drop : ByteArray := prog_4_method_4_code
def yX2_drop : MethodName := ⟨RX2, "drop", "(I)V"⟩
abbrev cX2_isLayer : ByteArray := prog_4_method_5_code
def yX2_isLayer : MethodName := ⟨RX2, "isLayer", "(I)Z"⟩
def RX3 : String := "FleetSettings$Outcome"
def TX3 : u_T := fun k => match k with
  | 0 => ("FleetSettings$Outcome", "value", "[I", true)
  | 1 => ("FleetSettings$Outcome", "layer", "[I", true)
  | 2 => ("FleetSettings$Outcome", "rankOfKey", "[I", true)
  | _ => ("FleetSettings$Outcome", "hiddenKeys", "I", false)
def tyX3 : Nat → FieldType := fun k => match k with
  | 0 => .array .int
  | 1 => .array .int
  | 2 => .array .int
  | _ => .int
abbrev wsX30 : List Cond := u_ws RX3 TX3 4
theorem nmX3 : ∀ a, a < 4 → ∀ b, b < 4 → a ≠ b → (TX3 a).2.1 ≠ (TX3 b).2.1 := by decide +kernel
theorem tyX3_ok : ∀ k, k < 4 → parseFieldDescriptor (TX3 k).2.2.1 = some (tyX3 k) := by decide +kernel
abbrev cX3_init : ByteArray := prog_5_method_1_code
def yX3_init : MethodName := ⟨RX3, "<init>", "()V"⟩
abbrev cX3_forget : ByteArray := prog_5_method_2_code
def yX3_forget : MethodName := ⟨RX3, "forget", "()V"⟩
abbrev cX3_set : ByteArray := prog_5_method_3_code
def yX3_set : MethodName := ⟨RX3, "set", "(IIII)V"⟩
abbrev cX3_hideExcluded : ByteArray := prog_5_method_4_code
def yX3_hideExcluded : MethodName := ⟨RX3, "hideExcluded", "([I)V"⟩
abbrev cX3_yields : ByteArray := prog_5_method_5_code
def yX3_yields : MethodName := ⟨RX3, "yields", "(II)Z"⟩
abbrev cX3_valueIfShown : ByteArray := prog_5_method_6_code
def yX3_valueIfShown : MethodName := ⟨RX3, "valueIfShown", "(I)I"⟩
abbrev cX3_layerIfShown : ByteArray := prog_5_method_7_code
def yX3_layerIfShown : MethodName := ⟨RX3, "layerIfShown", "(I)I"⟩
def RX4 : String := "FleetSettings$Person"
def TX4 : u_T := fun k => match k with
  | 0 => ("FleetSettings$Person", "isInService", "Z", false)
  | 1 => ("FleetSettings$Person", "isSuspect", "Z", false)
  | 2 => ("FleetSettings$Person", "leftDay", "I", false)
  | _ => ("FleetSettings$Person", "leftMoment", "I", false)
def tyX4 : Nat → FieldType := fun k => match k with
  | 0 => .boolean
  | 1 => .boolean
  | 2 => .int
  | _ => .int
abbrev wsX40 : List Cond := u_ws RX4 TX4 4
theorem nmX4 : ∀ a, a < 4 → ∀ b, b < 4 → a ≠ b → (TX4 a).2.1 ≠ (TX4 b).2.1 := by decide +kernel
theorem tyX4_ok : ∀ k, k < 4 → parseFieldDescriptor (TX4 k).2.2.1 = some (tyX4 k) := by decide +kernel
abbrev cX4_init : ByteArray := prog_6_method_1_code
def yX4_init : MethodName := ⟨RX4, "<init>", "()V"⟩
abbrev cX4_hasVoided : ByteArray := prog_6_method_2_code
def yX4_hasVoided : MethodName := ⟨RX4, "hasVoided", "(I)Z"⟩
def RX5 : String := "FleetSettings"
def TX5 : u_T := fun k => match k with
  | 0 => ("FleetSettings", "today", "I", false)
  | 1 => ("FleetSettings", "pace", "I", false)
  | 2 => ("FleetSettings", "dutySets", "[I", true)
  | 3 => ("FleetSettings", "personRows", "[LFleetSettings$Person;", true)
  | 4 => ("FleetSettings", "parents", "[I", true)
  | 5 => ("FleetSettings", "groupCount", "I", false)
  | 6 => ("FleetSettings", "machineRows", "[LFleetSettings$Machine;", true)
  | 7 => ("FleetSettings", "machineCount", "I", false)
  | 8 => ("FleetSettings", "changeRows", "[LFleetSettings$Change;", true)
  | 9 => ("FleetSettings", "changeCount", "I", false)
  | 10 => ("FleetSettings", "rankCount", "I", false)
  | 11 => ("FleetSettings", "moment", "I", false)
  | 12 => ("FleetSettings", "excludedBy", "[I", true)
  | 13 => ("FleetSettings", "heads", "LFleetSettings$Heads;", true)
  | 14 => ("FleetSettings", "headsAnew", "LFleetSettings$Heads;", true)
  | _ => ("FleetSettings", "outcome", "LFleetSettings$Outcome;", true)
def tyX5 : Nat → FieldType := fun k => match k with
  | 0 => .int
  | 1 => .int
  | 2 => .array .int
  | 3 => .array (.object "FleetSettings$Person")
  | 4 => .array .int
  | 5 => .int
  | 6 => .array (.object "FleetSettings$Machine")
  | 7 => .int
  | 8 => .array (.object "FleetSettings$Change")
  | 9 => .int
  | 10 => .int
  | 11 => .int
  | 12 => .array .int
  | 13 => .object "FleetSettings$Heads"
  | 14 => .object "FleetSettings$Heads"
  | _ => .object "FleetSettings$Outcome"
abbrev wsX50 : List Cond := u_ws RX5 TX5 16
theorem nmX5 : ∀ a, a < 16 → ∀ b, b < 16 → a ≠ b → (TX5 a).2.1 ≠ (TX5 b).2.1 := by decide +kernel
theorem tyX5_ok : ∀ k, k < 16 → parseFieldDescriptor (TX5 k).2.2.1 = some (tyX5 k) := by decide +kernel
abbrev cX5_init : ByteArray := prog_1_method_1_code
def yX5_init : MethodName := ⟨RX5, "<init>", "()V"⟩
abbrev cX5_setDuty : ByteArray := prog_1_method_2_code
def yX5_setDuty : MethodName := ⟨RX5, "setDuty", "(II)I"⟩
abbrev cX5_leave : ByteArray := prog_1_method_3_code
def yX5_leave : MethodName := ⟨RX5, "leave", "(IZ)I"⟩
abbrev cX5_comeBack : ByteArray := prog_1_method_4_code
def yX5_comeBack : MethodName := ⟨RX5, "comeBack", "(I)V"⟩
abbrev cX5_pass : ByteArray := prog_1_method_5_code
def yX5_pass : MethodName := ⟨RX5, "pass", "(I)I"⟩
abbrev cX5_day : ByteArray := prog_1_method_6_code
def yX5_day : MethodName := ⟨RX5, "day", "()I"⟩
abbrev cX5_addGroup : ByteArray := prog_1_method_7_code
def yX5_addGroup : MethodName := ⟨RX5, "addGroup", "(I)I"⟩
abbrev cX5_addMachine : ByteArray := prog_1_method_8_code
def yX5_addMachine : MethodName := ⟨RX5, "addMachine", "(I)I"⟩
abbrev cX5_moveMachine : ByteArray := prog_1_method_9_code
def yX5_moveMachine : MethodName := ⟨RX5, "moveMachine", "(II)I"⟩
abbrev cX5_work : ByteArray := prog_1_method_10_code
def yX5_work : MethodName := ⟨RX5, "work", "(II)I"⟩
abbrev cX5_setPace : ByteArray := prog_1_method_11_code
def yX5_setPace : MethodName := ⟨RX5, "setPace", "(I)I"⟩
abbrev cX5_isBusy : ByteArray := prog_1_method_12_code
def yX5_isBusy : MethodName := ⟨RX5, "isBusy", "(I)Z"⟩
abbrev cX5_isStopped : ByteArray := prog_1_method_13_code
def yX5_isStopped : MethodName := ⟨RX5, "isStopped", "(I)Z"⟩
abbrev cX5_propose : ByteArray := prog_1_method_14_code
def yX5_propose : MethodName := ⟨RX5, "propose", "(IIII)I"⟩
abbrev cX5_approve : ByteArray := prog_1_method_15_code
def yX5_approve : MethodName := ⟨RX5, "approve", "(II)I"⟩
abbrev cX5_withdraw : ByteArray := prog_1_method_16_code
def yX5_withdraw : MethodName := ⟨RX5, "withdraw", "(I)V"⟩
abbrev cX5_exclude : ByteArray := prog_1_method_17_code
def yX5_exclude : MethodName := ⟨RX5, "exclude", "(IIZ)Z"⟩
abbrev cX5_changes : ByteArray := prog_1_method_18_code
def yX5_changes : MethodName := ⟨RX5, "changes", "()I"⟩
abbrev cX5_state : ByteArray := prog_1_method_19_code
def yX5_state : MethodName := ⟨RX5, "state", "(I)I"⟩
abbrev cX5_rank : ByteArray := prog_1_method_20_code
def yX5_rank : MethodName := ⟨RX5, "rank", "(I)I"⟩
abbrev cX5_approvals : ByteArray := prog_1_method_21_code
def yX5_approvals : MethodName := ⟨RX5, "approvals", "(I)I"⟩
abbrev cX5_told : ByteArray := prog_1_method_22_code
def yX5_told : MethodName := ⟨RX5, "told", "(II)I"⟩
abbrev cX5_taken : ByteArray := prog_1_method_23_code
def yX5_taken : MethodName := ⟨RX5, "taken", "(III)I"⟩
abbrev cX5_runs : ByteArray := prog_1_method_24_code
def yX5_runs : MethodName := ⟨RX5, "runs", "(II)I"⟩
abbrev cX5_layerOf : ByteArray := prog_1_method_25_code
def yX5_layerOf : MethodName := ⟨RX5, "layerOf", "(II)I"⟩
abbrev cX5_due : ByteArray := prog_1_method_26_code
def yX5_due : MethodName := ⟨RX5, "due", "(II)I"⟩
abbrev cX5_dueAnew : ByteArray := prog_1_method_27_code
def yX5_dueAnew : MethodName := ⟨RX5, "dueAnew", "(II)I"⟩
abbrev cX5_behind : ByteArray := prog_1_method_28_code
def yX5_behind : MethodName := ⟨RX5, "behind", "(I)I"⟩
abbrev cX5_hidden : ByteArray := prog_1_method_29_code
def yX5_hidden : MethodName := ⟨RX5, "hidden", "(I)I"⟩
abbrev cX5_spread : ByteArray := prog_1_method_30_code
def yX5_spread : MethodName := ⟨RX5, "spread", "(I)I"⟩
abbrev cX5_requirePerson : ByteArray := prog_1_method_31_code
def yX5_requirePerson : MethodName := ⟨RX5, "requirePerson", "(I)V"⟩
abbrev cX5_requireKey : ByteArray := prog_1_method_32_code
def yX5_requireKey : MethodName := ⟨RX5, "requireKey", "(I)V"⟩
abbrev cX5_requireGroup : ByteArray := prog_1_method_33_code
def yX5_requireGroup : MethodName := ⟨RX5, "requireGroup", "(I)V"⟩
abbrev cX5_requireMachine : ByteArray := prog_1_method_34_code
def yX5_requireMachine : MethodName := ⟨RX5, "requireMachine", "(I)V"⟩
abbrev cX5_requirePlace : ByteArray := prog_1_method_35_code
def yX5_requirePlace : MethodName := ⟨RX5, "requirePlace", "(I)V"⟩
abbrev cX5_requireChange : ByteArray := prog_1_method_36_code
def yX5_requireChange : MethodName := ⟨RX5, "requireChange", "(I)V"⟩
abbrev cX5_isChange : ByteArray := prog_1_method_37_code
def yX5_isChange : MethodName := ⟨RX5, "isChange", "(I)Z"⟩
abbrev cX5_slotOf : ByteArray := prog_1_method_38_code
def yX5_slotOf : MethodName := ⟨RX5, "slotOf", "(I)I"⟩
abbrev cX5_cellOf : ByteArray := prog_1_method_39_code
def yX5_cellOf : MethodName := ⟨RX5, "cellOf", "(II)I"⟩
abbrev cX5_contains : ByteArray := prog_1_method_40_code
def yX5_contains : MethodName := ⟨RX5, "contains", "(II)Z"⟩
abbrev cX5_with : ByteArray := prog_1_method_41_code
def yX5_with : MethodName := ⟨RX5, "with", "(IIZ)I"⟩
abbrev cX5_isOnDuty : ByteArray := prog_1_method_42_code
def yX5_isOnDuty : MethodName := ⟨RX5, "isOnDuty", "(I)Z"⟩
abbrev cX5_hold : ByteArray := prog_1_method_43_code
def yX5_hold : MethodName := ⟨RX5, "hold", "(I)V"⟩
abbrev cX5_voidWhatIsNotOld : ByteArray := prog_1_method_44_code
def yX5_voidWhatIsNotOld : MethodName := ⟨RX5, "voidWhatIsNotOld", "(I)I"⟩
abbrev cX5_findHeads : ByteArray := prog_1_method_45_code
def yX5_findHeads : MethodName := ⟨RX5, "findHeads", "()V"⟩
abbrev cX5_findHeadsAnew : ByteArray := prog_1_method_46_code
def yX5_findHeadsAnew : MethodName := ⟨RX5, "findHeadsAnew", "()V"⟩
abbrev cX5_stepMachines : ByteArray := prog_1_method_47_code
def yX5_stepMachines : MethodName := ⟨RX5, "stepMachines", "()I"⟩
abbrev cX5_isAnyBusy : ByteArray := prog_1_method_48_code
def yX5_isAnyBusy : MethodName := ⟨RX5, "isAnyBusy", "()Z"⟩
abbrev cX5_nearestLayerNotHeld : ByteArray := prog_1_method_49_code
def yX5_nearestLayerNotHeld : MethodName := ⟨RX5, "nearestLayerNotHeld", "(LFleetSettings$Machine;)I"⟩
abbrev cX5_isTakenNotHeld : ByteArray := prog_1_method_50_code
def yX5_isTakenNotHeld : MethodName := ⟨RX5, "isTakenNotHeld", "(I)Z"⟩
abbrev cX5_goBack : ByteArray := prog_1_method_51_code
def yX5_goBack : MethodName := ⟨RX5, "goBack", "(LFleetSettings$Machine;I)V"⟩
abbrev cX5_takeFarthestLayer : ByteArray := prog_1_method_52_code
def yX5_takeFarthestLayer : MethodName := ⟨RX5, "takeFarthestLayer", "(LFleetSettings$Machine;)Z"⟩
abbrev cX5_takeLayer : ByteArray := prog_1_method_53_code
def yX5_takeLayer : MethodName := ⟨RX5, "takeLayer", "(LFleetSettings$Machine;I)V"⟩
abbrev cX5_isBehindIn : ByteArray := prog_1_method_54_code
def yX5_isBehindIn : MethodName := ⟨RX5, "isBehindIn", "(LFleetSettings$Machine;I)Z"⟩
abbrev cX5_findRunning : ByteArray := prog_1_method_55_code
def yX5_findRunning : MethodName := ⟨RX5, "findRunning", "(LFleetSettings$Machine;)V"⟩
abbrev cX5_findOutcome : ByteArray := prog_1_method_56_code
def yX5_findOutcome : MethodName := ⟨RX5, "findOutcome", "(LFleetSettings$Machine;[I[I)V"⟩
abbrev cX5_decide : ByteArray := prog_1_method_57_code
def yX5_decide : MethodName := ⟨RX5, "decide", "(LFleetSettings$Machine;[I[II)V"⟩
abbrev cX5_whatIsToldBy : ByteArray := prog_1_method_58_code
def yX5_whatIsToldBy : MethodName := ⟨RX5, "whatIsToldBy", "(I)I"⟩
def RX6 : String := "FleetSettingsModel"
def TX6 : u_T := fun k => match k with
  | 0 => ("FleetSettingsModel", "thrown", "I", false)
  | 1 => ("FleetSettingsModel", "now", "I", false)
  | 2 => ("FleetSettingsModel", "duty", "[I", true)
  | 3 => ("FleetSettingsModel", "gone", "[I", true)
  | 4 => ("FleetSettingsModel", "groups", "I", false)
  | 5 => ("FleetSettingsModel", "parent", "[I", true)
  | 6 => ("FleetSettingsModel", "machines", "I", false)
  | 7 => ("FleetSettingsModel", "pace", "I", false)
  | 8 => ("FleetSettingsModel", "group", "[I", true)
  | 9 => ("FleetSettingsModel", "until", "[I", true)
  | 10 => ("FleetSettingsModel", "taken", "[I", true)
  | 11 => ("FleetSettingsModel", "changes", "I", false)
  | 12 => ("FleetSettingsModel", "ranks", "I", false)
  | 13 => ("FleetSettingsModel", "author", "[I", true)
  | 14 => ("FleetSettingsModel", "place", "[I", true)
  | 15 => ("FleetSettingsModel", "key", "[I", true)
  | 16 => ("FleetSettingsModel", "proposed", "[I", true)
  | 17 => ("FleetSettingsModel", "what", "[I", true)
  | 18 => ("FleetSettingsModel", "state", "[I", true)
  | 19 => ("FleetSettingsModel", "rank", "[I", true)
  | 20 => ("FleetSettingsModel", "given", "[I", true)
  | 21 => ("FleetSettingsModel", "givenOn", "[I", true)
  | 22 => ("FleetSettingsModel", "excludes", "[I", true)
  | 23 => ("FleetSettingsModel", "value", "[I", true)
  | 24 => ("FleetSettingsModel", "from", "[I", true)
  | _ => ("FleetSettingsModel", "by", "[I", true)
def tyX6 : Nat → FieldType := fun k => match k with
  | 0 => .int
  | 1 => .int
  | 2 => .array .int
  | 3 => .array .int
  | 4 => .int
  | 5 => .array .int
  | 6 => .int
  | 7 => .int
  | 8 => .array .int
  | 9 => .array .int
  | 10 => .array .int
  | 11 => .int
  | 12 => .int
  | 13 => .array .int
  | 14 => .array .int
  | 15 => .array .int
  | 16 => .array .int
  | 17 => .array .int
  | 18 => .array .int
  | 19 => .array .int
  | 20 => .array .int
  | 21 => .array .int
  | 22 => .array .int
  | 23 => .array .int
  | 24 => .array .int
  | _ => .array .int
abbrev wsX60 : List Cond := u_ws RX6 TX6 26
theorem nmX6 : ∀ a, a < 26 → ∀ b, b < 26 → a ≠ b → (TX6 a).2.1 ≠ (TX6 b).2.1 := by decide +kernel
theorem tyX6_ok : ∀ k, k < 26 → parseFieldDescriptor (TX6 k).2.2.1 = some (tyX6 k) := by decide +kernel
abbrev cX6_init : ByteArray := prog_8_method_1_code
def yX6_init : MethodName := ⟨RX6, "<init>", "()V"⟩
abbrev cX6_thrown : ByteArray := prog_8_method_2_code
def yX6_thrown : MethodName := ⟨RX6, "thrown", "()I"⟩
abbrev cX6_fails : ByteArray := prog_8_method_3_code
def yX6_fails : MethodName := ⟨RX6, "fails", "(I)I"⟩
abbrev cX6_in : ByteArray := prog_8_method_4_code
def yX6_in : MethodName := ⟨RX6, "in", "(III)Z"⟩
abbrev cX6_isPerson : ByteArray := prog_8_method_5_code
def yX6_isPerson : MethodName := ⟨RX6, "isPerson", "(I)Z"⟩
abbrev cX6_isKey : ByteArray := prog_8_method_6_code
def yX6_isKey : MethodName := ⟨RX6, "isKey", "(I)Z"⟩
abbrev cX6_isGroup : ByteArray := prog_8_method_7_code
def yX6_isGroup : MethodName := ⟨RX6, "isGroup", "(I)Z"⟩
abbrev cX6_isMachine : ByteArray := prog_8_method_8_code
def yX6_isMachine : MethodName := ⟨RX6, "isMachine", "(I)Z"⟩
abbrev cX6_isChange : ByteArray := prog_8_method_9_code
def yX6_isChange : MethodName := ⟨RX6, "isChange", "(I)Z"⟩
abbrev cX6_isPlace : ByteArray := prog_8_method_10_code
def yX6_isPlace : MethodName := ⟨RX6, "isPlace", "(I)Z"⟩
abbrev cX6_layers : ByteArray := prog_8_method_11_code
def yX6_layers : MethodName := ⟨RX6, "layers", "(I)I"⟩
abbrev cX6_slot : ByteArray := prog_8_method_12_code
def yX6_slot : MethodName := ⟨RX6, "slot", "(II)I"⟩
abbrev cX6_cells : ByteArray := prog_8_method_13_code
def yX6_cells : MethodName := ⟨RX6, "cells", "(II)I"⟩
abbrev cX6_top : ByteArray := prog_8_method_14_code
def yX6_top : MethodName := ⟨RX6, "top", "(II)I"⟩
abbrev cX6_topOf : ByteArray := prog_8_method_15_code
def yX6_topOf : MethodName := ⟨RX6, "topOf", "(III)I"⟩
abbrev cX6_looks : ByteArray := prog_8_method_16_code
def yX6_looks : MethodName := ⟨RX6, "looks", "(IZ)V"⟩
abbrev cX6_isHidden : ByteArray := prog_8_method_17_code
def yX6_isHidden : MethodName := ⟨RX6, "isHidden", "(I)Z"⟩
abbrev cX6_isHalted : ByteArray := prog_8_method_18_code
def yX6_isHalted : MethodName := ⟨RX6, "isHalted", "(I)Z"⟩
abbrev cX6_works : ByteArray := prog_8_method_19_code
def yX6_works : MethodName := ⟨RX6, "works", "(I)Z"⟩
abbrev cX6_setDuty : ByteArray := prog_8_method_20_code
def yX6_setDuty : MethodName := ⟨RX6, "setDuty", "(II)I"⟩
abbrev cX6_good : ByteArray := prog_8_method_21_code
def yX6_good : MethodName := ⟨RX6, "good", "(I)I"⟩
abbrev cX6_voids : ByteArray := prog_8_method_22_code
def yX6_voids : MethodName := ⟨RX6, "voids", "(I)I"⟩
abbrev cX6_leave : ByteArray := prog_8_method_23_code
def yX6_leave : MethodName := ⟨RX6, "leave", "(IZ)I"⟩
abbrev cX6_comeBack : ByteArray := prog_8_method_24_code
def yX6_comeBack : MethodName := ⟨RX6, "comeBack", "(I)V"⟩
abbrev cX6_goesBack : ByteArray := prog_8_method_25_code
def yX6_goesBack : MethodName := ⟨RX6, "goesBack", "(I)V"⟩
abbrev cX6_lags : ByteArray := prog_8_method_26_code
def yX6_lags : MethodName := ⟨RX6, "lags", "(II)Z"⟩
abbrev cX6_takes : ByteArray := prog_8_method_27_code
def yX6_takes : MethodName := ⟨RX6, "takes", "(I)Z"⟩
abbrev cX6_passes : ByteArray := prog_8_method_28_code
def yX6_passes : MethodName := ⟨RX6, "passes", "()I"⟩
abbrev cX6_pass : ByteArray := prog_8_method_29_code
def yX6_pass : MethodName := ⟨RX6, "pass", "(I)I"⟩
abbrev cX6_day : ByteArray := prog_8_method_30_code
def yX6_day : MethodName := ⟨RX6, "day", "()I"⟩
abbrev cX6_addGroup : ByteArray := prog_8_method_31_code
def yX6_addGroup : MethodName := ⟨RX6, "addGroup", "(I)I"⟩
abbrev cX6_addMachine : ByteArray := prog_8_method_32_code
def yX6_addMachine : MethodName := ⟨RX6, "addMachine", "(I)I"⟩
abbrev cX6_isOver : ByteArray := prog_8_method_33_code
def yX6_isOver : MethodName := ⟨RX6, "isOver", "(II)Z"⟩
abbrev cX6_moveMachine : ByteArray := prog_8_method_34_code
def yX6_moveMachine : MethodName := ⟨RX6, "moveMachine", "(II)I"⟩
abbrev cX6_work : ByteArray := prog_8_method_35_code
def yX6_work : MethodName := ⟨RX6, "work", "(II)I"⟩
abbrev cX6_setPace : ByteArray := prog_8_method_36_code
def yX6_setPace : MethodName := ⟨RX6, "setPace", "(I)I"⟩
abbrev cX6_isBusy : ByteArray := prog_8_method_37_code
def yX6_isBusy : MethodName := ⟨RX6, "isBusy", "(I)Z"⟩
abbrev cX6_isStopped : ByteArray := prog_8_method_38_code
def yX6_isStopped : MethodName := ⟨RX6, "isStopped", "(I)Z"⟩
abbrev cX6_propose : ByteArray := prog_8_method_39_code
def yX6_propose : MethodName := ⟨RX6, "propose", "(IIII)I"⟩
abbrev cX6_approve : ByteArray := prog_8_method_40_code
def yX6_approve : MethodName := ⟨RX6, "approve", "(II)I"⟩
abbrev cX6_withdraw : ByteArray := prog_8_method_41_code
def yX6_withdraw : MethodName := ⟨RX6, "withdraw", "(I)V"⟩
abbrev cX6_exclude : ByteArray := prog_8_method_42_code
def yX6_exclude : MethodName := ⟨RX6, "exclude", "(IIZ)Z"⟩
abbrev cX6_changes : ByteArray := prog_8_method_43_code
def yX6_changes : MethodName := ⟨RX6, "changes", "()I"⟩
abbrev cX6_state : ByteArray := prog_8_method_44_code
def yX6_state : MethodName := ⟨RX6, "state", "(I)I"⟩
abbrev cX6_rank : ByteArray := prog_8_method_45_code
def yX6_rank : MethodName := ⟨RX6, "rank", "(I)I"⟩
abbrev cX6_approvals : ByteArray := prog_8_method_46_code
def yX6_approvals : MethodName := ⟨RX6, "approvals", "(I)I"⟩
abbrev cX6_told : ByteArray := prog_8_method_47_code
def yX6_told : MethodName := ⟨RX6, "told", "(II)I"⟩
abbrev cX6_taken : ByteArray := prog_8_method_48_code
def yX6_taken : MethodName := ⟨RX6, "taken", "(III)I"⟩
abbrev cX6_isAsked : ByteArray := prog_8_method_49_code
def yX6_isAsked : MethodName := ⟨RX6, "isAsked", "(IIZ)Z"⟩
abbrev cX6_runs : ByteArray := prog_8_method_50_code
def yX6_runs : MethodName := ⟨RX6, "runs", "(II)I"⟩
abbrev cX6_layerOf : ByteArray := prog_8_method_51_code
def yX6_layerOf : MethodName := ⟨RX6, "layerOf", "(II)I"⟩
abbrev cX6_isDue : ByteArray := prog_8_method_52_code
def yX6_isDue : MethodName := ⟨RX6, "isDue", "(II)I"⟩
abbrev cX6_due : ByteArray := prog_8_method_53_code
def yX6_due : MethodName := ⟨RX6, "due", "(II)I"⟩
abbrev cX6_dueAnew : ByteArray := prog_8_method_54_code
def yX6_dueAnew : MethodName := ⟨RX6, "dueAnew", "(II)I"⟩
abbrev cX6_behind : ByteArray := prog_8_method_55_code
def yX6_behind : MethodName := ⟨RX6, "behind", "(I)I"⟩
abbrev cX6_hidden : ByteArray := prog_8_method_56_code
def yX6_hidden : MethodName := ⟨RX6, "hidden", "(I)I"⟩
abbrev cX6_spread : ByteArray := prog_8_method_57_code
def yX6_spread : MethodName := ⟨RX6, "spread", "(I)I"⟩
def RJx145de : String := "java/io/Serializable"
def TJx145de : u_T := fun k => match k with
  | _ => ("", "", "", false)
def tyJx145de : Nat → FieldType := fun k => match k with
  | _ => .int
abbrev wsJx145de0 : List Cond := u_ws RJx145de TJx145de 0
theorem nmJx145de : ∀ a, a < 0 → ∀ b, b < 0 → a ≠ b → (TJx145de a).2.1 ≠ (TJx145de b).2.1 := by decide +kernel
theorem tyJx145de_ok : ∀ k, k < 0 → parseFieldDescriptor (TJx145de k).2.2.1 = some (tyJx145de k) := by decide +kernel
def RJ6 : String := "java/lang/Integer"
def TJ6 : u_T := fun k => match k with
  | _ => ("", "", "", false)
def tyJ6 : Nat → FieldType := fun k => match k with
  | _ => .int
abbrev wsJ60 : List Cond := u_ws RJ6 TJ6 0
theorem nmJ6 : ∀ a, a < 0 → ∀ b, b < 0 → a ≠ b → (TJ6 a).2.1 ≠ (TJ6 b).2.1 := by decide +kernel
theorem tyJ6_ok : ∀ k, k < 0 → parseFieldDescriptor (TJ6 k).2.2.1 = some (tyJ6 k) := by decide +kernel
abbrev cJ6_bitCount_0f7a4 : ByteArray := prog_13_method_49_code
def yJ6_bitCount_0f7a4 : MethodName := ⟨RJ6, "bitCount", "(I)I"⟩
def RJ0 : String := "java/lang/String"
def TJ0 : u_T := fun k => match k with
  | _ => ("", "", "", false)
def tyJ0 : Nat → FieldType := fun k => match k with
  | _ => .int
abbrev wsJ00 : List Cond := u_ws RJ0 TJ0 0
theorem nmJ0 : ∀ a, a < 0 → ∀ b, b < 0 → a ≠ b → (TJ0 a).2.1 ≠ (TJ0 b).2.1 := by decide +kernel
theorem tyJ0_ok : ∀ k, k < 0 → parseFieldDescriptor (TJ0 k).2.2.1 = some (tyJ0 k) := by decide +kernel
def RJ7 : String := "java/util/Arrays"
def TJ7 : u_T := fun k => match k with
  | _ => ("", "", "", false)
def tyJ7 : Nat → FieldType := fun k => match k with
  | _ => .int
abbrev wsJ70 : List Cond := u_ws RJ7 TJ7 0
theorem nmJ7 : ∀ a, a < 0 → ∀ b, b < 0 → a ≠ b → (TJ7 a).2.1 ≠ (TJ7 b).2.1 := by decide +kernel
theorem tyJ7_ok : ∀ k, k < 0 → parseFieldDescriptor (TJ7 k).2.2.1 = some (tyJ7 k) := by decide +kernel
abbrev cJ7_fill_53178 : ByteArray := prog_17_method_103_code
def yJ7_fill_53178 : MethodName := ⟨RJ7, "fill", "([II)V"⟩
def RL : String := "FleetSettingsLaw"
abbrev cL_setDuty : ByteArray := method_3_code
def yL_setDuty : MethodName := ⟨RL, "setDuty", "(LFleetSettings;II[J)I"⟩
abbrev cL_leave : ByteArray := method_4_code
def yL_leave : MethodName := ⟨RL, "leave", "(LFleetSettings;IZ[J)I"⟩
abbrev cL_comeBack : ByteArray := method_5_code
def yL_comeBack : MethodName := ⟨RL, "comeBack", "(LFleetSettings;I)I"⟩
abbrev cL_pass : ByteArray := method_6_code
def yL_pass : MethodName := ⟨RL, "pass", "(LFleetSettings;I[J)I"⟩
abbrev cL_addGroup : ByteArray := method_7_code
def yL_addGroup : MethodName := ⟨RL, "addGroup", "(LFleetSettings;I[J)I"⟩
abbrev cL_addMachine : ByteArray := method_8_code
def yL_addMachine : MethodName := ⟨RL, "addMachine", "(LFleetSettings;I[J)I"⟩
abbrev cL_moveMachine : ByteArray := method_9_code
def yL_moveMachine : MethodName := ⟨RL, "moveMachine", "(LFleetSettings;II[J)I"⟩
abbrev cL_work : ByteArray := method_10_code
def yL_work : MethodName := ⟨RL, "work", "(LFleetSettings;II[J)I"⟩
abbrev cL_setPace : ByteArray := method_11_code
def yL_setPace : MethodName := ⟨RL, "setPace", "(LFleetSettings;I[J)I"⟩
abbrev cL_isBusy : ByteArray := method_12_code
def yL_isBusy : MethodName := ⟨RL, "isBusy", "(LFleetSettings;I[J)I"⟩
abbrev cL_isStopped : ByteArray := method_13_code
def yL_isStopped : MethodName := ⟨RL, "isStopped", "(LFleetSettings;I[J)I"⟩
abbrev cL_propose : ByteArray := method_14_code
def yL_propose : MethodName := ⟨RL, "propose", "(LFleetSettings;IIII[J)I"⟩
abbrev cL_approve : ByteArray := method_15_code
def yL_approve : MethodName := ⟨RL, "approve", "(LFleetSettings;II[J)I"⟩
abbrev cL_withdraw : ByteArray := method_16_code
def yL_withdraw : MethodName := ⟨RL, "withdraw", "(LFleetSettings;I)I"⟩
abbrev cL_exclude : ByteArray := method_17_code
def yL_exclude : MethodName := ⟨RL, "exclude", "(LFleetSettings;IIZ[J)I"⟩
abbrev cL_state : ByteArray := method_18_code
def yL_state : MethodName := ⟨RL, "state", "(LFleetSettings;I[J)I"⟩
abbrev cL_rank : ByteArray := method_19_code
def yL_rank : MethodName := ⟨RL, "rank", "(LFleetSettings;I[J)I"⟩
abbrev cL_approvals : ByteArray := method_20_code
def yL_approvals : MethodName := ⟨RL, "approvals", "(LFleetSettings;I[J)I"⟩
abbrev cL_told : ByteArray := method_21_code
def yL_told : MethodName := ⟨RL, "told", "(LFleetSettings;II[J)I"⟩
abbrev cL_taken : ByteArray := method_22_code
def yL_taken : MethodName := ⟨RL, "taken", "(LFleetSettings;III[J)I"⟩
abbrev cL_runs : ByteArray := method_23_code
def yL_runs : MethodName := ⟨RL, "runs", "(LFleetSettings;II[J)I"⟩
abbrev cL_layerOf : ByteArray := method_24_code
def yL_layerOf : MethodName := ⟨RL, "layerOf", "(LFleetSettings;II[J)I"⟩
abbrev cL_due : ByteArray := method_25_code
def yL_due : MethodName := ⟨RL, "due", "(LFleetSettings;II[J)I"⟩
abbrev cL_dueAnew : ByteArray := method_26_code
def yL_dueAnew : MethodName := ⟨RL, "dueAnew", "(LFleetSettings;II[J)I"⟩
abbrev cL_behind : ByteArray := method_27_code
def yL_behind : MethodName := ⟨RL, "behind", "(LFleetSettings;I[J)I"⟩
abbrev cL_hidden : ByteArray := method_28_code
def yL_hidden : MethodName := ⟨RL, "hidden", "(LFleetSettings;I[J)I"⟩
abbrev cL_spread : ByteArray := method_29_code
def yL_spread : MethodName := ⟨RL, "spread", "(LFleetSettings;I[J)I"⟩
abbrev cL_law : ByteArray := code
def yL_law : MethodName := ⟨RL, "law", "([I)Z"⟩
end
section
theorem dX0_init_0 : decode cX0_init 0 = .ok (.aload_n 0, 1) := by decide +kernel
theorem dX0_init_1 : decode cX0_init 1 = .ok (.invokespecial 3, 3) := by decide +kernel
theorem dX0_init_4 : decode cX0_init 4 = .ok (.aload_n 0, 1) := by decide +kernel
theorem dX0_init_5 : decode cX0_init 5 = .ok (.iconst 0, 1) := by decide +kernel
theorem dX0_init_6 : decode cX0_init 6 = .ok (.putfield 9, 3) := by decide +kernel
theorem dX0_init_9 : decode cX0_init 9 = .ok (.aload_n 0, 1) := by decide +kernel
theorem dX0_init_10 : decode cX0_init 10 = .ok (.bipush 8, 2) := by decide +kernel
theorem dX0_init_12 : decode cX0_init 12 = .ok (.newarray .int, 2) := by decide +kernel
theorem dX0_init_14 : decode cX0_init 14 = .ok (.putfield 15, 3) := by decide +kernel
theorem dX0_init_17 : decode cX0_init 17 = .ok (.aload_n 0, 1) := by decide +kernel
theorem dX0_init_18 : decode cX0_init 18 = .ok (.bipush 8, 2) := by decide +kernel
theorem dX0_init_20 : decode cX0_init 20 = .ok (.newarray .int, 2) := by decide +kernel
theorem dX0_init_22 : decode cX0_init 22 = .ok (.putfield 19, 3) := by decide +kernel
theorem dX0_init_25 : decode cX0_init 25 = .ok (.aload_n 0, 1) := by decide +kernel
theorem dX0_init_26 : decode cX0_init 26 = .ok (.getfield 19, 3) := by decide +kernel
theorem dX0_init_29 : decode cX0_init 29 = .ok (.iconst (-1), 1) := by decide +kernel
theorem dX0_init_30 : decode cX0_init 30 = .ok (.invokestatic 22, 3) := by decide +kernel
theorem dX0_init_33 : decode cX0_init 33 = .ok (.return_, 1) := by decide +kernel
theorem dX0_begin_0 : decode cX0_begin 0 = .ok (.aload_n 0, 1) := by decide +kernel
theorem dX0_begin_1 : decode cX0_begin 1 = .ok (.iload_n 1, 1) := by decide +kernel
theorem dX0_begin_2 : decode cX0_begin 2 = .ok (.putfield 28, 3) := by decide +kernel
theorem dX0_begin_5 : decode cX0_begin 5 = .ok (.aload_n 0, 1) := by decide +kernel
theorem dX0_begin_6 : decode cX0_begin 6 = .ok (.iload_n 2, 1) := by decide +kernel
theorem dX0_begin_7 : decode cX0_begin 7 = .ok (.putfield 31, 3) := by decide +kernel
theorem dX0_begin_10 : decode cX0_begin 10 = .ok (.aload_n 0, 1) := by decide +kernel
theorem dX0_begin_11 : decode cX0_begin 11 = .ok (.iload_n 3, 1) := by decide +kernel
theorem dX0_begin_12 : decode cX0_begin 12 = .ok (.putfield 34, 3) := by decide +kernel
theorem dX0_begin_15 : decode cX0_begin 15 = .ok (.aload_n 0, 1) := by decide +kernel
theorem dX0_begin_16 : decode cX0_begin 16 = .ok (.iload 4, 2) := by decide +kernel
theorem dX0_begin_18 : decode cX0_begin 18 = .ok (.putfield 37, 3) := by decide +kernel
theorem dX0_begin_21 : decode cX0_begin 21 = .ok (.return_, 1) := by decide +kernel
theorem dX0_canBeApprovedBy_0 : decode cX0_canBeApprovedBy 0 = .ok (.iload_n 1, 1) := by decide +kernel
theorem dX0_canBeApprovedBy_1 : decode cX0_canBeApprovedBy 1 = .ok (.aload_n 0, 1) := by decide +kernel
theorem dX0_canBeApprovedBy_2 : decode cX0_canBeApprovedBy 2 = .ok (.getfield 28, 3) := by decide +kernel
theorem dX0_canBeApprovedBy_5 : decode cX0_canBeApprovedBy 5 = .ok (.if_icmp .eq 26, 3) := by decide +kernel
theorem dX0_canBeApprovedBy_8 : decode cX0_canBeApprovedBy 8 = .ok (.aload_n 0, 1) := by decide +kernel
theorem dX0_canBeApprovedBy_9 : decode cX0_canBeApprovedBy 9 = .ok (.getfield 9, 3) := by decide +kernel
theorem dX0_canBeApprovedBy_12 : decode cX0_canBeApprovedBy 12 = .ok (.iconst 3, 1) := by decide +kernel
theorem dX0_canBeApprovedBy_13 : decode cX0_canBeApprovedBy 13 = .ok (.if_icmp .eq 18, 3) := by decide +kernel
theorem dX0_canBeApprovedBy_16 : decode cX0_canBeApprovedBy 16 = .ok (.aload_n 0, 1) := by decide +kernel
theorem dX0_canBeApprovedBy_17 : decode cX0_canBeApprovedBy 17 = .ok (.getfield 40, 3) := by decide +kernel
theorem dX0_canBeApprovedBy_20 : decode cX0_canBeApprovedBy 20 = .ok (.iload_n 1, 1) := by decide +kernel
theorem dX0_canBeApprovedBy_21 : decode cX0_canBeApprovedBy 21 = .ok (.invokestatic 43, 3) := by decide +kernel
theorem dX0_canBeApprovedBy_24 : decode cX0_canBeApprovedBy 24 = .ok (.ifCond .ne 7, 3) := by decide +kernel
theorem dX0_canBeApprovedBy_27 : decode cX0_canBeApprovedBy 27 = .ok (.iconst 1, 1) := by decide +kernel
theorem dX0_canBeApprovedBy_28 : decode cX0_canBeApprovedBy 28 = .ok (.goto 4, 3) := by decide +kernel
theorem dX0_canBeApprovedBy_31 : decode cX0_canBeApprovedBy 31 = .ok (.iconst 0, 1) := by decide +kernel
theorem dX0_canBeApprovedBy_32 : decode cX0_canBeApprovedBy 32 = .ok (.ireturn, 1) := by decide +kernel
theorem dX0_addApproval_0 : decode cX0_addApproval 0 = .ok (.aload_n 0, 1) := by decide +kernel
theorem dX0_addApproval_1 : decode cX0_addApproval 1 = .ok (.aload_n 0, 1) := by decide +kernel
theorem dX0_addApproval_2 : decode cX0_addApproval 2 = .ok (.getfield 40, 3) := by decide +kernel
theorem dX0_addApproval_5 : decode cX0_addApproval 5 = .ok (.iload_n 1, 1) := by decide +kernel
theorem dX0_addApproval_6 : decode cX0_addApproval 6 = .ok (.iconst 1, 1) := by decide +kernel
theorem dX0_addApproval_7 : decode cX0_addApproval 7 = .ok (.invokestatic 47, 3) := by decide +kernel
theorem dX0_addApproval_10 : decode cX0_addApproval 10 = .ok (.putfield 40, 3) := by decide +kernel
theorem dX0_addApproval_13 : decode cX0_addApproval 13 = .ok (.aload_n 0, 1) := by decide +kernel
theorem dX0_addApproval_14 : decode cX0_addApproval 14 = .ok (.getfield 15, 3) := by decide +kernel
theorem dX0_addApproval_17 : decode cX0_addApproval 17 = .ok (.iload_n 1, 1) := by decide +kernel
theorem dX0_addApproval_18 : decode cX0_addApproval 18 = .ok (.iload_n 2, 1) := by decide +kernel
theorem dX0_addApproval_19 : decode cX0_addApproval 19 = .ok (.iastore, 1) := by decide +kernel
theorem dX0_addApproval_20 : decode cX0_addApproval 20 = .ok (.aload_n 0, 1) := by decide +kernel
theorem dX0_addApproval_21 : decode cX0_addApproval 21 = .ok (.getfield 19, 3) := by decide +kernel
theorem dX0_addApproval_24 : decode cX0_addApproval 24 = .ok (.iload_n 1, 1) := by decide +kernel
theorem dX0_addApproval_25 : decode cX0_addApproval 25 = .ok (.iload_n 3, 1) := by decide +kernel
theorem dX0_addApproval_26 : decode cX0_addApproval 26 = .ok (.iastore, 1) := by decide +kernel
theorem dX0_addApproval_27 : decode cX0_addApproval 27 = .ok (.return_, 1) := by decide +kernel
theorem dX0_countGood_0 : decode cX0_countGood 0 = .ok (.aload_n 0, 1) := by decide +kernel
theorem dX0_countGood_1 : decode cX0_countGood 1 = .ok (.getfield 40, 3) := by decide +kernel
theorem dX0_countGood_4 : decode cX0_countGood 4 = .ok (.invokestatic 51, 3) := by decide +kernel
theorem dX0_countGood_7 : decode cX0_countGood 7 = .ok (.ireturn, 1) := by decide +kernel
theorem dX0_loseByLeaving_0 : decode cX0_loseByLeaving 0 = .ok (.aload_n 0, 1) := by decide +kernel
theorem dX0_loseByLeaving_1 : decode cX0_loseByLeaving 1 = .ok (.getfield 9, 3) := by decide +kernel
theorem dX0_loseByLeaving_4 : decode cX0_loseByLeaving 4 = .ok (.iconst 1, 1) := by decide +kernel
theorem dX0_loseByLeaving_5 : decode cX0_loseByLeaving 5 = .ok (.if_icmp .ne 7, 3) := by decide +kernel
theorem dX0_loseByLeaving_8 : decode cX0_loseByLeaving 8 = .ok (.iconst 1, 1) := by decide +kernel
theorem dX0_loseByLeaving_9 : decode cX0_loseByLeaving 9 = .ok (.goto 4, 3) := by decide +kernel
theorem dX0_loseByLeaving_12 : decode cX0_loseByLeaving 12 = .ok (.iconst 0, 1) := by decide +kernel
theorem dX0_loseByLeaving_13 : decode cX0_loseByLeaving 13 = .ok (.istore_n 3, 1) := by decide +kernel
theorem dX0_loseByLeaving_14 : decode cX0_loseByLeaving 14 = .ok (.aload_n 0, 1) := by decide +kernel
theorem dX0_loseByLeaving_15 : decode cX0_loseByLeaving 15 = .ok (.getfield 40, 3) := by decide +kernel
theorem dX0_loseByLeaving_18 : decode cX0_loseByLeaving 18 = .ok (.iload_n 1, 1) := by decide +kernel
theorem dX0_loseByLeaving_19 : decode cX0_loseByLeaving 19 = .ok (.invokestatic 43, 3) := by decide +kernel
theorem dX0_loseByLeaving_22 : decode cX0_loseByLeaving 22 = .ok (.ifCond .eq 29, 3) := by decide +kernel
theorem dX0_loseByLeaving_25 : decode cX0_loseByLeaving 25 = .ok (.iload_n 2, 1) := by decide +kernel
theorem dX0_loseByLeaving_26 : decode cX0_loseByLeaving 26 = .ok (.aload_n 0, 1) := by decide +kernel
theorem dX0_loseByLeaving_27 : decode cX0_loseByLeaving 27 = .ok (.getfield 15, 3) := by decide +kernel
theorem dX0_loseByLeaving_30 : decode cX0_loseByLeaving 30 = .ok (.iload_n 1, 1) := by decide +kernel
theorem dX0_loseByLeaving_31 : decode cX0_loseByLeaving 31 = .ok (.iaload, 1) := by decide +kernel
theorem dX0_loseByLeaving_32 : decode cX0_loseByLeaving 32 = .ok (.isub, 1) := by decide +kernel
theorem dX0_loseByLeaving_33 : decode cX0_loseByLeaving 33 = .ok (.bipush 30, 2) := by decide +kernel
theorem dX0_loseByLeaving_35 : decode cX0_loseByLeaving 35 = .ok (.if_icmp .ge 16, 3) := by decide +kernel
theorem dX0_loseByLeaving_38 : decode cX0_loseByLeaving 38 = .ok (.aload_n 0, 1) := by decide +kernel
theorem dX0_loseByLeaving_39 : decode cX0_loseByLeaving 39 = .ok (.aload_n 0, 1) := by decide +kernel
theorem dX0_loseByLeaving_40 : decode cX0_loseByLeaving 40 = .ok (.getfield 40, 3) := by decide +kernel
theorem dX0_loseByLeaving_43 : decode cX0_loseByLeaving 43 = .ok (.iload_n 1, 1) := by decide +kernel
theorem dX0_loseByLeaving_44 : decode cX0_loseByLeaving 44 = .ok (.iconst 0, 1) := by decide +kernel
theorem dX0_loseByLeaving_45 : decode cX0_loseByLeaving 45 = .ok (.invokestatic 47, 3) := by decide +kernel
theorem dX0_loseByLeaving_48 : decode cX0_loseByLeaving 48 = .ok (.putfield 40, 3) := by decide +kernel
theorem dX0_loseByLeaving_51 : decode cX0_loseByLeaving 51 = .ok (.aload_n 0, 1) := by decide +kernel
theorem dX0_loseByLeaving_52 : decode cX0_loseByLeaving 52 = .ok (.getfield 28, 3) := by decide +kernel
theorem dX0_loseByLeaving_55 : decode cX0_loseByLeaving 55 = .ok (.iload_n 1, 1) := by decide +kernel
theorem dX0_loseByLeaving_56 : decode cX0_loseByLeaving 56 = .ok (.if_icmp .ne 22, 3) := by decide +kernel
theorem dX0_loseByLeaving_59 : decode cX0_loseByLeaving 59 = .ok (.iload_n 2, 1) := by decide +kernel
theorem dX0_loseByLeaving_60 : decode cX0_loseByLeaving 60 = .ok (.aload_n 0, 1) := by decide +kernel
theorem dX0_loseByLeaving_61 : decode cX0_loseByLeaving 61 = .ok (.getfield 37, 3) := by decide +kernel
theorem dX0_loseByLeaving_64 : decode cX0_loseByLeaving 64 = .ok (.isub, 1) := by decide +kernel
theorem dX0_loseByLeaving_65 : decode cX0_loseByLeaving 65 = .ok (.bipush 30, 2) := by decide +kernel
theorem dX0_loseByLeaving_67 : decode cX0_loseByLeaving 67 = .ok (.if_icmp .ge 11, 3) := by decide +kernel
theorem dX0_loseByLeaving_70 : decode cX0_loseByLeaving 70 = .ok (.aload_n 0, 1) := by decide +kernel
theorem dX0_loseByLeaving_71 : decode cX0_loseByLeaving 71 = .ok (.iconst 3, 1) := by decide +kernel
theorem dX0_loseByLeaving_72 : decode cX0_loseByLeaving 72 = .ok (.putfield 9, 3) := by decide +kernel
theorem dX0_loseByLeaving_75 : decode cX0_loseByLeaving 75 = .ok (.goto 20, 3) := by decide +kernel
theorem dX0_loseByLeaving_78 : decode cX0_loseByLeaving 78 = .ok (.iload_n 3, 1) := by decide +kernel
theorem dX0_loseByLeaving_79 : decode cX0_loseByLeaving 79 = .ok (.ifCond .eq 16, 3) := by decide +kernel
theorem dX0_loseByLeaving_82 : decode cX0_loseByLeaving 82 = .ok (.aload_n 0, 1) := by decide +kernel
theorem dX0_loseByLeaving_83 : decode cX0_loseByLeaving 83 = .ok (.invokevirtual 57, 3) := by decide +kernel
theorem dX0_loseByLeaving_86 : decode cX0_loseByLeaving 86 = .ok (.iconst 2, 1) := by decide +kernel
theorem dX0_loseByLeaving_87 : decode cX0_loseByLeaving 87 = .ok (.if_icmp .ge 8, 3) := by decide +kernel
theorem dX0_loseByLeaving_90 : decode cX0_loseByLeaving 90 = .ok (.aload_n 0, 1) := by decide +kernel
theorem dX0_loseByLeaving_91 : decode cX0_loseByLeaving 91 = .ok (.iconst 2, 1) := by decide +kernel
theorem dX0_loseByLeaving_92 : decode cX0_loseByLeaving 92 = .ok (.putfield 9, 3) := by decide +kernel
theorem dX0_loseByLeaving_95 : decode cX0_loseByLeaving 95 = .ok (.iload_n 3, 1) := by decide +kernel
theorem dX0_loseByLeaving_96 : decode cX0_loseByLeaving 96 = .ok (.ifCond .eq 15, 3) := by decide +kernel
theorem dX0_loseByLeaving_99 : decode cX0_loseByLeaving 99 = .ok (.aload_n 0, 1) := by decide +kernel
theorem dX0_loseByLeaving_100 : decode cX0_loseByLeaving 100 = .ok (.getfield 9, 3) := by decide +kernel
theorem dX0_loseByLeaving_103 : decode cX0_loseByLeaving 103 = .ok (.iconst 1, 1) := by decide +kernel
theorem dX0_loseByLeaving_104 : decode cX0_loseByLeaving 104 = .ok (.if_icmp .eq 7, 3) := by decide +kernel
theorem dX0_loseByLeaving_107 : decode cX0_loseByLeaving 107 = .ok (.iconst 1, 1) := by decide +kernel
theorem dX0_loseByLeaving_108 : decode cX0_loseByLeaving 108 = .ok (.goto 4, 3) := by decide +kernel
theorem dX0_loseByLeaving_111 : decode cX0_loseByLeaving 111 = .ok (.iconst 0, 1) := by decide +kernel
theorem dX0_loseByLeaving_112 : decode cX0_loseByLeaving 112 = .ok (.ireturn, 1) := by decide +kernel
theorem dX0_isHeldAnew_0 : decode cX0_isHeldAnew 0 = .ok (.aload_n 1, 1) := by decide +kernel
theorem dX0_isHeldAnew_1 : decode cX0_isHeldAnew 1 = .ok (.aload_n 0, 1) := by decide +kernel
theorem dX0_isHeldAnew_2 : decode cX0_isHeldAnew 2 = .ok (.getfield 28, 3) := by decide +kernel
theorem dX0_isHeldAnew_5 : decode cX0_isHeldAnew 5 = .ok (.aaload, 1) := by decide +kernel
theorem dX0_isHeldAnew_6 : decode cX0_isHeldAnew 6 = .ok (.aload_n 0, 1) := by decide +kernel
theorem dX0_isHeldAnew_7 : decode cX0_isHeldAnew 7 = .ok (.getfield 37, 3) := by decide +kernel
theorem dX0_isHeldAnew_10 : decode cX0_isHeldAnew 10 = .ok (.invokevirtual 61, 3) := by decide +kernel
theorem dX0_isHeldAnew_13 : decode cX0_isHeldAnew 13 = .ok (.ifCond .eq 5, 3) := by decide +kernel
theorem dX0_isHeldAnew_16 : decode cX0_isHeldAnew 16 = .ok (.iconst 0, 1) := by decide +kernel
theorem dX0_isHeldAnew_17 : decode cX0_isHeldAnew 17 = .ok (.ireturn, 1) := by decide +kernel
theorem dX0_isHeldAnew_18 : decode cX0_isHeldAnew 18 = .ok (.iconst 0, 1) := by decide +kernel
theorem dX0_isHeldAnew_19 : decode cX0_isHeldAnew 19 = .ok (.istore_n 2, 1) := by decide +kernel
theorem dX0_isHeldAnew_20 : decode cX0_isHeldAnew 20 = .ok (.iconst 0, 1) := by decide +kernel
theorem dX0_isHeldAnew_21 : decode cX0_isHeldAnew 21 = .ok (.istore_n 3, 1) := by decide +kernel
theorem dX0_isHeldAnew_22 : decode cX0_isHeldAnew 22 = .ok (.iload_n 3, 1) := by decide +kernel
theorem dX0_isHeldAnew_23 : decode cX0_isHeldAnew 23 = .ok (.bipush 8, 2) := by decide +kernel
theorem dX0_isHeldAnew_25 : decode cX0_isHeldAnew 25 = .ok (.if_icmp .ge 37, 3) := by decide +kernel
theorem dX0_isHeldAnew_28 : decode cX0_isHeldAnew 28 = .ok (.aload_n 0, 1) := by decide +kernel
theorem dX0_isHeldAnew_29 : decode cX0_isHeldAnew 29 = .ok (.getfield 19, 3) := by decide +kernel
theorem dX0_isHeldAnew_32 : decode cX0_isHeldAnew 32 = .ok (.iload_n 3, 1) := by decide +kernel
theorem dX0_isHeldAnew_33 : decode cX0_isHeldAnew 33 = .ok (.iaload, 1) := by decide +kernel
theorem dX0_isHeldAnew_34 : decode cX0_isHeldAnew 34 = .ok (.iconst (-1), 1) := by decide +kernel
theorem dX0_isHeldAnew_35 : decode cX0_isHeldAnew 35 = .ok (.if_icmp .eq 21, 3) := by decide +kernel
theorem dX0_isHeldAnew_38 : decode cX0_isHeldAnew 38 = .ok (.aload_n 1, 1) := by decide +kernel
theorem dX0_isHeldAnew_39 : decode cX0_isHeldAnew 39 = .ok (.iload_n 3, 1) := by decide +kernel
theorem dX0_isHeldAnew_40 : decode cX0_isHeldAnew 40 = .ok (.aaload, 1) := by decide +kernel
theorem dX0_isHeldAnew_41 : decode cX0_isHeldAnew 41 = .ok (.aload_n 0, 1) := by decide +kernel
theorem dX0_isHeldAnew_42 : decode cX0_isHeldAnew 42 = .ok (.getfield 15, 3) := by decide +kernel
theorem dX0_isHeldAnew_45 : decode cX0_isHeldAnew 45 = .ok (.iload_n 3, 1) := by decide +kernel
theorem dX0_isHeldAnew_46 : decode cX0_isHeldAnew 46 = .ok (.iaload, 1) := by decide +kernel
theorem dX0_isHeldAnew_47 : decode cX0_isHeldAnew 47 = .ok (.invokevirtual 61, 3) := by decide +kernel
theorem dX0_isHeldAnew_50 : decode cX0_isHeldAnew 50 = .ok (.ifCond .ne 6, 3) := by decide +kernel
theorem dX0_isHeldAnew_53 : decode cX0_isHeldAnew 53 = .ok (.iinc 2 1, 3) := by decide +kernel
theorem dX0_isHeldAnew_56 : decode cX0_isHeldAnew 56 = .ok (.iinc 3 1, 3) := by decide +kernel
theorem dX0_isHeldAnew_59 : decode cX0_isHeldAnew 59 = .ok (.goto (-37), 3) := by decide +kernel
theorem dX0_isHeldAnew_62 : decode cX0_isHeldAnew 62 = .ok (.iload_n 2, 1) := by decide +kernel
theorem dX0_isHeldAnew_63 : decode cX0_isHeldAnew 63 = .ok (.iconst 2, 1) := by decide +kernel
theorem dX0_isHeldAnew_64 : decode cX0_isHeldAnew 64 = .ok (.if_icmp .lt 7, 3) := by decide +kernel
theorem dX0_isHeldAnew_67 : decode cX0_isHeldAnew 67 = .ok (.iconst 1, 1) := by decide +kernel
theorem dX0_isHeldAnew_68 : decode cX0_isHeldAnew 68 = .ok (.goto 4, 3) := by decide +kernel
theorem dX0_isHeldAnew_71 : decode cX0_isHeldAnew 71 = .ok (.iconst 0, 1) := by decide +kernel
theorem dX0_isHeldAnew_72 : decode cX0_isHeldAnew 72 = .ok (.ireturn, 1) := by decide +kernel
theorem dX0_firstHeldMoment_0 : decode cX0_firstHeldMoment 0 = .ok (.iconst (-1), 1) := by decide +kernel
theorem dX0_firstHeldMoment_1 : decode cX0_firstHeldMoment 1 = .ok (.istore_n 2, 1) := by decide +kernel
theorem dX0_firstHeldMoment_2 : decode cX0_firstHeldMoment 2 = .ok (.iconst 0, 1) := by decide +kernel
theorem dX0_firstHeldMoment_3 : decode cX0_firstHeldMoment 3 = .ok (.istore_n 3, 1) := by decide +kernel
theorem dX0_firstHeldMoment_4 : decode cX0_firstHeldMoment 4 = .ok (.iload_n 3, 1) := by decide +kernel
theorem dX0_firstHeldMoment_5 : decode cX0_firstHeldMoment 5 = .ok (.bipush 8, 2) := by decide +kernel
theorem dX0_firstHeldMoment_7 : decode cX0_firstHeldMoment 7 = .ok (.if_icmp .ge 60, 3) := by decide +kernel
theorem dX0_firstHeldMoment_10 : decode cX0_firstHeldMoment 10 = .ok (.aload_n 0, 1) := by decide +kernel
theorem dX0_firstHeldMoment_11 : decode cX0_firstHeldMoment 11 = .ok (.getfield 19, 3) := by decide +kernel
theorem dX0_firstHeldMoment_14 : decode cX0_firstHeldMoment 14 = .ok (.iload_n 3, 1) := by decide +kernel
theorem dX0_firstHeldMoment_15 : decode cX0_firstHeldMoment 15 = .ok (.iaload, 1) := by decide +kernel
theorem dX0_firstHeldMoment_16 : decode cX0_firstHeldMoment 16 = .ok (.istore 4, 2) := by decide +kernel
theorem dX0_firstHeldMoment_18 : decode cX0_firstHeldMoment 18 = .ok (.iload 4, 2) := by decide +kernel
theorem dX0_firstHeldMoment_20 : decode cX0_firstHeldMoment 20 = .ok (.iconst (-1), 1) := by decide +kernel
theorem dX0_firstHeldMoment_21 : decode cX0_firstHeldMoment 21 = .ok (.if_icmp .eq 18, 3) := by decide +kernel
theorem dX0_firstHeldMoment_24 : decode cX0_firstHeldMoment 24 = .ok (.iload_n 2, 1) := by decide +kernel
theorem dX0_firstHeldMoment_25 : decode cX0_firstHeldMoment 25 = .ok (.iconst (-1), 1) := by decide +kernel
theorem dX0_firstHeldMoment_26 : decode cX0_firstHeldMoment 26 = .ok (.if_icmp .eq 9, 3) := by decide +kernel
theorem dX0_firstHeldMoment_29 : decode cX0_firstHeldMoment 29 = .ok (.iload 4, 2) := by decide +kernel
theorem dX0_firstHeldMoment_31 : decode cX0_firstHeldMoment 31 = .ok (.iload_n 2, 1) := by decide +kernel
theorem dX0_firstHeldMoment_32 : decode cX0_firstHeldMoment 32 = .ok (.if_icmp .ge 7, 3) := by decide +kernel
theorem dX0_firstHeldMoment_35 : decode cX0_firstHeldMoment 35 = .ok (.iconst 1, 1) := by decide +kernel
theorem dX0_firstHeldMoment_36 : decode cX0_firstHeldMoment 36 = .ok (.goto 4, 3) := by decide +kernel
theorem dX0_firstHeldMoment_39 : decode cX0_firstHeldMoment 39 = .ok (.iconst 0, 1) := by decide +kernel
theorem dX0_firstHeldMoment_40 : decode cX0_firstHeldMoment 40 = .ok (.istore 5, 2) := by decide +kernel
theorem dX0_firstHeldMoment_42 : decode cX0_firstHeldMoment 42 = .ok (.iload 5, 2) := by decide +kernel
theorem dX0_firstHeldMoment_44 : decode cX0_firstHeldMoment 44 = .ok (.ifCond .eq 17, 3) := by decide +kernel
theorem dX0_firstHeldMoment_47 : decode cX0_firstHeldMoment 47 = .ok (.aload_n 0, 1) := by decide +kernel
theorem dX0_firstHeldMoment_48 : decode cX0_firstHeldMoment 48 = .ok (.iload 4, 2) := by decide +kernel
theorem dX0_firstHeldMoment_50 : decode cX0_firstHeldMoment 50 = .ok (.aload_n 1, 1) := by decide +kernel
theorem dX0_firstHeldMoment_51 : decode cX0_firstHeldMoment 51 = .ok (.invokevirtual 67, 3) := by decide +kernel
theorem dX0_firstHeldMoment_54 : decode cX0_firstHeldMoment 54 = .ok (.iconst 2, 1) := by decide +kernel
theorem dX0_firstHeldMoment_55 : decode cX0_firstHeldMoment 55 = .ok (.if_icmp .lt 6, 3) := by decide +kernel
theorem dX0_firstHeldMoment_58 : decode cX0_firstHeldMoment 58 = .ok (.iload 4, 2) := by decide +kernel
theorem dX0_firstHeldMoment_60 : decode cX0_firstHeldMoment 60 = .ok (.istore_n 2, 1) := by decide +kernel
theorem dX0_firstHeldMoment_61 : decode cX0_firstHeldMoment 61 = .ok (.iinc 3 1, 3) := by decide +kernel
theorem dX0_firstHeldMoment_64 : decode cX0_firstHeldMoment 64 = .ok (.goto (-60), 3) := by decide +kernel
theorem dX0_firstHeldMoment_67 : decode cX0_firstHeldMoment 67 = .ok (.iload_n 2, 1) := by decide +kernel
theorem dX0_firstHeldMoment_68 : decode cX0_firstHeldMoment 68 = .ok (.ireturn, 1) := by decide +kernel
theorem dX0_countGoodAt_0 : decode cX0_countGoodAt 0 = .ok (.iconst 0, 1) := by decide +kernel
theorem dX0_countGoodAt_1 : decode cX0_countGoodAt 1 = .ok (.istore_n 3, 1) := by decide +kernel
theorem dX0_countGoodAt_2 : decode cX0_countGoodAt 2 = .ok (.iconst 0, 1) := by decide +kernel
theorem dX0_countGoodAt_3 : decode cX0_countGoodAt 3 = .ok (.istore 4, 2) := by decide +kernel
theorem dX0_countGoodAt_5 : decode cX0_countGoodAt 5 = .ok (.iload 4, 2) := by decide +kernel
theorem dX0_countGoodAt_7 : decode cX0_countGoodAt 7 = .ok (.bipush 8, 2) := by decide +kernel
theorem dX0_countGoodAt_9 : decode cX0_countGoodAt 9 = .ok (.if_icmp .ge 86, 3) := by decide +kernel
theorem dX0_countGoodAt_12 : decode cX0_countGoodAt 12 = .ok (.aload_n 0, 1) := by decide +kernel
theorem dX0_countGoodAt_13 : decode cX0_countGoodAt 13 = .ok (.getfield 19, 3) := by decide +kernel
theorem dX0_countGoodAt_16 : decode cX0_countGoodAt 16 = .ok (.iload 4, 2) := by decide +kernel
theorem dX0_countGoodAt_18 : decode cX0_countGoodAt 18 = .ok (.iaload, 1) := by decide +kernel
theorem dX0_countGoodAt_19 : decode cX0_countGoodAt 19 = .ok (.iconst (-1), 1) := by decide +kernel
theorem dX0_countGoodAt_20 : decode cX0_countGoodAt 20 = .ok (.if_icmp .eq 18, 3) := by decide +kernel
theorem dX0_countGoodAt_23 : decode cX0_countGoodAt 23 = .ok (.aload_n 0, 1) := by decide +kernel
theorem dX0_countGoodAt_24 : decode cX0_countGoodAt 24 = .ok (.getfield 19, 3) := by decide +kernel
theorem dX0_countGoodAt_27 : decode cX0_countGoodAt 27 = .ok (.iload 4, 2) := by decide +kernel
theorem dX0_countGoodAt_29 : decode cX0_countGoodAt 29 = .ok (.iaload, 1) := by decide +kernel
theorem dX0_countGoodAt_30 : decode cX0_countGoodAt 30 = .ok (.iload_n 1, 1) := by decide +kernel
theorem dX0_countGoodAt_31 : decode cX0_countGoodAt 31 = .ok (.if_icmp .gt 7, 3) := by decide +kernel
theorem dX0_countGoodAt_34 : decode cX0_countGoodAt 34 = .ok (.iconst 1, 1) := by decide +kernel
theorem dX0_countGoodAt_35 : decode cX0_countGoodAt 35 = .ok (.goto 4, 3) := by decide +kernel
theorem dX0_countGoodAt_38 : decode cX0_countGoodAt 38 = .ok (.iconst 0, 1) := by decide +kernel
theorem dX0_countGoodAt_39 : decode cX0_countGoodAt 39 = .ok (.istore 5, 2) := by decide +kernel
theorem dX0_countGoodAt_41 : decode cX0_countGoodAt 41 = .ok (.aload_n 2, 1) := by decide +kernel
theorem dX0_countGoodAt_42 : decode cX0_countGoodAt 42 = .ok (.iload 4, 2) := by decide +kernel
theorem dX0_countGoodAt_44 : decode cX0_countGoodAt 44 = .ok (.aaload, 1) := by decide +kernel
theorem dX0_countGoodAt_45 : decode cX0_countGoodAt 45 = .ok (.aload_n 0, 1) := by decide +kernel
theorem dX0_countGoodAt_46 : decode cX0_countGoodAt 46 = .ok (.getfield 15, 3) := by decide +kernel
theorem dX0_countGoodAt_49 : decode cX0_countGoodAt 49 = .ok (.iload 4, 2) := by decide +kernel
theorem dX0_countGoodAt_51 : decode cX0_countGoodAt 51 = .ok (.iaload, 1) := by decide +kernel
theorem dX0_countGoodAt_52 : decode cX0_countGoodAt 52 = .ok (.invokevirtual 61, 3) := by decide +kernel
theorem dX0_countGoodAt_55 : decode cX0_countGoodAt 55 = .ok (.ifCond .eq 18, 3) := by decide +kernel
theorem dX0_countGoodAt_58 : decode cX0_countGoodAt 58 = .ok (.aload_n 2, 1) := by decide +kernel
theorem dX0_countGoodAt_59 : decode cX0_countGoodAt 59 = .ok (.iload 4, 2) := by decide +kernel
theorem dX0_countGoodAt_61 : decode cX0_countGoodAt 61 = .ok (.aaload, 1) := by decide +kernel
theorem dX0_countGoodAt_62 : decode cX0_countGoodAt 62 = .ok (.getfield 71, 3) := by decide +kernel
theorem dX0_countGoodAt_65 : decode cX0_countGoodAt 65 = .ok (.iload_n 1, 1) := by decide +kernel
theorem dX0_countGoodAt_66 : decode cX0_countGoodAt 66 = .ok (.if_icmp .ge 7, 3) := by decide +kernel
theorem dX0_countGoodAt_69 : decode cX0_countGoodAt 69 = .ok (.iconst 1, 1) := by decide +kernel
theorem dX0_countGoodAt_70 : decode cX0_countGoodAt 70 = .ok (.goto 4, 3) := by decide +kernel
theorem dX0_countGoodAt_73 : decode cX0_countGoodAt 73 = .ok (.iconst 0, 1) := by decide +kernel
theorem dX0_countGoodAt_74 : decode cX0_countGoodAt 74 = .ok (.istore 6, 2) := by decide +kernel
theorem dX0_countGoodAt_76 : decode cX0_countGoodAt 76 = .ok (.iload 5, 2) := by decide +kernel
theorem dX0_countGoodAt_78 : decode cX0_countGoodAt 78 = .ok (.ifCond .eq 11, 3) := by decide +kernel
theorem dX0_countGoodAt_81 : decode cX0_countGoodAt 81 = .ok (.iload 6, 2) := by decide +kernel
theorem dX0_countGoodAt_83 : decode cX0_countGoodAt 83 = .ok (.ifCond .ne 6, 3) := by decide +kernel
theorem dX0_countGoodAt_86 : decode cX0_countGoodAt 86 = .ok (.iinc 3 1, 3) := by decide +kernel
theorem dX0_countGoodAt_89 : decode cX0_countGoodAt 89 = .ok (.iinc 4 1, 3) := by decide +kernel
theorem dX0_countGoodAt_92 : decode cX0_countGoodAt 92 = .ok (.goto (-87), 3) := by decide +kernel
theorem dX0_countGoodAt_95 : decode cX0_countGoodAt 95 = .ok (.iload_n 3, 1) := by decide +kernel
theorem dX0_countGoodAt_96 : decode cX0_countGoodAt 96 = .ok (.ireturn, 1) := by decide +kernel
theorem dX1_init_0 : decode cX1_init 0 = .ok (.aload_n 0, 1) := by decide +kernel
theorem dX1_init_1 : decode cX1_init 1 = .ok (.invokespecial 3, 3) := by decide +kernel
theorem dX1_init_4 : decode cX1_init 4 = .ok (.aload_n 0, 1) := by decide +kernel
theorem dX1_init_5 : decode cX1_init 5 = .ok (.sipush 132, 3) := by decide +kernel
theorem dX1_init_8 : decode cX1_init 8 = .ok (.newarray .int, 2) := by decide +kernel
theorem dX1_init_10 : decode cX1_init 10 = .ok (.putfield 9, 3) := by decide +kernel
theorem dX1_init_13 : decode cX1_init 13 = .ok (.aload_n 0, 1) := by decide +kernel
theorem dX1_init_14 : decode cX1_init 14 = .ok (.bipush 40, 2) := by decide +kernel
theorem dX1_init_16 : decode cX1_init 16 = .ok (.newarray .int, 2) := by decide +kernel
theorem dX1_init_18 : decode cX1_init 18 = .ok (.putfield 15, 3) := by decide +kernel
theorem dX1_init_21 : decode cX1_init 21 = .ok (.aload_n 0, 1) := by decide +kernel
theorem dX1_init_22 : decode cX1_init 22 = .ok (.getfield 9, 3) := by decide +kernel
theorem dX1_init_25 : decode cX1_init 25 = .ok (.iconst (-1), 1) := by decide +kernel
theorem dX1_init_26 : decode cX1_init 26 = .ok (.invokestatic 18, 3) := by decide +kernel
theorem dX1_init_29 : decode cX1_init 29 = .ok (.aload_n 0, 1) := by decide +kernel
theorem dX1_init_30 : decode cX1_init 30 = .ok (.getfield 15, 3) := by decide +kernel
theorem dX1_init_33 : decode cX1_init 33 = .ok (.iconst (-1), 1) := by decide +kernel
theorem dX1_init_34 : decode cX1_init 34 = .ok (.invokestatic 18, 3) := by decide +kernel
theorem dX1_init_37 : decode cX1_init 37 = .ok (.return_, 1) := by decide +kernel
theorem dX1_forgetChanges_0 : decode cX1_forgetChanges 0 = .ok (.aload_n 0, 1) := by decide +kernel
theorem dX1_forgetChanges_1 : decode cX1_forgetChanges 1 = .ok (.getfield 9, 3) := by decide +kernel
theorem dX1_forgetChanges_4 : decode cX1_forgetChanges 4 = .ok (.iconst (-1), 1) := by decide +kernel
theorem dX1_forgetChanges_5 : decode cX1_forgetChanges 5 = .ok (.invokestatic 18, 3) := by decide +kernel
theorem dX1_forgetChanges_8 : decode cX1_forgetChanges 8 = .ok (.return_, 1) := by decide +kernel
theorem dX1_raise_0 : decode cX1_raise 0 = .ok (.aload_n 0, 1) := by decide +kernel
theorem dX1_raise_1 : decode cX1_raise 1 = .ok (.getfield 9, 3) := by decide +kernel
theorem dX1_raise_4 : decode cX1_raise 4 = .ok (.iload_n 1, 1) := by decide +kernel
theorem dX1_raise_5 : decode cX1_raise 5 = .ok (.iaload, 1) := by decide +kernel
theorem dX1_raise_6 : decode cX1_raise 6 = .ok (.istore_n 3, 1) := by decide +kernel
theorem dX1_raise_7 : decode cX1_raise 7 = .ok (.iload_n 3, 1) := by decide +kernel
theorem dX1_raise_8 : decode cX1_raise 8 = .ok (.iconst (-1), 1) := by decide +kernel
theorem dX1_raise_9 : decode cX1_raise 9 = .ok (.if_icmp .eq 18, 3) := by decide +kernel
theorem dX1_raise_12 : decode cX1_raise 12 = .ok (.aload_n 0, 1) := by decide +kernel
theorem dX1_raise_13 : decode cX1_raise 13 = .ok (.getfield 15, 3) := by decide +kernel
theorem dX1_raise_16 : decode cX1_raise 16 = .ok (.iload_n 3, 1) := by decide +kernel
theorem dX1_raise_17 : decode cX1_raise 17 = .ok (.iaload, 1) := by decide +kernel
theorem dX1_raise_18 : decode cX1_raise 18 = .ok (.aload_n 0, 1) := by decide +kernel
theorem dX1_raise_19 : decode cX1_raise 19 = .ok (.getfield 15, 3) := by decide +kernel
theorem dX1_raise_22 : decode cX1_raise 22 = .ok (.iload_n 2, 1) := by decide +kernel
theorem dX1_raise_23 : decode cX1_raise 23 = .ok (.iaload, 1) := by decide +kernel
theorem dX1_raise_24 : decode cX1_raise 24 = .ok (.if_icmp .ge 10, 3) := by decide +kernel
theorem dX1_raise_27 : decode cX1_raise 27 = .ok (.aload_n 0, 1) := by decide +kernel
theorem dX1_raise_28 : decode cX1_raise 28 = .ok (.getfield 9, 3) := by decide +kernel
theorem dX1_raise_31 : decode cX1_raise 31 = .ok (.iload_n 1, 1) := by decide +kernel
theorem dX1_raise_32 : decode cX1_raise 32 = .ok (.iload_n 2, 1) := by decide +kernel
theorem dX1_raise_33 : decode cX1_raise 33 = .ok (.iastore, 1) := by decide +kernel
theorem dX1_raise_34 : decode cX1_raise 34 = .ok (.return_, 1) := by decide +kernel
theorem dX2_init_0 : decode cX2_init 0 = .ok (.aload_n 0, 1) := by decide +kernel
theorem dX2_init_1 : decode cX2_init 1 = .ok (.invokespecial 3, 3) := by decide +kernel
theorem dX2_init_4 : decode cX2_init 4 = .ok (.aload_n 0, 1) := by decide +kernel
theorem dX2_init_5 : decode cX2_init 5 = .ok (.bipush 11, 2) := by decide +kernel
theorem dX2_init_7 : decode cX2_init 7 = .ok (.newarray .int, 2) := by decide +kernel
theorem dX2_init_9 : decode cX2_init 9 = .ok (.putfield 9, 3) := by decide +kernel
theorem dX2_init_12 : decode cX2_init 12 = .ok (.aload_n 0, 1) := by decide +kernel
theorem dX2_init_13 : decode cX2_init 13 = .ok (.sipush 132, 3) := by decide +kernel
theorem dX2_init_16 : decode cX2_init 16 = .ok (.newarray .int, 2) := by decide +kernel
theorem dX2_init_18 : decode cX2_init 18 = .ok (.putfield 15, 3) := by decide +kernel
theorem dX2_init_21 : decode cX2_init 21 = .ok (.aload_n 0, 1) := by decide +kernel
theorem dX2_init_22 : decode cX2_init 22 = .ok (.iload_n 1, 1) := by decide +kernel
theorem dX2_init_23 : decode cX2_init 23 = .ok (.putfield 18, 3) := by decide +kernel
theorem dX2_init_26 : decode cX2_init 26 = .ok (.aload_n 0, 1) := by decide +kernel
theorem dX2_init_27 : decode cX2_init 27 = .ok (.getfield 15, 3) := by decide +kernel
theorem dX2_init_30 : decode cX2_init 30 = .ok (.iconst (-1), 1) := by decide +kernel
theorem dX2_init_31 : decode cX2_init 31 = .ok (.invokestatic 22, 3) := by decide +kernel
theorem dX2_init_34 : decode cX2_init 34 = .ok (.return_, 1) := by decide +kernel
theorem dX2_enterGroup_0 : decode cX2_enterGroup 0 = .ok (.aload_n 0, 1) := by decide +kernel
theorem dX2_enterGroup_1 : decode cX2_enterGroup 1 = .ok (.iload_n 1, 1) := by decide +kernel
theorem dX2_enterGroup_2 : decode cX2_enterGroup 2 = .ok (.putfield 28, 3) := by decide +kernel
theorem dX2_enterGroup_5 : decode cX2_enterGroup 5 = .ok (.aload_n 0, 1) := by decide +kernel
theorem dX2_enterGroup_6 : decode cX2_enterGroup 6 = .ok (.getfield 9, 3) := by decide +kernel
theorem dX2_enterGroup_9 : decode cX2_enterGroup 9 = .ok (.iconst 0, 1) := by decide +kernel
theorem dX2_enterGroup_10 : decode cX2_enterGroup 10 = .ok (.aload_n 0, 1) := by decide +kernel
theorem dX2_enterGroup_11 : decode cX2_enterGroup 11 = .ok (.getfield 18, 3) := by decide +kernel
theorem dX2_enterGroup_14 : decode cX2_enterGroup 14 = .ok (.iastore, 1) := by decide +kernel
theorem dX2_enterGroup_15 : decode cX2_enterGroup 15 = .ok (.aload_n 0, 1) := by decide +kernel
theorem dX2_enterGroup_16 : decode cX2_enterGroup 16 = .ok (.iconst 1, 1) := by decide +kernel
theorem dX2_enterGroup_17 : decode cX2_enterGroup 17 = .ok (.putfield 31, 3) := by decide +kernel
theorem dX2_enterGroup_20 : decode cX2_enterGroup 20 = .ok (.iload_n 1, 1) := by decide +kernel
theorem dX2_enterGroup_21 : decode cX2_enterGroup 21 = .ok (.istore_n 3, 1) := by decide +kernel
theorem dX2_enterGroup_22 : decode cX2_enterGroup 22 = .ok (.iload_n 3, 1) := by decide +kernel
theorem dX2_enterGroup_23 : decode cX2_enterGroup 23 = .ok (.ifCond .lt 45, 3) := by decide +kernel
theorem dX2_enterGroup_26 : decode cX2_enterGroup 26 = .ok (.iload_n 3, 1) := by decide +kernel
theorem dX2_enterGroup_27 : decode cX2_enterGroup 27 = .ok (.aload_n 2, 1) := by decide +kernel
theorem dX2_enterGroup_28 : decode cX2_enterGroup 28 = .ok (.arraylength, 1) := by decide +kernel
theorem dX2_enterGroup_29 : decode cX2_enterGroup 29 = .ok (.if_icmp .ge 39, 3) := by decide +kernel
theorem dX2_enterGroup_32 : decode cX2_enterGroup 32 = .ok (.aload_n 0, 1) := by decide +kernel
theorem dX2_enterGroup_33 : decode cX2_enterGroup 33 = .ok (.getfield 31, 3) := by decide +kernel
theorem dX2_enterGroup_36 : decode cX2_enterGroup 36 = .ok (.bipush 11, 2) := by decide +kernel
theorem dX2_enterGroup_38 : decode cX2_enterGroup 38 = .ok (.if_icmp .ge 30, 3) := by decide +kernel
theorem dX2_enterGroup_41 : decode cX2_enterGroup 41 = .ok (.aload_n 0, 1) := by decide +kernel
theorem dX2_enterGroup_42 : decode cX2_enterGroup 42 = .ok (.getfield 9, 3) := by decide +kernel
theorem dX2_enterGroup_45 : decode cX2_enterGroup 45 = .ok (.aload_n 0, 1) := by decide +kernel
theorem dX2_enterGroup_46 : decode cX2_enterGroup 46 = .ok (.getfield 31, 3) := by decide +kernel
theorem dX2_enterGroup_49 : decode cX2_enterGroup 49 = .ok (.iload_n 3, 1) := by decide +kernel
theorem dX2_enterGroup_50 : decode cX2_enterGroup 50 = .ok (.iastore, 1) := by decide +kernel
theorem dX2_enterGroup_51 : decode cX2_enterGroup 51 = .ok (.aload_n 0, 1) := by decide +kernel
theorem dX2_enterGroup_52 : decode cX2_enterGroup 52 = .ok (.dup, 1) := by decide +kernel
theorem dX2_enterGroup_53 : decode cX2_enterGroup 53 = .ok (.getfield 31, 3) := by decide +kernel
theorem dX2_enterGroup_56 : decode cX2_enterGroup 56 = .ok (.iconst 1, 1) := by decide +kernel
theorem dX2_enterGroup_57 : decode cX2_enterGroup 57 = .ok (.iadd, 1) := by decide +kernel
theorem dX2_enterGroup_58 : decode cX2_enterGroup 58 = .ok (.putfield 31, 3) := by decide +kernel
theorem dX2_enterGroup_61 : decode cX2_enterGroup 61 = .ok (.aload_n 2, 1) := by decide +kernel
theorem dX2_enterGroup_62 : decode cX2_enterGroup 62 = .ok (.iload_n 3, 1) := by decide +kernel
theorem dX2_enterGroup_63 : decode cX2_enterGroup 63 = .ok (.iaload, 1) := by decide +kernel
theorem dX2_enterGroup_64 : decode cX2_enterGroup 64 = .ok (.istore_n 3, 1) := by decide +kernel
theorem dX2_enterGroup_65 : decode cX2_enterGroup 65 = .ok (.goto (-43), 3) := by decide +kernel
theorem dX2_enterGroup_68 : decode cX2_enterGroup 68 = .ok (.aload_n 0, 1) := by decide +kernel
theorem dX2_enterGroup_69 : decode cX2_enterGroup 69 = .ok (.invokevirtual 34, 3) := by decide +kernel
theorem dX2_enterGroup_72 : decode cX2_enterGroup 72 = .ok (.return_, 1) := by decide +kernel
theorem dX2_dropOtherGroups_0 : decode cX2_dropOtherGroups 0 = .ok (.iconst 0, 1) := by decide +kernel
theorem dX2_dropOtherGroups_1 : decode cX2_dropOtherGroups 1 = .ok (.istore_n 1, 1) := by decide +kernel
theorem dX2_dropOtherGroups_2 : decode cX2_dropOtherGroups 2 = .ok (.iload_n 1, 1) := by decide +kernel
theorem dX2_dropOtherGroups_3 : decode cX2_dropOtherGroups 3 = .ok (.bipush 10, 2) := by decide +kernel
theorem dX2_dropOtherGroups_5 : decode cX2_dropOtherGroups 5 = .ok (.if_icmp .ge 22, 3) := by decide +kernel
theorem dX2_dropOtherGroups_8 : decode cX2_dropOtherGroups 8 = .ok (.aload_n 0, 1) := by decide +kernel
theorem dX2_dropOtherGroups_9 : decode cX2_dropOtherGroups 9 = .ok (.iload_n 1, 1) := by decide +kernel
theorem dX2_dropOtherGroups_10 : decode cX2_dropOtherGroups 10 = .ok (.invokevirtual 37, 3) := by decide +kernel
theorem dX2_dropOtherGroups_13 : decode cX2_dropOtherGroups 13 = .ok (.ifCond .ne 8, 3) := by decide +kernel
theorem dX2_dropOtherGroups_16 : decode cX2_dropOtherGroups 16 = .ok (.aload_n 0, 1) := by decide +kernel
theorem dX2_dropOtherGroups_17 : decode cX2_dropOtherGroups 17 = .ok (.iload_n 1, 1) := by decide +kernel
theorem dX2_dropOtherGroups_18 : decode cX2_dropOtherGroups 18 = .ok (.invokevirtual 41, 3) := by decide +kernel
theorem dX2_dropOtherGroups_21 : decode cX2_dropOtherGroups 21 = .ok (.iinc 1 1, 3) := by decide +kernel
theorem dX2_dropOtherGroups_24 : decode cX2_dropOtherGroups 24 = .ok (.goto (-22), 3) := by decide +kernel
theorem dX2_dropOtherGroups_27 : decode cX2_dropOtherGroups 27 = .ok (.return_, 1) := by decide +kernel
theorem dX2_drop_0 : decode cX2_drop 0 = .ok (.iconst 0, 1) := by decide +kernel
theorem dX2_drop_1 : decode cX2_drop 1 = .ok (.istore_n 2, 1) := by decide +kernel
theorem dX2_drop_2 : decode cX2_drop 2 = .ok (.iload_n 2, 1) := by decide +kernel
theorem dX2_drop_3 : decode cX2_drop 3 = .ok (.bipush 6, 2) := by decide +kernel
theorem dX2_drop_5 : decode cX2_drop 5 = .ok (.if_icmp .ge 20, 3) := by decide +kernel
theorem dX2_drop_8 : decode cX2_drop 8 = .ok (.aload_n 0, 1) := by decide +kernel
theorem dX2_drop_9 : decode cX2_drop 9 = .ok (.getfield 15, 3) := by decide +kernel
theorem dX2_drop_12 : decode cX2_drop 12 = .ok (.iload_n 1, 1) := by decide +kernel
theorem dX2_drop_13 : decode cX2_drop 13 = .ok (.iload_n 2, 1) := by decide +kernel
theorem dX2_drop_14 : decode cX2_drop 14 = .ok (.invokestatic 45, 3) := by decide +kernel
theorem dX2_drop_17 : decode cX2_drop 17 = .ok (.iconst (-1), 1) := by decide +kernel
theorem dX2_drop_18 : decode cX2_drop 18 = .ok (.iastore, 1) := by decide +kernel
theorem dX2_drop_19 : decode cX2_drop 19 = .ok (.iinc 2 1, 3) := by decide +kernel
theorem dX2_drop_22 : decode cX2_drop 22 = .ok (.goto (-20), 3) := by decide +kernel
theorem dX2_drop_25 : decode cX2_drop 25 = .ok (.return_, 1) := by decide +kernel
theorem dX2_isLayer_0 : decode cX2_isLayer 0 = .ok (.iconst 0, 1) := by decide +kernel
theorem dX2_isLayer_1 : decode cX2_isLayer 1 = .ok (.istore_n 2, 1) := by decide +kernel
theorem dX2_isLayer_2 : decode cX2_isLayer 2 = .ok (.iload_n 2, 1) := by decide +kernel
theorem dX2_isLayer_3 : decode cX2_isLayer 3 = .ok (.aload_n 0, 1) := by decide +kernel
theorem dX2_isLayer_4 : decode cX2_isLayer 4 = .ok (.getfield 31, 3) := by decide +kernel
theorem dX2_isLayer_7 : decode cX2_isLayer 7 = .ok (.if_icmp .ge 21, 3) := by decide +kernel
theorem dX2_isLayer_10 : decode cX2_isLayer 10 = .ok (.aload_n 0, 1) := by decide +kernel
theorem dX2_isLayer_11 : decode cX2_isLayer 11 = .ok (.getfield 9, 3) := by decide +kernel
theorem dX2_isLayer_14 : decode cX2_isLayer 14 = .ok (.iload_n 2, 1) := by decide +kernel
theorem dX2_isLayer_15 : decode cX2_isLayer 15 = .ok (.iaload, 1) := by decide +kernel
theorem dX2_isLayer_16 : decode cX2_isLayer 16 = .ok (.iload_n 1, 1) := by decide +kernel
theorem dX2_isLayer_17 : decode cX2_isLayer 17 = .ok (.if_icmp .ne 5, 3) := by decide +kernel
theorem dX2_isLayer_20 : decode cX2_isLayer 20 = .ok (.iconst 1, 1) := by decide +kernel
theorem dX2_isLayer_21 : decode cX2_isLayer 21 = .ok (.ireturn, 1) := by decide +kernel
theorem dX2_isLayer_22 : decode cX2_isLayer 22 = .ok (.iinc 2 1, 3) := by decide +kernel
theorem dX2_isLayer_25 : decode cX2_isLayer 25 = .ok (.goto (-23), 3) := by decide +kernel
theorem dX2_isLayer_28 : decode cX2_isLayer 28 = .ok (.iconst 0, 1) := by decide +kernel
theorem dX2_isLayer_29 : decode cX2_isLayer 29 = .ok (.ireturn, 1) := by decide +kernel
theorem dX3_init_0 : decode cX3_init 0 = .ok (.aload_n 0, 1) := by decide +kernel
theorem dX3_init_1 : decode cX3_init 1 = .ok (.invokespecial 3, 3) := by decide +kernel
theorem dX3_init_4 : decode cX3_init 4 = .ok (.aload_n 0, 1) := by decide +kernel
theorem dX3_init_5 : decode cX3_init 5 = .ok (.bipush 6, 2) := by decide +kernel
theorem dX3_init_7 : decode cX3_init 7 = .ok (.newarray .int, 2) := by decide +kernel
theorem dX3_init_9 : decode cX3_init 9 = .ok (.putfield 9, 3) := by decide +kernel
theorem dX3_init_12 : decode cX3_init 12 = .ok (.aload_n 0, 1) := by decide +kernel
theorem dX3_init_13 : decode cX3_init 13 = .ok (.bipush 6, 2) := by decide +kernel
theorem dX3_init_15 : decode cX3_init 15 = .ok (.newarray .int, 2) := by decide +kernel
theorem dX3_init_17 : decode cX3_init 17 = .ok (.putfield 15, 3) := by decide +kernel
theorem dX3_init_20 : decode cX3_init 20 = .ok (.aload_n 0, 1) := by decide +kernel
theorem dX3_init_21 : decode cX3_init 21 = .ok (.bipush 6, 2) := by decide +kernel
theorem dX3_init_23 : decode cX3_init 23 = .ok (.newarray .int, 2) := by decide +kernel
theorem dX3_init_25 : decode cX3_init 25 = .ok (.putfield 18, 3) := by decide +kernel
theorem dX3_init_28 : decode cX3_init 28 = .ok (.return_, 1) := by decide +kernel
theorem dX3_forget_0 : decode cX3_forget 0 = .ok (.aload_n 0, 1) := by decide +kernel
theorem dX3_forget_1 : decode cX3_forget 1 = .ok (.getfield 9, 3) := by decide +kernel
theorem dX3_forget_4 : decode cX3_forget 4 = .ok (.iconst (-1), 1) := by decide +kernel
theorem dX3_forget_5 : decode cX3_forget 5 = .ok (.invokestatic 21, 3) := by decide +kernel
theorem dX3_forget_8 : decode cX3_forget 8 = .ok (.aload_n 0, 1) := by decide +kernel
theorem dX3_forget_9 : decode cX3_forget 9 = .ok (.iconst 0, 1) := by decide +kernel
theorem dX3_forget_10 : decode cX3_forget 10 = .ok (.putfield 27, 3) := by decide +kernel
theorem dX3_forget_13 : decode cX3_forget 13 = .ok (.return_, 1) := by decide +kernel
theorem dX3_set_0 : decode cX3_set 0 = .ok (.aload_n 0, 1) := by decide +kernel
theorem dX3_set_1 : decode cX3_set 1 = .ok (.getfield 9, 3) := by decide +kernel
theorem dX3_set_4 : decode cX3_set 4 = .ok (.iload_n 1, 1) := by decide +kernel
theorem dX3_set_5 : decode cX3_set 5 = .ok (.iload_n 2, 1) := by decide +kernel
theorem dX3_set_6 : decode cX3_set 6 = .ok (.iastore, 1) := by decide +kernel
theorem dX3_set_7 : decode cX3_set 7 = .ok (.aload_n 0, 1) := by decide +kernel
theorem dX3_set_8 : decode cX3_set 8 = .ok (.getfield 15, 3) := by decide +kernel
theorem dX3_set_11 : decode cX3_set 11 = .ok (.iload_n 1, 1) := by decide +kernel
theorem dX3_set_12 : decode cX3_set 12 = .ok (.iload_n 3, 1) := by decide +kernel
theorem dX3_set_13 : decode cX3_set 13 = .ok (.iastore, 1) := by decide +kernel
theorem dX3_set_14 : decode cX3_set 14 = .ok (.aload_n 0, 1) := by decide +kernel
theorem dX3_set_15 : decode cX3_set 15 = .ok (.getfield 18, 3) := by decide +kernel
theorem dX3_set_18 : decode cX3_set 18 = .ok (.iload_n 1, 1) := by decide +kernel
theorem dX3_set_19 : decode cX3_set 19 = .ok (.iload 4, 2) := by decide +kernel
theorem dX3_set_21 : decode cX3_set 21 = .ok (.iastore, 1) := by decide +kernel
theorem dX3_set_22 : decode cX3_set 22 = .ok (.return_, 1) := by decide +kernel
theorem dX3_hideExcluded_0 : decode cX3_hideExcluded 0 = .ok (.iconst 0, 1) := by decide +kernel
theorem dX3_hideExcluded_1 : decode cX3_hideExcluded 1 = .ok (.istore_n 2, 1) := by decide +kernel
theorem dX3_hideExcluded_2 : decode cX3_hideExcluded 2 = .ok (.iload_n 2, 1) := by decide +kernel
theorem dX3_hideExcluded_3 : decode cX3_hideExcluded 3 = .ok (.bipush 6, 2) := by decide +kernel
theorem dX3_hideExcluded_5 : decode cX3_hideExcluded 5 = .ok (.if_icmp .ge 55, 3) := by decide +kernel
theorem dX3_hideExcluded_8 : decode cX3_hideExcluded 8 = .ok (.iconst 0, 1) := by decide +kernel
theorem dX3_hideExcluded_9 : decode cX3_hideExcluded 9 = .ok (.istore_n 3, 1) := by decide +kernel
theorem dX3_hideExcluded_10 : decode cX3_hideExcluded 10 = .ok (.iload_n 3, 1) := by decide +kernel
theorem dX3_hideExcluded_11 : decode cX3_hideExcluded 11 = .ok (.bipush 6, 2) := by decide +kernel
theorem dX3_hideExcluded_13 : decode cX3_hideExcluded 13 = .ok (.if_icmp .ge 41, 3) := by decide +kernel
theorem dX3_hideExcluded_16 : decode cX3_hideExcluded 16 = .ok (.aload_n 1, 1) := by decide +kernel
theorem dX3_hideExcluded_17 : decode cX3_hideExcluded 17 = .ok (.iload_n 2, 1) := by decide +kernel
theorem dX3_hideExcluded_18 : decode cX3_hideExcluded 18 = .ok (.iaload, 1) := by decide +kernel
theorem dX3_hideExcluded_19 : decode cX3_hideExcluded 19 = .ok (.iload_n 3, 1) := by decide +kernel
theorem dX3_hideExcluded_20 : decode cX3_hideExcluded 20 = .ok (.invokestatic 31, 3) := by decide +kernel
theorem dX3_hideExcluded_23 : decode cX3_hideExcluded 23 = .ok (.ifCond .eq 25, 3) := by decide +kernel
theorem dX3_hideExcluded_26 : decode cX3_hideExcluded 26 = .ok (.aload_n 0, 1) := by decide +kernel
theorem dX3_hideExcluded_27 : decode cX3_hideExcluded 27 = .ok (.iload_n 2, 1) := by decide +kernel
theorem dX3_hideExcluded_28 : decode cX3_hideExcluded 28 = .ok (.iload_n 3, 1) := by decide +kernel
theorem dX3_hideExcluded_29 : decode cX3_hideExcluded 29 = .ok (.invokevirtual 35, 3) := by decide +kernel
theorem dX3_hideExcluded_32 : decode cX3_hideExcluded 32 = .ok (.ifCond .eq 16, 3) := by decide +kernel
theorem dX3_hideExcluded_35 : decode cX3_hideExcluded 35 = .ok (.aload_n 0, 1) := by decide +kernel
theorem dX3_hideExcluded_36 : decode cX3_hideExcluded 36 = .ok (.aload_n 0, 1) := by decide +kernel
theorem dX3_hideExcluded_37 : decode cX3_hideExcluded 37 = .ok (.getfield 27, 3) := by decide +kernel
theorem dX3_hideExcluded_40 : decode cX3_hideExcluded 40 = .ok (.iload_n 2, 1) := by decide +kernel
theorem dX3_hideExcluded_41 : decode cX3_hideExcluded 41 = .ok (.iconst 1, 1) := by decide +kernel
theorem dX3_hideExcluded_42 : decode cX3_hideExcluded 42 = .ok (.invokestatic 38, 3) := by decide +kernel
theorem dX3_hideExcluded_45 : decode cX3_hideExcluded 45 = .ok (.putfield 27, 3) := by decide +kernel
theorem dX3_hideExcluded_48 : decode cX3_hideExcluded 48 = .ok (.iinc 3 1, 3) := by decide +kernel
theorem dX3_hideExcluded_51 : decode cX3_hideExcluded 51 = .ok (.goto (-41), 3) := by decide +kernel
theorem dX3_hideExcluded_54 : decode cX3_hideExcluded 54 = .ok (.iinc 2 1, 3) := by decide +kernel
theorem dX3_hideExcluded_57 : decode cX3_hideExcluded 57 = .ok (.goto (-55), 3) := by decide +kernel
theorem dX3_hideExcluded_60 : decode cX3_hideExcluded 60 = .ok (.return_, 1) := by decide +kernel
theorem dX3_yields_0 : decode cX3_yields 0 = .ok (.aload_n 0, 1) := by decide +kernel
theorem dX3_yields_1 : decode cX3_yields 1 = .ok (.getfield 9, 3) := by decide +kernel
theorem dX3_yields_4 : decode cX3_yields 4 = .ok (.iload_n 1, 1) := by decide +kernel
theorem dX3_yields_5 : decode cX3_yields 5 = .ok (.iaload, 1) := by decide +kernel
theorem dX3_yields_6 : decode cX3_yields 6 = .ok (.iconst (-1), 1) := by decide +kernel
theorem dX3_yields_7 : decode cX3_yields 7 = .ok (.if_icmp .eq 13, 3) := by decide +kernel
theorem dX3_yields_10 : decode cX3_yields 10 = .ok (.aload_n 0, 1) := by decide +kernel
theorem dX3_yields_11 : decode cX3_yields 11 = .ok (.getfield 9, 3) := by decide +kernel
theorem dX3_yields_14 : decode cX3_yields 14 = .ok (.iload_n 2, 1) := by decide +kernel
theorem dX3_yields_15 : decode cX3_yields 15 = .ok (.iaload, 1) := by decide +kernel
theorem dX3_yields_16 : decode cX3_yields 16 = .ok (.iconst (-1), 1) := by decide +kernel
theorem dX3_yields_17 : decode cX3_yields 17 = .ok (.if_icmp .ne 5, 3) := by decide +kernel
theorem dX3_yields_20 : decode cX3_yields 20 = .ok (.iconst 0, 1) := by decide +kernel
theorem dX3_yields_21 : decode cX3_yields 21 = .ok (.ireturn, 1) := by decide +kernel
theorem dX3_yields_22 : decode cX3_yields 22 = .ok (.aload_n 0, 1) := by decide +kernel
theorem dX3_yields_23 : decode cX3_yields 23 = .ok (.getfield 15, 3) := by decide +kernel
theorem dX3_yields_26 : decode cX3_yields 26 = .ok (.iload_n 1, 1) := by decide +kernel
theorem dX3_yields_27 : decode cX3_yields 27 = .ok (.iaload, 1) := by decide +kernel
theorem dX3_yields_28 : decode cX3_yields 28 = .ok (.aload_n 0, 1) := by decide +kernel
theorem dX3_yields_29 : decode cX3_yields 29 = .ok (.getfield 15, 3) := by decide +kernel
theorem dX3_yields_32 : decode cX3_yields 32 = .ok (.iload_n 2, 1) := by decide +kernel
theorem dX3_yields_33 : decode cX3_yields 33 = .ok (.iaload, 1) := by decide +kernel
theorem dX3_yields_34 : decode cX3_yields 34 = .ok (.if_icmp .eq 24, 3) := by decide +kernel
theorem dX3_yields_37 : decode cX3_yields 37 = .ok (.aload_n 0, 1) := by decide +kernel
theorem dX3_yields_38 : decode cX3_yields 38 = .ok (.getfield 15, 3) := by decide +kernel
theorem dX3_yields_41 : decode cX3_yields 41 = .ok (.iload_n 1, 1) := by decide +kernel
theorem dX3_yields_42 : decode cX3_yields 42 = .ok (.iaload, 1) := by decide +kernel
theorem dX3_yields_43 : decode cX3_yields 43 = .ok (.aload_n 0, 1) := by decide +kernel
theorem dX3_yields_44 : decode cX3_yields 44 = .ok (.getfield 15, 3) := by decide +kernel
theorem dX3_yields_47 : decode cX3_yields 47 = .ok (.iload_n 2, 1) := by decide +kernel
theorem dX3_yields_48 : decode cX3_yields 48 = .ok (.iaload, 1) := by decide +kernel
theorem dX3_yields_49 : decode cX3_yields 49 = .ok (.if_icmp .le 7, 3) := by decide +kernel
theorem dX3_yields_52 : decode cX3_yields 52 = .ok (.iconst 1, 1) := by decide +kernel
theorem dX3_yields_53 : decode cX3_yields 53 = .ok (.goto 4, 3) := by decide +kernel
theorem dX3_yields_56 : decode cX3_yields 56 = .ok (.iconst 0, 1) := by decide +kernel
theorem dX3_yields_57 : decode cX3_yields 57 = .ok (.ireturn, 1) := by decide +kernel
theorem dX3_yields_58 : decode cX3_yields 58 = .ok (.aload_n 0, 1) := by decide +kernel
theorem dX3_yields_59 : decode cX3_yields 59 = .ok (.getfield 18, 3) := by decide +kernel
theorem dX3_yields_62 : decode cX3_yields 62 = .ok (.iload_n 1, 1) := by decide +kernel
theorem dX3_yields_63 : decode cX3_yields 63 = .ok (.iaload, 1) := by decide +kernel
theorem dX3_yields_64 : decode cX3_yields 64 = .ok (.aload_n 0, 1) := by decide +kernel
theorem dX3_yields_65 : decode cX3_yields 65 = .ok (.getfield 18, 3) := by decide +kernel
theorem dX3_yields_68 : decode cX3_yields 68 = .ok (.iload_n 2, 1) := by decide +kernel
theorem dX3_yields_69 : decode cX3_yields 69 = .ok (.iaload, 1) := by decide +kernel
theorem dX3_yields_70 : decode cX3_yields 70 = .ok (.if_icmp .ge 7, 3) := by decide +kernel
theorem dX3_yields_73 : decode cX3_yields 73 = .ok (.iconst 1, 1) := by decide +kernel
theorem dX3_yields_74 : decode cX3_yields 74 = .ok (.goto 4, 3) := by decide +kernel
theorem dX3_yields_77 : decode cX3_yields 77 = .ok (.iconst 0, 1) := by decide +kernel
theorem dX3_yields_78 : decode cX3_yields 78 = .ok (.ireturn, 1) := by decide +kernel
theorem dX3_valueIfShown_0 : decode cX3_valueIfShown 0 = .ok (.aload_n 0, 1) := by decide +kernel
theorem dX3_valueIfShown_1 : decode cX3_valueIfShown 1 = .ok (.getfield 27, 3) := by decide +kernel
theorem dX3_valueIfShown_4 : decode cX3_valueIfShown 4 = .ok (.iload_n 1, 1) := by decide +kernel
theorem dX3_valueIfShown_5 : decode cX3_valueIfShown 5 = .ok (.invokestatic 31, 3) := by decide +kernel
theorem dX3_valueIfShown_8 : decode cX3_valueIfShown 8 = .ok (.ifCond .eq 7, 3) := by decide +kernel
theorem dX3_valueIfShown_11 : decode cX3_valueIfShown 11 = .ok (.iconst (-1), 1) := by decide +kernel
theorem dX3_valueIfShown_12 : decode cX3_valueIfShown 12 = .ok (.goto 9, 3) := by decide +kernel
theorem dX3_valueIfShown_15 : decode cX3_valueIfShown 15 = .ok (.aload_n 0, 1) := by decide +kernel
theorem dX3_valueIfShown_16 : decode cX3_valueIfShown 16 = .ok (.getfield 9, 3) := by decide +kernel
theorem dX3_valueIfShown_19 : decode cX3_valueIfShown 19 = .ok (.iload_n 1, 1) := by decide +kernel
theorem dX3_valueIfShown_20 : decode cX3_valueIfShown 20 = .ok (.iaload, 1) := by decide +kernel
theorem dX3_valueIfShown_21 : decode cX3_valueIfShown 21 = .ok (.ireturn, 1) := by decide +kernel
theorem dX3_layerIfShown_0 : decode cX3_layerIfShown 0 = .ok (.aload_n 0, 1) := by decide +kernel
theorem dX3_layerIfShown_1 : decode cX3_layerIfShown 1 = .ok (.iload_n 1, 1) := by decide +kernel
theorem dX3_layerIfShown_2 : decode cX3_layerIfShown 2 = .ok (.invokevirtual 42, 3) := by decide +kernel
theorem dX3_layerIfShown_5 : decode cX3_layerIfShown 5 = .ok (.iconst (-1), 1) := by decide +kernel
theorem dX3_layerIfShown_6 : decode cX3_layerIfShown 6 = .ok (.if_icmp .ne 7, 3) := by decide +kernel
theorem dX3_layerIfShown_9 : decode cX3_layerIfShown 9 = .ok (.iconst (-1), 1) := by decide +kernel
theorem dX3_layerIfShown_10 : decode cX3_layerIfShown 10 = .ok (.goto 9, 3) := by decide +kernel
theorem dX3_layerIfShown_13 : decode cX3_layerIfShown 13 = .ok (.aload_n 0, 1) := by decide +kernel
theorem dX3_layerIfShown_14 : decode cX3_layerIfShown 14 = .ok (.getfield 15, 3) := by decide +kernel
theorem dX3_layerIfShown_17 : decode cX3_layerIfShown 17 = .ok (.iload_n 1, 1) := by decide +kernel
theorem dX3_layerIfShown_18 : decode cX3_layerIfShown 18 = .ok (.iaload, 1) := by decide +kernel
theorem dX3_layerIfShown_19 : decode cX3_layerIfShown 19 = .ok (.ireturn, 1) := by decide +kernel
theorem dX4_init_0 : decode cX4_init 0 = .ok (.aload_n 0, 1) := by decide +kernel
theorem dX4_init_1 : decode cX4_init 1 = .ok (.invokespecial 3, 3) := by decide +kernel
theorem dX4_init_4 : decode cX4_init 4 = .ok (.aload_n 0, 1) := by decide +kernel
theorem dX4_init_5 : decode cX4_init 5 = .ok (.iconst 1, 1) := by decide +kernel
theorem dX4_init_6 : decode cX4_init 6 = .ok (.putfield 9, 3) := by decide +kernel
theorem dX4_init_9 : decode cX4_init 9 = .ok (.return_, 1) := by decide +kernel
theorem dX4_hasVoided_0 : decode cX4_hasVoided 0 = .ok (.aload_n 0, 1) := by decide +kernel
theorem dX4_hasVoided_1 : decode cX4_hasVoided 1 = .ok (.getfield 15, 3) := by decide +kernel
theorem dX4_hasVoided_4 : decode cX4_hasVoided 4 = .ok (.ifCond .eq 18, 3) := by decide +kernel
theorem dX4_hasVoided_7 : decode cX4_hasVoided 7 = .ok (.aload_n 0, 1) := by decide +kernel
theorem dX4_hasVoided_8 : decode cX4_hasVoided 8 = .ok (.getfield 18, 3) := by decide +kernel
theorem dX4_hasVoided_11 : decode cX4_hasVoided 11 = .ok (.iload_n 1, 1) := by decide +kernel
theorem dX4_hasVoided_12 : decode cX4_hasVoided 12 = .ok (.isub, 1) := by decide +kernel
theorem dX4_hasVoided_13 : decode cX4_hasVoided 13 = .ok (.bipush 30, 2) := by decide +kernel
theorem dX4_hasVoided_15 : decode cX4_hasVoided 15 = .ok (.if_icmp .ge 7, 3) := by decide +kernel
theorem dX4_hasVoided_18 : decode cX4_hasVoided 18 = .ok (.iconst 1, 1) := by decide +kernel
theorem dX4_hasVoided_19 : decode cX4_hasVoided 19 = .ok (.goto 4, 3) := by decide +kernel
theorem dX4_hasVoided_22 : decode cX4_hasVoided 22 = .ok (.iconst 0, 1) := by decide +kernel
theorem dX4_hasVoided_23 : decode cX4_hasVoided 23 = .ok (.ireturn, 1) := by decide +kernel
theorem dX5_init_0 : decode cX5_init 0 = .ok (.aload_n 0, 1) := by decide +kernel
theorem dX5_init_1 : decode cX5_init 1 = .ok (.invokespecial 3, 3) := by decide +kernel
theorem dX5_init_4 : decode cX5_init 4 = .ok (.aload_n 0, 1) := by decide +kernel
theorem dX5_init_5 : decode cX5_init 5 = .ok (.bipush 12, 2) := by decide +kernel
theorem dX5_init_7 : decode cX5_init 7 = .ok (.putfield 9, 3) := by decide +kernel
theorem dX5_init_10 : decode cX5_init 10 = .ok (.aload_n 0, 1) := by decide +kernel
theorem dX5_init_11 : decode cX5_init 11 = .ok (.iconst 4, 1) := by decide +kernel
theorem dX5_init_12 : decode cX5_init 12 = .ok (.newarray .int, 2) := by decide +kernel
theorem dX5_init_14 : decode cX5_init 14 = .ok (.putfield 13, 3) := by decide +kernel
theorem dX5_init_17 : decode cX5_init 17 = .ok (.aload_n 0, 1) := by decide +kernel
theorem dX5_init_18 : decode cX5_init 18 = .ok (.bipush 8, 2) := by decide +kernel
theorem dX5_init_20 : decode cX5_init 20 = .ok (.anewarray 17, 3) := by decide +kernel
theorem dX5_init_23 : decode cX5_init 23 = .ok (.putfield 19, 3) := by decide +kernel
theorem dX5_init_26 : decode cX5_init 26 = .ok (.aload_n 0, 1) := by decide +kernel
theorem dX5_init_27 : decode cX5_init 27 = .ok (.bipush 10, 2) := by decide +kernel
theorem dX5_init_29 : decode cX5_init 29 = .ok (.newarray .int, 2) := by decide +kernel
theorem dX5_init_31 : decode cX5_init 31 = .ok (.putfield 23, 3) := by decide +kernel
theorem dX5_init_34 : decode cX5_init 34 = .ok (.aload_n 0, 1) := by decide +kernel
theorem dX5_init_35 : decode cX5_init 35 = .ok (.iconst 1, 1) := by decide +kernel
theorem dX5_init_36 : decode cX5_init 36 = .ok (.putfield 26, 3) := by decide +kernel
theorem dX5_init_39 : decode cX5_init 39 = .ok (.aload_n 0, 1) := by decide +kernel
theorem dX5_init_40 : decode cX5_init 40 = .ok (.bipush 12, 2) := by decide +kernel
theorem dX5_init_42 : decode cX5_init 42 = .ok (.anewarray 29, 3) := by decide +kernel
theorem dX5_init_45 : decode cX5_init 45 = .ok (.putfield 31, 3) := by decide +kernel
theorem dX5_init_48 : decode cX5_init 48 = .ok (.aload_n 0, 1) := by decide +kernel
theorem dX5_init_49 : decode cX5_init 49 = .ok (.bipush 40, 2) := by decide +kernel
theorem dX5_init_51 : decode cX5_init 51 = .ok (.anewarray 35, 3) := by decide +kernel
theorem dX5_init_54 : decode cX5_init 54 = .ok (.putfield 37, 3) := by decide +kernel
theorem dX5_init_57 : decode cX5_init 57 = .ok (.aload_n 0, 1) := by decide +kernel
theorem dX5_init_58 : decode cX5_init 58 = .ok (.bipush 6, 2) := by decide +kernel
theorem dX5_init_60 : decode cX5_init 60 = .ok (.newarray .int, 2) := by decide +kernel
theorem dX5_init_62 : decode cX5_init 62 = .ok (.putfield 41, 3) := by decide +kernel
theorem dX5_init_65 : decode cX5_init 65 = .ok (.aload_n 0, 1) := by decide +kernel
theorem dX5_init_66 : decode cX5_init 66 = .ok (.new 44, 3) := by decide +kernel
theorem dX5_init_69 : decode cX5_init 69 = .ok (.dup, 1) := by decide +kernel
theorem dX5_init_70 : decode cX5_init 70 = .ok (.invokespecial 46, 3) := by decide +kernel
theorem dX5_init_73 : decode cX5_init 73 = .ok (.putfield 47, 3) := by decide +kernel
theorem dX5_init_76 : decode cX5_init 76 = .ok (.aload_n 0, 1) := by decide +kernel
theorem dX5_init_77 : decode cX5_init 77 = .ok (.new 44, 3) := by decide +kernel
theorem dX5_init_80 : decode cX5_init 80 = .ok (.dup, 1) := by decide +kernel
theorem dX5_init_81 : decode cX5_init 81 = .ok (.invokespecial 46, 3) := by decide +kernel
theorem dX5_init_84 : decode cX5_init 84 = .ok (.putfield 51, 3) := by decide +kernel
theorem dX5_init_87 : decode cX5_init 87 = .ok (.aload_n 0, 1) := by decide +kernel
theorem dX5_init_88 : decode cX5_init 88 = .ok (.new 54, 3) := by decide +kernel
theorem dX5_init_91 : decode cX5_init 91 = .ok (.dup, 1) := by decide +kernel
theorem dX5_init_92 : decode cX5_init 92 = .ok (.invokespecial 56, 3) := by decide +kernel
theorem dX5_init_95 : decode cX5_init 95 = .ok (.putfield 57, 3) := by decide +kernel
theorem dX5_init_98 : decode cX5_init 98 = .ok (.aload_n 0, 1) := by decide +kernel
theorem dX5_init_99 : decode cX5_init 99 = .ok (.getfield 13, 3) := by decide +kernel
theorem dX5_init_102 : decode cX5_init 102 = .ok (.sipush 255, 3) := by decide +kernel
theorem dX5_init_105 : decode cX5_init 105 = .ok (.invokestatic 61, 3) := by decide +kernel
theorem dX5_init_108 : decode cX5_init 108 = .ok (.aload_n 0, 1) := by decide +kernel
theorem dX5_init_109 : decode cX5_init 109 = .ok (.getfield 23, 3) := by decide +kernel
theorem dX5_init_112 : decode cX5_init 112 = .ok (.iconst (-1), 1) := by decide +kernel
theorem dX5_init_113 : decode cX5_init 113 = .ok (.invokestatic 61, 3) := by decide +kernel
theorem dX5_init_116 : decode cX5_init 116 = .ok (.iconst 0, 1) := by decide +kernel
theorem dX5_init_117 : decode cX5_init 117 = .ok (.istore_n 1, 1) := by decide +kernel
theorem dX5_init_118 : decode cX5_init 118 = .ok (.iload_n 1, 1) := by decide +kernel
theorem dX5_init_119 : decode cX5_init 119 = .ok (.bipush 8, 2) := by decide +kernel
theorem dX5_init_121 : decode cX5_init 121 = .ok (.if_icmp .ge 22, 3) := by decide +kernel
theorem dX5_init_124 : decode cX5_init 124 = .ok (.aload_n 0, 1) := by decide +kernel
theorem dX5_init_125 : decode cX5_init 125 = .ok (.getfield 19, 3) := by decide +kernel
theorem dX5_init_128 : decode cX5_init 128 = .ok (.iload_n 1, 1) := by decide +kernel
theorem dX5_init_129 : decode cX5_init 129 = .ok (.new 17, 3) := by decide +kernel
theorem dX5_init_132 : decode cX5_init 132 = .ok (.dup, 1) := by decide +kernel
theorem dX5_init_133 : decode cX5_init 133 = .ok (.invokespecial 67, 3) := by decide +kernel
theorem dX5_init_136 : decode cX5_init 136 = .ok (.aastore, 1) := by decide +kernel
theorem dX5_init_137 : decode cX5_init 137 = .ok (.iinc 1 1, 3) := by decide +kernel
theorem dX5_init_140 : decode cX5_init 140 = .ok (.goto (-22), 3) := by decide +kernel
theorem dX5_init_143 : decode cX5_init 143 = .ok (.iconst 0, 1) := by decide +kernel
theorem dX5_init_144 : decode cX5_init 144 = .ok (.istore_n 1, 1) := by decide +kernel
theorem dX5_init_145 : decode cX5_init 145 = .ok (.iload_n 1, 1) := by decide +kernel
theorem dX5_init_146 : decode cX5_init 146 = .ok (.bipush 12, 2) := by decide +kernel
theorem dX5_init_148 : decode cX5_init 148 = .ok (.if_icmp .ge 26, 3) := by decide +kernel
theorem dX5_init_151 : decode cX5_init 151 = .ok (.aload_n 0, 1) := by decide +kernel
theorem dX5_init_152 : decode cX5_init 152 = .ok (.getfield 31, 3) := by decide +kernel
theorem dX5_init_155 : decode cX5_init 155 = .ok (.iload_n 1, 1) := by decide +kernel
theorem dX5_init_156 : decode cX5_init 156 = .ok (.new 29, 3) := by decide +kernel
theorem dX5_init_159 : decode cX5_init 159 = .ok (.dup, 1) := by decide +kernel
theorem dX5_init_160 : decode cX5_init 160 = .ok (.bipush 10, 2) := by decide +kernel
theorem dX5_init_162 : decode cX5_init 162 = .ok (.iload_n 1, 1) := by decide +kernel
theorem dX5_init_163 : decode cX5_init 163 = .ok (.iadd, 1) := by decide +kernel
theorem dX5_init_164 : decode cX5_init 164 = .ok (.invokespecial 68, 3) := by decide +kernel
theorem dX5_init_167 : decode cX5_init 167 = .ok (.aastore, 1) := by decide +kernel
theorem dX5_init_168 : decode cX5_init 168 = .ok (.iinc 1 1, 3) := by decide +kernel
theorem dX5_init_171 : decode cX5_init 171 = .ok (.goto (-26), 3) := by decide +kernel
theorem dX5_init_174 : decode cX5_init 174 = .ok (.iconst 0, 1) := by decide +kernel
theorem dX5_init_175 : decode cX5_init 175 = .ok (.istore_n 1, 1) := by decide +kernel
theorem dX5_init_176 : decode cX5_init 176 = .ok (.iload_n 1, 1) := by decide +kernel
theorem dX5_init_177 : decode cX5_init 177 = .ok (.bipush 40, 2) := by decide +kernel
theorem dX5_init_179 : decode cX5_init 179 = .ok (.if_icmp .ge 22, 3) := by decide +kernel
theorem dX5_init_182 : decode cX5_init 182 = .ok (.aload_n 0, 1) := by decide +kernel
theorem dX5_init_183 : decode cX5_init 183 = .ok (.getfield 37, 3) := by decide +kernel
theorem dX5_init_186 : decode cX5_init 186 = .ok (.iload_n 1, 1) := by decide +kernel
theorem dX5_init_187 : decode cX5_init 187 = .ok (.new 35, 3) := by decide +kernel
theorem dX5_init_190 : decode cX5_init 190 = .ok (.dup, 1) := by decide +kernel
theorem dX5_init_191 : decode cX5_init 191 = .ok (.invokespecial 71, 3) := by decide +kernel
theorem dX5_init_194 : decode cX5_init 194 = .ok (.aastore, 1) := by decide +kernel
theorem dX5_init_195 : decode cX5_init 195 = .ok (.iinc 1 1, 3) := by decide +kernel
theorem dX5_init_198 : decode cX5_init 198 = .ok (.goto (-22), 3) := by decide +kernel
theorem dX5_init_201 : decode cX5_init 201 = .ok (.return_, 1) := by decide +kernel
theorem dX5_setDuty_0 : decode cX5_setDuty 0 = .ok (.iload_n 1, 1) := by decide +kernel
theorem dX5_setDuty_1 : decode cX5_setDuty 1 = .ok (.ifCond .lt 19, 3) := by decide +kernel
theorem dX5_setDuty_4 : decode cX5_setDuty 4 = .ok (.iload_n 1, 1) := by decide +kernel
theorem dX5_setDuty_5 : decode cX5_setDuty 5 = .ok (.iconst 4, 1) := by decide +kernel
theorem dX5_setDuty_6 : decode cX5_setDuty 6 = .ok (.if_icmp .ge 14, 3) := by decide +kernel
theorem dX5_setDuty_9 : decode cX5_setDuty 9 = .ok (.iload_n 2, 1) := by decide +kernel
theorem dX5_setDuty_10 : decode cX5_setDuty 10 = .ok (.ifCond .lt 10, 3) := by decide +kernel
theorem dX5_setDuty_13 : decode cX5_setDuty 13 = .ok (.iload_n 2, 1) := by decide +kernel
theorem dX5_setDuty_14 : decode cX5_setDuty 14 = .ok (.sipush 255, 3) := by decide +kernel
theorem dX5_setDuty_17 : decode cX5_setDuty 17 = .ok (.if_icmp .le 13, 3) := by decide +kernel
theorem dX5_setDuty_20 : decode cX5_setDuty 20 = .ok (.new 72, 3) := by decide +kernel
theorem dX5_setDuty_23 : decode cX5_setDuty 23 = .ok (.dup, 1) := by decide +kernel
theorem dX5_setDuty_24 : decode cX5_setDuty 24 = .ok (.ldc 74, 2) := by decide +kernel
theorem dX5_setDuty_26 : decode cX5_setDuty 26 = .ok (.invokespecial 76, 3) := by decide +kernel
theorem dX5_setDuty_29 : decode cX5_setDuty 29 = .ok (.athrow, 1) := by decide +kernel
theorem dX5_setDuty_30 : decode cX5_setDuty 30 = .ok (.aload_n 0, 1) := by decide +kernel
theorem dX5_setDuty_31 : decode cX5_setDuty 31 = .ok (.getfield 13, 3) := by decide +kernel
theorem dX5_setDuty_34 : decode cX5_setDuty 34 = .ok (.iload_n 1, 1) := by decide +kernel
theorem dX5_setDuty_35 : decode cX5_setDuty 35 = .ok (.iaload, 1) := by decide +kernel
theorem dX5_setDuty_36 : decode cX5_setDuty 36 = .ok (.istore_n 3, 1) := by decide +kernel
theorem dX5_setDuty_37 : decode cX5_setDuty 37 = .ok (.aload_n 0, 1) := by decide +kernel
theorem dX5_setDuty_38 : decode cX5_setDuty 38 = .ok (.getfield 13, 3) := by decide +kernel
theorem dX5_setDuty_41 : decode cX5_setDuty 41 = .ok (.iload_n 1, 1) := by decide +kernel
theorem dX5_setDuty_42 : decode cX5_setDuty 42 = .ok (.iload_n 2, 1) := by decide +kernel
theorem dX5_setDuty_43 : decode cX5_setDuty 43 = .ok (.iastore, 1) := by decide +kernel
theorem dX5_setDuty_44 : decode cX5_setDuty 44 = .ok (.iload_n 3, 1) := by decide +kernel
theorem dX5_setDuty_45 : decode cX5_setDuty 45 = .ok (.ireturn, 1) := by decide +kernel
theorem dX5_leave_0 : decode cX5_leave 0 = .ok (.iload_n 1, 1) := by decide +kernel
theorem dX5_leave_1 : decode cX5_leave 1 = .ok (.invokestatic 79, 3) := by decide +kernel
theorem dX5_leave_4 : decode cX5_leave 4 = .ok (.aload_n 0, 1) := by decide +kernel
theorem dX5_leave_5 : decode cX5_leave 5 = .ok (.getfield 19, 3) := by decide +kernel
theorem dX5_leave_8 : decode cX5_leave 8 = .ok (.iload_n 1, 1) := by decide +kernel
theorem dX5_leave_9 : decode cX5_leave 9 = .ok (.aaload, 1) := by decide +kernel
theorem dX5_leave_10 : decode cX5_leave 10 = .ok (.astore_n 3, 1) := by decide +kernel
theorem dX5_leave_11 : decode cX5_leave 11 = .ok (.aload_n 3, 1) := by decide +kernel
theorem dX5_leave_12 : decode cX5_leave 12 = .ok (.getfield 82, 3) := by decide +kernel
theorem dX5_leave_15 : decode cX5_leave 15 = .ok (.ifCond .ne 13, 3) := by decide +kernel
theorem dX5_leave_18 : decode cX5_leave 18 = .ok (.new 86, 3) := by decide +kernel
theorem dX5_leave_21 : decode cX5_leave 21 = .ok (.dup, 1) := by decide +kernel
theorem dX5_leave_22 : decode cX5_leave 22 = .ok (.ldc 88, 2) := by decide +kernel
theorem dX5_leave_24 : decode cX5_leave 24 = .ok (.invokespecial 90, 3) := by decide +kernel
theorem dX5_leave_27 : decode cX5_leave 27 = .ok (.athrow, 1) := by decide +kernel
theorem dX5_leave_28 : decode cX5_leave 28 = .ok (.aload_n 3, 1) := by decide +kernel
theorem dX5_leave_29 : decode cX5_leave 29 = .ok (.iconst 0, 1) := by decide +kernel
theorem dX5_leave_30 : decode cX5_leave 30 = .ok (.putfield 82, 3) := by decide +kernel
theorem dX5_leave_33 : decode cX5_leave 33 = .ok (.iload_n 2, 1) := by decide +kernel
theorem dX5_leave_34 : decode cX5_leave 34 = .ok (.ifCond .ne 5, 3) := by decide +kernel
theorem dX5_leave_37 : decode cX5_leave 37 = .ok (.iconst 0, 1) := by decide +kernel
theorem dX5_leave_38 : decode cX5_leave 38 = .ok (.ireturn, 1) := by decide +kernel
theorem dX5_leave_39 : decode cX5_leave 39 = .ok (.aload_n 0, 1) := by decide +kernel
theorem dX5_leave_40 : decode cX5_leave 40 = .ok (.dup, 1) := by decide +kernel
theorem dX5_leave_41 : decode cX5_leave 41 = .ok (.getfield 91, 3) := by decide +kernel
theorem dX5_leave_44 : decode cX5_leave 44 = .ok (.iconst 1, 1) := by decide +kernel
theorem dX5_leave_45 : decode cX5_leave 45 = .ok (.iadd, 1) := by decide +kernel
theorem dX5_leave_46 : decode cX5_leave 46 = .ok (.putfield 91, 3) := by decide +kernel
theorem dX5_leave_49 : decode cX5_leave 49 = .ok (.aload_n 3, 1) := by decide +kernel
theorem dX5_leave_50 : decode cX5_leave 50 = .ok (.iconst 1, 1) := by decide +kernel
theorem dX5_leave_51 : decode cX5_leave 51 = .ok (.putfield 94, 3) := by decide +kernel
theorem dX5_leave_54 : decode cX5_leave 54 = .ok (.aload_n 3, 1) := by decide +kernel
theorem dX5_leave_55 : decode cX5_leave 55 = .ok (.aload_n 0, 1) := by decide +kernel
theorem dX5_leave_56 : decode cX5_leave 56 = .ok (.getfield 97, 3) := by decide +kernel
theorem dX5_leave_59 : decode cX5_leave 59 = .ok (.putfield 100, 3) := by decide +kernel
theorem dX5_leave_62 : decode cX5_leave 62 = .ok (.aload_n 3, 1) := by decide +kernel
theorem dX5_leave_63 : decode cX5_leave 63 = .ok (.aload_n 0, 1) := by decide +kernel
theorem dX5_leave_64 : decode cX5_leave 64 = .ok (.getfield 91, 3) := by decide +kernel
theorem dX5_leave_67 : decode cX5_leave 67 = .ok (.putfield 103, 3) := by decide +kernel
theorem dX5_leave_70 : decode cX5_leave 70 = .ok (.aload_n 0, 1) := by decide +kernel
theorem dX5_leave_71 : decode cX5_leave 71 = .ok (.iload_n 1, 1) := by decide +kernel
theorem dX5_leave_72 : decode cX5_leave 72 = .ok (.invokevirtual 106, 3) := by decide +kernel
theorem dX5_leave_75 : decode cX5_leave 75 = .ok (.ireturn, 1) := by decide +kernel
theorem dX5_comeBack_0 : decode cX5_comeBack 0 = .ok (.iload_n 1, 1) := by decide +kernel
theorem dX5_comeBack_1 : decode cX5_comeBack 1 = .ok (.invokestatic 79, 3) := by decide +kernel
theorem dX5_comeBack_4 : decode cX5_comeBack 4 = .ok (.aload_n 0, 1) := by decide +kernel
theorem dX5_comeBack_5 : decode cX5_comeBack 5 = .ok (.getfield 19, 3) := by decide +kernel
theorem dX5_comeBack_8 : decode cX5_comeBack 8 = .ok (.iload_n 1, 1) := by decide +kernel
theorem dX5_comeBack_9 : decode cX5_comeBack 9 = .ok (.aaload, 1) := by decide +kernel
theorem dX5_comeBack_10 : decode cX5_comeBack 10 = .ok (.astore_n 2, 1) := by decide +kernel
theorem dX5_comeBack_11 : decode cX5_comeBack 11 = .ok (.aload_n 2, 1) := by decide +kernel
theorem dX5_comeBack_12 : decode cX5_comeBack 12 = .ok (.getfield 82, 3) := by decide +kernel
theorem dX5_comeBack_15 : decode cX5_comeBack 15 = .ok (.ifCond .ne 10, 3) := by decide +kernel
theorem dX5_comeBack_18 : decode cX5_comeBack 18 = .ok (.aload_n 2, 1) := by decide +kernel
theorem dX5_comeBack_19 : decode cX5_comeBack 19 = .ok (.getfield 94, 3) := by decide +kernel
theorem dX5_comeBack_22 : decode cX5_comeBack 22 = .ok (.ifCond .eq 13, 3) := by decide +kernel
theorem dX5_comeBack_25 : decode cX5_comeBack 25 = .ok (.new 86, 3) := by decide +kernel
theorem dX5_comeBack_28 : decode cX5_comeBack 28 = .ok (.dup, 1) := by decide +kernel
theorem dX5_comeBack_29 : decode cX5_comeBack 29 = .ok (.ldc 110, 2) := by decide +kernel
theorem dX5_comeBack_31 : decode cX5_comeBack 31 = .ok (.invokespecial 90, 3) := by decide +kernel
theorem dX5_comeBack_34 : decode cX5_comeBack 34 = .ok (.athrow, 1) := by decide +kernel
theorem dX5_comeBack_35 : decode cX5_comeBack 35 = .ok (.aload_n 2, 1) := by decide +kernel
theorem dX5_comeBack_36 : decode cX5_comeBack 36 = .ok (.iconst 1, 1) := by decide +kernel
theorem dX5_comeBack_37 : decode cX5_comeBack 37 = .ok (.putfield 82, 3) := by decide +kernel
theorem dX5_comeBack_40 : decode cX5_comeBack 40 = .ok (.return_, 1) := by decide +kernel
theorem dX5_pass_0 : decode cX5_pass 0 = .ok (.iload_n 1, 1) := by decide +kernel
theorem dX5_pass_1 : decode cX5_pass 1 = .ok (.iconst 1, 1) := by decide +kernel
theorem dX5_pass_2 : decode cX5_pass 2 = .ok (.if_icmp .lt 9, 3) := by decide +kernel
theorem dX5_pass_5 : decode cX5_pass 5 = .ok (.iload_n 1, 1) := by decide +kernel
theorem dX5_pass_6 : decode cX5_pass 6 = .ok (.bipush 60, 2) := by decide +kernel
theorem dX5_pass_8 : decode cX5_pass 8 = .ok (.if_icmp .le 13, 3) := by decide +kernel
theorem dX5_pass_11 : decode cX5_pass 11 = .ok (.new 72, 3) := by decide +kernel
theorem dX5_pass_14 : decode cX5_pass 14 = .ok (.dup, 1) := by decide +kernel
theorem dX5_pass_15 : decode cX5_pass 15 = .ok (.ldc 112, 2) := by decide +kernel
theorem dX5_pass_17 : decode cX5_pass 17 = .ok (.invokespecial 76, 3) := by decide +kernel
theorem dX5_pass_20 : decode cX5_pass 20 = .ok (.athrow, 1) := by decide +kernel
theorem dX5_pass_21 : decode cX5_pass 21 = .ok (.iconst 0, 1) := by decide +kernel
theorem dX5_pass_22 : decode cX5_pass 22 = .ok (.istore_n 2, 1) := by decide +kernel
theorem dX5_pass_23 : decode cX5_pass 23 = .ok (.iload_n 1, 1) := by decide +kernel
theorem dX5_pass_24 : decode cX5_pass 24 = .ok (.iconst 1, 1) := by decide +kernel
theorem dX5_pass_25 : decode cX5_pass 25 = .ok (.isub, 1) := by decide +kernel
theorem dX5_pass_26 : decode cX5_pass 26 = .ok (.istore_n 3, 1) := by decide +kernel
theorem dX5_pass_27 : decode cX5_pass 27 = .ok (.iload_n 3, 1) := by decide +kernel
theorem dX5_pass_28 : decode cX5_pass 28 = .ok (.ifCond .lt 55, 3) := by decide +kernel
theorem dX5_pass_31 : decode cX5_pass 31 = .ok (.aload_n 0, 1) := by decide +kernel
theorem dX5_pass_32 : decode cX5_pass 32 = .ok (.dup, 1) := by decide +kernel
theorem dX5_pass_33 : decode cX5_pass 33 = .ok (.getfield 97, 3) := by decide +kernel
theorem dX5_pass_36 : decode cX5_pass 36 = .ok (.iconst 1, 1) := by decide +kernel
theorem dX5_pass_37 : decode cX5_pass 37 = .ok (.iadd, 1) := by decide +kernel
theorem dX5_pass_38 : decode cX5_pass 38 = .ok (.putfield 97, 3) := by decide +kernel
theorem dX5_pass_41 : decode cX5_pass 41 = .ok (.aload_n 0, 1) := by decide +kernel
theorem dX5_pass_42 : decode cX5_pass 42 = .ok (.invokevirtual 114, 3) := by decide +kernel
theorem dX5_pass_45 : decode cX5_pass 45 = .ok (.istore 4, 2) := by decide +kernel
theorem dX5_pass_47 : decode cX5_pass 47 = .ok (.iload_n 2, 1) := by decide +kernel
theorem dX5_pass_48 : decode cX5_pass 48 = .ok (.iload 4, 2) := by decide +kernel
theorem dX5_pass_50 : decode cX5_pass 50 = .ok (.iadd, 1) := by decide +kernel
theorem dX5_pass_51 : decode cX5_pass 51 = .ok (.istore_n 2, 1) := by decide +kernel
theorem dX5_pass_52 : decode cX5_pass 52 = .ok (.iload 4, 2) := by decide +kernel
theorem dX5_pass_54 : decode cX5_pass 54 = .ok (.ifCond .ne 23, 3) := by decide +kernel
theorem dX5_pass_57 : decode cX5_pass 57 = .ok (.aload_n 0, 1) := by decide +kernel
theorem dX5_pass_58 : decode cX5_pass 58 = .ok (.invokevirtual 118, 3) := by decide +kernel
theorem dX5_pass_61 : decode cX5_pass 61 = .ok (.ifCond .ne 16, 3) := by decide +kernel
theorem dX5_pass_64 : decode cX5_pass 64 = .ok (.aload_n 0, 1) := by decide +kernel
theorem dX5_pass_65 : decode cX5_pass 65 = .ok (.dup, 1) := by decide +kernel
theorem dX5_pass_66 : decode cX5_pass 66 = .ok (.getfield 97, 3) := by decide +kernel
theorem dX5_pass_69 : decode cX5_pass 69 = .ok (.iload_n 3, 1) := by decide +kernel
theorem dX5_pass_70 : decode cX5_pass 70 = .ok (.iadd, 1) := by decide +kernel
theorem dX5_pass_71 : decode cX5_pass 71 = .ok (.putfield 97, 3) := by decide +kernel
theorem dX5_pass_74 : decode cX5_pass 74 = .ok (.goto 9, 3) := by decide +kernel
theorem dX5_pass_77 : decode cX5_pass 77 = .ok (.iinc 3 (-1), 3) := by decide +kernel
theorem dX5_pass_80 : decode cX5_pass 80 = .ok (.goto (-53), 3) := by decide +kernel
theorem dX5_pass_83 : decode cX5_pass 83 = .ok (.iload_n 2, 1) := by decide +kernel
theorem dX5_pass_84 : decode cX5_pass 84 = .ok (.ireturn, 1) := by decide +kernel
theorem dX5_day_0 : decode cX5_day 0 = .ok (.aload_n 0, 1) := by decide +kernel
theorem dX5_day_1 : decode cX5_day 1 = .ok (.getfield 97, 3) := by decide +kernel
theorem dX5_day_4 : decode cX5_day 4 = .ok (.ireturn, 1) := by decide +kernel
theorem dX5_addGroup_0 : decode cX5_addGroup 0 = .ok (.aload_n 0, 1) := by decide +kernel
theorem dX5_addGroup_1 : decode cX5_addGroup 1 = .ok (.iload_n 1, 1) := by decide +kernel
theorem dX5_addGroup_2 : decode cX5_addGroup 2 = .ok (.invokevirtual 122, 3) := by decide +kernel
theorem dX5_addGroup_5 : decode cX5_addGroup 5 = .ok (.aload_n 0, 1) := by decide +kernel
theorem dX5_addGroup_6 : decode cX5_addGroup 6 = .ok (.getfield 26, 3) := by decide +kernel
theorem dX5_addGroup_9 : decode cX5_addGroup 9 = .ok (.bipush 10, 2) := by decide +kernel
theorem dX5_addGroup_11 : decode cX5_addGroup 11 = .ok (.if_icmp .lt 13, 3) := by decide +kernel
theorem dX5_addGroup_14 : decode cX5_addGroup 14 = .ok (.new 86, 3) := by decide +kernel
theorem dX5_addGroup_17 : decode cX5_addGroup 17 = .ok (.dup, 1) := by decide +kernel
theorem dX5_addGroup_18 : decode cX5_addGroup 18 = .ok (.ldc 125, 2) := by decide +kernel
theorem dX5_addGroup_20 : decode cX5_addGroup 20 = .ok (.invokespecial 90, 3) := by decide +kernel
theorem dX5_addGroup_23 : decode cX5_addGroup 23 = .ok (.athrow, 1) := by decide +kernel
theorem dX5_addGroup_24 : decode cX5_addGroup 24 = .ok (.aload_n 0, 1) := by decide +kernel
theorem dX5_addGroup_25 : decode cX5_addGroup 25 = .ok (.getfield 26, 3) := by decide +kernel
theorem dX5_addGroup_28 : decode cX5_addGroup 28 = .ok (.istore_n 2, 1) := by decide +kernel
theorem dX5_addGroup_29 : decode cX5_addGroup 29 = .ok (.aload_n 0, 1) := by decide +kernel
theorem dX5_addGroup_30 : decode cX5_addGroup 30 = .ok (.getfield 23, 3) := by decide +kernel
theorem dX5_addGroup_33 : decode cX5_addGroup 33 = .ok (.iload_n 2, 1) := by decide +kernel
theorem dX5_addGroup_34 : decode cX5_addGroup 34 = .ok (.iload_n 1, 1) := by decide +kernel
theorem dX5_addGroup_35 : decode cX5_addGroup 35 = .ok (.iastore, 1) := by decide +kernel
theorem dX5_addGroup_36 : decode cX5_addGroup 36 = .ok (.aload_n 0, 1) := by decide +kernel
theorem dX5_addGroup_37 : decode cX5_addGroup 37 = .ok (.dup, 1) := by decide +kernel
theorem dX5_addGroup_38 : decode cX5_addGroup 38 = .ok (.getfield 26, 3) := by decide +kernel
theorem dX5_addGroup_41 : decode cX5_addGroup 41 = .ok (.iconst 1, 1) := by decide +kernel
theorem dX5_addGroup_42 : decode cX5_addGroup 42 = .ok (.iadd, 1) := by decide +kernel
theorem dX5_addGroup_43 : decode cX5_addGroup 43 = .ok (.putfield 26, 3) := by decide +kernel
theorem dX5_addGroup_46 : decode cX5_addGroup 46 = .ok (.iload_n 2, 1) := by decide +kernel
theorem dX5_addGroup_47 : decode cX5_addGroup 47 = .ok (.ireturn, 1) := by decide +kernel
theorem dX5_addMachine_0 : decode cX5_addMachine 0 = .ok (.aload_n 0, 1) := by decide +kernel
theorem dX5_addMachine_1 : decode cX5_addMachine 1 = .ok (.iload_n 1, 1) := by decide +kernel
theorem dX5_addMachine_2 : decode cX5_addMachine 2 = .ok (.invokevirtual 122, 3) := by decide +kernel
theorem dX5_addMachine_5 : decode cX5_addMachine 5 = .ok (.aload_n 0, 1) := by decide +kernel
theorem dX5_addMachine_6 : decode cX5_addMachine 6 = .ok (.getfield 127, 3) := by decide +kernel
theorem dX5_addMachine_9 : decode cX5_addMachine 9 = .ok (.bipush 12, 2) := by decide +kernel
theorem dX5_addMachine_11 : decode cX5_addMachine 11 = .ok (.if_icmp .lt 13, 3) := by decide +kernel
theorem dX5_addMachine_14 : decode cX5_addMachine 14 = .ok (.new 86, 3) := by decide +kernel
theorem dX5_addMachine_17 : decode cX5_addMachine 17 = .ok (.dup, 1) := by decide +kernel
theorem dX5_addMachine_18 : decode cX5_addMachine 18 = .ok (.ldc 130, 2) := by decide +kernel
theorem dX5_addMachine_20 : decode cX5_addMachine 20 = .ok (.invokespecial 90, 3) := by decide +kernel
theorem dX5_addMachine_23 : decode cX5_addMachine 23 = .ok (.athrow, 1) := by decide +kernel
theorem dX5_addMachine_24 : decode cX5_addMachine 24 = .ok (.aload_n 0, 1) := by decide +kernel
theorem dX5_addMachine_25 : decode cX5_addMachine 25 = .ok (.getfield 127, 3) := by decide +kernel
theorem dX5_addMachine_28 : decode cX5_addMachine 28 = .ok (.istore_n 2, 1) := by decide +kernel
theorem dX5_addMachine_29 : decode cX5_addMachine 29 = .ok (.aload_n 0, 1) := by decide +kernel
theorem dX5_addMachine_30 : decode cX5_addMachine 30 = .ok (.getfield 31, 3) := by decide +kernel
theorem dX5_addMachine_33 : decode cX5_addMachine 33 = .ok (.iload_n 2, 1) := by decide +kernel
theorem dX5_addMachine_34 : decode cX5_addMachine 34 = .ok (.aaload, 1) := by decide +kernel
theorem dX5_addMachine_35 : decode cX5_addMachine 35 = .ok (.iload_n 1, 1) := by decide +kernel
theorem dX5_addMachine_36 : decode cX5_addMachine 36 = .ok (.aload_n 0, 1) := by decide +kernel
theorem dX5_addMachine_37 : decode cX5_addMachine 37 = .ok (.getfield 23, 3) := by decide +kernel
theorem dX5_addMachine_40 : decode cX5_addMachine 40 = .ok (.invokevirtual 132, 3) := by decide +kernel
theorem dX5_addMachine_43 : decode cX5_addMachine 43 = .ok (.aload_n 0, 1) := by decide +kernel
theorem dX5_addMachine_44 : decode cX5_addMachine 44 = .ok (.dup, 1) := by decide +kernel
theorem dX5_addMachine_45 : decode cX5_addMachine 45 = .ok (.getfield 127, 3) := by decide +kernel
theorem dX5_addMachine_48 : decode cX5_addMachine 48 = .ok (.iconst 1, 1) := by decide +kernel
theorem dX5_addMachine_49 : decode cX5_addMachine 49 = .ok (.iadd, 1) := by decide +kernel
theorem dX5_addMachine_50 : decode cX5_addMachine 50 = .ok (.putfield 127, 3) := by decide +kernel
theorem dX5_addMachine_53 : decode cX5_addMachine 53 = .ok (.iload_n 2, 1) := by decide +kernel
theorem dX5_addMachine_54 : decode cX5_addMachine 54 = .ok (.ireturn, 1) := by decide +kernel
theorem dX5_moveMachine_0 : decode cX5_moveMachine 0 = .ok (.aload_n 0, 1) := by decide +kernel
theorem dX5_moveMachine_1 : decode cX5_moveMachine 1 = .ok (.iload_n 1, 1) := by decide +kernel
theorem dX5_moveMachine_2 : decode cX5_moveMachine 2 = .ok (.invokevirtual 136, 3) := by decide +kernel
theorem dX5_moveMachine_5 : decode cX5_moveMachine 5 = .ok (.aload_n 0, 1) := by decide +kernel
theorem dX5_moveMachine_6 : decode cX5_moveMachine 6 = .ok (.iload_n 2, 1) := by decide +kernel
theorem dX5_moveMachine_7 : decode cX5_moveMachine 7 = .ok (.invokevirtual 122, 3) := by decide +kernel
theorem dX5_moveMachine_10 : decode cX5_moveMachine 10 = .ok (.aload_n 0, 1) := by decide +kernel
theorem dX5_moveMachine_11 : decode cX5_moveMachine 11 = .ok (.getfield 31, 3) := by decide +kernel
theorem dX5_moveMachine_14 : decode cX5_moveMachine 14 = .ok (.iload_n 1, 1) := by decide +kernel
theorem dX5_moveMachine_15 : decode cX5_moveMachine 15 = .ok (.aaload, 1) := by decide +kernel
theorem dX5_moveMachine_16 : decode cX5_moveMachine 16 = .ok (.astore_n 3, 1) := by decide +kernel
theorem dX5_moveMachine_17 : decode cX5_moveMachine 17 = .ok (.aload_n 3, 1) := by decide +kernel
theorem dX5_moveMachine_18 : decode cX5_moveMachine 18 = .ok (.getfield 139, 3) := by decide +kernel
theorem dX5_moveMachine_21 : decode cX5_moveMachine 21 = .ok (.aload_n 0, 1) := by decide +kernel
theorem dX5_moveMachine_22 : decode cX5_moveMachine 22 = .ok (.getfield 97, 3) := by decide +kernel
theorem dX5_moveMachine_25 : decode cX5_moveMachine 25 = .ok (.if_icmp .le 13, 3) := by decide +kernel
theorem dX5_moveMachine_28 : decode cX5_moveMachine 28 = .ok (.new 86, 3) := by decide +kernel
theorem dX5_moveMachine_31 : decode cX5_moveMachine 31 = .ok (.dup, 1) := by decide +kernel
theorem dX5_moveMachine_32 : decode cX5_moveMachine 32 = .ok (.ldc 142, 2) := by decide +kernel
theorem dX5_moveMachine_34 : decode cX5_moveMachine 34 = .ok (.invokespecial 90, 3) := by decide +kernel
theorem dX5_moveMachine_37 : decode cX5_moveMachine 37 = .ok (.athrow, 1) := by decide +kernel
theorem dX5_moveMachine_38 : decode cX5_moveMachine 38 = .ok (.aload_n 3, 1) := by decide +kernel
theorem dX5_moveMachine_39 : decode cX5_moveMachine 39 = .ok (.getfield 144, 3) := by decide +kernel
theorem dX5_moveMachine_42 : decode cX5_moveMachine 42 = .ok (.istore 4, 2) := by decide +kernel
theorem dX5_moveMachine_44 : decode cX5_moveMachine 44 = .ok (.aload_n 3, 1) := by decide +kernel
theorem dX5_moveMachine_45 : decode cX5_moveMachine 45 = .ok (.iload_n 2, 1) := by decide +kernel
theorem dX5_moveMachine_46 : decode cX5_moveMachine 46 = .ok (.aload_n 0, 1) := by decide +kernel
theorem dX5_moveMachine_47 : decode cX5_moveMachine 47 = .ok (.getfield 23, 3) := by decide +kernel
theorem dX5_moveMachine_50 : decode cX5_moveMachine 50 = .ok (.invokevirtual 132, 3) := by decide +kernel
theorem dX5_moveMachine_53 : decode cX5_moveMachine 53 = .ok (.iload 4, 2) := by decide +kernel
theorem dX5_moveMachine_55 : decode cX5_moveMachine 55 = .ok (.ireturn, 1) := by decide +kernel
theorem dX5_work_0 : decode cX5_work 0 = .ok (.aload_n 0, 1) := by decide +kernel
theorem dX5_work_1 : decode cX5_work 1 = .ok (.iload_n 1, 1) := by decide +kernel
theorem dX5_work_2 : decode cX5_work 2 = .ok (.invokevirtual 136, 3) := by decide +kernel
theorem dX5_work_5 : decode cX5_work 5 = .ok (.iload_n 2, 1) := by decide +kernel
theorem dX5_work_6 : decode cX5_work 6 = .ok (.iconst 1, 1) := by decide +kernel
theorem dX5_work_7 : decode cX5_work 7 = .ok (.if_icmp .lt 9, 3) := by decide +kernel
theorem dX5_work_10 : decode cX5_work 10 = .ok (.iload_n 2, 1) := by decide +kernel
theorem dX5_work_11 : decode cX5_work 11 = .ok (.bipush 30, 2) := by decide +kernel
theorem dX5_work_13 : decode cX5_work 13 = .ok (.if_icmp .le 13, 3) := by decide +kernel
theorem dX5_work_16 : decode cX5_work 16 = .ok (.new 72, 3) := by decide +kernel
theorem dX5_work_19 : decode cX5_work 19 = .ok (.dup, 1) := by decide +kernel
theorem dX5_work_20 : decode cX5_work 20 = .ok (.ldc 112, 2) := by decide +kernel
theorem dX5_work_22 : decode cX5_work 22 = .ok (.invokespecial 76, 3) := by decide +kernel
theorem dX5_work_25 : decode cX5_work 25 = .ok (.athrow, 1) := by decide +kernel
theorem dX5_work_26 : decode cX5_work 26 = .ok (.aload_n 0, 1) := by decide +kernel
theorem dX5_work_27 : decode cX5_work 27 = .ok (.getfield 31, 3) := by decide +kernel
theorem dX5_work_30 : decode cX5_work 30 = .ok (.iload_n 1, 1) := by decide +kernel
theorem dX5_work_31 : decode cX5_work 31 = .ok (.aaload, 1) := by decide +kernel
theorem dX5_work_32 : decode cX5_work 32 = .ok (.astore_n 3, 1) := by decide +kernel
theorem dX5_work_33 : decode cX5_work 33 = .ok (.aload_n 3, 1) := by decide +kernel
theorem dX5_work_34 : decode cX5_work 34 = .ok (.getfield 139, 3) := by decide +kernel
theorem dX5_work_37 : decode cX5_work 37 = .ok (.aload_n 0, 1) := by decide +kernel
theorem dX5_work_38 : decode cX5_work 38 = .ok (.getfield 97, 3) := by decide +kernel
theorem dX5_work_41 : decode cX5_work 41 = .ok (.if_icmp .gt 12, 3) := by decide +kernel
theorem dX5_work_44 : decode cX5_work 44 = .ok (.aload_n 0, 1) := by decide +kernel
theorem dX5_work_45 : decode cX5_work 45 = .ok (.aload_n 3, 1) := by decide +kernel
theorem dX5_work_46 : decode cX5_work 46 = .ok (.invokevirtual 147, 3) := by decide +kernel
theorem dX5_work_49 : decode cX5_work 49 = .ok (.iconst (-1), 1) := by decide +kernel
theorem dX5_work_50 : decode cX5_work 50 = .ok (.if_icmp .eq 13, 3) := by decide +kernel
theorem dX5_work_53 : decode cX5_work 53 = .ok (.new 86, 3) := by decide +kernel
theorem dX5_work_56 : decode cX5_work 56 = .ok (.dup, 1) := by decide +kernel
theorem dX5_work_57 : decode cX5_work 57 = .ok (.ldc 151, 2) := by decide +kernel
theorem dX5_work_59 : decode cX5_work 59 = .ok (.invokespecial 90, 3) := by decide +kernel
theorem dX5_work_62 : decode cX5_work 62 = .ok (.athrow, 1) := by decide +kernel
theorem dX5_work_63 : decode cX5_work 63 = .ok (.aload_n 3, 1) := by decide +kernel
theorem dX5_work_64 : decode cX5_work 64 = .ok (.aload_n 0, 1) := by decide +kernel
theorem dX5_work_65 : decode cX5_work 65 = .ok (.getfield 97, 3) := by decide +kernel
theorem dX5_work_68 : decode cX5_work 68 = .ok (.iload_n 2, 1) := by decide +kernel
theorem dX5_work_69 : decode cX5_work 69 = .ok (.iadd, 1) := by decide +kernel
theorem dX5_work_70 : decode cX5_work 70 = .ok (.putfield 139, 3) := by decide +kernel
theorem dX5_work_73 : decode cX5_work 73 = .ok (.aload_n 3, 1) := by decide +kernel
theorem dX5_work_74 : decode cX5_work 74 = .ok (.getfield 139, 3) := by decide +kernel
theorem dX5_work_77 : decode cX5_work 77 = .ok (.ireturn, 1) := by decide +kernel
theorem dX5_setPace_0 : decode cX5_setPace 0 = .ok (.iload_n 1, 1) := by decide +kernel
theorem dX5_setPace_1 : decode cX5_setPace 1 = .ok (.ifCond .lt 9, 3) := by decide +kernel
theorem dX5_setPace_4 : decode cX5_setPace 4 = .ok (.iload_n 1, 1) := by decide +kernel
theorem dX5_setPace_5 : decode cX5_setPace 5 = .ok (.bipush 12, 2) := by decide +kernel
theorem dX5_setPace_7 : decode cX5_setPace 7 = .ok (.if_icmp .le 13, 3) := by decide +kernel
theorem dX5_setPace_10 : decode cX5_setPace 10 = .ok (.new 72, 3) := by decide +kernel
theorem dX5_setPace_13 : decode cX5_setPace 13 = .ok (.dup, 1) := by decide +kernel
theorem dX5_setPace_14 : decode cX5_setPace 14 = .ok (.ldc 153, 2) := by decide +kernel
theorem dX5_setPace_16 : decode cX5_setPace 16 = .ok (.invokespecial 76, 3) := by decide +kernel
theorem dX5_setPace_19 : decode cX5_setPace 19 = .ok (.athrow, 1) := by decide +kernel
theorem dX5_setPace_20 : decode cX5_setPace 20 = .ok (.aload_n 0, 1) := by decide +kernel
theorem dX5_setPace_21 : decode cX5_setPace 21 = .ok (.getfield 9, 3) := by decide +kernel
theorem dX5_setPace_24 : decode cX5_setPace 24 = .ok (.istore_n 2, 1) := by decide +kernel
theorem dX5_setPace_25 : decode cX5_setPace 25 = .ok (.aload_n 0, 1) := by decide +kernel
theorem dX5_setPace_26 : decode cX5_setPace 26 = .ok (.iload_n 1, 1) := by decide +kernel
theorem dX5_setPace_27 : decode cX5_setPace 27 = .ok (.putfield 9, 3) := by decide +kernel
theorem dX5_setPace_30 : decode cX5_setPace 30 = .ok (.iload_n 2, 1) := by decide +kernel
theorem dX5_setPace_31 : decode cX5_setPace 31 = .ok (.ireturn, 1) := by decide +kernel
theorem dX5_isBusy_0 : decode cX5_isBusy 0 = .ok (.aload_n 0, 1) := by decide +kernel
theorem dX5_isBusy_1 : decode cX5_isBusy 1 = .ok (.iload_n 1, 1) := by decide +kernel
theorem dX5_isBusy_2 : decode cX5_isBusy 2 = .ok (.invokevirtual 136, 3) := by decide +kernel
theorem dX5_isBusy_5 : decode cX5_isBusy 5 = .ok (.aload_n 0, 1) := by decide +kernel
theorem dX5_isBusy_6 : decode cX5_isBusy 6 = .ok (.getfield 31, 3) := by decide +kernel
theorem dX5_isBusy_9 : decode cX5_isBusy 9 = .ok (.iload_n 1, 1) := by decide +kernel
theorem dX5_isBusy_10 : decode cX5_isBusy 10 = .ok (.aaload, 1) := by decide +kernel
theorem dX5_isBusy_11 : decode cX5_isBusy 11 = .ok (.getfield 139, 3) := by decide +kernel
theorem dX5_isBusy_14 : decode cX5_isBusy 14 = .ok (.aload_n 0, 1) := by decide +kernel
theorem dX5_isBusy_15 : decode cX5_isBusy 15 = .ok (.getfield 97, 3) := by decide +kernel
theorem dX5_isBusy_18 : decode cX5_isBusy 18 = .ok (.if_icmp .le 7, 3) := by decide +kernel
theorem dX5_isBusy_21 : decode cX5_isBusy 21 = .ok (.iconst 1, 1) := by decide +kernel
theorem dX5_isBusy_22 : decode cX5_isBusy 22 = .ok (.goto 4, 3) := by decide +kernel
theorem dX5_isBusy_25 : decode cX5_isBusy 25 = .ok (.iconst 0, 1) := by decide +kernel
theorem dX5_isBusy_26 : decode cX5_isBusy 26 = .ok (.ireturn, 1) := by decide +kernel
theorem dX5_isStopped_0 : decode cX5_isStopped 0 = .ok (.aload_n 0, 1) := by decide +kernel
theorem dX5_isStopped_1 : decode cX5_isStopped 1 = .ok (.iload_n 1, 1) := by decide +kernel
theorem dX5_isStopped_2 : decode cX5_isStopped 2 = .ok (.invokevirtual 136, 3) := by decide +kernel
theorem dX5_isStopped_5 : decode cX5_isStopped 5 = .ok (.aload_n 0, 1) := by decide +kernel
theorem dX5_isStopped_6 : decode cX5_isStopped 6 = .ok (.aload_n 0, 1) := by decide +kernel
theorem dX5_isStopped_7 : decode cX5_isStopped 7 = .ok (.getfield 31, 3) := by decide +kernel
theorem dX5_isStopped_10 : decode cX5_isStopped 10 = .ok (.iload_n 1, 1) := by decide +kernel
theorem dX5_isStopped_11 : decode cX5_isStopped 11 = .ok (.aaload, 1) := by decide +kernel
theorem dX5_isStopped_12 : decode cX5_isStopped 12 = .ok (.invokevirtual 147, 3) := by decide +kernel
theorem dX5_isStopped_15 : decode cX5_isStopped 15 = .ok (.iconst (-1), 1) := by decide +kernel
theorem dX5_isStopped_16 : decode cX5_isStopped 16 = .ok (.if_icmp .eq 7, 3) := by decide +kernel
theorem dX5_isStopped_19 : decode cX5_isStopped 19 = .ok (.iconst 1, 1) := by decide +kernel
theorem dX5_isStopped_20 : decode cX5_isStopped 20 = .ok (.goto 4, 3) := by decide +kernel
theorem dX5_isStopped_23 : decode cX5_isStopped 23 = .ok (.iconst 0, 1) := by decide +kernel
theorem dX5_isStopped_24 : decode cX5_isStopped 24 = .ok (.ireturn, 1) := by decide +kernel
theorem dX5_propose_0 : decode cX5_propose 0 = .ok (.iload_n 1, 1) := by decide +kernel
theorem dX5_propose_1 : decode cX5_propose 1 = .ok (.invokestatic 79, 3) := by decide +kernel
theorem dX5_propose_4 : decode cX5_propose 4 = .ok (.aload_n 0, 1) := by decide +kernel
theorem dX5_propose_5 : decode cX5_propose 5 = .ok (.iload_n 2, 1) := by decide +kernel
theorem dX5_propose_6 : decode cX5_propose 6 = .ok (.invokevirtual 155, 3) := by decide +kernel
theorem dX5_propose_9 : decode cX5_propose 9 = .ok (.iload_n 3, 1) := by decide +kernel
theorem dX5_propose_10 : decode cX5_propose 10 = .ok (.invokestatic 158, 3) := by decide +kernel
theorem dX5_propose_13 : decode cX5_propose 13 = .ok (.iload 4, 2) := by decide +kernel
theorem dX5_propose_15 : decode cX5_propose 15 = .ok (.ifCond .lt 10, 3) := by decide +kernel
theorem dX5_propose_18 : decode cX5_propose 18 = .ok (.iload 4, 2) := by decide +kernel
theorem dX5_propose_20 : decode cX5_propose 20 = .ok (.bipush 101, 2) := by decide +kernel
theorem dX5_propose_22 : decode cX5_propose 22 = .ok (.if_icmp .le 13, 3) := by decide +kernel
theorem dX5_propose_25 : decode cX5_propose 25 = .ok (.new 72, 3) := by decide +kernel
theorem dX5_propose_28 : decode cX5_propose 28 = .ok (.dup, 1) := by decide +kernel
theorem dX5_propose_29 : decode cX5_propose 29 = .ok (.ldc 161, 2) := by decide +kernel
theorem dX5_propose_31 : decode cX5_propose 31 = .ok (.invokespecial 76, 3) := by decide +kernel
theorem dX5_propose_34 : decode cX5_propose 34 = .ok (.athrow, 1) := by decide +kernel
theorem dX5_propose_35 : decode cX5_propose 35 = .ok (.aload_n 0, 1) := by decide +kernel
theorem dX5_propose_36 : decode cX5_propose 36 = .ok (.getfield 19, 3) := by decide +kernel
theorem dX5_propose_39 : decode cX5_propose 39 = .ok (.iload_n 1, 1) := by decide +kernel
theorem dX5_propose_40 : decode cX5_propose 40 = .ok (.aaload, 1) := by decide +kernel
theorem dX5_propose_41 : decode cX5_propose 41 = .ok (.getfield 82, 3) := by decide +kernel
theorem dX5_propose_44 : decode cX5_propose 44 = .ok (.ifCond .eq 12, 3) := by decide +kernel
theorem dX5_propose_47 : decode cX5_propose 47 = .ok (.aload_n 0, 1) := by decide +kernel
theorem dX5_propose_48 : decode cX5_propose 48 = .ok (.getfield 163, 3) := by decide +kernel
theorem dX5_propose_51 : decode cX5_propose 51 = .ok (.bipush 40, 2) := by decide +kernel
theorem dX5_propose_53 : decode cX5_propose 53 = .ok (.if_icmp .lt 13, 3) := by decide +kernel
theorem dX5_propose_56 : decode cX5_propose 56 = .ok (.new 86, 3) := by decide +kernel
theorem dX5_propose_59 : decode cX5_propose 59 = .ok (.dup, 1) := by decide +kernel
theorem dX5_propose_60 : decode cX5_propose 60 = .ok (.ldc 166, 2) := by decide +kernel
theorem dX5_propose_62 : decode cX5_propose 62 = .ok (.invokespecial 90, 3) := by decide +kernel
theorem dX5_propose_65 : decode cX5_propose 65 = .ok (.athrow, 1) := by decide +kernel
theorem dX5_propose_66 : decode cX5_propose 66 = .ok (.aload_n 0, 1) := by decide +kernel
theorem dX5_propose_67 : decode cX5_propose 67 = .ok (.getfield 163, 3) := by decide +kernel
theorem dX5_propose_70 : decode cX5_propose 70 = .ok (.istore 5, 2) := by decide +kernel
theorem dX5_propose_72 : decode cX5_propose 72 = .ok (.aload_n 0, 1) := by decide +kernel
theorem dX5_propose_73 : decode cX5_propose 73 = .ok (.getfield 37, 3) := by decide +kernel
theorem dX5_propose_76 : decode cX5_propose 76 = .ok (.iload 5, 2) := by decide +kernel
theorem dX5_propose_78 : decode cX5_propose 78 = .ok (.aaload, 1) := by decide +kernel
theorem dX5_propose_79 : decode cX5_propose 79 = .ok (.iload_n 1, 1) := by decide +kernel
theorem dX5_propose_80 : decode cX5_propose 80 = .ok (.aload_n 0, 1) := by decide +kernel
theorem dX5_propose_81 : decode cX5_propose 81 = .ok (.iload_n 2, 1) := by decide +kernel
theorem dX5_propose_82 : decode cX5_propose 82 = .ok (.invokevirtual 168, 3) := by decide +kernel
theorem dX5_propose_85 : decode cX5_propose 85 = .ok (.iload_n 3, 1) := by decide +kernel
theorem dX5_propose_86 : decode cX5_propose 86 = .ok (.invokestatic 171, 3) := by decide +kernel
theorem dX5_propose_89 : decode cX5_propose 89 = .ok (.iload 4, 2) := by decide +kernel
theorem dX5_propose_91 : decode cX5_propose 91 = .ok (.aload_n 0, 1) := by decide +kernel
theorem dX5_propose_92 : decode cX5_propose 92 = .ok (.getfield 97, 3) := by decide +kernel
theorem dX5_propose_95 : decode cX5_propose 95 = .ok (.invokevirtual 175, 3) := by decide +kernel
theorem dX5_propose_98 : decode cX5_propose 98 = .ok (.aload_n 0, 1) := by decide +kernel
theorem dX5_propose_99 : decode cX5_propose 99 = .ok (.dup, 1) := by decide +kernel
theorem dX5_propose_100 : decode cX5_propose 100 = .ok (.getfield 163, 3) := by decide +kernel
theorem dX5_propose_103 : decode cX5_propose 103 = .ok (.iconst 1, 1) := by decide +kernel
theorem dX5_propose_104 : decode cX5_propose 104 = .ok (.iadd, 1) := by decide +kernel
theorem dX5_propose_105 : decode cX5_propose 105 = .ok (.putfield 163, 3) := by decide +kernel
theorem dX5_propose_108 : decode cX5_propose 108 = .ok (.iload 5, 2) := by decide +kernel
theorem dX5_propose_110 : decode cX5_propose 110 = .ok (.ireturn, 1) := by decide +kernel
theorem dX5_approve_0 : decode cX5_approve 0 = .ok (.iload_n 1, 1) := by decide +kernel
theorem dX5_approve_1 : decode cX5_approve 1 = .ok (.invokestatic 79, 3) := by decide +kernel
theorem dX5_approve_4 : decode cX5_approve 4 = .ok (.aload_n 0, 1) := by decide +kernel
theorem dX5_approve_5 : decode cX5_approve 5 = .ok (.iload_n 2, 1) := by decide +kernel
theorem dX5_approve_6 : decode cX5_approve 6 = .ok (.invokevirtual 179, 3) := by decide +kernel
theorem dX5_approve_9 : decode cX5_approve 9 = .ok (.aload_n 0, 1) := by decide +kernel
theorem dX5_approve_10 : decode cX5_approve 10 = .ok (.getfield 37, 3) := by decide +kernel
theorem dX5_approve_13 : decode cX5_approve 13 = .ok (.iload_n 2, 1) := by decide +kernel
theorem dX5_approve_14 : decode cX5_approve 14 = .ok (.aaload, 1) := by decide +kernel
theorem dX5_approve_15 : decode cX5_approve 15 = .ok (.astore_n 3, 1) := by decide +kernel
theorem dX5_approve_16 : decode cX5_approve 16 = .ok (.aload_n 0, 1) := by decide +kernel
theorem dX5_approve_17 : decode cX5_approve 17 = .ok (.getfield 19, 3) := by decide +kernel
theorem dX5_approve_20 : decode cX5_approve 20 = .ok (.iload_n 1, 1) := by decide +kernel
theorem dX5_approve_21 : decode cX5_approve 21 = .ok (.aaload, 1) := by decide +kernel
theorem dX5_approve_22 : decode cX5_approve 22 = .ok (.getfield 82, 3) := by decide +kernel
theorem dX5_approve_25 : decode cX5_approve 25 = .ok (.ifCond .eq 19, 3) := by decide +kernel
theorem dX5_approve_28 : decode cX5_approve 28 = .ok (.aload_n 0, 1) := by decide +kernel
theorem dX5_approve_29 : decode cX5_approve 29 = .ok (.iload_n 1, 1) := by decide +kernel
theorem dX5_approve_30 : decode cX5_approve 30 = .ok (.invokevirtual 182, 3) := by decide +kernel
theorem dX5_approve_33 : decode cX5_approve 33 = .ok (.ifCond .eq 11, 3) := by decide +kernel
theorem dX5_approve_36 : decode cX5_approve 36 = .ok (.aload_n 3, 1) := by decide +kernel
theorem dX5_approve_37 : decode cX5_approve 37 = .ok (.iload_n 1, 1) := by decide +kernel
theorem dX5_approve_38 : decode cX5_approve 38 = .ok (.invokevirtual 186, 3) := by decide +kernel
theorem dX5_approve_41 : decode cX5_approve 41 = .ok (.ifCond .ne 13, 3) := by decide +kernel
theorem dX5_approve_44 : decode cX5_approve 44 = .ok (.new 86, 3) := by decide +kernel
theorem dX5_approve_47 : decode cX5_approve 47 = .ok (.dup, 1) := by decide +kernel
theorem dX5_approve_48 : decode cX5_approve 48 = .ok (.ldc 189, 2) := by decide +kernel
theorem dX5_approve_50 : decode cX5_approve 50 = .ok (.invokespecial 90, 3) := by decide +kernel
theorem dX5_approve_53 : decode cX5_approve 53 = .ok (.athrow, 1) := by decide +kernel
theorem dX5_approve_54 : decode cX5_approve 54 = .ok (.aload_n 0, 1) := by decide +kernel
theorem dX5_approve_55 : decode cX5_approve 55 = .ok (.dup, 1) := by decide +kernel
theorem dX5_approve_56 : decode cX5_approve 56 = .ok (.getfield 91, 3) := by decide +kernel
theorem dX5_approve_59 : decode cX5_approve 59 = .ok (.iconst 1, 1) := by decide +kernel
theorem dX5_approve_60 : decode cX5_approve 60 = .ok (.iadd, 1) := by decide +kernel
theorem dX5_approve_61 : decode cX5_approve 61 = .ok (.putfield 91, 3) := by decide +kernel
theorem dX5_approve_64 : decode cX5_approve 64 = .ok (.aload_n 3, 1) := by decide +kernel
theorem dX5_approve_65 : decode cX5_approve 65 = .ok (.iload_n 1, 1) := by decide +kernel
theorem dX5_approve_66 : decode cX5_approve 66 = .ok (.aload_n 0, 1) := by decide +kernel
theorem dX5_approve_67 : decode cX5_approve 67 = .ok (.getfield 97, 3) := by decide +kernel
theorem dX5_approve_70 : decode cX5_approve 70 = .ok (.aload_n 0, 1) := by decide +kernel
theorem dX5_approve_71 : decode cX5_approve 71 = .ok (.getfield 91, 3) := by decide +kernel
theorem dX5_approve_74 : decode cX5_approve 74 = .ok (.invokevirtual 191, 3) := by decide +kernel
theorem dX5_approve_77 : decode cX5_approve 77 = .ok (.aload_n 3, 1) := by decide +kernel
theorem dX5_approve_78 : decode cX5_approve 78 = .ok (.getfield 195, 3) := by decide +kernel
theorem dX5_approve_81 : decode cX5_approve 81 = .ok (.iconst 1, 1) := by decide +kernel
theorem dX5_approve_82 : decode cX5_approve 82 = .ok (.if_icmp .eq 16, 3) := by decide +kernel
theorem dX5_approve_85 : decode cX5_approve 85 = .ok (.aload_n 3, 1) := by decide +kernel
theorem dX5_approve_86 : decode cX5_approve 86 = .ok (.invokevirtual 198, 3) := by decide +kernel
theorem dX5_approve_89 : decode cX5_approve 89 = .ok (.iconst 2, 1) := by decide +kernel
theorem dX5_approve_90 : decode cX5_approve 90 = .ok (.if_icmp .lt 8, 3) := by decide +kernel
theorem dX5_approve_93 : decode cX5_approve 93 = .ok (.aload_n 0, 1) := by decide +kernel
theorem dX5_approve_94 : decode cX5_approve 94 = .ok (.iload_n 2, 1) := by decide +kernel
theorem dX5_approve_95 : decode cX5_approve 95 = .ok (.invokevirtual 201, 3) := by decide +kernel
theorem dX5_approve_98 : decode cX5_approve 98 = .ok (.aload_n 3, 1) := by decide +kernel
theorem dX5_approve_99 : decode cX5_approve 99 = .ok (.getfield 195, 3) := by decide +kernel
theorem dX5_approve_102 : decode cX5_approve 102 = .ok (.ireturn, 1) := by decide +kernel
theorem dX5_withdraw_0 : decode cX5_withdraw 0 = .ok (.aload_n 0, 1) := by decide +kernel
theorem dX5_withdraw_1 : decode cX5_withdraw 1 = .ok (.iload_n 1, 1) := by decide +kernel
theorem dX5_withdraw_2 : decode cX5_withdraw 2 = .ok (.invokevirtual 179, 3) := by decide +kernel
theorem dX5_withdraw_5 : decode cX5_withdraw 5 = .ok (.aload_n 0, 1) := by decide +kernel
theorem dX5_withdraw_6 : decode cX5_withdraw 6 = .ok (.getfield 37, 3) := by decide +kernel
theorem dX5_withdraw_9 : decode cX5_withdraw 9 = .ok (.iload_n 1, 1) := by decide +kernel
theorem dX5_withdraw_10 : decode cX5_withdraw 10 = .ok (.aaload, 1) := by decide +kernel
theorem dX5_withdraw_11 : decode cX5_withdraw 11 = .ok (.astore_n 2, 1) := by decide +kernel
theorem dX5_withdraw_12 : decode cX5_withdraw 12 = .ok (.aload_n 2, 1) := by decide +kernel
theorem dX5_withdraw_13 : decode cX5_withdraw 13 = .ok (.getfield 195, 3) := by decide +kernel
theorem dX5_withdraw_16 : decode cX5_withdraw 16 = .ok (.ifCond .eq 13, 3) := by decide +kernel
theorem dX5_withdraw_19 : decode cX5_withdraw 19 = .ok (.new 86, 3) := by decide +kernel
theorem dX5_withdraw_22 : decode cX5_withdraw 22 = .ok (.dup, 1) := by decide +kernel
theorem dX5_withdraw_23 : decode cX5_withdraw 23 = .ok (.ldc 204, 2) := by decide +kernel
theorem dX5_withdraw_25 : decode cX5_withdraw 25 = .ok (.invokespecial 90, 3) := by decide +kernel
theorem dX5_withdraw_28 : decode cX5_withdraw 28 = .ok (.athrow, 1) := by decide +kernel
theorem dX5_withdraw_29 : decode cX5_withdraw 29 = .ok (.aload_n 2, 1) := by decide +kernel
theorem dX5_withdraw_30 : decode cX5_withdraw 30 = .ok (.iconst 3, 1) := by decide +kernel
theorem dX5_withdraw_31 : decode cX5_withdraw 31 = .ok (.putfield 195, 3) := by decide +kernel
theorem dX5_withdraw_34 : decode cX5_withdraw 34 = .ok (.return_, 1) := by decide +kernel
theorem dX5_exclude_0 : decode cX5_exclude 0 = .ok (.iload_n 1, 1) := by decide +kernel
theorem dX5_exclude_1 : decode cX5_exclude 1 = .ok (.invokestatic 158, 3) := by decide +kernel
theorem dX5_exclude_4 : decode cX5_exclude 4 = .ok (.iload_n 2, 1) := by decide +kernel
theorem dX5_exclude_5 : decode cX5_exclude 5 = .ok (.invokestatic 158, 3) := by decide +kernel
theorem dX5_exclude_8 : decode cX5_exclude 8 = .ok (.iload_n 1, 1) := by decide +kernel
theorem dX5_exclude_9 : decode cX5_exclude 9 = .ok (.iload_n 2, 1) := by decide +kernel
theorem dX5_exclude_10 : decode cX5_exclude 10 = .ok (.if_icmp .ne 13, 3) := by decide +kernel
theorem dX5_exclude_13 : decode cX5_exclude 13 = .ok (.new 72, 3) := by decide +kernel
theorem dX5_exclude_16 : decode cX5_exclude 16 = .ok (.dup, 1) := by decide +kernel
theorem dX5_exclude_17 : decode cX5_exclude 17 = .ok (.ldc 206, 2) := by decide +kernel
theorem dX5_exclude_19 : decode cX5_exclude 19 = .ok (.invokespecial 76, 3) := by decide +kernel
theorem dX5_exclude_22 : decode cX5_exclude 22 = .ok (.athrow, 1) := by decide +kernel
theorem dX5_exclude_23 : decode cX5_exclude 23 = .ok (.aload_n 0, 1) := by decide +kernel
theorem dX5_exclude_24 : decode cX5_exclude 24 = .ok (.getfield 41, 3) := by decide +kernel
theorem dX5_exclude_27 : decode cX5_exclude 27 = .ok (.iload_n 1, 1) := by decide +kernel
theorem dX5_exclude_28 : decode cX5_exclude 28 = .ok (.iaload, 1) := by decide +kernel
theorem dX5_exclude_29 : decode cX5_exclude 29 = .ok (.iload_n 2, 1) := by decide +kernel
theorem dX5_exclude_30 : decode cX5_exclude 30 = .ok (.invokestatic 208, 3) := by decide +kernel
theorem dX5_exclude_33 : decode cX5_exclude 33 = .ok (.istore 4, 2) := by decide +kernel
theorem dX5_exclude_35 : decode cX5_exclude 35 = .ok (.aload_n 0, 1) := by decide +kernel
theorem dX5_exclude_36 : decode cX5_exclude 36 = .ok (.getfield 41, 3) := by decide +kernel
theorem dX5_exclude_39 : decode cX5_exclude 39 = .ok (.iload_n 1, 1) := by decide +kernel
theorem dX5_exclude_40 : decode cX5_exclude 40 = .ok (.aload_n 0, 1) := by decide +kernel
theorem dX5_exclude_41 : decode cX5_exclude 41 = .ok (.getfield 41, 3) := by decide +kernel
theorem dX5_exclude_44 : decode cX5_exclude 44 = .ok (.iload_n 1, 1) := by decide +kernel
theorem dX5_exclude_45 : decode cX5_exclude 45 = .ok (.iaload, 1) := by decide +kernel
theorem dX5_exclude_46 : decode cX5_exclude 46 = .ok (.iload_n 2, 1) := by decide +kernel
theorem dX5_exclude_47 : decode cX5_exclude 47 = .ok (.iload_n 3, 1) := by decide +kernel
theorem dX5_exclude_48 : decode cX5_exclude 48 = .ok (.invokestatic 212, 3) := by decide +kernel
theorem dX5_exclude_51 : decode cX5_exclude 51 = .ok (.iastore, 1) := by decide +kernel
theorem dX5_exclude_52 : decode cX5_exclude 52 = .ok (.aload_n 0, 1) := by decide +kernel
theorem dX5_exclude_53 : decode cX5_exclude 53 = .ok (.getfield 41, 3) := by decide +kernel
theorem dX5_exclude_56 : decode cX5_exclude 56 = .ok (.iload_n 2, 1) := by decide +kernel
theorem dX5_exclude_57 : decode cX5_exclude 57 = .ok (.aload_n 0, 1) := by decide +kernel
theorem dX5_exclude_58 : decode cX5_exclude 58 = .ok (.getfield 41, 3) := by decide +kernel
theorem dX5_exclude_61 : decode cX5_exclude 61 = .ok (.iload_n 2, 1) := by decide +kernel
theorem dX5_exclude_62 : decode cX5_exclude 62 = .ok (.iaload, 1) := by decide +kernel
theorem dX5_exclude_63 : decode cX5_exclude 63 = .ok (.iload_n 1, 1) := by decide +kernel
theorem dX5_exclude_64 : decode cX5_exclude 64 = .ok (.iload_n 3, 1) := by decide +kernel
theorem dX5_exclude_65 : decode cX5_exclude 65 = .ok (.invokestatic 212, 3) := by decide +kernel
theorem dX5_exclude_68 : decode cX5_exclude 68 = .ok (.iastore, 1) := by decide +kernel
theorem dX5_exclude_69 : decode cX5_exclude 69 = .ok (.iload 4, 2) := by decide +kernel
theorem dX5_exclude_71 : decode cX5_exclude 71 = .ok (.ireturn, 1) := by decide +kernel
theorem dX5_changes_0 : decode cX5_changes 0 = .ok (.aload_n 0, 1) := by decide +kernel
theorem dX5_changes_1 : decode cX5_changes 1 = .ok (.getfield 163, 3) := by decide +kernel
theorem dX5_changes_4 : decode cX5_changes 4 = .ok (.ireturn, 1) := by decide +kernel
theorem dX5_state_0 : decode cX5_state 0 = .ok (.aload_n 0, 1) := by decide +kernel
theorem dX5_state_1 : decode cX5_state 1 = .ok (.iload_n 1, 1) := by decide +kernel
theorem dX5_state_2 : decode cX5_state 2 = .ok (.invokevirtual 179, 3) := by decide +kernel
theorem dX5_state_5 : decode cX5_state 5 = .ok (.aload_n 0, 1) := by decide +kernel
theorem dX5_state_6 : decode cX5_state 6 = .ok (.getfield 37, 3) := by decide +kernel
theorem dX5_state_9 : decode cX5_state 9 = .ok (.iload_n 1, 1) := by decide +kernel
theorem dX5_state_10 : decode cX5_state 10 = .ok (.aaload, 1) := by decide +kernel
theorem dX5_state_11 : decode cX5_state 11 = .ok (.getfield 195, 3) := by decide +kernel
theorem dX5_state_14 : decode cX5_state 14 = .ok (.ireturn, 1) := by decide +kernel
theorem dX5_rank_0 : decode cX5_rank 0 = .ok (.aload_n 0, 1) := by decide +kernel
theorem dX5_rank_1 : decode cX5_rank 1 = .ok (.iload_n 1, 1) := by decide +kernel
theorem dX5_rank_2 : decode cX5_rank 2 = .ok (.invokevirtual 179, 3) := by decide +kernel
theorem dX5_rank_5 : decode cX5_rank 5 = .ok (.aload_n 0, 1) := by decide +kernel
theorem dX5_rank_6 : decode cX5_rank 6 = .ok (.getfield 47, 3) := by decide +kernel
theorem dX5_rank_9 : decode cX5_rank 9 = .ok (.getfield 216, 3) := by decide +kernel
theorem dX5_rank_12 : decode cX5_rank 12 = .ok (.iload_n 1, 1) := by decide +kernel
theorem dX5_rank_13 : decode cX5_rank 13 = .ok (.iaload, 1) := by decide +kernel
theorem dX5_rank_14 : decode cX5_rank 14 = .ok (.ireturn, 1) := by decide +kernel
theorem dX5_approvals_0 : decode cX5_approvals 0 = .ok (.aload_n 0, 1) := by decide +kernel
theorem dX5_approvals_1 : decode cX5_approvals 1 = .ok (.iload_n 1, 1) := by decide +kernel
theorem dX5_approvals_2 : decode cX5_approvals 2 = .ok (.invokevirtual 179, 3) := by decide +kernel
theorem dX5_approvals_5 : decode cX5_approvals 5 = .ok (.aload_n 0, 1) := by decide +kernel
theorem dX5_approvals_6 : decode cX5_approvals 6 = .ok (.getfield 37, 3) := by decide +kernel
theorem dX5_approvals_9 : decode cX5_approvals 9 = .ok (.iload_n 1, 1) := by decide +kernel
theorem dX5_approvals_10 : decode cX5_approvals 10 = .ok (.aaload, 1) := by decide +kernel
theorem dX5_approvals_11 : decode cX5_approvals 11 = .ok (.invokevirtual 198, 3) := by decide +kernel
theorem dX5_approvals_14 : decode cX5_approvals 14 = .ok (.ireturn, 1) := by decide +kernel
theorem dX5_told_0 : decode cX5_told 0 = .ok (.aload_n 0, 1) := by decide +kernel
theorem dX5_told_1 : decode cX5_told 1 = .ok (.iload_n 1, 1) := by decide +kernel
theorem dX5_told_2 : decode cX5_told 2 = .ok (.invokevirtual 155, 3) := by decide +kernel
theorem dX5_told_5 : decode cX5_told 5 = .ok (.iload_n 2, 1) := by decide +kernel
theorem dX5_told_6 : decode cX5_told 6 = .ok (.invokestatic 158, 3) := by decide +kernel
theorem dX5_told_9 : decode cX5_told 9 = .ok (.aload_n 0, 1) := by decide +kernel
theorem dX5_told_10 : decode cX5_told 10 = .ok (.aload_n 0, 1) := by decide +kernel
theorem dX5_told_11 : decode cX5_told 11 = .ok (.getfield 47, 3) := by decide +kernel
theorem dX5_told_14 : decode cX5_told 14 = .ok (.getfield 219, 3) := by decide +kernel
theorem dX5_told_17 : decode cX5_told 17 = .ok (.aload_n 0, 1) := by decide +kernel
theorem dX5_told_18 : decode cX5_told 18 = .ok (.iload_n 1, 1) := by decide +kernel
theorem dX5_told_19 : decode cX5_told 19 = .ok (.invokevirtual 168, 3) := by decide +kernel
theorem dX5_told_22 : decode cX5_told 22 = .ok (.iload_n 2, 1) := by decide +kernel
theorem dX5_told_23 : decode cX5_told 23 = .ok (.invokestatic 171, 3) := by decide +kernel
theorem dX5_told_26 : decode cX5_told 26 = .ok (.iaload, 1) := by decide +kernel
theorem dX5_told_27 : decode cX5_told 27 = .ok (.invokevirtual 222, 3) := by decide +kernel
theorem dX5_told_30 : decode cX5_told 30 = .ok (.istore_n 3, 1) := by decide +kernel
theorem dX5_told_31 : decode cX5_told 31 = .ok (.iload_n 3, 1) := by decide +kernel
theorem dX5_told_32 : decode cX5_told 32 = .ok (.bipush 101, 2) := by decide +kernel
theorem dX5_told_34 : decode cX5_told 34 = .ok (.if_icmp .ne 7, 3) := by decide +kernel
theorem dX5_told_37 : decode cX5_told 37 = .ok (.iconst (-1), 1) := by decide +kernel
theorem dX5_told_38 : decode cX5_told 38 = .ok (.goto 4, 3) := by decide +kernel
theorem dX5_told_41 : decode cX5_told 41 = .ok (.iload_n 3, 1) := by decide +kernel
theorem dX5_told_42 : decode cX5_told 42 = .ok (.ireturn, 1) := by decide +kernel
theorem dX5_taken_0 : decode cX5_taken 0 = .ok (.aload_n 0, 1) := by decide +kernel
theorem dX5_taken_1 : decode cX5_taken 1 = .ok (.iload_n 1, 1) := by decide +kernel
theorem dX5_taken_2 : decode cX5_taken 2 = .ok (.invokevirtual 136, 3) := by decide +kernel
theorem dX5_taken_5 : decode cX5_taken 5 = .ok (.aload_n 0, 1) := by decide +kernel
theorem dX5_taken_6 : decode cX5_taken 6 = .ok (.getfield 31, 3) := by decide +kernel
theorem dX5_taken_9 : decode cX5_taken 9 = .ok (.iload_n 1, 1) := by decide +kernel
theorem dX5_taken_10 : decode cX5_taken 10 = .ok (.aaload, 1) := by decide +kernel
theorem dX5_taken_11 : decode cX5_taken 11 = .ok (.astore 4, 2) := by decide +kernel
theorem dX5_taken_13 : decode cX5_taken 13 = .ok (.iload_n 2, 1) := by decide +kernel
theorem dX5_taken_14 : decode cX5_taken 14 = .ok (.ifCond .lt 12, 3) := by decide +kernel
theorem dX5_taken_17 : decode cX5_taken 17 = .ok (.iload_n 2, 1) := by decide +kernel
theorem dX5_taken_18 : decode cX5_taken 18 = .ok (.aload 4, 2) := by decide +kernel
theorem dX5_taken_20 : decode cX5_taken 20 = .ok (.getfield 225, 3) := by decide +kernel
theorem dX5_taken_23 : decode cX5_taken 23 = .ok (.if_icmp .lt 13, 3) := by decide +kernel
theorem dX5_taken_26 : decode cX5_taken 26 = .ok (.new 228, 3) := by decide +kernel
theorem dX5_taken_29 : decode cX5_taken 29 = .ok (.dup, 1) := by decide +kernel
theorem dX5_taken_30 : decode cX5_taken 30 = .ok (.ldc 230, 2) := by decide +kernel
theorem dX5_taken_32 : decode cX5_taken 32 = .ok (.invokespecial 232, 3) := by decide +kernel
theorem dX5_taken_35 : decode cX5_taken 35 = .ok (.athrow, 1) := by decide +kernel
theorem dX5_taken_36 : decode cX5_taken 36 = .ok (.iload_n 3, 1) := by decide +kernel
theorem dX5_taken_37 : decode cX5_taken 37 = .ok (.invokestatic 158, 3) := by decide +kernel
theorem dX5_taken_40 : decode cX5_taken 40 = .ok (.aload 4, 2) := by decide +kernel
theorem dX5_taken_42 : decode cX5_taken 42 = .ok (.getfield 233, 3) := by decide +kernel
theorem dX5_taken_45 : decode cX5_taken 45 = .ok (.aload 4, 2) := by decide +kernel
theorem dX5_taken_47 : decode cX5_taken 47 = .ok (.getfield 236, 3) := by decide +kernel
theorem dX5_taken_50 : decode cX5_taken 50 = .ok (.iload_n 2, 1) := by decide +kernel
theorem dX5_taken_51 : decode cX5_taken 51 = .ok (.iaload, 1) := by decide +kernel
theorem dX5_taken_52 : decode cX5_taken 52 = .ok (.iload_n 3, 1) := by decide +kernel
theorem dX5_taken_53 : decode cX5_taken 53 = .ok (.invokestatic 171, 3) := by decide +kernel
theorem dX5_taken_56 : decode cX5_taken 56 = .ok (.iaload, 1) := by decide +kernel
theorem dX5_taken_57 : decode cX5_taken 57 = .ok (.ireturn, 1) := by decide +kernel
theorem dX5_runs_0 : decode cX5_runs 0 = .ok (.aload_n 0, 1) := by decide +kernel
theorem dX5_runs_1 : decode cX5_runs 1 = .ok (.iload_n 1, 1) := by decide +kernel
theorem dX5_runs_2 : decode cX5_runs 2 = .ok (.invokevirtual 136, 3) := by decide +kernel
theorem dX5_runs_5 : decode cX5_runs 5 = .ok (.iload_n 2, 1) := by decide +kernel
theorem dX5_runs_6 : decode cX5_runs 6 = .ok (.invokestatic 158, 3) := by decide +kernel
theorem dX5_runs_9 : decode cX5_runs 9 = .ok (.aload_n 0, 1) := by decide +kernel
theorem dX5_runs_10 : decode cX5_runs 10 = .ok (.aload_n 0, 1) := by decide +kernel
theorem dX5_runs_11 : decode cX5_runs 11 = .ok (.getfield 31, 3) := by decide +kernel
theorem dX5_runs_14 : decode cX5_runs 14 = .ok (.iload_n 1, 1) := by decide +kernel
theorem dX5_runs_15 : decode cX5_runs 15 = .ok (.aaload, 1) := by decide +kernel
theorem dX5_runs_16 : decode cX5_runs 16 = .ok (.invokevirtual 239, 3) := by decide +kernel
theorem dX5_runs_19 : decode cX5_runs 19 = .ok (.aload_n 0, 1) := by decide +kernel
theorem dX5_runs_20 : decode cX5_runs 20 = .ok (.getfield 57, 3) := by decide +kernel
theorem dX5_runs_23 : decode cX5_runs 23 = .ok (.iload_n 2, 1) := by decide +kernel
theorem dX5_runs_24 : decode cX5_runs 24 = .ok (.invokevirtual 243, 3) := by decide +kernel
theorem dX5_runs_27 : decode cX5_runs 27 = .ok (.ireturn, 1) := by decide +kernel
theorem dX5_layerOf_0 : decode cX5_layerOf 0 = .ok (.aload_n 0, 1) := by decide +kernel
theorem dX5_layerOf_1 : decode cX5_layerOf 1 = .ok (.iload_n 1, 1) := by decide +kernel
theorem dX5_layerOf_2 : decode cX5_layerOf 2 = .ok (.invokevirtual 136, 3) := by decide +kernel
theorem dX5_layerOf_5 : decode cX5_layerOf 5 = .ok (.iload_n 2, 1) := by decide +kernel
theorem dX5_layerOf_6 : decode cX5_layerOf 6 = .ok (.invokestatic 158, 3) := by decide +kernel
theorem dX5_layerOf_9 : decode cX5_layerOf 9 = .ok (.aload_n 0, 1) := by decide +kernel
theorem dX5_layerOf_10 : decode cX5_layerOf 10 = .ok (.aload_n 0, 1) := by decide +kernel
theorem dX5_layerOf_11 : decode cX5_layerOf 11 = .ok (.getfield 31, 3) := by decide +kernel
theorem dX5_layerOf_14 : decode cX5_layerOf 14 = .ok (.iload_n 1, 1) := by decide +kernel
theorem dX5_layerOf_15 : decode cX5_layerOf 15 = .ok (.aaload, 1) := by decide +kernel
theorem dX5_layerOf_16 : decode cX5_layerOf 16 = .ok (.invokevirtual 239, 3) := by decide +kernel
theorem dX5_layerOf_19 : decode cX5_layerOf 19 = .ok (.aload_n 0, 1) := by decide +kernel
theorem dX5_layerOf_20 : decode cX5_layerOf 20 = .ok (.getfield 57, 3) := by decide +kernel
theorem dX5_layerOf_23 : decode cX5_layerOf 23 = .ok (.iload_n 2, 1) := by decide +kernel
theorem dX5_layerOf_24 : decode cX5_layerOf 24 = .ok (.invokevirtual 246, 3) := by decide +kernel
theorem dX5_layerOf_27 : decode cX5_layerOf 27 = .ok (.ireturn, 1) := by decide +kernel
theorem dX5_due_0 : decode cX5_due 0 = .ok (.aload_n 0, 1) := by decide +kernel
theorem dX5_due_1 : decode cX5_due 1 = .ok (.iload_n 1, 1) := by decide +kernel
theorem dX5_due_2 : decode cX5_due 2 = .ok (.invokevirtual 136, 3) := by decide +kernel
theorem dX5_due_5 : decode cX5_due 5 = .ok (.iload_n 2, 1) := by decide +kernel
theorem dX5_due_6 : decode cX5_due 6 = .ok (.invokestatic 158, 3) := by decide +kernel
theorem dX5_due_9 : decode cX5_due 9 = .ok (.aload_n 0, 1) := by decide +kernel
theorem dX5_due_10 : decode cX5_due 10 = .ok (.aload_n 0, 1) := by decide +kernel
theorem dX5_due_11 : decode cX5_due 11 = .ok (.getfield 31, 3) := by decide +kernel
theorem dX5_due_14 : decode cX5_due 14 = .ok (.iload_n 1, 1) := by decide +kernel
theorem dX5_due_15 : decode cX5_due 15 = .ok (.aaload, 1) := by decide +kernel
theorem dX5_due_16 : decode cX5_due 16 = .ok (.aload_n 0, 1) := by decide +kernel
theorem dX5_due_17 : decode cX5_due 17 = .ok (.getfield 47, 3) := by decide +kernel
theorem dX5_due_20 : decode cX5_due 20 = .ok (.getfield 219, 3) := by decide +kernel
theorem dX5_due_23 : decode cX5_due 23 = .ok (.aload_n 0, 1) := by decide +kernel
theorem dX5_due_24 : decode cX5_due 24 = .ok (.getfield 47, 3) := by decide +kernel
theorem dX5_due_27 : decode cX5_due 27 = .ok (.getfield 216, 3) := by decide +kernel
theorem dX5_due_30 : decode cX5_due 30 = .ok (.invokevirtual 249, 3) := by decide +kernel
theorem dX5_due_33 : decode cX5_due 33 = .ok (.aload_n 0, 1) := by decide +kernel
theorem dX5_due_34 : decode cX5_due 34 = .ok (.getfield 57, 3) := by decide +kernel
theorem dX5_due_37 : decode cX5_due 37 = .ok (.iload_n 2, 1) := by decide +kernel
theorem dX5_due_38 : decode cX5_due 38 = .ok (.invokevirtual 243, 3) := by decide +kernel
theorem dX5_due_41 : decode cX5_due 41 = .ok (.ireturn, 1) := by decide +kernel
theorem dX5_dueAnew_0 : decode cX5_dueAnew 0 = .ok (.aload_n 0, 1) := by decide +kernel
theorem dX5_dueAnew_1 : decode cX5_dueAnew 1 = .ok (.iload_n 1, 1) := by decide +kernel
theorem dX5_dueAnew_2 : decode cX5_dueAnew 2 = .ok (.invokevirtual 136, 3) := by decide +kernel
theorem dX5_dueAnew_5 : decode cX5_dueAnew 5 = .ok (.iload_n 2, 1) := by decide +kernel
theorem dX5_dueAnew_6 : decode cX5_dueAnew 6 = .ok (.invokestatic 158, 3) := by decide +kernel
theorem dX5_dueAnew_9 : decode cX5_dueAnew 9 = .ok (.aload_n 0, 1) := by decide +kernel
theorem dX5_dueAnew_10 : decode cX5_dueAnew 10 = .ok (.invokevirtual 253, 3) := by decide +kernel
theorem dX5_dueAnew_13 : decode cX5_dueAnew 13 = .ok (.aload_n 0, 1) := by decide +kernel
theorem dX5_dueAnew_14 : decode cX5_dueAnew 14 = .ok (.aload_n 0, 1) := by decide +kernel
theorem dX5_dueAnew_15 : decode cX5_dueAnew 15 = .ok (.getfield 31, 3) := by decide +kernel
theorem dX5_dueAnew_18 : decode cX5_dueAnew 18 = .ok (.iload_n 1, 1) := by decide +kernel
theorem dX5_dueAnew_19 : decode cX5_dueAnew 19 = .ok (.aaload, 1) := by decide +kernel
theorem dX5_dueAnew_20 : decode cX5_dueAnew 20 = .ok (.aload_n 0, 1) := by decide +kernel
theorem dX5_dueAnew_21 : decode cX5_dueAnew 21 = .ok (.getfield 51, 3) := by decide +kernel
theorem dX5_dueAnew_24 : decode cX5_dueAnew 24 = .ok (.getfield 219, 3) := by decide +kernel
theorem dX5_dueAnew_27 : decode cX5_dueAnew 27 = .ok (.aload_n 0, 1) := by decide +kernel
theorem dX5_dueAnew_28 : decode cX5_dueAnew 28 = .ok (.getfield 51, 3) := by decide +kernel
theorem dX5_dueAnew_31 : decode cX5_dueAnew 31 = .ok (.getfield 216, 3) := by decide +kernel
theorem dX5_dueAnew_34 : decode cX5_dueAnew 34 = .ok (.invokevirtual 249, 3) := by decide +kernel
theorem dX5_dueAnew_37 : decode cX5_dueAnew 37 = .ok (.aload_n 0, 1) := by decide +kernel
theorem dX5_dueAnew_38 : decode cX5_dueAnew 38 = .ok (.getfield 57, 3) := by decide +kernel
theorem dX5_dueAnew_41 : decode cX5_dueAnew 41 = .ok (.iload_n 2, 1) := by decide +kernel
theorem dX5_dueAnew_42 : decode cX5_dueAnew 42 = .ok (.invokevirtual 243, 3) := by decide +kernel
theorem dX5_dueAnew_45 : decode cX5_dueAnew 45 = .ok (.ireturn, 1) := by decide +kernel
theorem dX5_behind_0 : decode cX5_behind 0 = .ok (.aload_n 0, 1) := by decide +kernel
theorem dX5_behind_1 : decode cX5_behind 1 = .ok (.iload_n 1, 1) := by decide +kernel
theorem dX5_behind_2 : decode cX5_behind 2 = .ok (.invokevirtual 136, 3) := by decide +kernel
theorem dX5_behind_5 : decode cX5_behind 5 = .ok (.aload_n 0, 1) := by decide +kernel
theorem dX5_behind_6 : decode cX5_behind 6 = .ok (.getfield 31, 3) := by decide +kernel
theorem dX5_behind_9 : decode cX5_behind 9 = .ok (.iload_n 1, 1) := by decide +kernel
theorem dX5_behind_10 : decode cX5_behind 10 = .ok (.aaload, 1) := by decide +kernel
theorem dX5_behind_11 : decode cX5_behind 11 = .ok (.astore_n 2, 1) := by decide +kernel
theorem dX5_behind_12 : decode cX5_behind 12 = .ok (.iconst 0, 1) := by decide +kernel
theorem dX5_behind_13 : decode cX5_behind 13 = .ok (.istore_n 3, 1) := by decide +kernel
theorem dX5_behind_14 : decode cX5_behind 14 = .ok (.iconst 0, 1) := by decide +kernel
theorem dX5_behind_15 : decode cX5_behind 15 = .ok (.istore 4, 2) := by decide +kernel
theorem dX5_behind_17 : decode cX5_behind 17 = .ok (.iload 4, 2) := by decide +kernel
theorem dX5_behind_19 : decode cX5_behind 19 = .ok (.aload_n 2, 1) := by decide +kernel
theorem dX5_behind_20 : decode cX5_behind 20 = .ok (.getfield 225, 3) := by decide +kernel
theorem dX5_behind_23 : decode cX5_behind 23 = .ok (.if_icmp .ge 22, 3) := by decide +kernel
theorem dX5_behind_26 : decode cX5_behind 26 = .ok (.aload_n 0, 1) := by decide +kernel
theorem dX5_behind_27 : decode cX5_behind 27 = .ok (.aload_n 2, 1) := by decide +kernel
theorem dX5_behind_28 : decode cX5_behind 28 = .ok (.iload 4, 2) := by decide +kernel
theorem dX5_behind_30 : decode cX5_behind 30 = .ok (.invokevirtual 256, 3) := by decide +kernel
theorem dX5_behind_33 : decode cX5_behind 33 = .ok (.ifCond .eq 6, 3) := by decide +kernel
theorem dX5_behind_36 : decode cX5_behind 36 = .ok (.iinc 3 1, 3) := by decide +kernel
theorem dX5_behind_39 : decode cX5_behind 39 = .ok (.iinc 4 1, 3) := by decide +kernel
theorem dX5_behind_42 : decode cX5_behind 42 = .ok (.goto (-25), 3) := by decide +kernel
theorem dX5_behind_45 : decode cX5_behind 45 = .ok (.iload_n 3, 1) := by decide +kernel
theorem dX5_behind_46 : decode cX5_behind 46 = .ok (.ireturn, 1) := by decide +kernel
theorem dX5_hidden_0 : decode cX5_hidden 0 = .ok (.aload_n 0, 1) := by decide +kernel
theorem dX5_hidden_1 : decode cX5_hidden 1 = .ok (.iload_n 1, 1) := by decide +kernel
theorem dX5_hidden_2 : decode cX5_hidden 2 = .ok (.invokevirtual 136, 3) := by decide +kernel
theorem dX5_hidden_5 : decode cX5_hidden 5 = .ok (.aload_n 0, 1) := by decide +kernel
theorem dX5_hidden_6 : decode cX5_hidden 6 = .ok (.aload_n 0, 1) := by decide +kernel
theorem dX5_hidden_7 : decode cX5_hidden 7 = .ok (.getfield 31, 3) := by decide +kernel
theorem dX5_hidden_10 : decode cX5_hidden 10 = .ok (.iload_n 1, 1) := by decide +kernel
theorem dX5_hidden_11 : decode cX5_hidden 11 = .ok (.aaload, 1) := by decide +kernel
theorem dX5_hidden_12 : decode cX5_hidden 12 = .ok (.aload_n 0, 1) := by decide +kernel
theorem dX5_hidden_13 : decode cX5_hidden 13 = .ok (.getfield 47, 3) := by decide +kernel
theorem dX5_hidden_16 : decode cX5_hidden 16 = .ok (.getfield 219, 3) := by decide +kernel
theorem dX5_hidden_19 : decode cX5_hidden 19 = .ok (.aload_n 0, 1) := by decide +kernel
theorem dX5_hidden_20 : decode cX5_hidden 20 = .ok (.getfield 47, 3) := by decide +kernel
theorem dX5_hidden_23 : decode cX5_hidden 23 = .ok (.getfield 216, 3) := by decide +kernel
theorem dX5_hidden_26 : decode cX5_hidden 26 = .ok (.invokevirtual 249, 3) := by decide +kernel
theorem dX5_hidden_29 : decode cX5_hidden 29 = .ok (.aload_n 0, 1) := by decide +kernel
theorem dX5_hidden_30 : decode cX5_hidden 30 = .ok (.getfield 57, 3) := by decide +kernel
theorem dX5_hidden_33 : decode cX5_hidden 33 = .ok (.getfield 260, 3) := by decide +kernel
theorem dX5_hidden_36 : decode cX5_hidden 36 = .ok (.ireturn, 1) := by decide +kernel
theorem dX5_spread_0 : decode cX5_spread 0 = .ok (.aload_n 0, 1) := by decide +kernel
theorem dX5_spread_1 : decode cX5_spread 1 = .ok (.iload_n 1, 1) := by decide +kernel
theorem dX5_spread_2 : decode cX5_spread 2 = .ok (.invokevirtual 179, 3) := by decide +kernel
theorem dX5_spread_5 : decode cX5_spread 5 = .ok (.aload_n 0, 1) := by decide +kernel
theorem dX5_spread_6 : decode cX5_spread 6 = .ok (.getfield 37, 3) := by decide +kernel
theorem dX5_spread_9 : decode cX5_spread 9 = .ok (.iload_n 1, 1) := by decide +kernel
theorem dX5_spread_10 : decode cX5_spread 10 = .ok (.aaload, 1) := by decide +kernel
theorem dX5_spread_11 : decode cX5_spread 11 = .ok (.getfield 263, 3) := by decide +kernel
theorem dX5_spread_14 : decode cX5_spread 14 = .ok (.istore_n 2, 1) := by decide +kernel
theorem dX5_spread_15 : decode cX5_spread 15 = .ok (.iconst 0, 1) := by decide +kernel
theorem dX5_spread_16 : decode cX5_spread 16 = .ok (.istore_n 3, 1) := by decide +kernel
theorem dX5_spread_17 : decode cX5_spread 17 = .ok (.iconst 0, 1) := by decide +kernel
theorem dX5_spread_18 : decode cX5_spread 18 = .ok (.istore 4, 2) := by decide +kernel
theorem dX5_spread_20 : decode cX5_spread 20 = .ok (.iload 4, 2) := by decide +kernel
theorem dX5_spread_22 : decode cX5_spread 22 = .ok (.aload_n 0, 1) := by decide +kernel
theorem dX5_spread_23 : decode cX5_spread 23 = .ok (.getfield 127, 3) := by decide +kernel
theorem dX5_spread_26 : decode cX5_spread 26 = .ok (.if_icmp .ge 28, 3) := by decide +kernel
theorem dX5_spread_29 : decode cX5_spread 29 = .ok (.aload_n 0, 1) := by decide +kernel
theorem dX5_spread_30 : decode cX5_spread 30 = .ok (.getfield 31, 3) := by decide +kernel
theorem dX5_spread_33 : decode cX5_spread 33 = .ok (.iload 4, 2) := by decide +kernel
theorem dX5_spread_35 : decode cX5_spread 35 = .ok (.aaload, 1) := by decide +kernel
theorem dX5_spread_36 : decode cX5_spread 36 = .ok (.getfield 233, 3) := by decide +kernel
theorem dX5_spread_39 : decode cX5_spread 39 = .ok (.iload_n 2, 1) := by decide +kernel
theorem dX5_spread_40 : decode cX5_spread 40 = .ok (.iaload, 1) := by decide +kernel
theorem dX5_spread_41 : decode cX5_spread 41 = .ok (.iload_n 1, 1) := by decide +kernel
theorem dX5_spread_42 : decode cX5_spread 42 = .ok (.if_icmp .ne 6, 3) := by decide +kernel
theorem dX5_spread_45 : decode cX5_spread 45 = .ok (.iinc 3 1, 3) := by decide +kernel
theorem dX5_spread_48 : decode cX5_spread 48 = .ok (.iinc 4 1, 3) := by decide +kernel
theorem dX5_spread_51 : decode cX5_spread 51 = .ok (.goto (-31), 3) := by decide +kernel
theorem dX5_spread_54 : decode cX5_spread 54 = .ok (.iload_n 3, 1) := by decide +kernel
theorem dX5_spread_55 : decode cX5_spread 55 = .ok (.ireturn, 1) := by decide +kernel
theorem dX5_requirePerson_0 : decode cX5_requirePerson 0 = .ok (.iload_n 0, 1) := by decide +kernel
theorem dX5_requirePerson_1 : decode cX5_requirePerson 1 = .ok (.ifCond .lt 9, 3) := by decide +kernel
theorem dX5_requirePerson_4 : decode cX5_requirePerson 4 = .ok (.iload_n 0, 1) := by decide +kernel
theorem dX5_requirePerson_5 : decode cX5_requirePerson 5 = .ok (.bipush 8, 2) := by decide +kernel
theorem dX5_requirePerson_7 : decode cX5_requirePerson 7 = .ok (.if_icmp .lt 14, 3) := by decide +kernel
theorem dX5_requirePerson_10 : decode cX5_requirePerson 10 = .ok (.new 228, 3) := by decide +kernel
theorem dX5_requirePerson_13 : decode cX5_requirePerson 13 = .ok (.dup, 1) := by decide +kernel
theorem dX5_requirePerson_14 : decode cX5_requirePerson 14 = .ok (.ldc_w 266, 3) := by decide +kernel
theorem dX5_requirePerson_17 : decode cX5_requirePerson 17 = .ok (.invokespecial 232, 3) := by decide +kernel
theorem dX5_requirePerson_20 : decode cX5_requirePerson 20 = .ok (.athrow, 1) := by decide +kernel
theorem dX5_requirePerson_21 : decode cX5_requirePerson 21 = .ok (.return_, 1) := by decide +kernel
theorem dX5_requireKey_0 : decode cX5_requireKey 0 = .ok (.iload_n 0, 1) := by decide +kernel
theorem dX5_requireKey_1 : decode cX5_requireKey 1 = .ok (.ifCond .lt 9, 3) := by decide +kernel
theorem dX5_requireKey_4 : decode cX5_requireKey 4 = .ok (.iload_n 0, 1) := by decide +kernel
theorem dX5_requireKey_5 : decode cX5_requireKey 5 = .ok (.bipush 6, 2) := by decide +kernel
theorem dX5_requireKey_7 : decode cX5_requireKey 7 = .ok (.if_icmp .lt 14, 3) := by decide +kernel
theorem dX5_requireKey_10 : decode cX5_requireKey 10 = .ok (.new 228, 3) := by decide +kernel
theorem dX5_requireKey_13 : decode cX5_requireKey 13 = .ok (.dup, 1) := by decide +kernel
theorem dX5_requireKey_14 : decode cX5_requireKey 14 = .ok (.ldc_w 268, 3) := by decide +kernel
theorem dX5_requireKey_17 : decode cX5_requireKey 17 = .ok (.invokespecial 232, 3) := by decide +kernel
theorem dX5_requireKey_20 : decode cX5_requireKey 20 = .ok (.athrow, 1) := by decide +kernel
theorem dX5_requireKey_21 : decode cX5_requireKey 21 = .ok (.return_, 1) := by decide +kernel
theorem dX5_requireGroup_0 : decode cX5_requireGroup 0 = .ok (.iload_n 1, 1) := by decide +kernel
theorem dX5_requireGroup_1 : decode cX5_requireGroup 1 = .ok (.ifCond .lt 11, 3) := by decide +kernel
theorem dX5_requireGroup_4 : decode cX5_requireGroup 4 = .ok (.iload_n 1, 1) := by decide +kernel
theorem dX5_requireGroup_5 : decode cX5_requireGroup 5 = .ok (.aload_n 0, 1) := by decide +kernel
theorem dX5_requireGroup_6 : decode cX5_requireGroup 6 = .ok (.getfield 26, 3) := by decide +kernel
theorem dX5_requireGroup_9 : decode cX5_requireGroup 9 = .ok (.if_icmp .lt 14, 3) := by decide +kernel
theorem dX5_requireGroup_12 : decode cX5_requireGroup 12 = .ok (.new 228, 3) := by decide +kernel
theorem dX5_requireGroup_15 : decode cX5_requireGroup 15 = .ok (.dup, 1) := by decide +kernel
theorem dX5_requireGroup_16 : decode cX5_requireGroup 16 = .ok (.ldc_w 270, 3) := by decide +kernel
theorem dX5_requireGroup_19 : decode cX5_requireGroup 19 = .ok (.invokespecial 232, 3) := by decide +kernel
theorem dX5_requireGroup_22 : decode cX5_requireGroup 22 = .ok (.athrow, 1) := by decide +kernel
theorem dX5_requireGroup_23 : decode cX5_requireGroup 23 = .ok (.return_, 1) := by decide +kernel
theorem dX5_requireMachine_0 : decode cX5_requireMachine 0 = .ok (.iload_n 1, 1) := by decide +kernel
theorem dX5_requireMachine_1 : decode cX5_requireMachine 1 = .ok (.ifCond .lt 11, 3) := by decide +kernel
theorem dX5_requireMachine_4 : decode cX5_requireMachine 4 = .ok (.iload_n 1, 1) := by decide +kernel
theorem dX5_requireMachine_5 : decode cX5_requireMachine 5 = .ok (.aload_n 0, 1) := by decide +kernel
theorem dX5_requireMachine_6 : decode cX5_requireMachine 6 = .ok (.getfield 127, 3) := by decide +kernel
theorem dX5_requireMachine_9 : decode cX5_requireMachine 9 = .ok (.if_icmp .lt 14, 3) := by decide +kernel
theorem dX5_requireMachine_12 : decode cX5_requireMachine 12 = .ok (.new 228, 3) := by decide +kernel
theorem dX5_requireMachine_15 : decode cX5_requireMachine 15 = .ok (.dup, 1) := by decide +kernel
theorem dX5_requireMachine_16 : decode cX5_requireMachine 16 = .ok (.ldc_w 272, 3) := by decide +kernel
theorem dX5_requireMachine_19 : decode cX5_requireMachine 19 = .ok (.invokespecial 232, 3) := by decide +kernel
theorem dX5_requireMachine_22 : decode cX5_requireMachine 22 = .ok (.athrow, 1) := by decide +kernel
theorem dX5_requireMachine_23 : decode cX5_requireMachine 23 = .ok (.return_, 1) := by decide +kernel
theorem dX5_requirePlace_0 : decode cX5_requirePlace 0 = .ok (.aload_n 0, 1) := by decide +kernel
theorem dX5_requirePlace_1 : decode cX5_requirePlace 1 = .ok (.iload_n 1, 1) := by decide +kernel
theorem dX5_requirePlace_2 : decode cX5_requirePlace 2 = .ok (.invokevirtual 168, 3) := by decide +kernel
theorem dX5_requirePlace_5 : decode cX5_requirePlace 5 = .ok (.iconst (-1), 1) := by decide +kernel
theorem dX5_requirePlace_6 : decode cX5_requirePlace 6 = .ok (.if_icmp .ne 14, 3) := by decide +kernel
theorem dX5_requirePlace_9 : decode cX5_requirePlace 9 = .ok (.new 228, 3) := by decide +kernel
theorem dX5_requirePlace_12 : decode cX5_requirePlace 12 = .ok (.dup, 1) := by decide +kernel
theorem dX5_requirePlace_13 : decode cX5_requirePlace 13 = .ok (.ldc_w 274, 3) := by decide +kernel
theorem dX5_requirePlace_16 : decode cX5_requirePlace 16 = .ok (.invokespecial 232, 3) := by decide +kernel
theorem dX5_requirePlace_19 : decode cX5_requirePlace 19 = .ok (.athrow, 1) := by decide +kernel
theorem dX5_requirePlace_20 : decode cX5_requirePlace 20 = .ok (.return_, 1) := by decide +kernel
theorem dX5_requireChange_0 : decode cX5_requireChange 0 = .ok (.aload_n 0, 1) := by decide +kernel
theorem dX5_requireChange_1 : decode cX5_requireChange 1 = .ok (.iload_n 1, 1) := by decide +kernel
theorem dX5_requireChange_2 : decode cX5_requireChange 2 = .ok (.invokevirtual 276, 3) := by decide +kernel
theorem dX5_requireChange_5 : decode cX5_requireChange 5 = .ok (.ifCond .ne 14, 3) := by decide +kernel
theorem dX5_requireChange_8 : decode cX5_requireChange 8 = .ok (.new 228, 3) := by decide +kernel
theorem dX5_requireChange_11 : decode cX5_requireChange 11 = .ok (.dup, 1) := by decide +kernel
theorem dX5_requireChange_12 : decode cX5_requireChange 12 = .ok (.ldc_w 279, 3) := by decide +kernel
theorem dX5_requireChange_15 : decode cX5_requireChange 15 = .ok (.invokespecial 232, 3) := by decide +kernel
theorem dX5_requireChange_18 : decode cX5_requireChange 18 = .ok (.athrow, 1) := by decide +kernel
theorem dX5_requireChange_19 : decode cX5_requireChange 19 = .ok (.return_, 1) := by decide +kernel
theorem dX5_isChange_0 : decode cX5_isChange 0 = .ok (.iload_n 1, 1) := by decide +kernel
theorem dX5_isChange_1 : decode cX5_isChange 1 = .ok (.ifCond .lt 15, 3) := by decide +kernel
theorem dX5_isChange_4 : decode cX5_isChange 4 = .ok (.iload_n 1, 1) := by decide +kernel
theorem dX5_isChange_5 : decode cX5_isChange 5 = .ok (.aload_n 0, 1) := by decide +kernel
theorem dX5_isChange_6 : decode cX5_isChange 6 = .ok (.getfield 163, 3) := by decide +kernel
theorem dX5_isChange_9 : decode cX5_isChange 9 = .ok (.if_icmp .ge 7, 3) := by decide +kernel
theorem dX5_isChange_12 : decode cX5_isChange 12 = .ok (.iconst 1, 1) := by decide +kernel
theorem dX5_isChange_13 : decode cX5_isChange 13 = .ok (.goto 4, 3) := by decide +kernel
theorem dX5_isChange_16 : decode cX5_isChange 16 = .ok (.iconst 0, 1) := by decide +kernel
theorem dX5_isChange_17 : decode cX5_isChange 17 = .ok (.ireturn, 1) := by decide +kernel
theorem dX5_slotOf_0 : decode cX5_slotOf 0 = .ok (.iload_n 1, 1) := by decide +kernel
theorem dX5_slotOf_1 : decode cX5_slotOf 1 = .ok (.ifCond .lt 13, 3) := by decide +kernel
theorem dX5_slotOf_4 : decode cX5_slotOf 4 = .ok (.iload_n 1, 1) := by decide +kernel
theorem dX5_slotOf_5 : decode cX5_slotOf 5 = .ok (.aload_n 0, 1) := by decide +kernel
theorem dX5_slotOf_6 : decode cX5_slotOf 6 = .ok (.getfield 26, 3) := by decide +kernel
theorem dX5_slotOf_9 : decode cX5_slotOf 9 = .ok (.if_icmp .ge 5, 3) := by decide +kernel
theorem dX5_slotOf_12 : decode cX5_slotOf 12 = .ok (.iload_n 1, 1) := by decide +kernel
theorem dX5_slotOf_13 : decode cX5_slotOf 13 = .ok (.ireturn, 1) := by decide +kernel
theorem dX5_slotOf_14 : decode cX5_slotOf 14 = .ok (.iload_n 1, 1) := by decide +kernel
theorem dX5_slotOf_15 : decode cX5_slotOf 15 = .ok (.bipush 100, 2) := by decide +kernel
theorem dX5_slotOf_17 : decode cX5_slotOf 17 = .ok (.if_icmp .lt 22, 3) := by decide +kernel
theorem dX5_slotOf_20 : decode cX5_slotOf 20 = .ok (.iload_n 1, 1) := by decide +kernel
theorem dX5_slotOf_21 : decode cX5_slotOf 21 = .ok (.bipush 100, 2) := by decide +kernel
theorem dX5_slotOf_23 : decode cX5_slotOf 23 = .ok (.aload_n 0, 1) := by decide +kernel
theorem dX5_slotOf_24 : decode cX5_slotOf 24 = .ok (.getfield 127, 3) := by decide +kernel
theorem dX5_slotOf_27 : decode cX5_slotOf 27 = .ok (.iadd, 1) := by decide +kernel
theorem dX5_slotOf_28 : decode cX5_slotOf 28 = .ok (.if_icmp .ge 11, 3) := by decide +kernel
theorem dX5_slotOf_31 : decode cX5_slotOf 31 = .ok (.bipush 10, 2) := by decide +kernel
theorem dX5_slotOf_33 : decode cX5_slotOf 33 = .ok (.iload_n 1, 1) := by decide +kernel
theorem dX5_slotOf_34 : decode cX5_slotOf 34 = .ok (.iadd, 1) := by decide +kernel
theorem dX5_slotOf_35 : decode cX5_slotOf 35 = .ok (.bipush 100, 2) := by decide +kernel
theorem dX5_slotOf_37 : decode cX5_slotOf 37 = .ok (.isub, 1) := by decide +kernel
theorem dX5_slotOf_38 : decode cX5_slotOf 38 = .ok (.ireturn, 1) := by decide +kernel
theorem dX5_slotOf_39 : decode cX5_slotOf 39 = .ok (.iconst (-1), 1) := by decide +kernel
theorem dX5_slotOf_40 : decode cX5_slotOf 40 = .ok (.ireturn, 1) := by decide +kernel
theorem dX5_cellOf_0 : decode cX5_cellOf 0 = .ok (.iload_n 0, 1) := by decide +kernel
theorem dX5_cellOf_1 : decode cX5_cellOf 1 = .ok (.bipush 6, 2) := by decide +kernel
theorem dX5_cellOf_3 : decode cX5_cellOf 3 = .ok (.imul, 1) := by decide +kernel
theorem dX5_cellOf_4 : decode cX5_cellOf 4 = .ok (.iload_n 1, 1) := by decide +kernel
theorem dX5_cellOf_5 : decode cX5_cellOf 5 = .ok (.iadd, 1) := by decide +kernel
theorem dX5_cellOf_6 : decode cX5_cellOf 6 = .ok (.ireturn, 1) := by decide +kernel
theorem dX5_contains_0 : decode cX5_contains 0 = .ok (.iload_n 0, 1) := by decide +kernel
theorem dX5_contains_1 : decode cX5_contains 1 = .ok (.iload_n 1, 1) := by decide +kernel
theorem dX5_contains_2 : decode cX5_contains 2 = .ok (.ishr, 1) := by decide +kernel
theorem dX5_contains_3 : decode cX5_contains 3 = .ok (.iconst 1, 1) := by decide +kernel
theorem dX5_contains_4 : decode cX5_contains 4 = .ok (.iand, 1) := by decide +kernel
theorem dX5_contains_5 : decode cX5_contains 5 = .ok (.ifCond .eq 7, 3) := by decide +kernel
theorem dX5_contains_8 : decode cX5_contains 8 = .ok (.iconst 1, 1) := by decide +kernel
theorem dX5_contains_9 : decode cX5_contains 9 = .ok (.goto 4, 3) := by decide +kernel
theorem dX5_contains_12 : decode cX5_contains 12 = .ok (.iconst 0, 1) := by decide +kernel
theorem dX5_contains_13 : decode cX5_contains 13 = .ok (.ireturn, 1) := by decide +kernel
theorem dX5_with_0 : decode cX5_with 0 = .ok (.iload_n 2, 1) := by decide +kernel
theorem dX5_with_1 : decode cX5_with 1 = .ok (.ifCond .eq 11, 3) := by decide +kernel
theorem dX5_with_4 : decode cX5_with 4 = .ok (.iload_n 0, 1) := by decide +kernel
theorem dX5_with_5 : decode cX5_with 5 = .ok (.iconst 1, 1) := by decide +kernel
theorem dX5_with_6 : decode cX5_with 6 = .ok (.iload_n 1, 1) := by decide +kernel
theorem dX5_with_7 : decode cX5_with 7 = .ok (.ishl, 1) := by decide +kernel
theorem dX5_with_8 : decode cX5_with 8 = .ok (.ior, 1) := by decide +kernel
theorem dX5_with_9 : decode cX5_with 9 = .ok (.goto 10, 3) := by decide +kernel
theorem dX5_with_12 : decode cX5_with 12 = .ok (.iload_n 0, 1) := by decide +kernel
theorem dX5_with_13 : decode cX5_with 13 = .ok (.iconst 1, 1) := by decide +kernel
theorem dX5_with_14 : decode cX5_with 14 = .ok (.iload_n 1, 1) := by decide +kernel
theorem dX5_with_15 : decode cX5_with 15 = .ok (.ishl, 1) := by decide +kernel
theorem dX5_with_16 : decode cX5_with 16 = .ok (.iconst (-1), 1) := by decide +kernel
theorem dX5_with_17 : decode cX5_with 17 = .ok (.ixor, 1) := by decide +kernel
theorem dX5_with_18 : decode cX5_with 18 = .ok (.iand, 1) := by decide +kernel
theorem dX5_with_19 : decode cX5_with 19 = .ok (.ireturn, 1) := by decide +kernel
theorem dX5_isOnDuty_0 : decode cX5_isOnDuty 0 = .ok (.aload_n 0, 1) := by decide +kernel
theorem dX5_isOnDuty_1 : decode cX5_isOnDuty 1 = .ok (.getfield 97, 3) := by decide +kernel
theorem dX5_isOnDuty_4 : decode cX5_isOnDuty 4 = .ok (.bipush 7, 2) := by decide +kernel
theorem dX5_isOnDuty_6 : decode cX5_isOnDuty 6 = .ok (.idiv, 1) := by decide +kernel
theorem dX5_isOnDuty_7 : decode cX5_isOnDuty 7 = .ok (.istore_n 2, 1) := by decide +kernel
theorem dX5_isOnDuty_8 : decode cX5_isOnDuty 8 = .ok (.aload_n 0, 1) := by decide +kernel
theorem dX5_isOnDuty_9 : decode cX5_isOnDuty 9 = .ok (.getfield 13, 3) := by decide +kernel
theorem dX5_isOnDuty_12 : decode cX5_isOnDuty 12 = .ok (.iload_n 2, 1) := by decide +kernel
theorem dX5_isOnDuty_13 : decode cX5_isOnDuty 13 = .ok (.iconst 4, 1) := by decide +kernel
theorem dX5_isOnDuty_14 : decode cX5_isOnDuty 14 = .ok (.irem, 1) := by decide +kernel
theorem dX5_isOnDuty_15 : decode cX5_isOnDuty 15 = .ok (.iaload, 1) := by decide +kernel
theorem dX5_isOnDuty_16 : decode cX5_isOnDuty 16 = .ok (.iload_n 1, 1) := by decide +kernel
theorem dX5_isOnDuty_17 : decode cX5_isOnDuty 17 = .ok (.invokestatic 208, 3) := by decide +kernel
theorem dX5_isOnDuty_20 : decode cX5_isOnDuty 20 = .ok (.ireturn, 1) := by decide +kernel
theorem dX5_hold_0 : decode cX5_hold 0 = .ok (.aload_n 0, 1) := by decide +kernel
theorem dX5_hold_1 : decode cX5_hold 1 = .ok (.getfield 37, 3) := by decide +kernel
theorem dX5_hold_4 : decode cX5_hold 4 = .ok (.iload_n 1, 1) := by decide +kernel
theorem dX5_hold_5 : decode cX5_hold 5 = .ok (.aaload, 1) := by decide +kernel
theorem dX5_hold_6 : decode cX5_hold 6 = .ok (.iconst 1, 1) := by decide +kernel
theorem dX5_hold_7 : decode cX5_hold 7 = .ok (.putfield 195, 3) := by decide +kernel
theorem dX5_hold_10 : decode cX5_hold 10 = .ok (.aload_n 0, 1) := by decide +kernel
theorem dX5_hold_11 : decode cX5_hold 11 = .ok (.getfield 47, 3) := by decide +kernel
theorem dX5_hold_14 : decode cX5_hold 14 = .ok (.getfield 216, 3) := by decide +kernel
theorem dX5_hold_17 : decode cX5_hold 17 = .ok (.iload_n 1, 1) := by decide +kernel
theorem dX5_hold_18 : decode cX5_hold 18 = .ok (.iaload, 1) := by decide +kernel
theorem dX5_hold_19 : decode cX5_hold 19 = .ok (.iconst (-1), 1) := by decide +kernel
theorem dX5_hold_20 : decode cX5_hold 20 = .ok (.if_icmp .ne 26, 3) := by decide +kernel
theorem dX5_hold_23 : decode cX5_hold 23 = .ok (.aload_n 0, 1) := by decide +kernel
theorem dX5_hold_24 : decode cX5_hold 24 = .ok (.getfield 47, 3) := by decide +kernel
theorem dX5_hold_27 : decode cX5_hold 27 = .ok (.getfield 216, 3) := by decide +kernel
theorem dX5_hold_30 : decode cX5_hold 30 = .ok (.iload_n 1, 1) := by decide +kernel
theorem dX5_hold_31 : decode cX5_hold 31 = .ok (.aload_n 0, 1) := by decide +kernel
theorem dX5_hold_32 : decode cX5_hold 32 = .ok (.getfield 281, 3) := by decide +kernel
theorem dX5_hold_35 : decode cX5_hold 35 = .ok (.iastore, 1) := by decide +kernel
theorem dX5_hold_36 : decode cX5_hold 36 = .ok (.aload_n 0, 1) := by decide +kernel
theorem dX5_hold_37 : decode cX5_hold 37 = .ok (.dup, 1) := by decide +kernel
theorem dX5_hold_38 : decode cX5_hold 38 = .ok (.getfield 281, 3) := by decide +kernel
theorem dX5_hold_41 : decode cX5_hold 41 = .ok (.iconst 1, 1) := by decide +kernel
theorem dX5_hold_42 : decode cX5_hold 42 = .ok (.iadd, 1) := by decide +kernel
theorem dX5_hold_43 : decode cX5_hold 43 = .ok (.putfield 281, 3) := by decide +kernel
theorem dX5_hold_46 : decode cX5_hold 46 = .ok (.aload_n 0, 1) := by decide +kernel
theorem dX5_hold_47 : decode cX5_hold 47 = .ok (.invokevirtual 284, 3) := by decide +kernel
theorem dX5_hold_50 : decode cX5_hold 50 = .ok (.return_, 1) := by decide +kernel
theorem dX5_voidWhatIsNotOld_0 : decode cX5_voidWhatIsNotOld 0 = .ok (.iconst 0, 1) := by decide +kernel
theorem dX5_voidWhatIsNotOld_1 : decode cX5_voidWhatIsNotOld 1 = .ok (.istore_n 2, 1) := by decide +kernel
theorem dX5_voidWhatIsNotOld_2 : decode cX5_voidWhatIsNotOld 2 = .ok (.iconst 0, 1) := by decide +kernel
theorem dX5_voidWhatIsNotOld_3 : decode cX5_voidWhatIsNotOld 3 = .ok (.istore_n 3, 1) := by decide +kernel
theorem dX5_voidWhatIsNotOld_4 : decode cX5_voidWhatIsNotOld 4 = .ok (.iload_n 3, 1) := by decide +kernel
theorem dX5_voidWhatIsNotOld_5 : decode cX5_voidWhatIsNotOld 5 = .ok (.aload_n 0, 1) := by decide +kernel
theorem dX5_voidWhatIsNotOld_6 : decode cX5_voidWhatIsNotOld 6 = .ok (.getfield 163, 3) := by decide +kernel
theorem dX5_voidWhatIsNotOld_9 : decode cX5_voidWhatIsNotOld 9 = .ok (.if_icmp .ge 29, 3) := by decide +kernel
theorem dX5_voidWhatIsNotOld_12 : decode cX5_voidWhatIsNotOld 12 = .ok (.aload_n 0, 1) := by decide +kernel
theorem dX5_voidWhatIsNotOld_13 : decode cX5_voidWhatIsNotOld 13 = .ok (.getfield 37, 3) := by decide +kernel
theorem dX5_voidWhatIsNotOld_16 : decode cX5_voidWhatIsNotOld 16 = .ok (.iload_n 3, 1) := by decide +kernel
theorem dX5_voidWhatIsNotOld_17 : decode cX5_voidWhatIsNotOld 17 = .ok (.aaload, 1) := by decide +kernel
theorem dX5_voidWhatIsNotOld_18 : decode cX5_voidWhatIsNotOld 18 = .ok (.iload_n 1, 1) := by decide +kernel
theorem dX5_voidWhatIsNotOld_19 : decode cX5_voidWhatIsNotOld 19 = .ok (.aload_n 0, 1) := by decide +kernel
theorem dX5_voidWhatIsNotOld_20 : decode cX5_voidWhatIsNotOld 20 = .ok (.getfield 97, 3) := by decide +kernel
theorem dX5_voidWhatIsNotOld_23 : decode cX5_voidWhatIsNotOld 23 = .ok (.invokevirtual 287, 3) := by decide +kernel
theorem dX5_voidWhatIsNotOld_26 : decode cX5_voidWhatIsNotOld 26 = .ok (.ifCond .eq 6, 3) := by decide +kernel
theorem dX5_voidWhatIsNotOld_29 : decode cX5_voidWhatIsNotOld 29 = .ok (.iinc 2 1, 3) := by decide +kernel
theorem dX5_voidWhatIsNotOld_32 : decode cX5_voidWhatIsNotOld 32 = .ok (.iinc 3 1, 3) := by decide +kernel
theorem dX5_voidWhatIsNotOld_35 : decode cX5_voidWhatIsNotOld 35 = .ok (.goto (-31), 3) := by decide +kernel
theorem dX5_voidWhatIsNotOld_38 : decode cX5_voidWhatIsNotOld 38 = .ok (.aload_n 0, 1) := by decide +kernel
theorem dX5_voidWhatIsNotOld_39 : decode cX5_voidWhatIsNotOld 39 = .ok (.invokevirtual 284, 3) := by decide +kernel
theorem dX5_voidWhatIsNotOld_42 : decode cX5_voidWhatIsNotOld 42 = .ok (.iconst 0, 1) := by decide +kernel
theorem dX5_voidWhatIsNotOld_43 : decode cX5_voidWhatIsNotOld 43 = .ok (.istore_n 3, 1) := by decide +kernel
theorem dX5_voidWhatIsNotOld_44 : decode cX5_voidWhatIsNotOld 44 = .ok (.iload_n 3, 1) := by decide +kernel
theorem dX5_voidWhatIsNotOld_45 : decode cX5_voidWhatIsNotOld 45 = .ok (.aload_n 0, 1) := by decide +kernel
theorem dX5_voidWhatIsNotOld_46 : decode cX5_voidWhatIsNotOld 46 = .ok (.getfield 127, 3) := by decide +kernel
theorem dX5_voidWhatIsNotOld_49 : decode cX5_voidWhatIsNotOld 49 = .ok (.if_icmp .ge 36, 3) := by decide +kernel
theorem dX5_voidWhatIsNotOld_52 : decode cX5_voidWhatIsNotOld 52 = .ok (.aload_n 0, 1) := by decide +kernel
theorem dX5_voidWhatIsNotOld_53 : decode cX5_voidWhatIsNotOld 53 = .ok (.getfield 31, 3) := by decide +kernel
theorem dX5_voidWhatIsNotOld_56 : decode cX5_voidWhatIsNotOld 56 = .ok (.iload_n 3, 1) := by decide +kernel
theorem dX5_voidWhatIsNotOld_57 : decode cX5_voidWhatIsNotOld 57 = .ok (.aaload, 1) := by decide +kernel
theorem dX5_voidWhatIsNotOld_58 : decode cX5_voidWhatIsNotOld 58 = .ok (.astore 4, 2) := by decide +kernel
theorem dX5_voidWhatIsNotOld_60 : decode cX5_voidWhatIsNotOld 60 = .ok (.aload_n 0, 1) := by decide +kernel
theorem dX5_voidWhatIsNotOld_61 : decode cX5_voidWhatIsNotOld 61 = .ok (.aload 4, 2) := by decide +kernel
theorem dX5_voidWhatIsNotOld_63 : decode cX5_voidWhatIsNotOld 63 = .ok (.invokevirtual 147, 3) := by decide +kernel
theorem dX5_voidWhatIsNotOld_66 : decode cX5_voidWhatIsNotOld 66 = .ok (.iconst (-1), 1) := by decide +kernel
theorem dX5_voidWhatIsNotOld_67 : decode cX5_voidWhatIsNotOld 67 = .ok (.if_icmp .eq 12, 3) := by decide +kernel
theorem dX5_voidWhatIsNotOld_70 : decode cX5_voidWhatIsNotOld 70 = .ok (.aload 4, 2) := by decide +kernel
theorem dX5_voidWhatIsNotOld_72 : decode cX5_voidWhatIsNotOld 72 = .ok (.aload_n 0, 1) := by decide +kernel
theorem dX5_voidWhatIsNotOld_73 : decode cX5_voidWhatIsNotOld 73 = .ok (.getfield 97, 3) := by decide +kernel
theorem dX5_voidWhatIsNotOld_76 : decode cX5_voidWhatIsNotOld 76 = .ok (.putfield 139, 3) := by decide +kernel
theorem dX5_voidWhatIsNotOld_79 : decode cX5_voidWhatIsNotOld 79 = .ok (.iinc 3 1, 3) := by decide +kernel
theorem dX5_voidWhatIsNotOld_82 : decode cX5_voidWhatIsNotOld 82 = .ok (.goto (-38), 3) := by decide +kernel
theorem dX5_voidWhatIsNotOld_85 : decode cX5_voidWhatIsNotOld 85 = .ok (.iload_n 2, 1) := by decide +kernel
theorem dX5_voidWhatIsNotOld_86 : decode cX5_voidWhatIsNotOld 86 = .ok (.ireturn, 1) := by decide +kernel
theorem dX5_findHeads_0 : decode cX5_findHeads 0 = .ok (.aload_n 0, 1) := by decide +kernel
theorem dX5_findHeads_1 : decode cX5_findHeads 1 = .ok (.getfield 47, 3) := by decide +kernel
theorem dX5_findHeads_4 : decode cX5_findHeads 4 = .ok (.invokevirtual 290, 3) := by decide +kernel
theorem dX5_findHeads_7 : decode cX5_findHeads 7 = .ok (.iconst 0, 1) := by decide +kernel
theorem dX5_findHeads_8 : decode cX5_findHeads 8 = .ok (.istore_n 1, 1) := by decide +kernel
theorem dX5_findHeads_9 : decode cX5_findHeads 9 = .ok (.iload_n 1, 1) := by decide +kernel
theorem dX5_findHeads_10 : decode cX5_findHeads 10 = .ok (.aload_n 0, 1) := by decide +kernel
theorem dX5_findHeads_11 : decode cX5_findHeads 11 = .ok (.getfield 163, 3) := by decide +kernel
theorem dX5_findHeads_14 : decode cX5_findHeads 14 = .ok (.if_icmp .ge 39, 3) := by decide +kernel
theorem dX5_findHeads_17 : decode cX5_findHeads 17 = .ok (.aload_n 0, 1) := by decide +kernel
theorem dX5_findHeads_18 : decode cX5_findHeads 18 = .ok (.getfield 37, 3) := by decide +kernel
theorem dX5_findHeads_21 : decode cX5_findHeads 21 = .ok (.iload_n 1, 1) := by decide +kernel
theorem dX5_findHeads_22 : decode cX5_findHeads 22 = .ok (.aaload, 1) := by decide +kernel
theorem dX5_findHeads_23 : decode cX5_findHeads 23 = .ok (.getfield 195, 3) := by decide +kernel
theorem dX5_findHeads_26 : decode cX5_findHeads 26 = .ok (.iconst 1, 1) := by decide +kernel
theorem dX5_findHeads_27 : decode cX5_findHeads 27 = .ok (.if_icmp .ne 20, 3) := by decide +kernel
theorem dX5_findHeads_30 : decode cX5_findHeads 30 = .ok (.aload_n 0, 1) := by decide +kernel
theorem dX5_findHeads_31 : decode cX5_findHeads 31 = .ok (.getfield 47, 3) := by decide +kernel
theorem dX5_findHeads_34 : decode cX5_findHeads 34 = .ok (.aload_n 0, 1) := by decide +kernel
theorem dX5_findHeads_35 : decode cX5_findHeads 35 = .ok (.getfield 37, 3) := by decide +kernel
theorem dX5_findHeads_38 : decode cX5_findHeads 38 = .ok (.iload_n 1, 1) := by decide +kernel
theorem dX5_findHeads_39 : decode cX5_findHeads 39 = .ok (.aaload, 1) := by decide +kernel
theorem dX5_findHeads_40 : decode cX5_findHeads 40 = .ok (.getfield 263, 3) := by decide +kernel
theorem dX5_findHeads_43 : decode cX5_findHeads 43 = .ok (.iload_n 1, 1) := by decide +kernel
theorem dX5_findHeads_44 : decode cX5_findHeads 44 = .ok (.invokevirtual 293, 3) := by decide +kernel
theorem dX5_findHeads_47 : decode cX5_findHeads 47 = .ok (.iinc 1 1, 3) := by decide +kernel
theorem dX5_findHeads_50 : decode cX5_findHeads 50 = .ok (.goto (-41), 3) := by decide +kernel
theorem dX5_findHeads_53 : decode cX5_findHeads 53 = .ok (.return_, 1) := by decide +kernel
theorem dX5_findHeadsAnew_0 : decode cX5_findHeadsAnew 0 = .ok (.aload_n 0, 1) := by decide +kernel
theorem dX5_findHeadsAnew_1 : decode cX5_findHeadsAnew 1 = .ok (.getfield 51, 3) := by decide +kernel
theorem dX5_findHeadsAnew_4 : decode cX5_findHeadsAnew 4 = .ok (.invokevirtual 290, 3) := by decide +kernel
theorem dX5_findHeadsAnew_7 : decode cX5_findHeadsAnew 7 = .ok (.iconst 0, 1) := by decide +kernel
theorem dX5_findHeadsAnew_8 : decode cX5_findHeadsAnew 8 = .ok (.istore_n 1, 1) := by decide +kernel
theorem dX5_findHeadsAnew_9 : decode cX5_findHeadsAnew 9 = .ok (.iload_n 1, 1) := by decide +kernel
theorem dX5_findHeadsAnew_10 : decode cX5_findHeadsAnew 10 = .ok (.aload_n 0, 1) := by decide +kernel
theorem dX5_findHeadsAnew_11 : decode cX5_findHeadsAnew 11 = .ok (.getfield 163, 3) := by decide +kernel
theorem dX5_findHeadsAnew_14 : decode cX5_findHeadsAnew 14 = .ok (.if_icmp .ge 64, 3) := by decide +kernel
theorem dX5_findHeadsAnew_17 : decode cX5_findHeadsAnew 17 = .ok (.aload_n 0, 1) := by decide +kernel
theorem dX5_findHeadsAnew_18 : decode cX5_findHeadsAnew 18 = .ok (.getfield 51, 3) := by decide +kernel
theorem dX5_findHeadsAnew_21 : decode cX5_findHeadsAnew 21 = .ok (.getfield 216, 3) := by decide +kernel
theorem dX5_findHeadsAnew_24 : decode cX5_findHeadsAnew 24 = .ok (.iload_n 1, 1) := by decide +kernel
theorem dX5_findHeadsAnew_25 : decode cX5_findHeadsAnew 25 = .ok (.aload_n 0, 1) := by decide +kernel
theorem dX5_findHeadsAnew_26 : decode cX5_findHeadsAnew 26 = .ok (.getfield 37, 3) := by decide +kernel
theorem dX5_findHeadsAnew_29 : decode cX5_findHeadsAnew 29 = .ok (.iload_n 1, 1) := by decide +kernel
theorem dX5_findHeadsAnew_30 : decode cX5_findHeadsAnew 30 = .ok (.aaload, 1) := by decide +kernel
theorem dX5_findHeadsAnew_31 : decode cX5_findHeadsAnew 31 = .ok (.aload_n 0, 1) := by decide +kernel
theorem dX5_findHeadsAnew_32 : decode cX5_findHeadsAnew 32 = .ok (.getfield 19, 3) := by decide +kernel
theorem dX5_findHeadsAnew_35 : decode cX5_findHeadsAnew 35 = .ok (.invokevirtual 297, 3) := by decide +kernel
theorem dX5_findHeadsAnew_38 : decode cX5_findHeadsAnew 38 = .ok (.iastore, 1) := by decide +kernel
theorem dX5_findHeadsAnew_39 : decode cX5_findHeadsAnew 39 = .ok (.aload_n 0, 1) := by decide +kernel
theorem dX5_findHeadsAnew_40 : decode cX5_findHeadsAnew 40 = .ok (.getfield 37, 3) := by decide +kernel
theorem dX5_findHeadsAnew_43 : decode cX5_findHeadsAnew 43 = .ok (.iload_n 1, 1) := by decide +kernel
theorem dX5_findHeadsAnew_44 : decode cX5_findHeadsAnew 44 = .ok (.aaload, 1) := by decide +kernel
theorem dX5_findHeadsAnew_45 : decode cX5_findHeadsAnew 45 = .ok (.aload_n 0, 1) := by decide +kernel
theorem dX5_findHeadsAnew_46 : decode cX5_findHeadsAnew 46 = .ok (.getfield 19, 3) := by decide +kernel
theorem dX5_findHeadsAnew_49 : decode cX5_findHeadsAnew 49 = .ok (.invokevirtual 301, 3) := by decide +kernel
theorem dX5_findHeadsAnew_52 : decode cX5_findHeadsAnew 52 = .ok (.ifCond .eq 20, 3) := by decide +kernel
theorem dX5_findHeadsAnew_55 : decode cX5_findHeadsAnew 55 = .ok (.aload_n 0, 1) := by decide +kernel
theorem dX5_findHeadsAnew_56 : decode cX5_findHeadsAnew 56 = .ok (.getfield 51, 3) := by decide +kernel
theorem dX5_findHeadsAnew_59 : decode cX5_findHeadsAnew 59 = .ok (.aload_n 0, 1) := by decide +kernel
theorem dX5_findHeadsAnew_60 : decode cX5_findHeadsAnew 60 = .ok (.getfield 37, 3) := by decide +kernel
theorem dX5_findHeadsAnew_63 : decode cX5_findHeadsAnew 63 = .ok (.iload_n 1, 1) := by decide +kernel
theorem dX5_findHeadsAnew_64 : decode cX5_findHeadsAnew 64 = .ok (.aaload, 1) := by decide +kernel
theorem dX5_findHeadsAnew_65 : decode cX5_findHeadsAnew 65 = .ok (.getfield 263, 3) := by decide +kernel
theorem dX5_findHeadsAnew_68 : decode cX5_findHeadsAnew 68 = .ok (.iload_n 1, 1) := by decide +kernel
theorem dX5_findHeadsAnew_69 : decode cX5_findHeadsAnew 69 = .ok (.invokevirtual 293, 3) := by decide +kernel
theorem dX5_findHeadsAnew_72 : decode cX5_findHeadsAnew 72 = .ok (.iinc 1 1, 3) := by decide +kernel
theorem dX5_findHeadsAnew_75 : decode cX5_findHeadsAnew 75 = .ok (.goto (-66), 3) := by decide +kernel
theorem dX5_findHeadsAnew_78 : decode cX5_findHeadsAnew 78 = .ok (.return_, 1) := by decide +kernel
theorem dX5_stepMachines_0 : decode cX5_stepMachines 0 = .ok (.iconst 0, 1) := by decide +kernel
theorem dX5_stepMachines_1 : decode cX5_stepMachines 1 = .ok (.istore_n 1, 1) := by decide +kernel
theorem dX5_stepMachines_2 : decode cX5_stepMachines 2 = .ok (.iconst 0, 1) := by decide +kernel
theorem dX5_stepMachines_3 : decode cX5_stepMachines 3 = .ok (.istore_n 2, 1) := by decide +kernel
theorem dX5_stepMachines_4 : decode cX5_stepMachines 4 = .ok (.iconst 0, 1) := by decide +kernel
theorem dX5_stepMachines_5 : decode cX5_stepMachines 5 = .ok (.istore_n 3, 1) := by decide +kernel
theorem dX5_stepMachines_6 : decode cX5_stepMachines 6 = .ok (.iload_n 3, 1) := by decide +kernel
theorem dX5_stepMachines_7 : decode cX5_stepMachines 7 = .ok (.aload_n 0, 1) := by decide +kernel
theorem dX5_stepMachines_8 : decode cX5_stepMachines 8 = .ok (.getfield 127, 3) := by decide +kernel
theorem dX5_stepMachines_11 : decode cX5_stepMachines 11 = .ok (.if_icmp .ge 80, 3) := by decide +kernel
theorem dX5_stepMachines_14 : decode cX5_stepMachines 14 = .ok (.aload_n 0, 1) := by decide +kernel
theorem dX5_stepMachines_15 : decode cX5_stepMachines 15 = .ok (.getfield 31, 3) := by decide +kernel
theorem dX5_stepMachines_18 : decode cX5_stepMachines 18 = .ok (.iload_n 3, 1) := by decide +kernel
theorem dX5_stepMachines_19 : decode cX5_stepMachines 19 = .ok (.aaload, 1) := by decide +kernel
theorem dX5_stepMachines_20 : decode cX5_stepMachines 20 = .ok (.astore 4, 2) := by decide +kernel
theorem dX5_stepMachines_22 : decode cX5_stepMachines 22 = .ok (.aload_n 0, 1) := by decide +kernel
theorem dX5_stepMachines_23 : decode cX5_stepMachines 23 = .ok (.aload 4, 2) := by decide +kernel
theorem dX5_stepMachines_25 : decode cX5_stepMachines 25 = .ok (.invokevirtual 147, 3) := by decide +kernel
theorem dX5_stepMachines_28 : decode cX5_stepMachines 28 = .ok (.istore 5, 2) := by decide +kernel
theorem dX5_stepMachines_30 : decode cX5_stepMachines 30 = .ok (.iload 5, 2) := by decide +kernel
theorem dX5_stepMachines_32 : decode cX5_stepMachines 32 = .ok (.iconst (-1), 1) := by decide +kernel
theorem dX5_stepMachines_33 : decode cX5_stepMachines 33 = .ok (.if_icmp .eq 17, 3) := by decide +kernel
theorem dX5_stepMachines_36 : decode cX5_stepMachines 36 = .ok (.aload_n 0, 1) := by decide +kernel
theorem dX5_stepMachines_37 : decode cX5_stepMachines 37 = .ok (.aload 4, 2) := by decide +kernel
theorem dX5_stepMachines_39 : decode cX5_stepMachines 39 = .ok (.iload 5, 2) := by decide +kernel
theorem dX5_stepMachines_41 : decode cX5_stepMachines 41 = .ok (.invokevirtual 305, 3) := by decide +kernel
theorem dX5_stepMachines_44 : decode cX5_stepMachines 44 = .ok (.iinc 1 1, 3) := by decide +kernel
theorem dX5_stepMachines_47 : decode cX5_stepMachines 47 = .ok (.goto 38, 3) := by decide +kernel
theorem dX5_stepMachines_50 : decode cX5_stepMachines 50 = .ok (.aload 4, 2) := by decide +kernel
theorem dX5_stepMachines_52 : decode cX5_stepMachines 52 = .ok (.getfield 139, 3) := by decide +kernel
theorem dX5_stepMachines_55 : decode cX5_stepMachines 55 = .ok (.aload_n 0, 1) := by decide +kernel
theorem dX5_stepMachines_56 : decode cX5_stepMachines 56 = .ok (.getfield 97, 3) := by decide +kernel
theorem dX5_stepMachines_59 : decode cX5_stepMachines 59 = .ok (.if_icmp .gt 26, 3) := by decide +kernel
theorem dX5_stepMachines_62 : decode cX5_stepMachines 62 = .ok (.iload_n 2, 1) := by decide +kernel
theorem dX5_stepMachines_63 : decode cX5_stepMachines 63 = .ok (.aload_n 0, 1) := by decide +kernel
theorem dX5_stepMachines_64 : decode cX5_stepMachines 64 = .ok (.getfield 9, 3) := by decide +kernel
theorem dX5_stepMachines_67 : decode cX5_stepMachines 67 = .ok (.if_icmp .ge 18, 3) := by decide +kernel
theorem dX5_stepMachines_70 : decode cX5_stepMachines 70 = .ok (.aload_n 0, 1) := by decide +kernel
theorem dX5_stepMachines_71 : decode cX5_stepMachines 71 = .ok (.aload 4, 2) := by decide +kernel
theorem dX5_stepMachines_73 : decode cX5_stepMachines 73 = .ok (.invokevirtual 309, 3) := by decide +kernel
theorem dX5_stepMachines_76 : decode cX5_stepMachines 76 = .ok (.ifCond .eq 9, 3) := by decide +kernel
theorem dX5_stepMachines_79 : decode cX5_stepMachines 79 = .ok (.iinc 2 1, 3) := by decide +kernel
theorem dX5_stepMachines_82 : decode cX5_stepMachines 82 = .ok (.iinc 1 1, 3) := by decide +kernel
theorem dX5_stepMachines_85 : decode cX5_stepMachines 85 = .ok (.iinc 3 1, 3) := by decide +kernel
theorem dX5_stepMachines_88 : decode cX5_stepMachines 88 = .ok (.goto (-82), 3) := by decide +kernel
theorem dX5_stepMachines_91 : decode cX5_stepMachines 91 = .ok (.iload_n 1, 1) := by decide +kernel
theorem dX5_stepMachines_92 : decode cX5_stepMachines 92 = .ok (.ireturn, 1) := by decide +kernel
theorem dX5_isAnyBusy_0 : decode cX5_isAnyBusy 0 = .ok (.iconst 0, 1) := by decide +kernel
theorem dX5_isAnyBusy_1 : decode cX5_isAnyBusy 1 = .ok (.istore_n 1, 1) := by decide +kernel
theorem dX5_isAnyBusy_2 : decode cX5_isAnyBusy 2 = .ok (.iload_n 1, 1) := by decide +kernel
theorem dX5_isAnyBusy_3 : decode cX5_isAnyBusy 3 = .ok (.aload_n 0, 1) := by decide +kernel
theorem dX5_isAnyBusy_4 : decode cX5_isAnyBusy 4 = .ok (.getfield 127, 3) := by decide +kernel
theorem dX5_isAnyBusy_7 : decode cX5_isAnyBusy 7 = .ok (.if_icmp .ge 27, 3) := by decide +kernel
theorem dX5_isAnyBusy_10 : decode cX5_isAnyBusy 10 = .ok (.aload_n 0, 1) := by decide +kernel
theorem dX5_isAnyBusy_11 : decode cX5_isAnyBusy 11 = .ok (.getfield 31, 3) := by decide +kernel
theorem dX5_isAnyBusy_14 : decode cX5_isAnyBusy 14 = .ok (.iload_n 1, 1) := by decide +kernel
theorem dX5_isAnyBusy_15 : decode cX5_isAnyBusy 15 = .ok (.aaload, 1) := by decide +kernel
theorem dX5_isAnyBusy_16 : decode cX5_isAnyBusy 16 = .ok (.getfield 139, 3) := by decide +kernel
theorem dX5_isAnyBusy_19 : decode cX5_isAnyBusy 19 = .ok (.aload_n 0, 1) := by decide +kernel
theorem dX5_isAnyBusy_20 : decode cX5_isAnyBusy 20 = .ok (.getfield 97, 3) := by decide +kernel
theorem dX5_isAnyBusy_23 : decode cX5_isAnyBusy 23 = .ok (.if_icmp .le 5, 3) := by decide +kernel
theorem dX5_isAnyBusy_26 : decode cX5_isAnyBusy 26 = .ok (.iconst 1, 1) := by decide +kernel
theorem dX5_isAnyBusy_27 : decode cX5_isAnyBusy 27 = .ok (.ireturn, 1) := by decide +kernel
theorem dX5_isAnyBusy_28 : decode cX5_isAnyBusy 28 = .ok (.iinc 1 1, 3) := by decide +kernel
theorem dX5_isAnyBusy_31 : decode cX5_isAnyBusy 31 = .ok (.goto (-29), 3) := by decide +kernel
theorem dX5_isAnyBusy_34 : decode cX5_isAnyBusy 34 = .ok (.iconst 0, 1) := by decide +kernel
theorem dX5_isAnyBusy_35 : decode cX5_isAnyBusy 35 = .ok (.ireturn, 1) := by decide +kernel
theorem dX5_nearestLayerNotHeld_0 : decode cX5_nearestLayerNotHeld 0 = .ok (.iconst 0, 1) := by decide +kernel
theorem dX5_nearestLayerNotHeld_1 : decode cX5_nearestLayerNotHeld 1 = .ok (.istore_n 2, 1) := by decide +kernel
theorem dX5_nearestLayerNotHeld_2 : decode cX5_nearestLayerNotHeld 2 = .ok (.iload_n 2, 1) := by decide +kernel
theorem dX5_nearestLayerNotHeld_3 : decode cX5_nearestLayerNotHeld 3 = .ok (.aload_n 1, 1) := by decide +kernel
theorem dX5_nearestLayerNotHeld_4 : decode cX5_nearestLayerNotHeld 4 = .ok (.getfield 225, 3) := by decide +kernel
theorem dX5_nearestLayerNotHeld_7 : decode cX5_nearestLayerNotHeld 7 = .ok (.if_icmp .ge 47, 3) := by decide +kernel
theorem dX5_nearestLayerNotHeld_10 : decode cX5_nearestLayerNotHeld 10 = .ok (.iconst 0, 1) := by decide +kernel
theorem dX5_nearestLayerNotHeld_11 : decode cX5_nearestLayerNotHeld 11 = .ok (.istore_n 3, 1) := by decide +kernel
theorem dX5_nearestLayerNotHeld_12 : decode cX5_nearestLayerNotHeld 12 = .ok (.iload_n 3, 1) := by decide +kernel
theorem dX5_nearestLayerNotHeld_13 : decode cX5_nearestLayerNotHeld 13 = .ok (.bipush 6, 2) := by decide +kernel
theorem dX5_nearestLayerNotHeld_15 : decode cX5_nearestLayerNotHeld 15 = .ok (.if_icmp .ge 33, 3) := by decide +kernel
theorem dX5_nearestLayerNotHeld_18 : decode cX5_nearestLayerNotHeld 18 = .ok (.aload_n 0, 1) := by decide +kernel
theorem dX5_nearestLayerNotHeld_19 : decode cX5_nearestLayerNotHeld 19 = .ok (.aload_n 1, 1) := by decide +kernel
theorem dX5_nearestLayerNotHeld_20 : decode cX5_nearestLayerNotHeld 20 = .ok (.getfield 233, 3) := by decide +kernel
theorem dX5_nearestLayerNotHeld_23 : decode cX5_nearestLayerNotHeld 23 = .ok (.aload_n 1, 1) := by decide +kernel
theorem dX5_nearestLayerNotHeld_24 : decode cX5_nearestLayerNotHeld 24 = .ok (.getfield 236, 3) := by decide +kernel
theorem dX5_nearestLayerNotHeld_27 : decode cX5_nearestLayerNotHeld 27 = .ok (.iload_n 2, 1) := by decide +kernel
theorem dX5_nearestLayerNotHeld_28 : decode cX5_nearestLayerNotHeld 28 = .ok (.iaload, 1) := by decide +kernel
theorem dX5_nearestLayerNotHeld_29 : decode cX5_nearestLayerNotHeld 29 = .ok (.iload_n 3, 1) := by decide +kernel
theorem dX5_nearestLayerNotHeld_30 : decode cX5_nearestLayerNotHeld 30 = .ok (.invokestatic 171, 3) := by decide +kernel
theorem dX5_nearestLayerNotHeld_33 : decode cX5_nearestLayerNotHeld 33 = .ok (.iaload, 1) := by decide +kernel
theorem dX5_nearestLayerNotHeld_34 : decode cX5_nearestLayerNotHeld 34 = .ok (.invokevirtual 313, 3) := by decide +kernel
theorem dX5_nearestLayerNotHeld_37 : decode cX5_nearestLayerNotHeld 37 = .ok (.ifCond .eq 5, 3) := by decide +kernel
theorem dX5_nearestLayerNotHeld_40 : decode cX5_nearestLayerNotHeld 40 = .ok (.iload_n 2, 1) := by decide +kernel
theorem dX5_nearestLayerNotHeld_41 : decode cX5_nearestLayerNotHeld 41 = .ok (.ireturn, 1) := by decide +kernel
theorem dX5_nearestLayerNotHeld_42 : decode cX5_nearestLayerNotHeld 42 = .ok (.iinc 3 1, 3) := by decide +kernel
theorem dX5_nearestLayerNotHeld_45 : decode cX5_nearestLayerNotHeld 45 = .ok (.goto (-33), 3) := by decide +kernel
theorem dX5_nearestLayerNotHeld_48 : decode cX5_nearestLayerNotHeld 48 = .ok (.iinc 2 1, 3) := by decide +kernel
theorem dX5_nearestLayerNotHeld_51 : decode cX5_nearestLayerNotHeld 51 = .ok (.goto (-49), 3) := by decide +kernel
theorem dX5_nearestLayerNotHeld_54 : decode cX5_nearestLayerNotHeld 54 = .ok (.iconst (-1), 1) := by decide +kernel
theorem dX5_nearestLayerNotHeld_55 : decode cX5_nearestLayerNotHeld 55 = .ok (.ireturn, 1) := by decide +kernel
theorem dX5_isTakenNotHeld_0 : decode cX5_isTakenNotHeld 0 = .ok (.aload_n 0, 1) := by decide +kernel
theorem dX5_isTakenNotHeld_1 : decode cX5_isTakenNotHeld 1 = .ok (.iload_n 1, 1) := by decide +kernel
theorem dX5_isTakenNotHeld_2 : decode cX5_isTakenNotHeld 2 = .ok (.invokevirtual 276, 3) := by decide +kernel
theorem dX5_isTakenNotHeld_5 : decode cX5_isTakenNotHeld 5 = .ok (.ifCond .eq 20, 3) := by decide +kernel
theorem dX5_isTakenNotHeld_8 : decode cX5_isTakenNotHeld 8 = .ok (.aload_n 0, 1) := by decide +kernel
theorem dX5_isTakenNotHeld_9 : decode cX5_isTakenNotHeld 9 = .ok (.getfield 37, 3) := by decide +kernel
theorem dX5_isTakenNotHeld_12 : decode cX5_isTakenNotHeld 12 = .ok (.iload_n 1, 1) := by decide +kernel
theorem dX5_isTakenNotHeld_13 : decode cX5_isTakenNotHeld 13 = .ok (.aaload, 1) := by decide +kernel
theorem dX5_isTakenNotHeld_14 : decode cX5_isTakenNotHeld 14 = .ok (.getfield 195, 3) := by decide +kernel
theorem dX5_isTakenNotHeld_17 : decode cX5_isTakenNotHeld 17 = .ok (.iconst 1, 1) := by decide +kernel
theorem dX5_isTakenNotHeld_18 : decode cX5_isTakenNotHeld 18 = .ok (.if_icmp .eq 7, 3) := by decide +kernel
theorem dX5_isTakenNotHeld_21 : decode cX5_isTakenNotHeld 21 = .ok (.iconst 1, 1) := by decide +kernel
theorem dX5_isTakenNotHeld_22 : decode cX5_isTakenNotHeld 22 = .ok (.goto 4, 3) := by decide +kernel
theorem dX5_isTakenNotHeld_25 : decode cX5_isTakenNotHeld 25 = .ok (.iconst 0, 1) := by decide +kernel
theorem dX5_isTakenNotHeld_26 : decode cX5_isTakenNotHeld 26 = .ok (.ireturn, 1) := by decide +kernel
theorem dX5_goBack_0 : decode cX5_goBack 0 = .ok (.iconst 0, 1) := by decide +kernel
theorem dX5_goBack_1 : decode cX5_goBack 1 = .ok (.istore_n 3, 1) := by decide +kernel
theorem dX5_goBack_2 : decode cX5_goBack 2 = .ok (.iload_n 3, 1) := by decide +kernel
theorem dX5_goBack_3 : decode cX5_goBack 3 = .ok (.bipush 6, 2) := by decide +kernel
theorem dX5_goBack_5 : decode cX5_goBack 5 = .ok (.if_icmp .ge 52, 3) := by decide +kernel
theorem dX5_goBack_8 : decode cX5_goBack 8 = .ok (.aload_n 1, 1) := by decide +kernel
theorem dX5_goBack_9 : decode cX5_goBack 9 = .ok (.getfield 236, 3) := by decide +kernel
theorem dX5_goBack_12 : decode cX5_goBack 12 = .ok (.iload_n 2, 1) := by decide +kernel
theorem dX5_goBack_13 : decode cX5_goBack 13 = .ok (.iaload, 1) := by decide +kernel
theorem dX5_goBack_14 : decode cX5_goBack 14 = .ok (.iload_n 3, 1) := by decide +kernel
theorem dX5_goBack_15 : decode cX5_goBack 15 = .ok (.invokestatic 171, 3) := by decide +kernel
theorem dX5_goBack_18 : decode cX5_goBack 18 = .ok (.istore 4, 2) := by decide +kernel
theorem dX5_goBack_20 : decode cX5_goBack 20 = .ok (.aload_n 0, 1) := by decide +kernel
theorem dX5_goBack_21 : decode cX5_goBack 21 = .ok (.aload_n 1, 1) := by decide +kernel
theorem dX5_goBack_22 : decode cX5_goBack 22 = .ok (.getfield 233, 3) := by decide +kernel
theorem dX5_goBack_25 : decode cX5_goBack 25 = .ok (.iload 4, 2) := by decide +kernel
theorem dX5_goBack_27 : decode cX5_goBack 27 = .ok (.iaload, 1) := by decide +kernel
theorem dX5_goBack_28 : decode cX5_goBack 28 = .ok (.invokevirtual 313, 3) := by decide +kernel
theorem dX5_goBack_31 : decode cX5_goBack 31 = .ok (.ifCond .eq 20, 3) := by decide +kernel
theorem dX5_goBack_34 : decode cX5_goBack 34 = .ok (.aload_n 1, 1) := by decide +kernel
theorem dX5_goBack_35 : decode cX5_goBack 35 = .ok (.getfield 233, 3) := by decide +kernel
theorem dX5_goBack_38 : decode cX5_goBack 38 = .ok (.iload 4, 2) := by decide +kernel
theorem dX5_goBack_40 : decode cX5_goBack 40 = .ok (.aload_n 0, 1) := by decide +kernel
theorem dX5_goBack_41 : decode cX5_goBack 41 = .ok (.getfield 47, 3) := by decide +kernel
theorem dX5_goBack_44 : decode cX5_goBack 44 = .ok (.getfield 219, 3) := by decide +kernel
theorem dX5_goBack_47 : decode cX5_goBack 47 = .ok (.iload 4, 2) := by decide +kernel
theorem dX5_goBack_49 : decode cX5_goBack 49 = .ok (.iaload, 1) := by decide +kernel
theorem dX5_goBack_50 : decode cX5_goBack 50 = .ok (.iastore, 1) := by decide +kernel
theorem dX5_goBack_51 : decode cX5_goBack 51 = .ok (.iinc 3 1, 3) := by decide +kernel
theorem dX5_goBack_54 : decode cX5_goBack 54 = .ok (.goto (-52), 3) := by decide +kernel
theorem dX5_goBack_57 : decode cX5_goBack 57 = .ok (.return_, 1) := by decide +kernel
theorem dX5_takeFarthestLayer_0 : decode cX5_takeFarthestLayer 0 = .ok (.aload_n 1, 1) := by decide +kernel
theorem dX5_takeFarthestLayer_1 : decode cX5_takeFarthestLayer 1 = .ok (.getfield 225, 3) := by decide +kernel
theorem dX5_takeFarthestLayer_4 : decode cX5_takeFarthestLayer 4 = .ok (.iconst 1, 1) := by decide +kernel
theorem dX5_takeFarthestLayer_5 : decode cX5_takeFarthestLayer 5 = .ok (.isub, 1) := by decide +kernel
theorem dX5_takeFarthestLayer_6 : decode cX5_takeFarthestLayer 6 = .ok (.istore_n 2, 1) := by decide +kernel
theorem dX5_takeFarthestLayer_7 : decode cX5_takeFarthestLayer 7 = .ok (.iload_n 2, 1) := by decide +kernel
theorem dX5_takeFarthestLayer_8 : decode cX5_takeFarthestLayer 8 = .ok (.ifCond .lt 26, 3) := by decide +kernel
theorem dX5_takeFarthestLayer_11 : decode cX5_takeFarthestLayer 11 = .ok (.aload_n 0, 1) := by decide +kernel
theorem dX5_takeFarthestLayer_12 : decode cX5_takeFarthestLayer 12 = .ok (.aload_n 1, 1) := by decide +kernel
theorem dX5_takeFarthestLayer_13 : decode cX5_takeFarthestLayer 13 = .ok (.iload_n 2, 1) := by decide +kernel
theorem dX5_takeFarthestLayer_14 : decode cX5_takeFarthestLayer 14 = .ok (.invokevirtual 256, 3) := by decide +kernel
theorem dX5_takeFarthestLayer_17 : decode cX5_takeFarthestLayer 17 = .ok (.ifCond .eq 11, 3) := by decide +kernel
theorem dX5_takeFarthestLayer_20 : decode cX5_takeFarthestLayer 20 = .ok (.aload_n 0, 1) := by decide +kernel
theorem dX5_takeFarthestLayer_21 : decode cX5_takeFarthestLayer 21 = .ok (.aload_n 1, 1) := by decide +kernel
theorem dX5_takeFarthestLayer_22 : decode cX5_takeFarthestLayer 22 = .ok (.iload_n 2, 1) := by decide +kernel
theorem dX5_takeFarthestLayer_23 : decode cX5_takeFarthestLayer 23 = .ok (.invokevirtual 316, 3) := by decide +kernel
theorem dX5_takeFarthestLayer_26 : decode cX5_takeFarthestLayer 26 = .ok (.iconst 1, 1) := by decide +kernel
theorem dX5_takeFarthestLayer_27 : decode cX5_takeFarthestLayer 27 = .ok (.ireturn, 1) := by decide +kernel
theorem dX5_takeFarthestLayer_28 : decode cX5_takeFarthestLayer 28 = .ok (.iinc 2 (-1), 3) := by decide +kernel
theorem dX5_takeFarthestLayer_31 : decode cX5_takeFarthestLayer 31 = .ok (.goto (-24), 3) := by decide +kernel
theorem dX5_takeFarthestLayer_34 : decode cX5_takeFarthestLayer 34 = .ok (.iconst 0, 1) := by decide +kernel
theorem dX5_takeFarthestLayer_35 : decode cX5_takeFarthestLayer 35 = .ok (.ireturn, 1) := by decide +kernel
theorem dX5_takeLayer_0 : decode cX5_takeLayer 0 = .ok (.iconst 0, 1) := by decide +kernel
theorem dX5_takeLayer_1 : decode cX5_takeLayer 1 = .ok (.istore_n 3, 1) := by decide +kernel
theorem dX5_takeLayer_2 : decode cX5_takeLayer 2 = .ok (.iload_n 3, 1) := by decide +kernel
theorem dX5_takeLayer_3 : decode cX5_takeLayer 3 = .ok (.bipush 6, 2) := by decide +kernel
theorem dX5_takeLayer_5 : decode cX5_takeLayer 5 = .ok (.if_icmp .ge 38, 3) := by decide +kernel
theorem dX5_takeLayer_8 : decode cX5_takeLayer 8 = .ok (.aload_n 1, 1) := by decide +kernel
theorem dX5_takeLayer_9 : decode cX5_takeLayer 9 = .ok (.getfield 236, 3) := by decide +kernel
theorem dX5_takeLayer_12 : decode cX5_takeLayer 12 = .ok (.iload_n 2, 1) := by decide +kernel
theorem dX5_takeLayer_13 : decode cX5_takeLayer 13 = .ok (.iaload, 1) := by decide +kernel
theorem dX5_takeLayer_14 : decode cX5_takeLayer 14 = .ok (.iload_n 3, 1) := by decide +kernel
theorem dX5_takeLayer_15 : decode cX5_takeLayer 15 = .ok (.invokestatic 171, 3) := by decide +kernel
theorem dX5_takeLayer_18 : decode cX5_takeLayer 18 = .ok (.istore 4, 2) := by decide +kernel
theorem dX5_takeLayer_20 : decode cX5_takeLayer 20 = .ok (.aload_n 1, 1) := by decide +kernel
theorem dX5_takeLayer_21 : decode cX5_takeLayer 21 = .ok (.getfield 233, 3) := by decide +kernel
theorem dX5_takeLayer_24 : decode cX5_takeLayer 24 = .ok (.iload 4, 2) := by decide +kernel
theorem dX5_takeLayer_26 : decode cX5_takeLayer 26 = .ok (.aload_n 0, 1) := by decide +kernel
theorem dX5_takeLayer_27 : decode cX5_takeLayer 27 = .ok (.getfield 47, 3) := by decide +kernel
theorem dX5_takeLayer_30 : decode cX5_takeLayer 30 = .ok (.getfield 219, 3) := by decide +kernel
theorem dX5_takeLayer_33 : decode cX5_takeLayer 33 = .ok (.iload 4, 2) := by decide +kernel
theorem dX5_takeLayer_35 : decode cX5_takeLayer 35 = .ok (.iaload, 1) := by decide +kernel
theorem dX5_takeLayer_36 : decode cX5_takeLayer 36 = .ok (.iastore, 1) := by decide +kernel
theorem dX5_takeLayer_37 : decode cX5_takeLayer 37 = .ok (.iinc 3 1, 3) := by decide +kernel
theorem dX5_takeLayer_40 : decode cX5_takeLayer 40 = .ok (.goto (-38), 3) := by decide +kernel
theorem dX5_takeLayer_43 : decode cX5_takeLayer 43 = .ok (.return_, 1) := by decide +kernel
theorem dX5_isBehindIn_0 : decode cX5_isBehindIn 0 = .ok (.iconst 0, 1) := by decide +kernel
theorem dX5_isBehindIn_1 : decode cX5_isBehindIn 1 = .ok (.istore_n 3, 1) := by decide +kernel
theorem dX5_isBehindIn_2 : decode cX5_isBehindIn 2 = .ok (.iload_n 3, 1) := by decide +kernel
theorem dX5_isBehindIn_3 : decode cX5_isBehindIn 3 = .ok (.bipush 6, 2) := by decide +kernel
theorem dX5_isBehindIn_5 : decode cX5_isBehindIn 5 = .ok (.if_icmp .ge 43, 3) := by decide +kernel
theorem dX5_isBehindIn_8 : decode cX5_isBehindIn 8 = .ok (.aload_n 1, 1) := by decide +kernel
theorem dX5_isBehindIn_9 : decode cX5_isBehindIn 9 = .ok (.getfield 236, 3) := by decide +kernel
theorem dX5_isBehindIn_12 : decode cX5_isBehindIn 12 = .ok (.iload_n 2, 1) := by decide +kernel
theorem dX5_isBehindIn_13 : decode cX5_isBehindIn 13 = .ok (.iaload, 1) := by decide +kernel
theorem dX5_isBehindIn_14 : decode cX5_isBehindIn 14 = .ok (.iload_n 3, 1) := by decide +kernel
theorem dX5_isBehindIn_15 : decode cX5_isBehindIn 15 = .ok (.invokestatic 171, 3) := by decide +kernel
theorem dX5_isBehindIn_18 : decode cX5_isBehindIn 18 = .ok (.istore 4, 2) := by decide +kernel
theorem dX5_isBehindIn_20 : decode cX5_isBehindIn 20 = .ok (.aload_n 1, 1) := by decide +kernel
theorem dX5_isBehindIn_21 : decode cX5_isBehindIn 21 = .ok (.getfield 233, 3) := by decide +kernel
theorem dX5_isBehindIn_24 : decode cX5_isBehindIn 24 = .ok (.iload 4, 2) := by decide +kernel
theorem dX5_isBehindIn_26 : decode cX5_isBehindIn 26 = .ok (.iaload, 1) := by decide +kernel
theorem dX5_isBehindIn_27 : decode cX5_isBehindIn 27 = .ok (.aload_n 0, 1) := by decide +kernel
theorem dX5_isBehindIn_28 : decode cX5_isBehindIn 28 = .ok (.getfield 47, 3) := by decide +kernel
theorem dX5_isBehindIn_31 : decode cX5_isBehindIn 31 = .ok (.getfield 219, 3) := by decide +kernel
theorem dX5_isBehindIn_34 : decode cX5_isBehindIn 34 = .ok (.iload 4, 2) := by decide +kernel
theorem dX5_isBehindIn_36 : decode cX5_isBehindIn 36 = .ok (.iaload, 1) := by decide +kernel
theorem dX5_isBehindIn_37 : decode cX5_isBehindIn 37 = .ok (.if_icmp .eq 5, 3) := by decide +kernel
theorem dX5_isBehindIn_40 : decode cX5_isBehindIn 40 = .ok (.iconst 1, 1) := by decide +kernel
theorem dX5_isBehindIn_41 : decode cX5_isBehindIn 41 = .ok (.ireturn, 1) := by decide +kernel
theorem dX5_isBehindIn_42 : decode cX5_isBehindIn 42 = .ok (.iinc 3 1, 3) := by decide +kernel
theorem dX5_isBehindIn_45 : decode cX5_isBehindIn 45 = .ok (.goto (-43), 3) := by decide +kernel
theorem dX5_isBehindIn_48 : decode cX5_isBehindIn 48 = .ok (.iconst 0, 1) := by decide +kernel
theorem dX5_isBehindIn_49 : decode cX5_isBehindIn 49 = .ok (.ireturn, 1) := by decide +kernel
theorem dX5_findRunning_0 : decode cX5_findRunning 0 = .ok (.aload_n 0, 1) := by decide +kernel
theorem dX5_findRunning_1 : decode cX5_findRunning 1 = .ok (.aload_n 1, 1) := by decide +kernel
theorem dX5_findRunning_2 : decode cX5_findRunning 2 = .ok (.invokevirtual 147, 3) := by decide +kernel
theorem dX5_findRunning_5 : decode cX5_findRunning 5 = .ok (.iconst (-1), 1) := by decide +kernel
theorem dX5_findRunning_6 : decode cX5_findRunning 6 = .ok (.if_icmp .eq 13, 3) := by decide +kernel
theorem dX5_findRunning_9 : decode cX5_findRunning 9 = .ok (.aload_n 0, 1) := by decide +kernel
theorem dX5_findRunning_10 : decode cX5_findRunning 10 = .ok (.getfield 57, 3) := by decide +kernel
theorem dX5_findRunning_13 : decode cX5_findRunning 13 = .ok (.invokevirtual 319, 3) := by decide +kernel
theorem dX5_findRunning_16 : decode cX5_findRunning 16 = .ok (.goto 19, 3) := by decide +kernel
theorem dX5_findRunning_19 : decode cX5_findRunning 19 = .ok (.aload_n 0, 1) := by decide +kernel
theorem dX5_findRunning_20 : decode cX5_findRunning 20 = .ok (.aload_n 1, 1) := by decide +kernel
theorem dX5_findRunning_21 : decode cX5_findRunning 21 = .ok (.aload_n 1, 1) := by decide +kernel
theorem dX5_findRunning_22 : decode cX5_findRunning 22 = .ok (.getfield 233, 3) := by decide +kernel
theorem dX5_findRunning_25 : decode cX5_findRunning 25 = .ok (.aload_n 0, 1) := by decide +kernel
theorem dX5_findRunning_26 : decode cX5_findRunning 26 = .ok (.getfield 47, 3) := by decide +kernel
theorem dX5_findRunning_29 : decode cX5_findRunning 29 = .ok (.getfield 216, 3) := by decide +kernel
theorem dX5_findRunning_32 : decode cX5_findRunning 32 = .ok (.invokevirtual 249, 3) := by decide +kernel
theorem dX5_findRunning_35 : decode cX5_findRunning 35 = .ok (.return_, 1) := by decide +kernel
theorem dX5_findOutcome_0 : decode cX5_findOutcome 0 = .ok (.aload_n 0, 1) := by decide +kernel
theorem dX5_findOutcome_1 : decode cX5_findOutcome 1 = .ok (.getfield 57, 3) := by decide +kernel
theorem dX5_findOutcome_4 : decode cX5_findOutcome 4 = .ok (.invokevirtual 319, 3) := by decide +kernel
theorem dX5_findOutcome_7 : decode cX5_findOutcome 7 = .ok (.iconst 0, 1) := by decide +kernel
theorem dX5_findOutcome_8 : decode cX5_findOutcome 8 = .ok (.istore 4, 2) := by decide +kernel
theorem dX5_findOutcome_10 : decode cX5_findOutcome 10 = .ok (.iload 4, 2) := by decide +kernel
theorem dX5_findOutcome_12 : decode cX5_findOutcome 12 = .ok (.bipush 6, 2) := by decide +kernel
theorem dX5_findOutcome_14 : decode cX5_findOutcome 14 = .ok (.if_icmp .ge 18, 3) := by decide +kernel
theorem dX5_findOutcome_17 : decode cX5_findOutcome 17 = .ok (.aload_n 0, 1) := by decide +kernel
theorem dX5_findOutcome_18 : decode cX5_findOutcome 18 = .ok (.aload_n 1, 1) := by decide +kernel
theorem dX5_findOutcome_19 : decode cX5_findOutcome 19 = .ok (.aload_n 2, 1) := by decide +kernel
theorem dX5_findOutcome_20 : decode cX5_findOutcome 20 = .ok (.aload_n 3, 1) := by decide +kernel
theorem dX5_findOutcome_21 : decode cX5_findOutcome 21 = .ok (.iload 4, 2) := by decide +kernel
theorem dX5_findOutcome_23 : decode cX5_findOutcome 23 = .ok (.invokevirtual 322, 3) := by decide +kernel
theorem dX5_findOutcome_26 : decode cX5_findOutcome 26 = .ok (.iinc 4 1, 3) := by decide +kernel
theorem dX5_findOutcome_29 : decode cX5_findOutcome 29 = .ok (.goto (-19), 3) := by decide +kernel
theorem dX5_findOutcome_32 : decode cX5_findOutcome 32 = .ok (.aload_n 0, 1) := by decide +kernel
theorem dX5_findOutcome_33 : decode cX5_findOutcome 33 = .ok (.getfield 57, 3) := by decide +kernel
theorem dX5_findOutcome_36 : decode cX5_findOutcome 36 = .ok (.aload_n 0, 1) := by decide +kernel
theorem dX5_findOutcome_37 : decode cX5_findOutcome 37 = .ok (.getfield 41, 3) := by decide +kernel
theorem dX5_findOutcome_40 : decode cX5_findOutcome 40 = .ok (.invokevirtual 326, 3) := by decide +kernel
theorem dX5_findOutcome_43 : decode cX5_findOutcome 43 = .ok (.return_, 1) := by decide +kernel
theorem dX5_decide_0 : decode cX5_decide 0 = .ok (.iconst 0, 1) := by decide +kernel
theorem dX5_decide_1 : decode cX5_decide 1 = .ok (.istore 5, 2) := by decide +kernel
theorem dX5_decide_3 : decode cX5_decide 3 = .ok (.iload 5, 2) := by decide +kernel
theorem dX5_decide_5 : decode cX5_decide 5 = .ok (.aload_n 1, 1) := by decide +kernel
theorem dX5_decide_6 : decode cX5_decide 6 = .ok (.getfield 225, 3) := by decide +kernel
theorem dX5_decide_9 : decode cX5_decide 9 = .ok (.if_icmp .ge 72, 3) := by decide +kernel
theorem dX5_decide_12 : decode cX5_decide 12 = .ok (.aload_n 2, 1) := by decide +kernel
theorem dX5_decide_13 : decode cX5_decide 13 = .ok (.aload_n 1, 1) := by decide +kernel
theorem dX5_decide_14 : decode cX5_decide 14 = .ok (.getfield 236, 3) := by decide +kernel
theorem dX5_decide_17 : decode cX5_decide 17 = .ok (.iload 5, 2) := by decide +kernel
theorem dX5_decide_19 : decode cX5_decide 19 = .ok (.iaload, 1) := by decide +kernel
theorem dX5_decide_20 : decode cX5_decide 20 = .ok (.iload 4, 2) := by decide +kernel
theorem dX5_decide_22 : decode cX5_decide 22 = .ok (.invokestatic 171, 3) := by decide +kernel
theorem dX5_decide_25 : decode cX5_decide 25 = .ok (.iaload, 1) := by decide +kernel
theorem dX5_decide_26 : decode cX5_decide 26 = .ok (.istore 6, 2) := by decide +kernel
theorem dX5_decide_28 : decode cX5_decide 28 = .ok (.aload_n 0, 1) := by decide +kernel
theorem dX5_decide_29 : decode cX5_decide 29 = .ok (.iload 6, 2) := by decide +kernel
theorem dX5_decide_31 : decode cX5_decide 31 = .ok (.invokevirtual 222, 3) := by decide +kernel
theorem dX5_decide_34 : decode cX5_decide 34 = .ok (.istore 7, 2) := by decide +kernel
theorem dX5_decide_36 : decode cX5_decide 36 = .ok (.iload 7, 2) := by decide +kernel
theorem dX5_decide_38 : decode cX5_decide 38 = .ok (.bipush 100, 2) := by decide +kernel
theorem dX5_decide_40 : decode cX5_decide 40 = .ok (.if_icmp .ne 4, 3) := by decide +kernel
theorem dX5_decide_43 : decode cX5_decide 43 = .ok (.return_, 1) := by decide +kernel
theorem dX5_decide_44 : decode cX5_decide 44 = .ok (.iload 7, 2) := by decide +kernel
theorem dX5_decide_46 : decode cX5_decide 46 = .ok (.iconst (-1), 1) := by decide +kernel
theorem dX5_decide_47 : decode cX5_decide 47 = .ok (.if_icmp .eq 28, 3) := by decide +kernel
theorem dX5_decide_50 : decode cX5_decide 50 = .ok (.iload 7, 2) := by decide +kernel
theorem dX5_decide_52 : decode cX5_decide 52 = .ok (.bipush 101, 2) := by decide +kernel
theorem dX5_decide_54 : decode cX5_decide 54 = .ok (.if_icmp .eq 21, 3) := by decide +kernel
theorem dX5_decide_57 : decode cX5_decide 57 = .ok (.aload_n 0, 1) := by decide +kernel
theorem dX5_decide_58 : decode cX5_decide 58 = .ok (.getfield 57, 3) := by decide +kernel
theorem dX5_decide_61 : decode cX5_decide 61 = .ok (.iload 4, 2) := by decide +kernel
theorem dX5_decide_63 : decode cX5_decide 63 = .ok (.iload 7, 2) := by decide +kernel
theorem dX5_decide_65 : decode cX5_decide 65 = .ok (.iload 5, 2) := by decide +kernel
theorem dX5_decide_67 : decode cX5_decide 67 = .ok (.aload_n 3, 1) := by decide +kernel
theorem dX5_decide_68 : decode cX5_decide 68 = .ok (.iload 6, 2) := by decide +kernel
theorem dX5_decide_70 : decode cX5_decide 70 = .ok (.iaload, 1) := by decide +kernel
theorem dX5_decide_71 : decode cX5_decide 71 = .ok (.invokevirtual 330, 3) := by decide +kernel
theorem dX5_decide_74 : decode cX5_decide 74 = .ok (.return_, 1) := by decide +kernel
theorem dX5_decide_75 : decode cX5_decide 75 = .ok (.iinc 5 1, 3) := by decide +kernel
theorem dX5_decide_78 : decode cX5_decide 78 = .ok (.goto (-75), 3) := by decide +kernel
theorem dX5_decide_81 : decode cX5_decide 81 = .ok (.return_, 1) := by decide +kernel
theorem dX5_whatIsToldBy_0 : decode cX5_whatIsToldBy 0 = .ok (.aload_n 0, 1) := by decide +kernel
theorem dX5_whatIsToldBy_1 : decode cX5_whatIsToldBy 1 = .ok (.iload_n 1, 1) := by decide +kernel
theorem dX5_whatIsToldBy_2 : decode cX5_whatIsToldBy 2 = .ok (.invokevirtual 276, 3) := by decide +kernel
theorem dX5_whatIsToldBy_5 : decode cX5_whatIsToldBy 5 = .ok (.ifCond .eq 15, 3) := by decide +kernel
theorem dX5_whatIsToldBy_8 : decode cX5_whatIsToldBy 8 = .ok (.aload_n 0, 1) := by decide +kernel
theorem dX5_whatIsToldBy_9 : decode cX5_whatIsToldBy 9 = .ok (.getfield 37, 3) := by decide +kernel
theorem dX5_whatIsToldBy_12 : decode cX5_whatIsToldBy 12 = .ok (.iload_n 1, 1) := by decide +kernel
theorem dX5_whatIsToldBy_13 : decode cX5_whatIsToldBy 13 = .ok (.aaload, 1) := by decide +kernel
theorem dX5_whatIsToldBy_14 : decode cX5_whatIsToldBy 14 = .ok (.getfield 333, 3) := by decide +kernel
theorem dX5_whatIsToldBy_17 : decode cX5_whatIsToldBy 17 = .ok (.goto 4, 3) := by decide +kernel
theorem dX5_whatIsToldBy_20 : decode cX5_whatIsToldBy 20 = .ok (.iconst (-1), 1) := by decide +kernel
theorem dX5_whatIsToldBy_21 : decode cX5_whatIsToldBy 21 = .ok (.ireturn, 1) := by decide +kernel
theorem dJ6_bitCount_0f7a4_0 : decode cJ6_bitCount_0f7a4 0 = .ok (.iload_n 0, 1) := by decide +kernel
theorem dJ6_bitCount_0f7a4_1 : decode cJ6_bitCount_0f7a4 1 = .ok (.iload_n 0, 1) := by decide +kernel
theorem dJ6_bitCount_0f7a4_2 : decode cJ6_bitCount_0f7a4 2 = .ok (.iconst 1, 1) := by decide +kernel
theorem dJ6_bitCount_0f7a4_3 : decode cJ6_bitCount_0f7a4 3 = .ok (.iushr, 1) := by decide +kernel
theorem dJ6_bitCount_0f7a4_4 : decode cJ6_bitCount_0f7a4 4 = .ok (.ldc_w 265, 3) := by decide +kernel
theorem dJ6_bitCount_0f7a4_7 : decode cJ6_bitCount_0f7a4 7 = .ok (.iand, 1) := by decide +kernel
theorem dJ6_bitCount_0f7a4_8 : decode cJ6_bitCount_0f7a4 8 = .ok (.isub, 1) := by decide +kernel
theorem dJ6_bitCount_0f7a4_9 : decode cJ6_bitCount_0f7a4 9 = .ok (.istore_n 0, 1) := by decide +kernel
theorem dJ6_bitCount_0f7a4_10 : decode cJ6_bitCount_0f7a4 10 = .ok (.iload_n 0, 1) := by decide +kernel
theorem dJ6_bitCount_0f7a4_11 : decode cJ6_bitCount_0f7a4 11 = .ok (.ldc_w 266, 3) := by decide +kernel
theorem dJ6_bitCount_0f7a4_14 : decode cJ6_bitCount_0f7a4 14 = .ok (.iand, 1) := by decide +kernel
theorem dJ6_bitCount_0f7a4_15 : decode cJ6_bitCount_0f7a4 15 = .ok (.iload_n 0, 1) := by decide +kernel
theorem dJ6_bitCount_0f7a4_16 : decode cJ6_bitCount_0f7a4 16 = .ok (.iconst 2, 1) := by decide +kernel
theorem dJ6_bitCount_0f7a4_17 : decode cJ6_bitCount_0f7a4 17 = .ok (.iushr, 1) := by decide +kernel
theorem dJ6_bitCount_0f7a4_18 : decode cJ6_bitCount_0f7a4 18 = .ok (.ldc_w 266, 3) := by decide +kernel
theorem dJ6_bitCount_0f7a4_21 : decode cJ6_bitCount_0f7a4 21 = .ok (.iand, 1) := by decide +kernel
theorem dJ6_bitCount_0f7a4_22 : decode cJ6_bitCount_0f7a4 22 = .ok (.iadd, 1) := by decide +kernel
theorem dJ6_bitCount_0f7a4_23 : decode cJ6_bitCount_0f7a4 23 = .ok (.istore_n 0, 1) := by decide +kernel
theorem dJ6_bitCount_0f7a4_24 : decode cJ6_bitCount_0f7a4 24 = .ok (.iload_n 0, 1) := by decide +kernel
theorem dJ6_bitCount_0f7a4_25 : decode cJ6_bitCount_0f7a4 25 = .ok (.iload_n 0, 1) := by decide +kernel
theorem dJ6_bitCount_0f7a4_26 : decode cJ6_bitCount_0f7a4 26 = .ok (.iconst 4, 1) := by decide +kernel
theorem dJ6_bitCount_0f7a4_27 : decode cJ6_bitCount_0f7a4 27 = .ok (.iushr, 1) := by decide +kernel
theorem dJ6_bitCount_0f7a4_28 : decode cJ6_bitCount_0f7a4 28 = .ok (.iadd, 1) := by decide +kernel
theorem dJ6_bitCount_0f7a4_29 : decode cJ6_bitCount_0f7a4 29 = .ok (.ldc_w 267, 3) := by decide +kernel
theorem dJ6_bitCount_0f7a4_32 : decode cJ6_bitCount_0f7a4 32 = .ok (.iand, 1) := by decide +kernel
theorem dJ6_bitCount_0f7a4_33 : decode cJ6_bitCount_0f7a4 33 = .ok (.istore_n 0, 1) := by decide +kernel
theorem dJ6_bitCount_0f7a4_34 : decode cJ6_bitCount_0f7a4 34 = .ok (.iload_n 0, 1) := by decide +kernel
theorem dJ6_bitCount_0f7a4_35 : decode cJ6_bitCount_0f7a4 35 = .ok (.iload_n 0, 1) := by decide +kernel
theorem dJ6_bitCount_0f7a4_36 : decode cJ6_bitCount_0f7a4 36 = .ok (.bipush 8, 2) := by decide +kernel
theorem dJ6_bitCount_0f7a4_38 : decode cJ6_bitCount_0f7a4 38 = .ok (.iushr, 1) := by decide +kernel
theorem dJ6_bitCount_0f7a4_39 : decode cJ6_bitCount_0f7a4 39 = .ok (.iadd, 1) := by decide +kernel
theorem dJ6_bitCount_0f7a4_40 : decode cJ6_bitCount_0f7a4 40 = .ok (.istore_n 0, 1) := by decide +kernel
theorem dJ6_bitCount_0f7a4_41 : decode cJ6_bitCount_0f7a4 41 = .ok (.iload_n 0, 1) := by decide +kernel
theorem dJ6_bitCount_0f7a4_42 : decode cJ6_bitCount_0f7a4 42 = .ok (.iload_n 0, 1) := by decide +kernel
theorem dJ6_bitCount_0f7a4_43 : decode cJ6_bitCount_0f7a4 43 = .ok (.bipush 16, 2) := by decide +kernel
theorem dJ6_bitCount_0f7a4_45 : decode cJ6_bitCount_0f7a4 45 = .ok (.iushr, 1) := by decide +kernel
theorem dJ6_bitCount_0f7a4_46 : decode cJ6_bitCount_0f7a4 46 = .ok (.iadd, 1) := by decide +kernel
theorem dJ6_bitCount_0f7a4_47 : decode cJ6_bitCount_0f7a4 47 = .ok (.istore_n 0, 1) := by decide +kernel
theorem dJ6_bitCount_0f7a4_48 : decode cJ6_bitCount_0f7a4 48 = .ok (.iload_n 0, 1) := by decide +kernel
theorem dJ6_bitCount_0f7a4_49 : decode cJ6_bitCount_0f7a4 49 = .ok (.bipush 63, 2) := by decide +kernel
theorem dJ6_bitCount_0f7a4_51 : decode cJ6_bitCount_0f7a4 51 = .ok (.iand, 1) := by decide +kernel
theorem dJ6_bitCount_0f7a4_52 : decode cJ6_bitCount_0f7a4 52 = .ok (.ireturn, 1) := by decide +kernel
theorem dJ7_fill_53178_0 : decode cJ7_fill_53178 0 = .ok (.iconst 0, 1) := by decide +kernel
theorem dJ7_fill_53178_1 : decode cJ7_fill_53178 1 = .ok (.istore_n 2, 1) := by decide +kernel
theorem dJ7_fill_53178_2 : decode cJ7_fill_53178 2 = .ok (.aload_n 0, 1) := by decide +kernel
theorem dJ7_fill_53178_3 : decode cJ7_fill_53178 3 = .ok (.arraylength, 1) := by decide +kernel
theorem dJ7_fill_53178_4 : decode cJ7_fill_53178 4 = .ok (.istore_n 3, 1) := by decide +kernel
theorem dJ7_fill_53178_5 : decode cJ7_fill_53178 5 = .ok (.iload_n 2, 1) := by decide +kernel
theorem dJ7_fill_53178_6 : decode cJ7_fill_53178 6 = .ok (.iload_n 3, 1) := by decide +kernel
theorem dJ7_fill_53178_7 : decode cJ7_fill_53178 7 = .ok (.if_icmp .ge 13, 3) := by decide +kernel
theorem dJ7_fill_53178_10 : decode cJ7_fill_53178 10 = .ok (.aload_n 0, 1) := by decide +kernel
theorem dJ7_fill_53178_11 : decode cJ7_fill_53178 11 = .ok (.iload_n 2, 1) := by decide +kernel
theorem dJ7_fill_53178_12 : decode cJ7_fill_53178 12 = .ok (.iload_n 1, 1) := by decide +kernel
theorem dJ7_fill_53178_13 : decode cJ7_fill_53178 13 = .ok (.iastore, 1) := by decide +kernel
theorem dJ7_fill_53178_14 : decode cJ7_fill_53178 14 = .ok (.iinc 2 1, 3) := by decide +kernel
theorem dJ7_fill_53178_17 : decode cJ7_fill_53178 17 = .ok (.goto (-12), 3) := by decide +kernel
theorem dJ7_fill_53178_20 : decode cJ7_fill_53178 20 = .ok (.return_, 1) := by decide +kernel
theorem dL_setDuty_0 : decode cL_setDuty 0 = .ok (.aload_n 3, 1) := by decide +kernel
theorem dL_setDuty_1 : decode cL_setDuty 1 = .ok (.iconst 0, 1) := by decide +kernel
theorem dL_setDuty_2 : decode cL_setDuty 2 = .ok (.aload_n 0, 1) := by decide +kernel
theorem dL_setDuty_3 : decode cL_setDuty 3 = .ok (.iload_n 1, 1) := by decide +kernel
theorem dL_setDuty_4 : decode cL_setDuty 4 = .ok (.iload_n 2, 1) := by decide +kernel
theorem dL_setDuty_5 : decode cL_setDuty 5 = .ok (.invokevirtual 7, 3) := by decide +kernel
theorem dL_setDuty_8 : decode cL_setDuty 8 = .ok (.i2l, 1) := by decide +kernel
theorem dL_setDuty_9 : decode cL_setDuty 9 = .ok (.lastore, 1) := by decide +kernel
theorem dL_setDuty_10 : decode cL_setDuty 10 = .ok (.goto 7, 3) := by decide +kernel
theorem dL_setDuty_13 : decode cL_setDuty 13 = .ok (.astore 4, 2) := by decide +kernel
theorem dL_setDuty_15 : decode cL_setDuty 15 = .ok (.iconst 1, 1) := by decide +kernel
theorem dL_setDuty_16 : decode cL_setDuty 16 = .ok (.ireturn, 1) := by decide +kernel
theorem dL_setDuty_17 : decode cL_setDuty 17 = .ok (.iconst 0, 1) := by decide +kernel
theorem dL_setDuty_18 : decode cL_setDuty 18 = .ok (.ireturn, 1) := by decide +kernel
theorem dL_leave_0 : decode cL_leave 0 = .ok (.aload_n 3, 1) := by decide +kernel
theorem dL_leave_1 : decode cL_leave 1 = .ok (.iconst 0, 1) := by decide +kernel
theorem dL_leave_2 : decode cL_leave 2 = .ok (.aload_n 0, 1) := by decide +kernel
theorem dL_leave_3 : decode cL_leave 3 = .ok (.iload_n 1, 1) := by decide +kernel
theorem dL_leave_4 : decode cL_leave 4 = .ok (.iload_n 2, 1) := by decide +kernel
theorem dL_leave_5 : decode cL_leave 5 = .ok (.invokevirtual 15, 3) := by decide +kernel
theorem dL_leave_8 : decode cL_leave 8 = .ok (.i2l, 1) := by decide +kernel
theorem dL_leave_9 : decode cL_leave 9 = .ok (.lastore, 1) := by decide +kernel
theorem dL_leave_10 : decode cL_leave 10 = .ok (.goto 11, 3) := by decide +kernel
theorem dL_leave_13 : decode cL_leave 13 = .ok (.astore 4, 2) := by decide +kernel
theorem dL_leave_15 : decode cL_leave 15 = .ok (.iconst 1, 1) := by decide +kernel
theorem dL_leave_16 : decode cL_leave 16 = .ok (.ireturn, 1) := by decide +kernel
theorem dL_leave_17 : decode cL_leave 17 = .ok (.astore 4, 2) := by decide +kernel
theorem dL_leave_19 : decode cL_leave 19 = .ok (.iconst 2, 1) := by decide +kernel
theorem dL_leave_20 : decode cL_leave 20 = .ok (.ireturn, 1) := by decide +kernel
theorem dL_leave_21 : decode cL_leave 21 = .ok (.iconst 0, 1) := by decide +kernel
theorem dL_leave_22 : decode cL_leave 22 = .ok (.ireturn, 1) := by decide +kernel
theorem dL_comeBack_0 : decode cL_comeBack 0 = .ok (.aload_n 0, 1) := by decide +kernel
theorem dL_comeBack_1 : decode cL_comeBack 1 = .ok (.iload_n 1, 1) := by decide +kernel
theorem dL_comeBack_2 : decode cL_comeBack 2 = .ok (.invokevirtual 23, 3) := by decide +kernel
theorem dL_comeBack_5 : decode cL_comeBack 5 = .ok (.goto 9, 3) := by decide +kernel
theorem dL_comeBack_8 : decode cL_comeBack 8 = .ok (.astore_n 2, 1) := by decide +kernel
theorem dL_comeBack_9 : decode cL_comeBack 9 = .ok (.iconst 1, 1) := by decide +kernel
theorem dL_comeBack_10 : decode cL_comeBack 10 = .ok (.ireturn, 1) := by decide +kernel
theorem dL_comeBack_11 : decode cL_comeBack 11 = .ok (.astore_n 2, 1) := by decide +kernel
theorem dL_comeBack_12 : decode cL_comeBack 12 = .ok (.iconst 2, 1) := by decide +kernel
theorem dL_comeBack_13 : decode cL_comeBack 13 = .ok (.ireturn, 1) := by decide +kernel
theorem dL_comeBack_14 : decode cL_comeBack 14 = .ok (.iconst 0, 1) := by decide +kernel
theorem dL_comeBack_15 : decode cL_comeBack 15 = .ok (.ireturn, 1) := by decide +kernel
theorem dL_pass_0 : decode cL_pass 0 = .ok (.aload_n 2, 1) := by decide +kernel
theorem dL_pass_1 : decode cL_pass 1 = .ok (.iconst 0, 1) := by decide +kernel
theorem dL_pass_2 : decode cL_pass 2 = .ok (.aload_n 0, 1) := by decide +kernel
theorem dL_pass_3 : decode cL_pass 3 = .ok (.iload_n 1, 1) := by decide +kernel
theorem dL_pass_4 : decode cL_pass 4 = .ok (.invokevirtual 27, 3) := by decide +kernel
theorem dL_pass_7 : decode cL_pass 7 = .ok (.i2l, 1) := by decide +kernel
theorem dL_pass_8 : decode cL_pass 8 = .ok (.lastore, 1) := by decide +kernel
theorem dL_pass_9 : decode cL_pass 9 = .ok (.goto 6, 3) := by decide +kernel
theorem dL_pass_12 : decode cL_pass 12 = .ok (.astore_n 3, 1) := by decide +kernel
theorem dL_pass_13 : decode cL_pass 13 = .ok (.iconst 1, 1) := by decide +kernel
theorem dL_pass_14 : decode cL_pass 14 = .ok (.ireturn, 1) := by decide +kernel
theorem dL_pass_15 : decode cL_pass 15 = .ok (.iconst 0, 1) := by decide +kernel
theorem dL_pass_16 : decode cL_pass 16 = .ok (.ireturn, 1) := by decide +kernel
theorem dL_addGroup_0 : decode cL_addGroup 0 = .ok (.aload_n 2, 1) := by decide +kernel
theorem dL_addGroup_1 : decode cL_addGroup 1 = .ok (.iconst 0, 1) := by decide +kernel
theorem dL_addGroup_2 : decode cL_addGroup 2 = .ok (.aload_n 0, 1) := by decide +kernel
theorem dL_addGroup_3 : decode cL_addGroup 3 = .ok (.iload_n 1, 1) := by decide +kernel
theorem dL_addGroup_4 : decode cL_addGroup 4 = .ok (.invokevirtual 31, 3) := by decide +kernel
theorem dL_addGroup_7 : decode cL_addGroup 7 = .ok (.i2l, 1) := by decide +kernel
theorem dL_addGroup_8 : decode cL_addGroup 8 = .ok (.lastore, 1) := by decide +kernel
theorem dL_addGroup_9 : decode cL_addGroup 9 = .ok (.goto 9, 3) := by decide +kernel
theorem dL_addGroup_12 : decode cL_addGroup 12 = .ok (.astore_n 3, 1) := by decide +kernel
theorem dL_addGroup_13 : decode cL_addGroup 13 = .ok (.iconst 1, 1) := by decide +kernel
theorem dL_addGroup_14 : decode cL_addGroup 14 = .ok (.ireturn, 1) := by decide +kernel
theorem dL_addGroup_15 : decode cL_addGroup 15 = .ok (.astore_n 3, 1) := by decide +kernel
theorem dL_addGroup_16 : decode cL_addGroup 16 = .ok (.iconst 2, 1) := by decide +kernel
theorem dL_addGroup_17 : decode cL_addGroup 17 = .ok (.ireturn, 1) := by decide +kernel
theorem dL_addGroup_18 : decode cL_addGroup 18 = .ok (.iconst 0, 1) := by decide +kernel
theorem dL_addGroup_19 : decode cL_addGroup 19 = .ok (.ireturn, 1) := by decide +kernel
theorem dL_addMachine_0 : decode cL_addMachine 0 = .ok (.aload_n 2, 1) := by decide +kernel
theorem dL_addMachine_1 : decode cL_addMachine 1 = .ok (.iconst 0, 1) := by decide +kernel
theorem dL_addMachine_2 : decode cL_addMachine 2 = .ok (.aload_n 0, 1) := by decide +kernel
theorem dL_addMachine_3 : decode cL_addMachine 3 = .ok (.iload_n 1, 1) := by decide +kernel
theorem dL_addMachine_4 : decode cL_addMachine 4 = .ok (.invokevirtual 34, 3) := by decide +kernel
theorem dL_addMachine_7 : decode cL_addMachine 7 = .ok (.i2l, 1) := by decide +kernel
theorem dL_addMachine_8 : decode cL_addMachine 8 = .ok (.lastore, 1) := by decide +kernel
theorem dL_addMachine_9 : decode cL_addMachine 9 = .ok (.goto 9, 3) := by decide +kernel
theorem dL_addMachine_12 : decode cL_addMachine 12 = .ok (.astore_n 3, 1) := by decide +kernel
theorem dL_addMachine_13 : decode cL_addMachine 13 = .ok (.iconst 1, 1) := by decide +kernel
theorem dL_addMachine_14 : decode cL_addMachine 14 = .ok (.ireturn, 1) := by decide +kernel
theorem dL_addMachine_15 : decode cL_addMachine 15 = .ok (.astore_n 3, 1) := by decide +kernel
theorem dL_addMachine_16 : decode cL_addMachine 16 = .ok (.iconst 2, 1) := by decide +kernel
theorem dL_addMachine_17 : decode cL_addMachine 17 = .ok (.ireturn, 1) := by decide +kernel
theorem dL_addMachine_18 : decode cL_addMachine 18 = .ok (.iconst 0, 1) := by decide +kernel
theorem dL_addMachine_19 : decode cL_addMachine 19 = .ok (.ireturn, 1) := by decide +kernel
theorem dL_moveMachine_0 : decode cL_moveMachine 0 = .ok (.aload_n 3, 1) := by decide +kernel
theorem dL_moveMachine_1 : decode cL_moveMachine 1 = .ok (.iconst 0, 1) := by decide +kernel
theorem dL_moveMachine_2 : decode cL_moveMachine 2 = .ok (.aload_n 0, 1) := by decide +kernel
theorem dL_moveMachine_3 : decode cL_moveMachine 3 = .ok (.iload_n 1, 1) := by decide +kernel
theorem dL_moveMachine_4 : decode cL_moveMachine 4 = .ok (.iload_n 2, 1) := by decide +kernel
theorem dL_moveMachine_5 : decode cL_moveMachine 5 = .ok (.invokevirtual 37, 3) := by decide +kernel
theorem dL_moveMachine_8 : decode cL_moveMachine 8 = .ok (.i2l, 1) := by decide +kernel
theorem dL_moveMachine_9 : decode cL_moveMachine 9 = .ok (.lastore, 1) := by decide +kernel
theorem dL_moveMachine_10 : decode cL_moveMachine 10 = .ok (.goto 11, 3) := by decide +kernel
theorem dL_moveMachine_13 : decode cL_moveMachine 13 = .ok (.astore 4, 2) := by decide +kernel
theorem dL_moveMachine_15 : decode cL_moveMachine 15 = .ok (.iconst 1, 1) := by decide +kernel
theorem dL_moveMachine_16 : decode cL_moveMachine 16 = .ok (.ireturn, 1) := by decide +kernel
theorem dL_moveMachine_17 : decode cL_moveMachine 17 = .ok (.astore 4, 2) := by decide +kernel
theorem dL_moveMachine_19 : decode cL_moveMachine 19 = .ok (.iconst 2, 1) := by decide +kernel
theorem dL_moveMachine_20 : decode cL_moveMachine 20 = .ok (.ireturn, 1) := by decide +kernel
theorem dL_moveMachine_21 : decode cL_moveMachine 21 = .ok (.iconst 0, 1) := by decide +kernel
theorem dL_moveMachine_22 : decode cL_moveMachine 22 = .ok (.ireturn, 1) := by decide +kernel
theorem dL_work_0 : decode cL_work 0 = .ok (.aload_n 3, 1) := by decide +kernel
theorem dL_work_1 : decode cL_work 1 = .ok (.iconst 0, 1) := by decide +kernel
theorem dL_work_2 : decode cL_work 2 = .ok (.aload_n 0, 1) := by decide +kernel
theorem dL_work_3 : decode cL_work 3 = .ok (.iload_n 1, 1) := by decide +kernel
theorem dL_work_4 : decode cL_work 4 = .ok (.iload_n 2, 1) := by decide +kernel
theorem dL_work_5 : decode cL_work 5 = .ok (.invokevirtual 40, 3) := by decide +kernel
theorem dL_work_8 : decode cL_work 8 = .ok (.i2l, 1) := by decide +kernel
theorem dL_work_9 : decode cL_work 9 = .ok (.lastore, 1) := by decide +kernel
theorem dL_work_10 : decode cL_work 10 = .ok (.goto 15, 3) := by decide +kernel
theorem dL_work_13 : decode cL_work 13 = .ok (.astore 4, 2) := by decide +kernel
theorem dL_work_15 : decode cL_work 15 = .ok (.iconst 1, 1) := by decide +kernel
theorem dL_work_16 : decode cL_work 16 = .ok (.ireturn, 1) := by decide +kernel
theorem dL_work_17 : decode cL_work 17 = .ok (.astore 4, 2) := by decide +kernel
theorem dL_work_19 : decode cL_work 19 = .ok (.iconst 2, 1) := by decide +kernel
theorem dL_work_20 : decode cL_work 20 = .ok (.ireturn, 1) := by decide +kernel
theorem dL_work_21 : decode cL_work 21 = .ok (.astore 4, 2) := by decide +kernel
theorem dL_work_23 : decode cL_work 23 = .ok (.iconst 3, 1) := by decide +kernel
theorem dL_work_24 : decode cL_work 24 = .ok (.ireturn, 1) := by decide +kernel
theorem dL_work_25 : decode cL_work 25 = .ok (.iconst 0, 1) := by decide +kernel
theorem dL_work_26 : decode cL_work 26 = .ok (.ireturn, 1) := by decide +kernel
theorem dL_setPace_0 : decode cL_setPace 0 = .ok (.aload_n 2, 1) := by decide +kernel
theorem dL_setPace_1 : decode cL_setPace 1 = .ok (.iconst 0, 1) := by decide +kernel
theorem dL_setPace_2 : decode cL_setPace 2 = .ok (.aload_n 0, 1) := by decide +kernel
theorem dL_setPace_3 : decode cL_setPace 3 = .ok (.iload_n 1, 1) := by decide +kernel
theorem dL_setPace_4 : decode cL_setPace 4 = .ok (.invokevirtual 43, 3) := by decide +kernel
theorem dL_setPace_7 : decode cL_setPace 7 = .ok (.i2l, 1) := by decide +kernel
theorem dL_setPace_8 : decode cL_setPace 8 = .ok (.lastore, 1) := by decide +kernel
theorem dL_setPace_9 : decode cL_setPace 9 = .ok (.goto 6, 3) := by decide +kernel
theorem dL_setPace_12 : decode cL_setPace 12 = .ok (.astore_n 3, 1) := by decide +kernel
theorem dL_setPace_13 : decode cL_setPace 13 = .ok (.iconst 1, 1) := by decide +kernel
theorem dL_setPace_14 : decode cL_setPace 14 = .ok (.ireturn, 1) := by decide +kernel
theorem dL_setPace_15 : decode cL_setPace 15 = .ok (.iconst 0, 1) := by decide +kernel
theorem dL_setPace_16 : decode cL_setPace 16 = .ok (.ireturn, 1) := by decide +kernel
theorem dL_isBusy_0 : decode cL_isBusy 0 = .ok (.aload_n 2, 1) := by decide +kernel
theorem dL_isBusy_1 : decode cL_isBusy 1 = .ok (.iconst 0, 1) := by decide +kernel
theorem dL_isBusy_2 : decode cL_isBusy 2 = .ok (.aload_n 0, 1) := by decide +kernel
theorem dL_isBusy_3 : decode cL_isBusy 3 = .ok (.iload_n 1, 1) := by decide +kernel
theorem dL_isBusy_4 : decode cL_isBusy 4 = .ok (.invokevirtual 46, 3) := by decide +kernel
theorem dL_isBusy_7 : decode cL_isBusy 7 = .ok (.ifCond .eq 7, 3) := by decide +kernel
theorem dL_isBusy_10 : decode cL_isBusy 10 = .ok (.lconst 1, 1) := by decide +kernel
theorem dL_isBusy_11 : decode cL_isBusy 11 = .ok (.goto 4, 3) := by decide +kernel
theorem dL_isBusy_14 : decode cL_isBusy 14 = .ok (.lconst 0, 1) := by decide +kernel
theorem dL_isBusy_15 : decode cL_isBusy 15 = .ok (.lastore, 1) := by decide +kernel
theorem dL_isBusy_16 : decode cL_isBusy 16 = .ok (.goto 6, 3) := by decide +kernel
theorem dL_isBusy_19 : decode cL_isBusy 19 = .ok (.astore_n 3, 1) := by decide +kernel
theorem dL_isBusy_20 : decode cL_isBusy 20 = .ok (.iconst 1, 1) := by decide +kernel
theorem dL_isBusy_21 : decode cL_isBusy 21 = .ok (.ireturn, 1) := by decide +kernel
theorem dL_isBusy_22 : decode cL_isBusy 22 = .ok (.iconst 0, 1) := by decide +kernel
theorem dL_isBusy_23 : decode cL_isBusy 23 = .ok (.ireturn, 1) := by decide +kernel
theorem dL_isStopped_0 : decode cL_isStopped 0 = .ok (.aload_n 2, 1) := by decide +kernel
theorem dL_isStopped_1 : decode cL_isStopped 1 = .ok (.iconst 0, 1) := by decide +kernel
theorem dL_isStopped_2 : decode cL_isStopped 2 = .ok (.aload_n 0, 1) := by decide +kernel
theorem dL_isStopped_3 : decode cL_isStopped 3 = .ok (.iload_n 1, 1) := by decide +kernel
theorem dL_isStopped_4 : decode cL_isStopped 4 = .ok (.invokevirtual 50, 3) := by decide +kernel
theorem dL_isStopped_7 : decode cL_isStopped 7 = .ok (.ifCond .eq 7, 3) := by decide +kernel
theorem dL_isStopped_10 : decode cL_isStopped 10 = .ok (.lconst 1, 1) := by decide +kernel
theorem dL_isStopped_11 : decode cL_isStopped 11 = .ok (.goto 4, 3) := by decide +kernel
theorem dL_isStopped_14 : decode cL_isStopped 14 = .ok (.lconst 0, 1) := by decide +kernel
theorem dL_isStopped_15 : decode cL_isStopped 15 = .ok (.lastore, 1) := by decide +kernel
theorem dL_isStopped_16 : decode cL_isStopped 16 = .ok (.goto 6, 3) := by decide +kernel
theorem dL_isStopped_19 : decode cL_isStopped 19 = .ok (.astore_n 3, 1) := by decide +kernel
theorem dL_isStopped_20 : decode cL_isStopped 20 = .ok (.iconst 1, 1) := by decide +kernel
theorem dL_isStopped_21 : decode cL_isStopped 21 = .ok (.ireturn, 1) := by decide +kernel
theorem dL_isStopped_22 : decode cL_isStopped 22 = .ok (.iconst 0, 1) := by decide +kernel
theorem dL_isStopped_23 : decode cL_isStopped 23 = .ok (.ireturn, 1) := by decide +kernel
theorem dL_propose_0 : decode cL_propose 0 = .ok (.aload 5, 2) := by decide +kernel
theorem dL_propose_2 : decode cL_propose 2 = .ok (.iconst 0, 1) := by decide +kernel
theorem dL_propose_3 : decode cL_propose 3 = .ok (.aload_n 0, 1) := by decide +kernel
theorem dL_propose_4 : decode cL_propose 4 = .ok (.iload_n 1, 1) := by decide +kernel
theorem dL_propose_5 : decode cL_propose 5 = .ok (.iload_n 2, 1) := by decide +kernel
theorem dL_propose_6 : decode cL_propose 6 = .ok (.iload_n 3, 1) := by decide +kernel
theorem dL_propose_7 : decode cL_propose 7 = .ok (.iload 4, 2) := by decide +kernel
theorem dL_propose_9 : decode cL_propose 9 = .ok (.invokevirtual 53, 3) := by decide +kernel
theorem dL_propose_12 : decode cL_propose 12 = .ok (.i2l, 1) := by decide +kernel
theorem dL_propose_13 : decode cL_propose 13 = .ok (.lastore, 1) := by decide +kernel
theorem dL_propose_14 : decode cL_propose 14 = .ok (.goto 15, 3) := by decide +kernel
theorem dL_propose_17 : decode cL_propose 17 = .ok (.astore 6, 2) := by decide +kernel
theorem dL_propose_19 : decode cL_propose 19 = .ok (.iconst 1, 1) := by decide +kernel
theorem dL_propose_20 : decode cL_propose 20 = .ok (.ireturn, 1) := by decide +kernel
theorem dL_propose_21 : decode cL_propose 21 = .ok (.astore 6, 2) := by decide +kernel
theorem dL_propose_23 : decode cL_propose 23 = .ok (.iconst 2, 1) := by decide +kernel
theorem dL_propose_24 : decode cL_propose 24 = .ok (.ireturn, 1) := by decide +kernel
theorem dL_propose_25 : decode cL_propose 25 = .ok (.astore 6, 2) := by decide +kernel
theorem dL_propose_27 : decode cL_propose 27 = .ok (.iconst 3, 1) := by decide +kernel
theorem dL_propose_28 : decode cL_propose 28 = .ok (.ireturn, 1) := by decide +kernel
theorem dL_propose_29 : decode cL_propose 29 = .ok (.iconst 0, 1) := by decide +kernel
theorem dL_propose_30 : decode cL_propose 30 = .ok (.ireturn, 1) := by decide +kernel
theorem dL_approve_0 : decode cL_approve 0 = .ok (.aload_n 3, 1) := by decide +kernel
theorem dL_approve_1 : decode cL_approve 1 = .ok (.iconst 0, 1) := by decide +kernel
theorem dL_approve_2 : decode cL_approve 2 = .ok (.aload_n 0, 1) := by decide +kernel
theorem dL_approve_3 : decode cL_approve 3 = .ok (.iload_n 1, 1) := by decide +kernel
theorem dL_approve_4 : decode cL_approve 4 = .ok (.iload_n 2, 1) := by decide +kernel
theorem dL_approve_5 : decode cL_approve 5 = .ok (.invokevirtual 57, 3) := by decide +kernel
theorem dL_approve_8 : decode cL_approve 8 = .ok (.i2l, 1) := by decide +kernel
theorem dL_approve_9 : decode cL_approve 9 = .ok (.lastore, 1) := by decide +kernel
theorem dL_approve_10 : decode cL_approve 10 = .ok (.goto 11, 3) := by decide +kernel
theorem dL_approve_13 : decode cL_approve 13 = .ok (.astore 4, 2) := by decide +kernel
theorem dL_approve_15 : decode cL_approve 15 = .ok (.iconst 1, 1) := by decide +kernel
theorem dL_approve_16 : decode cL_approve 16 = .ok (.ireturn, 1) := by decide +kernel
theorem dL_approve_17 : decode cL_approve 17 = .ok (.astore 4, 2) := by decide +kernel
theorem dL_approve_19 : decode cL_approve 19 = .ok (.iconst 2, 1) := by decide +kernel
theorem dL_approve_20 : decode cL_approve 20 = .ok (.ireturn, 1) := by decide +kernel
theorem dL_approve_21 : decode cL_approve 21 = .ok (.iconst 0, 1) := by decide +kernel
theorem dL_approve_22 : decode cL_approve 22 = .ok (.ireturn, 1) := by decide +kernel
theorem dL_withdraw_0 : decode cL_withdraw 0 = .ok (.aload_n 0, 1) := by decide +kernel
theorem dL_withdraw_1 : decode cL_withdraw 1 = .ok (.iload_n 1, 1) := by decide +kernel
theorem dL_withdraw_2 : decode cL_withdraw 2 = .ok (.invokevirtual 60, 3) := by decide +kernel
theorem dL_withdraw_5 : decode cL_withdraw 5 = .ok (.goto 9, 3) := by decide +kernel
theorem dL_withdraw_8 : decode cL_withdraw 8 = .ok (.astore_n 2, 1) := by decide +kernel
theorem dL_withdraw_9 : decode cL_withdraw 9 = .ok (.iconst 1, 1) := by decide +kernel
theorem dL_withdraw_10 : decode cL_withdraw 10 = .ok (.ireturn, 1) := by decide +kernel
theorem dL_withdraw_11 : decode cL_withdraw 11 = .ok (.astore_n 2, 1) := by decide +kernel
theorem dL_withdraw_12 : decode cL_withdraw 12 = .ok (.iconst 2, 1) := by decide +kernel
theorem dL_withdraw_13 : decode cL_withdraw 13 = .ok (.ireturn, 1) := by decide +kernel
theorem dL_withdraw_14 : decode cL_withdraw 14 = .ok (.iconst 0, 1) := by decide +kernel
theorem dL_withdraw_15 : decode cL_withdraw 15 = .ok (.ireturn, 1) := by decide +kernel
theorem dL_exclude_0 : decode cL_exclude 0 = .ok (.aload 4, 2) := by decide +kernel
theorem dL_exclude_2 : decode cL_exclude 2 = .ok (.iconst 0, 1) := by decide +kernel
theorem dL_exclude_3 : decode cL_exclude 3 = .ok (.aload_n 0, 1) := by decide +kernel
theorem dL_exclude_4 : decode cL_exclude 4 = .ok (.iload_n 1, 1) := by decide +kernel
theorem dL_exclude_5 : decode cL_exclude 5 = .ok (.iload_n 2, 1) := by decide +kernel
theorem dL_exclude_6 : decode cL_exclude 6 = .ok (.iload_n 3, 1) := by decide +kernel
theorem dL_exclude_7 : decode cL_exclude 7 = .ok (.invokevirtual 63, 3) := by decide +kernel
theorem dL_exclude_10 : decode cL_exclude 10 = .ok (.ifCond .eq 7, 3) := by decide +kernel
theorem dL_exclude_13 : decode cL_exclude 13 = .ok (.lconst 1, 1) := by decide +kernel
theorem dL_exclude_14 : decode cL_exclude 14 = .ok (.goto 4, 3) := by decide +kernel
theorem dL_exclude_17 : decode cL_exclude 17 = .ok (.lconst 0, 1) := by decide +kernel
theorem dL_exclude_18 : decode cL_exclude 18 = .ok (.lastore, 1) := by decide +kernel
theorem dL_exclude_19 : decode cL_exclude 19 = .ok (.goto 11, 3) := by decide +kernel
theorem dL_exclude_22 : decode cL_exclude 22 = .ok (.astore 5, 2) := by decide +kernel
theorem dL_exclude_24 : decode cL_exclude 24 = .ok (.iconst 1, 1) := by decide +kernel
theorem dL_exclude_25 : decode cL_exclude 25 = .ok (.ireturn, 1) := by decide +kernel
theorem dL_exclude_26 : decode cL_exclude 26 = .ok (.astore 5, 2) := by decide +kernel
theorem dL_exclude_28 : decode cL_exclude 28 = .ok (.iconst 2, 1) := by decide +kernel
theorem dL_exclude_29 : decode cL_exclude 29 = .ok (.ireturn, 1) := by decide +kernel
theorem dL_exclude_30 : decode cL_exclude 30 = .ok (.iconst 0, 1) := by decide +kernel
theorem dL_exclude_31 : decode cL_exclude 31 = .ok (.ireturn, 1) := by decide +kernel
theorem dL_state_0 : decode cL_state 0 = .ok (.aload_n 2, 1) := by decide +kernel
theorem dL_state_1 : decode cL_state 1 = .ok (.iconst 0, 1) := by decide +kernel
theorem dL_state_2 : decode cL_state 2 = .ok (.aload_n 0, 1) := by decide +kernel
theorem dL_state_3 : decode cL_state 3 = .ok (.iload_n 1, 1) := by decide +kernel
theorem dL_state_4 : decode cL_state 4 = .ok (.invokevirtual 67, 3) := by decide +kernel
theorem dL_state_7 : decode cL_state 7 = .ok (.i2l, 1) := by decide +kernel
theorem dL_state_8 : decode cL_state 8 = .ok (.lastore, 1) := by decide +kernel
theorem dL_state_9 : decode cL_state 9 = .ok (.goto 6, 3) := by decide +kernel
theorem dL_state_12 : decode cL_state 12 = .ok (.astore_n 3, 1) := by decide +kernel
theorem dL_state_13 : decode cL_state 13 = .ok (.iconst 1, 1) := by decide +kernel
theorem dL_state_14 : decode cL_state 14 = .ok (.ireturn, 1) := by decide +kernel
theorem dL_state_15 : decode cL_state 15 = .ok (.iconst 0, 1) := by decide +kernel
theorem dL_state_16 : decode cL_state 16 = .ok (.ireturn, 1) := by decide +kernel
theorem dL_rank_0 : decode cL_rank 0 = .ok (.aload_n 2, 1) := by decide +kernel
theorem dL_rank_1 : decode cL_rank 1 = .ok (.iconst 0, 1) := by decide +kernel
theorem dL_rank_2 : decode cL_rank 2 = .ok (.aload_n 0, 1) := by decide +kernel
theorem dL_rank_3 : decode cL_rank 3 = .ok (.iload_n 1, 1) := by decide +kernel
theorem dL_rank_4 : decode cL_rank 4 = .ok (.invokevirtual 70, 3) := by decide +kernel
theorem dL_rank_7 : decode cL_rank 7 = .ok (.i2l, 1) := by decide +kernel
theorem dL_rank_8 : decode cL_rank 8 = .ok (.lastore, 1) := by decide +kernel
theorem dL_rank_9 : decode cL_rank 9 = .ok (.goto 6, 3) := by decide +kernel
theorem dL_rank_12 : decode cL_rank 12 = .ok (.astore_n 3, 1) := by decide +kernel
theorem dL_rank_13 : decode cL_rank 13 = .ok (.iconst 1, 1) := by decide +kernel
theorem dL_rank_14 : decode cL_rank 14 = .ok (.ireturn, 1) := by decide +kernel
theorem dL_rank_15 : decode cL_rank 15 = .ok (.iconst 0, 1) := by decide +kernel
theorem dL_rank_16 : decode cL_rank 16 = .ok (.ireturn, 1) := by decide +kernel
theorem dL_approvals_0 : decode cL_approvals 0 = .ok (.aload_n 2, 1) := by decide +kernel
theorem dL_approvals_1 : decode cL_approvals 1 = .ok (.iconst 0, 1) := by decide +kernel
theorem dL_approvals_2 : decode cL_approvals 2 = .ok (.aload_n 0, 1) := by decide +kernel
theorem dL_approvals_3 : decode cL_approvals 3 = .ok (.iload_n 1, 1) := by decide +kernel
theorem dL_approvals_4 : decode cL_approvals 4 = .ok (.invokevirtual 73, 3) := by decide +kernel
theorem dL_approvals_7 : decode cL_approvals 7 = .ok (.i2l, 1) := by decide +kernel
theorem dL_approvals_8 : decode cL_approvals 8 = .ok (.lastore, 1) := by decide +kernel
theorem dL_approvals_9 : decode cL_approvals 9 = .ok (.goto 6, 3) := by decide +kernel
theorem dL_approvals_12 : decode cL_approvals 12 = .ok (.astore_n 3, 1) := by decide +kernel
theorem dL_approvals_13 : decode cL_approvals 13 = .ok (.iconst 1, 1) := by decide +kernel
theorem dL_approvals_14 : decode cL_approvals 14 = .ok (.ireturn, 1) := by decide +kernel
theorem dL_approvals_15 : decode cL_approvals 15 = .ok (.iconst 0, 1) := by decide +kernel
theorem dL_approvals_16 : decode cL_approvals 16 = .ok (.ireturn, 1) := by decide +kernel
theorem dL_told_0 : decode cL_told 0 = .ok (.aload_n 3, 1) := by decide +kernel
theorem dL_told_1 : decode cL_told 1 = .ok (.iconst 0, 1) := by decide +kernel
theorem dL_told_2 : decode cL_told 2 = .ok (.aload_n 0, 1) := by decide +kernel
theorem dL_told_3 : decode cL_told 3 = .ok (.iload_n 1, 1) := by decide +kernel
theorem dL_told_4 : decode cL_told 4 = .ok (.iload_n 2, 1) := by decide +kernel
theorem dL_told_5 : decode cL_told 5 = .ok (.invokevirtual 76, 3) := by decide +kernel
theorem dL_told_8 : decode cL_told 8 = .ok (.i2l, 1) := by decide +kernel
theorem dL_told_9 : decode cL_told 9 = .ok (.lastore, 1) := by decide +kernel
theorem dL_told_10 : decode cL_told 10 = .ok (.goto 7, 3) := by decide +kernel
theorem dL_told_13 : decode cL_told 13 = .ok (.astore 4, 2) := by decide +kernel
theorem dL_told_15 : decode cL_told 15 = .ok (.iconst 1, 1) := by decide +kernel
theorem dL_told_16 : decode cL_told 16 = .ok (.ireturn, 1) := by decide +kernel
theorem dL_told_17 : decode cL_told 17 = .ok (.iconst 0, 1) := by decide +kernel
theorem dL_told_18 : decode cL_told 18 = .ok (.ireturn, 1) := by decide +kernel
theorem dL_taken_0 : decode cL_taken 0 = .ok (.aload 4, 2) := by decide +kernel
theorem dL_taken_2 : decode cL_taken 2 = .ok (.iconst 0, 1) := by decide +kernel
theorem dL_taken_3 : decode cL_taken 3 = .ok (.aload_n 0, 1) := by decide +kernel
theorem dL_taken_4 : decode cL_taken 4 = .ok (.iload_n 1, 1) := by decide +kernel
theorem dL_taken_5 : decode cL_taken 5 = .ok (.iload_n 2, 1) := by decide +kernel
theorem dL_taken_6 : decode cL_taken 6 = .ok (.iload_n 3, 1) := by decide +kernel
theorem dL_taken_7 : decode cL_taken 7 = .ok (.invokevirtual 79, 3) := by decide +kernel
theorem dL_taken_10 : decode cL_taken 10 = .ok (.i2l, 1) := by decide +kernel
theorem dL_taken_11 : decode cL_taken 11 = .ok (.lastore, 1) := by decide +kernel
theorem dL_taken_12 : decode cL_taken 12 = .ok (.goto 7, 3) := by decide +kernel
theorem dL_taken_15 : decode cL_taken 15 = .ok (.astore 5, 2) := by decide +kernel
theorem dL_taken_17 : decode cL_taken 17 = .ok (.iconst 1, 1) := by decide +kernel
theorem dL_taken_18 : decode cL_taken 18 = .ok (.ireturn, 1) := by decide +kernel
theorem dL_taken_19 : decode cL_taken 19 = .ok (.iconst 0, 1) := by decide +kernel
theorem dL_taken_20 : decode cL_taken 20 = .ok (.ireturn, 1) := by decide +kernel
theorem dL_runs_0 : decode cL_runs 0 = .ok (.aload_n 3, 1) := by decide +kernel
theorem dL_runs_1 : decode cL_runs 1 = .ok (.iconst 0, 1) := by decide +kernel
theorem dL_runs_2 : decode cL_runs 2 = .ok (.aload_n 0, 1) := by decide +kernel
theorem dL_runs_3 : decode cL_runs 3 = .ok (.iload_n 1, 1) := by decide +kernel
theorem dL_runs_4 : decode cL_runs 4 = .ok (.iload_n 2, 1) := by decide +kernel
theorem dL_runs_5 : decode cL_runs 5 = .ok (.invokevirtual 83, 3) := by decide +kernel
theorem dL_runs_8 : decode cL_runs 8 = .ok (.i2l, 1) := by decide +kernel
theorem dL_runs_9 : decode cL_runs 9 = .ok (.lastore, 1) := by decide +kernel
theorem dL_runs_10 : decode cL_runs 10 = .ok (.goto 7, 3) := by decide +kernel
theorem dL_runs_13 : decode cL_runs 13 = .ok (.astore 4, 2) := by decide +kernel
theorem dL_runs_15 : decode cL_runs 15 = .ok (.iconst 1, 1) := by decide +kernel
theorem dL_runs_16 : decode cL_runs 16 = .ok (.ireturn, 1) := by decide +kernel
theorem dL_runs_17 : decode cL_runs 17 = .ok (.iconst 0, 1) := by decide +kernel
theorem dL_runs_18 : decode cL_runs 18 = .ok (.ireturn, 1) := by decide +kernel
theorem dL_layerOf_0 : decode cL_layerOf 0 = .ok (.aload_n 3, 1) := by decide +kernel
theorem dL_layerOf_1 : decode cL_layerOf 1 = .ok (.iconst 0, 1) := by decide +kernel
theorem dL_layerOf_2 : decode cL_layerOf 2 = .ok (.aload_n 0, 1) := by decide +kernel
theorem dL_layerOf_3 : decode cL_layerOf 3 = .ok (.iload_n 1, 1) := by decide +kernel
theorem dL_layerOf_4 : decode cL_layerOf 4 = .ok (.iload_n 2, 1) := by decide +kernel
theorem dL_layerOf_5 : decode cL_layerOf 5 = .ok (.invokevirtual 86, 3) := by decide +kernel
theorem dL_layerOf_8 : decode cL_layerOf 8 = .ok (.i2l, 1) := by decide +kernel
theorem dL_layerOf_9 : decode cL_layerOf 9 = .ok (.lastore, 1) := by decide +kernel
theorem dL_layerOf_10 : decode cL_layerOf 10 = .ok (.goto 7, 3) := by decide +kernel
theorem dL_layerOf_13 : decode cL_layerOf 13 = .ok (.astore 4, 2) := by decide +kernel
theorem dL_layerOf_15 : decode cL_layerOf 15 = .ok (.iconst 1, 1) := by decide +kernel
theorem dL_layerOf_16 : decode cL_layerOf 16 = .ok (.ireturn, 1) := by decide +kernel
theorem dL_layerOf_17 : decode cL_layerOf 17 = .ok (.iconst 0, 1) := by decide +kernel
theorem dL_layerOf_18 : decode cL_layerOf 18 = .ok (.ireturn, 1) := by decide +kernel
theorem dL_due_0 : decode cL_due 0 = .ok (.aload_n 3, 1) := by decide +kernel
theorem dL_due_1 : decode cL_due 1 = .ok (.iconst 0, 1) := by decide +kernel
theorem dL_due_2 : decode cL_due 2 = .ok (.aload_n 0, 1) := by decide +kernel
theorem dL_due_3 : decode cL_due 3 = .ok (.iload_n 1, 1) := by decide +kernel
theorem dL_due_4 : decode cL_due 4 = .ok (.iload_n 2, 1) := by decide +kernel
theorem dL_due_5 : decode cL_due 5 = .ok (.invokevirtual 89, 3) := by decide +kernel
theorem dL_due_8 : decode cL_due 8 = .ok (.i2l, 1) := by decide +kernel
theorem dL_due_9 : decode cL_due 9 = .ok (.lastore, 1) := by decide +kernel
theorem dL_due_10 : decode cL_due 10 = .ok (.goto 7, 3) := by decide +kernel
theorem dL_due_13 : decode cL_due 13 = .ok (.astore 4, 2) := by decide +kernel
theorem dL_due_15 : decode cL_due 15 = .ok (.iconst 1, 1) := by decide +kernel
theorem dL_due_16 : decode cL_due 16 = .ok (.ireturn, 1) := by decide +kernel
theorem dL_due_17 : decode cL_due 17 = .ok (.iconst 0, 1) := by decide +kernel
theorem dL_due_18 : decode cL_due 18 = .ok (.ireturn, 1) := by decide +kernel
theorem dL_dueAnew_0 : decode cL_dueAnew 0 = .ok (.aload_n 3, 1) := by decide +kernel
theorem dL_dueAnew_1 : decode cL_dueAnew 1 = .ok (.iconst 0, 1) := by decide +kernel
theorem dL_dueAnew_2 : decode cL_dueAnew 2 = .ok (.aload_n 0, 1) := by decide +kernel
theorem dL_dueAnew_3 : decode cL_dueAnew 3 = .ok (.iload_n 1, 1) := by decide +kernel
theorem dL_dueAnew_4 : decode cL_dueAnew 4 = .ok (.iload_n 2, 1) := by decide +kernel
theorem dL_dueAnew_5 : decode cL_dueAnew 5 = .ok (.invokevirtual 92, 3) := by decide +kernel
theorem dL_dueAnew_8 : decode cL_dueAnew 8 = .ok (.i2l, 1) := by decide +kernel
theorem dL_dueAnew_9 : decode cL_dueAnew 9 = .ok (.lastore, 1) := by decide +kernel
theorem dL_dueAnew_10 : decode cL_dueAnew 10 = .ok (.goto 7, 3) := by decide +kernel
theorem dL_dueAnew_13 : decode cL_dueAnew 13 = .ok (.astore 4, 2) := by decide +kernel
theorem dL_dueAnew_15 : decode cL_dueAnew 15 = .ok (.iconst 1, 1) := by decide +kernel
theorem dL_dueAnew_16 : decode cL_dueAnew 16 = .ok (.ireturn, 1) := by decide +kernel
theorem dL_dueAnew_17 : decode cL_dueAnew 17 = .ok (.iconst 0, 1) := by decide +kernel
theorem dL_dueAnew_18 : decode cL_dueAnew 18 = .ok (.ireturn, 1) := by decide +kernel
theorem dL_behind_0 : decode cL_behind 0 = .ok (.aload_n 2, 1) := by decide +kernel
theorem dL_behind_1 : decode cL_behind 1 = .ok (.iconst 0, 1) := by decide +kernel
theorem dL_behind_2 : decode cL_behind 2 = .ok (.aload_n 0, 1) := by decide +kernel
theorem dL_behind_3 : decode cL_behind 3 = .ok (.iload_n 1, 1) := by decide +kernel
theorem dL_behind_4 : decode cL_behind 4 = .ok (.invokevirtual 95, 3) := by decide +kernel
theorem dL_behind_7 : decode cL_behind 7 = .ok (.i2l, 1) := by decide +kernel
theorem dL_behind_8 : decode cL_behind 8 = .ok (.lastore, 1) := by decide +kernel
theorem dL_behind_9 : decode cL_behind 9 = .ok (.goto 6, 3) := by decide +kernel
theorem dL_behind_12 : decode cL_behind 12 = .ok (.astore_n 3, 1) := by decide +kernel
theorem dL_behind_13 : decode cL_behind 13 = .ok (.iconst 1, 1) := by decide +kernel
theorem dL_behind_14 : decode cL_behind 14 = .ok (.ireturn, 1) := by decide +kernel
theorem dL_behind_15 : decode cL_behind 15 = .ok (.iconst 0, 1) := by decide +kernel
theorem dL_behind_16 : decode cL_behind 16 = .ok (.ireturn, 1) := by decide +kernel
theorem dL_hidden_0 : decode cL_hidden 0 = .ok (.aload_n 2, 1) := by decide +kernel
theorem dL_hidden_1 : decode cL_hidden 1 = .ok (.iconst 0, 1) := by decide +kernel
theorem dL_hidden_2 : decode cL_hidden 2 = .ok (.aload_n 0, 1) := by decide +kernel
theorem dL_hidden_3 : decode cL_hidden 3 = .ok (.iload_n 1, 1) := by decide +kernel
theorem dL_hidden_4 : decode cL_hidden 4 = .ok (.invokevirtual 98, 3) := by decide +kernel
theorem dL_hidden_7 : decode cL_hidden 7 = .ok (.i2l, 1) := by decide +kernel
theorem dL_hidden_8 : decode cL_hidden 8 = .ok (.lastore, 1) := by decide +kernel
theorem dL_hidden_9 : decode cL_hidden 9 = .ok (.goto 6, 3) := by decide +kernel
theorem dL_hidden_12 : decode cL_hidden 12 = .ok (.astore_n 3, 1) := by decide +kernel
theorem dL_hidden_13 : decode cL_hidden 13 = .ok (.iconst 1, 1) := by decide +kernel
theorem dL_hidden_14 : decode cL_hidden 14 = .ok (.ireturn, 1) := by decide +kernel
theorem dL_hidden_15 : decode cL_hidden 15 = .ok (.iconst 0, 1) := by decide +kernel
theorem dL_hidden_16 : decode cL_hidden 16 = .ok (.ireturn, 1) := by decide +kernel
theorem dL_spread_0 : decode cL_spread 0 = .ok (.aload_n 2, 1) := by decide +kernel
theorem dL_spread_1 : decode cL_spread 1 = .ok (.iconst 0, 1) := by decide +kernel
theorem dL_spread_2 : decode cL_spread 2 = .ok (.aload_n 0, 1) := by decide +kernel
theorem dL_spread_3 : decode cL_spread 3 = .ok (.iload_n 1, 1) := by decide +kernel
theorem dL_spread_4 : decode cL_spread 4 = .ok (.invokevirtual 101, 3) := by decide +kernel
theorem dL_spread_7 : decode cL_spread 7 = .ok (.i2l, 1) := by decide +kernel
theorem dL_spread_8 : decode cL_spread 8 = .ok (.lastore, 1) := by decide +kernel
theorem dL_spread_9 : decode cL_spread 9 = .ok (.goto 6, 3) := by decide +kernel
theorem dL_spread_12 : decode cL_spread 12 = .ok (.astore_n 3, 1) := by decide +kernel
theorem dL_spread_13 : decode cL_spread 13 = .ok (.iconst 1, 1) := by decide +kernel
theorem dL_spread_14 : decode cL_spread 14 = .ok (.ireturn, 1) := by decide +kernel
theorem dL_spread_15 : decode cL_spread 15 = .ok (.iconst 0, 1) := by decide +kernel
theorem dL_spread_16 : decode cL_spread 16 = .ok (.ireturn, 1) := by decide +kernel
end
section
theorem dX6_init_0 : decode cX6_init 0 = .ok (.aload_n 0, 1) := by decide +kernel
theorem dX6_init_1 : decode cX6_init 1 = .ok (.invokespecial 1, 3) := by decide +kernel
theorem dX6_init_4 : decode cX6_init 4 = .ok (.aload_n 0, 1) := by decide +kernel
theorem dX6_init_5 : decode cX6_init 5 = .ok (.iconst 4, 1) := by decide +kernel
theorem dX6_init_6 : decode cX6_init 6 = .ok (.newarray .int, 2) := by decide +kernel
theorem dX6_init_8 : decode cX6_init 8 = .ok (.putfield 7, 3) := by decide +kernel
theorem dX6_init_11 : decode cX6_init 11 = .ok (.aload_n 0, 1) := by decide +kernel
theorem dX6_init_12 : decode cX6_init 12 = .ok (.bipush 8, 2) := by decide +kernel
theorem dX6_init_14 : decode cX6_init 14 = .ok (.newarray .int, 2) := by decide +kernel
theorem dX6_init_16 : decode cX6_init 16 = .ok (.putfield 13, 3) := by decide +kernel
theorem dX6_init_19 : decode cX6_init 19 = .ok (.aload_n 0, 1) := by decide +kernel
theorem dX6_init_20 : decode cX6_init 20 = .ok (.iconst 1, 1) := by decide +kernel
theorem dX6_init_21 : decode cX6_init 21 = .ok (.putfield 16, 3) := by decide +kernel
theorem dX6_init_24 : decode cX6_init 24 = .ok (.aload_n 0, 1) := by decide +kernel
theorem dX6_init_25 : decode cX6_init 25 = .ok (.bipush 10, 2) := by decide +kernel
theorem dX6_init_27 : decode cX6_init 27 = .ok (.newarray .int, 2) := by decide +kernel
theorem dX6_init_29 : decode cX6_init 29 = .ok (.putfield 20, 3) := by decide +kernel
theorem dX6_init_32 : decode cX6_init 32 = .ok (.aload_n 0, 1) := by decide +kernel
theorem dX6_init_33 : decode cX6_init 33 = .ok (.bipush 12, 2) := by decide +kernel
theorem dX6_init_35 : decode cX6_init 35 = .ok (.putfield 23, 3) := by decide +kernel
theorem dX6_init_38 : decode cX6_init 38 = .ok (.aload_n 0, 1) := by decide +kernel
theorem dX6_init_39 : decode cX6_init 39 = .ok (.bipush 12, 2) := by decide +kernel
theorem dX6_init_41 : decode cX6_init 41 = .ok (.newarray .int, 2) := by decide +kernel
theorem dX6_init_43 : decode cX6_init 43 = .ok (.putfield 26, 3) := by decide +kernel
theorem dX6_init_46 : decode cX6_init 46 = .ok (.aload_n 0, 1) := by decide +kernel
theorem dX6_init_47 : decode cX6_init 47 = .ok (.bipush 12, 2) := by decide +kernel
theorem dX6_init_49 : decode cX6_init 49 = .ok (.newarray .int, 2) := by decide +kernel
theorem dX6_init_51 : decode cX6_init 51 = .ok (.putfield 29, 3) := by decide +kernel
theorem dX6_init_54 : decode cX6_init 54 = .ok (.aload_n 0, 1) := by decide +kernel
theorem dX6_init_55 : decode cX6_init 55 = .ok (.sipush 792, 3) := by decide +kernel
theorem dX6_init_58 : decode cX6_init 58 = .ok (.newarray .int, 2) := by decide +kernel
theorem dX6_init_60 : decode cX6_init 60 = .ok (.putfield 32, 3) := by decide +kernel
theorem dX6_init_63 : decode cX6_init 63 = .ok (.aload_n 0, 1) := by decide +kernel
theorem dX6_init_64 : decode cX6_init 64 = .ok (.bipush 40, 2) := by decide +kernel
theorem dX6_init_66 : decode cX6_init 66 = .ok (.newarray .int, 2) := by decide +kernel
theorem dX6_init_68 : decode cX6_init 68 = .ok (.putfield 35, 3) := by decide +kernel
theorem dX6_init_71 : decode cX6_init 71 = .ok (.aload_n 0, 1) := by decide +kernel
theorem dX6_init_72 : decode cX6_init 72 = .ok (.bipush 40, 2) := by decide +kernel
theorem dX6_init_74 : decode cX6_init 74 = .ok (.newarray .int, 2) := by decide +kernel
theorem dX6_init_76 : decode cX6_init 76 = .ok (.putfield 38, 3) := by decide +kernel
theorem dX6_init_79 : decode cX6_init 79 = .ok (.aload_n 0, 1) := by decide +kernel
theorem dX6_init_80 : decode cX6_init 80 = .ok (.bipush 40, 2) := by decide +kernel
theorem dX6_init_82 : decode cX6_init 82 = .ok (.newarray .int, 2) := by decide +kernel
theorem dX6_init_84 : decode cX6_init 84 = .ok (.putfield 41, 3) := by decide +kernel
theorem dX6_init_87 : decode cX6_init 87 = .ok (.aload_n 0, 1) := by decide +kernel
theorem dX6_init_88 : decode cX6_init 88 = .ok (.bipush 40, 2) := by decide +kernel
theorem dX6_init_90 : decode cX6_init 90 = .ok (.newarray .int, 2) := by decide +kernel
theorem dX6_init_92 : decode cX6_init 92 = .ok (.putfield 44, 3) := by decide +kernel
theorem dX6_init_95 : decode cX6_init 95 = .ok (.aload_n 0, 1) := by decide +kernel
theorem dX6_init_96 : decode cX6_init 96 = .ok (.bipush 40, 2) := by decide +kernel
theorem dX6_init_98 : decode cX6_init 98 = .ok (.newarray .int, 2) := by decide +kernel
theorem dX6_init_100 : decode cX6_init 100 = .ok (.putfield 47, 3) := by decide +kernel
theorem dX6_init_103 : decode cX6_init 103 = .ok (.aload_n 0, 1) := by decide +kernel
theorem dX6_init_104 : decode cX6_init 104 = .ok (.bipush 40, 2) := by decide +kernel
theorem dX6_init_106 : decode cX6_init 106 = .ok (.newarray .int, 2) := by decide +kernel
theorem dX6_init_108 : decode cX6_init 108 = .ok (.putfield 50, 3) := by decide +kernel
theorem dX6_init_111 : decode cX6_init 111 = .ok (.aload_n 0, 1) := by decide +kernel
theorem dX6_init_112 : decode cX6_init 112 = .ok (.bipush 40, 2) := by decide +kernel
theorem dX6_init_114 : decode cX6_init 114 = .ok (.newarray .int, 2) := by decide +kernel
theorem dX6_init_116 : decode cX6_init 116 = .ok (.putfield 53, 3) := by decide +kernel
theorem dX6_init_119 : decode cX6_init 119 = .ok (.aload_n 0, 1) := by decide +kernel
theorem dX6_init_120 : decode cX6_init 120 = .ok (.sipush 320, 3) := by decide +kernel
theorem dX6_init_123 : decode cX6_init 123 = .ok (.newarray .int, 2) := by decide +kernel
theorem dX6_init_125 : decode cX6_init 125 = .ok (.putfield 56, 3) := by decide +kernel
theorem dX6_init_128 : decode cX6_init 128 = .ok (.aload_n 0, 1) := by decide +kernel
theorem dX6_init_129 : decode cX6_init 129 = .ok (.sipush 320, 3) := by decide +kernel
theorem dX6_init_132 : decode cX6_init 132 = .ok (.newarray .int, 2) := by decide +kernel
theorem dX6_init_134 : decode cX6_init 134 = .ok (.putfield 59, 3) := by decide +kernel
theorem dX6_init_137 : decode cX6_init 137 = .ok (.aload_n 0, 1) := by decide +kernel
theorem dX6_init_138 : decode cX6_init 138 = .ok (.bipush 6, 2) := by decide +kernel
theorem dX6_init_140 : decode cX6_init 140 = .ok (.newarray .int, 2) := by decide +kernel
theorem dX6_init_142 : decode cX6_init 142 = .ok (.putfield 62, 3) := by decide +kernel
theorem dX6_init_145 : decode cX6_init 145 = .ok (.aload_n 0, 1) := by decide +kernel
theorem dX6_init_146 : decode cX6_init 146 = .ok (.bipush 6, 2) := by decide +kernel
theorem dX6_init_148 : decode cX6_init 148 = .ok (.newarray .int, 2) := by decide +kernel
theorem dX6_init_150 : decode cX6_init 150 = .ok (.putfield 65, 3) := by decide +kernel
theorem dX6_init_153 : decode cX6_init 153 = .ok (.aload_n 0, 1) := by decide +kernel
theorem dX6_init_154 : decode cX6_init 154 = .ok (.bipush 6, 2) := by decide +kernel
theorem dX6_init_156 : decode cX6_init 156 = .ok (.newarray .int, 2) := by decide +kernel
theorem dX6_init_158 : decode cX6_init 158 = .ok (.putfield 68, 3) := by decide +kernel
theorem dX6_init_161 : decode cX6_init 161 = .ok (.aload_n 0, 1) := by decide +kernel
theorem dX6_init_162 : decode cX6_init 162 = .ok (.bipush 6, 2) := by decide +kernel
theorem dX6_init_164 : decode cX6_init 164 = .ok (.newarray .int, 2) := by decide +kernel
theorem dX6_init_166 : decode cX6_init 166 = .ok (.putfield 71, 3) := by decide +kernel
theorem dX6_init_169 : decode cX6_init 169 = .ok (.iconst 0, 1) := by decide +kernel
theorem dX6_init_170 : decode cX6_init 170 = .ok (.istore_n 1, 1) := by decide +kernel
theorem dX6_init_171 : decode cX6_init 171 = .ok (.iload_n 1, 1) := by decide +kernel
theorem dX6_init_172 : decode cX6_init 172 = .ok (.iconst 4, 1) := by decide +kernel
theorem dX6_init_173 : decode cX6_init 173 = .ok (.if_icmp .ge 18, 3) := by decide +kernel
theorem dX6_init_176 : decode cX6_init 176 = .ok (.aload_n 0, 1) := by decide +kernel
theorem dX6_init_177 : decode cX6_init 177 = .ok (.getfield 7, 3) := by decide +kernel
theorem dX6_init_180 : decode cX6_init 180 = .ok (.iload_n 1, 1) := by decide +kernel
theorem dX6_init_181 : decode cX6_init 181 = .ok (.sipush 255, 3) := by decide +kernel
theorem dX6_init_184 : decode cX6_init 184 = .ok (.iastore, 1) := by decide +kernel
theorem dX6_init_185 : decode cX6_init 185 = .ok (.iinc 1 1, 3) := by decide +kernel
theorem dX6_init_188 : decode cX6_init 188 = .ok (.goto (-17), 3) := by decide +kernel
theorem dX6_init_191 : decode cX6_init 191 = .ok (.iconst 0, 1) := by decide +kernel
theorem dX6_init_192 : decode cX6_init 192 = .ok (.istore_n 1, 1) := by decide +kernel
theorem dX6_init_193 : decode cX6_init 193 = .ok (.iload_n 1, 1) := by decide +kernel
theorem dX6_init_194 : decode cX6_init 194 = .ok (.sipush 792, 3) := by decide +kernel
theorem dX6_init_197 : decode cX6_init 197 = .ok (.if_icmp .ge 16, 3) := by decide +kernel
theorem dX6_init_200 : decode cX6_init 200 = .ok (.aload_n 0, 1) := by decide +kernel
theorem dX6_init_201 : decode cX6_init 201 = .ok (.getfield 32, 3) := by decide +kernel
theorem dX6_init_204 : decode cX6_init 204 = .ok (.iload_n 1, 1) := by decide +kernel
theorem dX6_init_205 : decode cX6_init 205 = .ok (.iconst (-1), 1) := by decide +kernel
theorem dX6_init_206 : decode cX6_init 206 = .ok (.iastore, 1) := by decide +kernel
theorem dX6_init_207 : decode cX6_init 207 = .ok (.iinc 1 1, 3) := by decide +kernel
theorem dX6_init_210 : decode cX6_init 210 = .ok (.goto (-17), 3) := by decide +kernel
theorem dX6_init_213 : decode cX6_init 213 = .ok (.aload_n 0, 1) := by decide +kernel
theorem dX6_init_214 : decode cX6_init 214 = .ok (.getfield 20, 3) := by decide +kernel
theorem dX6_init_217 : decode cX6_init 217 = .ok (.iconst 0, 1) := by decide +kernel
theorem dX6_init_218 : decode cX6_init 218 = .ok (.iconst (-1), 1) := by decide +kernel
theorem dX6_init_219 : decode cX6_init 219 = .ok (.iastore, 1) := by decide +kernel
theorem dX6_init_220 : decode cX6_init 220 = .ok (.return_, 1) := by decide +kernel
theorem dX6_thrown_0 : decode cX6_thrown 0 = .ok (.aload_n 0, 1) := by decide +kernel
theorem dX6_thrown_1 : decode cX6_thrown 1 = .ok (.getfield 74, 3) := by decide +kernel
theorem dX6_thrown_4 : decode cX6_thrown 4 = .ok (.ireturn, 1) := by decide +kernel
theorem dX6_fails_0 : decode cX6_fails 0 = .ok (.aload_n 0, 1) := by decide +kernel
theorem dX6_fails_1 : decode cX6_fails 1 = .ok (.iload_n 1, 1) := by decide +kernel
theorem dX6_fails_2 : decode cX6_fails 2 = .ok (.putfield 74, 3) := by decide +kernel
theorem dX6_fails_5 : decode cX6_fails 5 = .ok (.iconst 0, 1) := by decide +kernel
theorem dX6_fails_6 : decode cX6_fails 6 = .ok (.ireturn, 1) := by decide +kernel
theorem dX6_in_0 : decode cX6_in 0 = .ok (.iload_n 0, 1) := by decide +kernel
theorem dX6_in_1 : decode cX6_in 1 = .ok (.iload_n 1, 1) := by decide +kernel
theorem dX6_in_2 : decode cX6_in 2 = .ok (.if_icmp .lt 12, 3) := by decide +kernel
theorem dX6_in_5 : decode cX6_in 5 = .ok (.iload_n 0, 1) := by decide +kernel
theorem dX6_in_6 : decode cX6_in 6 = .ok (.iload_n 2, 1) := by decide +kernel
theorem dX6_in_7 : decode cX6_in 7 = .ok (.if_icmp .gt 7, 3) := by decide +kernel
theorem dX6_in_10 : decode cX6_in 10 = .ok (.iconst 1, 1) := by decide +kernel
theorem dX6_in_11 : decode cX6_in 11 = .ok (.goto 4, 3) := by decide +kernel
theorem dX6_in_14 : decode cX6_in 14 = .ok (.iconst 0, 1) := by decide +kernel
theorem dX6_in_15 : decode cX6_in 15 = .ok (.ireturn, 1) := by decide +kernel
theorem dX6_isPerson_0 : decode cX6_isPerson 0 = .ok (.iload_n 0, 1) := by decide +kernel
theorem dX6_isPerson_1 : decode cX6_isPerson 1 = .ok (.iconst 0, 1) := by decide +kernel
theorem dX6_isPerson_2 : decode cX6_isPerson 2 = .ok (.bipush 7, 2) := by decide +kernel
theorem dX6_isPerson_4 : decode cX6_isPerson 4 = .ok (.invokestatic 77, 3) := by decide +kernel
theorem dX6_isPerson_7 : decode cX6_isPerson 7 = .ok (.ireturn, 1) := by decide +kernel
theorem dX6_isKey_0 : decode cX6_isKey 0 = .ok (.iload_n 0, 1) := by decide +kernel
theorem dX6_isKey_1 : decode cX6_isKey 1 = .ok (.iconst 0, 1) := by decide +kernel
theorem dX6_isKey_2 : decode cX6_isKey 2 = .ok (.iconst 5, 1) := by decide +kernel
theorem dX6_isKey_3 : decode cX6_isKey 3 = .ok (.invokestatic 77, 3) := by decide +kernel
theorem dX6_isKey_6 : decode cX6_isKey 6 = .ok (.ireturn, 1) := by decide +kernel
theorem dX6_isGroup_0 : decode cX6_isGroup 0 = .ok (.iload_n 1, 1) := by decide +kernel
theorem dX6_isGroup_1 : decode cX6_isGroup 1 = .ok (.iconst 0, 1) := by decide +kernel
theorem dX6_isGroup_2 : decode cX6_isGroup 2 = .ok (.aload_n 0, 1) := by decide +kernel
theorem dX6_isGroup_3 : decode cX6_isGroup 3 = .ok (.getfield 16, 3) := by decide +kernel
theorem dX6_isGroup_6 : decode cX6_isGroup 6 = .ok (.iconst 1, 1) := by decide +kernel
theorem dX6_isGroup_7 : decode cX6_isGroup 7 = .ok (.isub, 1) := by decide +kernel
theorem dX6_isGroup_8 : decode cX6_isGroup 8 = .ok (.invokestatic 77, 3) := by decide +kernel
theorem dX6_isGroup_11 : decode cX6_isGroup 11 = .ok (.ireturn, 1) := by decide +kernel
theorem dX6_isMachine_0 : decode cX6_isMachine 0 = .ok (.iload_n 1, 1) := by decide +kernel
theorem dX6_isMachine_1 : decode cX6_isMachine 1 = .ok (.iconst 0, 1) := by decide +kernel
theorem dX6_isMachine_2 : decode cX6_isMachine 2 = .ok (.aload_n 0, 1) := by decide +kernel
theorem dX6_isMachine_3 : decode cX6_isMachine 3 = .ok (.getfield 81, 3) := by decide +kernel
theorem dX6_isMachine_6 : decode cX6_isMachine 6 = .ok (.iconst 1, 1) := by decide +kernel
theorem dX6_isMachine_7 : decode cX6_isMachine 7 = .ok (.isub, 1) := by decide +kernel
theorem dX6_isMachine_8 : decode cX6_isMachine 8 = .ok (.invokestatic 77, 3) := by decide +kernel
theorem dX6_isMachine_11 : decode cX6_isMachine 11 = .ok (.ireturn, 1) := by decide +kernel
theorem dX6_isChange_0 : decode cX6_isChange 0 = .ok (.iload_n 1, 1) := by decide +kernel
theorem dX6_isChange_1 : decode cX6_isChange 1 = .ok (.iconst 0, 1) := by decide +kernel
theorem dX6_isChange_2 : decode cX6_isChange 2 = .ok (.aload_n 0, 1) := by decide +kernel
theorem dX6_isChange_3 : decode cX6_isChange 3 = .ok (.getfield 84, 3) := by decide +kernel
theorem dX6_isChange_6 : decode cX6_isChange 6 = .ok (.iconst 1, 1) := by decide +kernel
theorem dX6_isChange_7 : decode cX6_isChange 7 = .ok (.isub, 1) := by decide +kernel
theorem dX6_isChange_8 : decode cX6_isChange 8 = .ok (.invokestatic 77, 3) := by decide +kernel
theorem dX6_isChange_11 : decode cX6_isChange 11 = .ok (.ireturn, 1) := by decide +kernel
theorem dX6_isPlace_0 : decode cX6_isPlace 0 = .ok (.aload_n 0, 1) := by decide +kernel
theorem dX6_isPlace_1 : decode cX6_isPlace 1 = .ok (.iload_n 1, 1) := by decide +kernel
theorem dX6_isPlace_2 : decode cX6_isPlace 2 = .ok (.invokevirtual 87, 3) := by decide +kernel
theorem dX6_isPlace_5 : decode cX6_isPlace 5 = .ok (.ifCond .ne 19, 3) := by decide +kernel
theorem dX6_isPlace_8 : decode cX6_isPlace 8 = .ok (.iload_n 1, 1) := by decide +kernel
theorem dX6_isPlace_9 : decode cX6_isPlace 9 = .ok (.bipush 100, 2) := by decide +kernel
theorem dX6_isPlace_11 : decode cX6_isPlace 11 = .ok (.bipush 99, 2) := by decide +kernel
theorem dX6_isPlace_13 : decode cX6_isPlace 13 = .ok (.aload_n 0, 1) := by decide +kernel
theorem dX6_isPlace_14 : decode cX6_isPlace 14 = .ok (.getfield 81, 3) := by decide +kernel
theorem dX6_isPlace_17 : decode cX6_isPlace 17 = .ok (.iadd, 1) := by decide +kernel
theorem dX6_isPlace_18 : decode cX6_isPlace 18 = .ok (.invokestatic 77, 3) := by decide +kernel
theorem dX6_isPlace_21 : decode cX6_isPlace 21 = .ok (.ifCond .eq 7, 3) := by decide +kernel
theorem dX6_isPlace_24 : decode cX6_isPlace 24 = .ok (.iconst 1, 1) := by decide +kernel
theorem dX6_isPlace_25 : decode cX6_isPlace 25 = .ok (.goto 4, 3) := by decide +kernel
theorem dX6_isPlace_28 : decode cX6_isPlace 28 = .ok (.iconst 0, 1) := by decide +kernel
theorem dX6_isPlace_29 : decode cX6_isPlace 29 = .ok (.ireturn, 1) := by decide +kernel
theorem dX6_layers_0 : decode cX6_layers 0 = .ok (.iconst 1, 1) := by decide +kernel
theorem dX6_layers_1 : decode cX6_layers 1 = .ok (.istore_n 2, 1) := by decide +kernel
theorem dX6_layers_2 : decode cX6_layers 2 = .ok (.aload_n 0, 1) := by decide +kernel
theorem dX6_layers_3 : decode cX6_layers 3 = .ok (.getfield 26, 3) := by decide +kernel
theorem dX6_layers_6 : decode cX6_layers 6 = .ok (.iload_n 1, 1) := by decide +kernel
theorem dX6_layers_7 : decode cX6_layers 7 = .ok (.iaload, 1) := by decide +kernel
theorem dX6_layers_8 : decode cX6_layers 8 = .ok (.istore_n 3, 1) := by decide +kernel
theorem dX6_layers_9 : decode cX6_layers 9 = .ok (.iload_n 3, 1) := by decide +kernel
theorem dX6_layers_10 : decode cX6_layers 10 = .ok (.iconst (-1), 1) := by decide +kernel
theorem dX6_layers_11 : decode cX6_layers 11 = .ok (.if_icmp .eq 16, 3) := by decide +kernel
theorem dX6_layers_14 : decode cX6_layers 14 = .ok (.iinc 2 1, 3) := by decide +kernel
theorem dX6_layers_17 : decode cX6_layers 17 = .ok (.aload_n 0, 1) := by decide +kernel
theorem dX6_layers_18 : decode cX6_layers 18 = .ok (.getfield 20, 3) := by decide +kernel
theorem dX6_layers_21 : decode cX6_layers 21 = .ok (.iload_n 3, 1) := by decide +kernel
theorem dX6_layers_22 : decode cX6_layers 22 = .ok (.iaload, 1) := by decide +kernel
theorem dX6_layers_23 : decode cX6_layers 23 = .ok (.istore_n 3, 1) := by decide +kernel
theorem dX6_layers_24 : decode cX6_layers 24 = .ok (.goto (-15), 3) := by decide +kernel
theorem dX6_layers_27 : decode cX6_layers 27 = .ok (.iload_n 2, 1) := by decide +kernel
theorem dX6_layers_28 : decode cX6_layers 28 = .ok (.ireturn, 1) := by decide +kernel
theorem dX6_slot_0 : decode cX6_slot 0 = .ok (.iload_n 2, 1) := by decide +kernel
theorem dX6_slot_1 : decode cX6_slot 1 = .ok (.ifCond .ne 6, 3) := by decide +kernel
theorem dX6_slot_4 : decode cX6_slot 4 = .ok (.bipush 10, 2) := by decide +kernel
theorem dX6_slot_6 : decode cX6_slot 6 = .ok (.ireturn, 1) := by decide +kernel
theorem dX6_slot_7 : decode cX6_slot 7 = .ok (.aload_n 0, 1) := by decide +kernel
theorem dX6_slot_8 : decode cX6_slot 8 = .ok (.getfield 26, 3) := by decide +kernel
theorem dX6_slot_11 : decode cX6_slot 11 = .ok (.iload_n 1, 1) := by decide +kernel
theorem dX6_slot_12 : decode cX6_slot 12 = .ok (.iaload, 1) := by decide +kernel
theorem dX6_slot_13 : decode cX6_slot 13 = .ok (.istore_n 3, 1) := by decide +kernel
theorem dX6_slot_14 : decode cX6_slot 14 = .ok (.iconst 1, 1) := by decide +kernel
theorem dX6_slot_15 : decode cX6_slot 15 = .ok (.istore 4, 2) := by decide +kernel
theorem dX6_slot_17 : decode cX6_slot 17 = .ok (.iload 4, 2) := by decide +kernel
theorem dX6_slot_19 : decode cX6_slot 19 = .ok (.iload_n 2, 1) := by decide +kernel
theorem dX6_slot_20 : decode cX6_slot 20 = .ok (.if_icmp .ge 16, 3) := by decide +kernel
theorem dX6_slot_23 : decode cX6_slot 23 = .ok (.aload_n 0, 1) := by decide +kernel
theorem dX6_slot_24 : decode cX6_slot 24 = .ok (.getfield 20, 3) := by decide +kernel
theorem dX6_slot_27 : decode cX6_slot 27 = .ok (.iload_n 3, 1) := by decide +kernel
theorem dX6_slot_28 : decode cX6_slot 28 = .ok (.iaload, 1) := by decide +kernel
theorem dX6_slot_29 : decode cX6_slot 29 = .ok (.istore_n 3, 1) := by decide +kernel
theorem dX6_slot_30 : decode cX6_slot 30 = .ok (.iinc 4 1, 3) := by decide +kernel
theorem dX6_slot_33 : decode cX6_slot 33 = .ok (.goto (-16), 3) := by decide +kernel
theorem dX6_slot_36 : decode cX6_slot 36 = .ok (.iload_n 3, 1) := by decide +kernel
theorem dX6_slot_37 : decode cX6_slot 37 = .ok (.ireturn, 1) := by decide +kernel
theorem dX6_cells_0 : decode cX6_cells 0 = .ok (.bipush 6, 2) := by decide +kernel
theorem dX6_cells_2 : decode cX6_cells 2 = .ok (.bipush 11, 2) := by decide +kernel
theorem dX6_cells_4 : decode cX6_cells 4 = .ok (.iload_n 1, 1) := by decide +kernel
theorem dX6_cells_5 : decode cX6_cells 5 = .ok (.imul, 1) := by decide +kernel
theorem dX6_cells_6 : decode cX6_cells 6 = .ok (.iload_n 2, 1) := by decide +kernel
theorem dX6_cells_7 : decode cX6_cells 7 = .ok (.iadd, 1) := by decide +kernel
theorem dX6_cells_8 : decode cX6_cells 8 = .ok (.imul, 1) := by decide +kernel
theorem dX6_cells_9 : decode cX6_cells 9 = .ok (.ireturn, 1) := by decide +kernel
theorem dX6_top_0 : decode cX6_top 0 = .ok (.iconst (-1), 1) := by decide +kernel
theorem dX6_top_1 : decode cX6_top 1 = .ok (.istore_n 3, 1) := by decide +kernel
theorem dX6_top_2 : decode cX6_top 2 = .ok (.iconst 0, 1) := by decide +kernel
theorem dX6_top_3 : decode cX6_top 3 = .ok (.istore 4, 2) := by decide +kernel
theorem dX6_top_5 : decode cX6_top 5 = .ok (.iload 4, 2) := by decide +kernel
theorem dX6_top_7 : decode cX6_top 7 = .ok (.aload_n 0, 1) := by decide +kernel
theorem dX6_top_8 : decode cX6_top 8 = .ok (.getfield 84, 3) := by decide +kernel
theorem dX6_top_11 : decode cX6_top 11 = .ok (.if_icmp .ge 82, 3) := by decide +kernel
theorem dX6_top_14 : decode cX6_top 14 = .ok (.aload_n 0, 1) := by decide +kernel
theorem dX6_top_15 : decode cX6_top 15 = .ok (.getfield 50, 3) := by decide +kernel
theorem dX6_top_18 : decode cX6_top 18 = .ok (.iload 4, 2) := by decide +kernel
theorem dX6_top_20 : decode cX6_top 20 = .ok (.iaload, 1) := by decide +kernel
theorem dX6_top_21 : decode cX6_top 21 = .ok (.iconst 1, 1) := by decide +kernel
theorem dX6_top_22 : decode cX6_top 22 = .ok (.if_icmp .ne 29, 3) := by decide +kernel
theorem dX6_top_25 : decode cX6_top 25 = .ok (.aload_n 0, 1) := by decide +kernel
theorem dX6_top_26 : decode cX6_top 26 = .ok (.getfield 38, 3) := by decide +kernel
theorem dX6_top_29 : decode cX6_top 29 = .ok (.iload 4, 2) := by decide +kernel
theorem dX6_top_31 : decode cX6_top 31 = .ok (.iaload, 1) := by decide +kernel
theorem dX6_top_32 : decode cX6_top 32 = .ok (.iload_n 1, 1) := by decide +kernel
theorem dX6_top_33 : decode cX6_top 33 = .ok (.if_icmp .ne 18, 3) := by decide +kernel
theorem dX6_top_36 : decode cX6_top 36 = .ok (.aload_n 0, 1) := by decide +kernel
theorem dX6_top_37 : decode cX6_top 37 = .ok (.getfield 41, 3) := by decide +kernel
theorem dX6_top_40 : decode cX6_top 40 = .ok (.iload 4, 2) := by decide +kernel
theorem dX6_top_42 : decode cX6_top 42 = .ok (.iaload, 1) := by decide +kernel
theorem dX6_top_43 : decode cX6_top 43 = .ok (.iload_n 2, 1) := by decide +kernel
theorem dX6_top_44 : decode cX6_top 44 = .ok (.if_icmp .ne 7, 3) := by decide +kernel
theorem dX6_top_47 : decode cX6_top 47 = .ok (.iconst 1, 1) := by decide +kernel
theorem dX6_top_48 : decode cX6_top 48 = .ok (.goto 4, 3) := by decide +kernel
theorem dX6_top_51 : decode cX6_top 51 = .ok (.iconst 0, 1) := by decide +kernel
theorem dX6_top_52 : decode cX6_top 52 = .ok (.istore 5, 2) := by decide +kernel
theorem dX6_top_54 : decode cX6_top 54 = .ok (.iload 5, 2) := by decide +kernel
theorem dX6_top_56 : decode cX6_top 56 = .ok (.ifCond .eq 29, 3) := by decide +kernel
theorem dX6_top_59 : decode cX6_top 59 = .ok (.iload_n 3, 1) := by decide +kernel
theorem dX6_top_60 : decode cX6_top 60 = .ok (.iconst (-1), 1) := by decide +kernel
theorem dX6_top_61 : decode cX6_top 61 = .ok (.if_icmp .eq 19, 3) := by decide +kernel
theorem dX6_top_64 : decode cX6_top 64 = .ok (.aload_n 0, 1) := by decide +kernel
theorem dX6_top_65 : decode cX6_top 65 = .ok (.getfield 53, 3) := by decide +kernel
theorem dX6_top_68 : decode cX6_top 68 = .ok (.iload 4, 2) := by decide +kernel
theorem dX6_top_70 : decode cX6_top 70 = .ok (.iaload, 1) := by decide +kernel
theorem dX6_top_71 : decode cX6_top 71 = .ok (.aload_n 0, 1) := by decide +kernel
theorem dX6_top_72 : decode cX6_top 72 = .ok (.getfield 53, 3) := by decide +kernel
theorem dX6_top_75 : decode cX6_top 75 = .ok (.iload_n 3, 1) := by decide +kernel
theorem dX6_top_76 : decode cX6_top 76 = .ok (.iaload, 1) := by decide +kernel
theorem dX6_top_77 : decode cX6_top 77 = .ok (.if_icmp .le 8, 3) := by decide +kernel
theorem dX6_top_80 : decode cX6_top 80 = .ok (.iload 4, 2) := by decide +kernel
theorem dX6_top_82 : decode cX6_top 82 = .ok (.goto 4, 3) := by decide +kernel
theorem dX6_top_85 : decode cX6_top 85 = .ok (.iload_n 3, 1) := by decide +kernel
theorem dX6_top_86 : decode cX6_top 86 = .ok (.istore_n 3, 1) := by decide +kernel
theorem dX6_top_87 : decode cX6_top 87 = .ok (.iinc 4 1, 3) := by decide +kernel
theorem dX6_top_90 : decode cX6_top 90 = .ok (.goto (-85), 3) := by decide +kernel
theorem dX6_top_93 : decode cX6_top 93 = .ok (.iload_n 3, 1) := by decide +kernel
theorem dX6_top_94 : decode cX6_top 94 = .ok (.ireturn, 1) := by decide +kernel
theorem dX6_topOf_0 : decode cX6_topOf 0 = .ok (.aload_n 0, 1) := by decide +kernel
theorem dX6_topOf_1 : decode cX6_topOf 1 = .ok (.iload_n 2, 1) := by decide +kernel
theorem dX6_topOf_2 : decode cX6_topOf 2 = .ok (.bipush 10, 2) := by decide +kernel
theorem dX6_topOf_4 : decode cX6_topOf 4 = .ok (.if_icmp .ne 10, 3) := by decide +kernel
theorem dX6_topOf_7 : decode cX6_topOf 7 = .ok (.bipush 100, 2) := by decide +kernel
theorem dX6_topOf_9 : decode cX6_topOf 9 = .ok (.iload_n 1, 1) := by decide +kernel
theorem dX6_topOf_10 : decode cX6_topOf 10 = .ok (.iadd, 1) := by decide +kernel
theorem dX6_topOf_11 : decode cX6_topOf 11 = .ok (.goto 4, 3) := by decide +kernel
theorem dX6_topOf_14 : decode cX6_topOf 14 = .ok (.iload_n 2, 1) := by decide +kernel
theorem dX6_topOf_15 : decode cX6_topOf 15 = .ok (.iload_n 3, 1) := by decide +kernel
theorem dX6_topOf_16 : decode cX6_topOf 16 = .ok (.invokevirtual 91, 3) := by decide +kernel
theorem dX6_topOf_19 : decode cX6_topOf 19 = .ok (.ireturn, 1) := by decide +kernel
theorem dX6_looks_0 : decode cX6_looks 0 = .ok (.aload_n 0, 1) := by decide +kernel
theorem dX6_looks_1 : decode cX6_looks 1 = .ok (.iload_n 1, 1) := by decide +kernel
theorem dX6_looks_2 : decode cX6_looks 2 = .ok (.invokevirtual 95, 3) := by decide +kernel
theorem dX6_looks_5 : decode cX6_looks 5 = .ok (.istore_n 3, 1) := by decide +kernel
theorem dX6_looks_6 : decode cX6_looks 6 = .ok (.iconst 0, 1) := by decide +kernel
theorem dX6_looks_7 : decode cX6_looks 7 = .ok (.istore 4, 2) := by decide +kernel
theorem dX6_looks_9 : decode cX6_looks 9 = .ok (.iload 4, 2) := by decide +kernel
theorem dX6_looks_11 : decode cX6_looks 11 = .ok (.bipush 6, 2) := by decide +kernel
theorem dX6_looks_13 : decode cX6_looks 13 = .ok (.if_icmp .ge 172, 3) := by decide +kernel
theorem dX6_looks_16 : decode cX6_looks 16 = .ok (.aload_n 0, 1) := by decide +kernel
theorem dX6_looks_17 : decode cX6_looks 17 = .ok (.getfield 65, 3) := by decide +kernel
theorem dX6_looks_20 : decode cX6_looks 20 = .ok (.iload 4, 2) := by decide +kernel
theorem dX6_looks_22 : decode cX6_looks 22 = .ok (.iconst (-1), 1) := by decide +kernel
theorem dX6_looks_23 : decode cX6_looks 23 = .ok (.iastore, 1) := by decide +kernel
theorem dX6_looks_24 : decode cX6_looks 24 = .ok (.aload_n 0, 1) := by decide +kernel
theorem dX6_looks_25 : decode cX6_looks 25 = .ok (.getfield 68, 3) := by decide +kernel
theorem dX6_looks_28 : decode cX6_looks 28 = .ok (.iload 4, 2) := by decide +kernel
theorem dX6_looks_30 : decode cX6_looks 30 = .ok (.iconst (-1), 1) := by decide +kernel
theorem dX6_looks_31 : decode cX6_looks 31 = .ok (.iastore, 1) := by decide +kernel
theorem dX6_looks_32 : decode cX6_looks 32 = .ok (.aload_n 0, 1) := by decide +kernel
theorem dX6_looks_33 : decode cX6_looks 33 = .ok (.getfield 71, 3) := by decide +kernel
theorem dX6_looks_36 : decode cX6_looks 36 = .ok (.iload 4, 2) := by decide +kernel
theorem dX6_looks_38 : decode cX6_looks 38 = .ok (.iconst (-1), 1) := by decide +kernel
theorem dX6_looks_39 : decode cX6_looks 39 = .ok (.iastore, 1) := by decide +kernel
theorem dX6_looks_40 : decode cX6_looks 40 = .ok (.iconst 1, 1) := by decide +kernel
theorem dX6_looks_41 : decode cX6_looks 41 = .ok (.istore 5, 2) := by decide +kernel
theorem dX6_looks_43 : decode cX6_looks 43 = .ok (.iconst 0, 1) := by decide +kernel
theorem dX6_looks_44 : decode cX6_looks 44 = .ok (.istore 6, 2) := by decide +kernel
theorem dX6_looks_46 : decode cX6_looks 46 = .ok (.iload 6, 2) := by decide +kernel
theorem dX6_looks_48 : decode cX6_looks 48 = .ok (.iload_n 3, 1) := by decide +kernel
theorem dX6_looks_49 : decode cX6_looks 49 = .ok (.if_icmp .ge 130, 3) := by decide +kernel
theorem dX6_looks_52 : decode cX6_looks 52 = .ok (.iload 5, 2) := by decide +kernel
theorem dX6_looks_54 : decode cX6_looks 54 = .ok (.ifCond .eq 125, 3) := by decide +kernel
theorem dX6_looks_57 : decode cX6_looks 57 = .ok (.aload_n 0, 1) := by decide +kernel
theorem dX6_looks_58 : decode cX6_looks 58 = .ok (.iload_n 1, 1) := by decide +kernel
theorem dX6_looks_59 : decode cX6_looks 59 = .ok (.iload 6, 2) := by decide +kernel
theorem dX6_looks_61 : decode cX6_looks 61 = .ok (.invokevirtual 99, 3) := by decide +kernel
theorem dX6_looks_64 : decode cX6_looks 64 = .ok (.istore 7, 2) := by decide +kernel
theorem dX6_looks_66 : decode cX6_looks 66 = .ok (.iload_n 2, 1) := by decide +kernel
theorem dX6_looks_67 : decode cX6_looks 67 = .ok (.ifCond .eq 21, 3) := by decide +kernel
theorem dX6_looks_70 : decode cX6_looks 70 = .ok (.aload_n 0, 1) := by decide +kernel
theorem dX6_looks_71 : decode cX6_looks 71 = .ok (.getfield 32, 3) := by decide +kernel
theorem dX6_looks_74 : decode cX6_looks 74 = .ok (.aload_n 0, 1) := by decide +kernel
theorem dX6_looks_75 : decode cX6_looks 75 = .ok (.iload_n 1, 1) := by decide +kernel
theorem dX6_looks_76 : decode cX6_looks 76 = .ok (.iload 7, 2) := by decide +kernel
theorem dX6_looks_78 : decode cX6_looks 78 = .ok (.invokevirtual 102, 3) := by decide +kernel
theorem dX6_looks_81 : decode cX6_looks 81 = .ok (.iload 4, 2) := by decide +kernel
theorem dX6_looks_83 : decode cX6_looks 83 = .ok (.iadd, 1) := by decide +kernel
theorem dX6_looks_84 : decode cX6_looks 84 = .ok (.iaload, 1) := by decide +kernel
theorem dX6_looks_85 : decode cX6_looks 85 = .ok (.goto 12, 3) := by decide +kernel
theorem dX6_looks_88 : decode cX6_looks 88 = .ok (.aload_n 0, 1) := by decide +kernel
theorem dX6_looks_89 : decode cX6_looks 89 = .ok (.iload_n 1, 1) := by decide +kernel
theorem dX6_looks_90 : decode cX6_looks 90 = .ok (.iload 7, 2) := by decide +kernel
theorem dX6_looks_92 : decode cX6_looks 92 = .ok (.iload 4, 2) := by decide +kernel
theorem dX6_looks_94 : decode cX6_looks 94 = .ok (.invokevirtual 105, 3) := by decide +kernel
theorem dX6_looks_97 : decode cX6_looks 97 = .ok (.istore 8, 2) := by decide +kernel
theorem dX6_looks_99 : decode cX6_looks 99 = .ok (.iload 8, 2) := by decide +kernel
theorem dX6_looks_101 : decode cX6_looks 101 = .ok (.iconst (-1), 1) := by decide +kernel
theorem dX6_looks_102 : decode cX6_looks 102 = .ok (.if_icmp .eq 15, 3) := by decide +kernel
theorem dX6_looks_105 : decode cX6_looks 105 = .ok (.aload_n 0, 1) := by decide +kernel
theorem dX6_looks_106 : decode cX6_looks 106 = .ok (.getfield 47, 3) := by decide +kernel
theorem dX6_looks_109 : decode cX6_looks 109 = .ok (.iload 8, 2) := by decide +kernel
theorem dX6_looks_111 : decode cX6_looks 111 = .ok (.iaload, 1) := by decide +kernel
theorem dX6_looks_112 : decode cX6_looks 112 = .ok (.bipush 101, 2) := by decide +kernel
theorem dX6_looks_114 : decode cX6_looks 114 = .ok (.if_icmp .ne 7, 3) := by decide +kernel
theorem dX6_looks_117 : decode cX6_looks 117 = .ok (.iconst 1, 1) := by decide +kernel
theorem dX6_looks_118 : decode cX6_looks 118 = .ok (.goto 4, 3) := by decide +kernel
theorem dX6_looks_121 : decode cX6_looks 121 = .ok (.iconst 0, 1) := by decide +kernel
theorem dX6_looks_122 : decode cX6_looks 122 = .ok (.istore 5, 2) := by decide +kernel
theorem dX6_looks_124 : decode cX6_looks 124 = .ok (.iload 5, 2) := by decide +kernel
theorem dX6_looks_126 : decode cX6_looks 126 = .ok (.ifCond .ne 47, 3) := by decide +kernel
theorem dX6_looks_129 : decode cX6_looks 129 = .ok (.aload_n 0, 1) := by decide +kernel
theorem dX6_looks_130 : decode cX6_looks 130 = .ok (.getfield 47, 3) := by decide +kernel
theorem dX6_looks_133 : decode cX6_looks 133 = .ok (.iload 8, 2) := by decide +kernel
theorem dX6_looks_135 : decode cX6_looks 135 = .ok (.iaload, 1) := by decide +kernel
theorem dX6_looks_136 : decode cX6_looks 136 = .ok (.bipush 100, 2) := by decide +kernel
theorem dX6_looks_138 : decode cX6_looks 138 = .ok (.if_icmp .eq 35, 3) := by decide +kernel
theorem dX6_looks_141 : decode cX6_looks 141 = .ok (.aload_n 0, 1) := by decide +kernel
theorem dX6_looks_142 : decode cX6_looks 142 = .ok (.getfield 65, 3) := by decide +kernel
theorem dX6_looks_145 : decode cX6_looks 145 = .ok (.iload 4, 2) := by decide +kernel
theorem dX6_looks_147 : decode cX6_looks 147 = .ok (.aload_n 0, 1) := by decide +kernel
theorem dX6_looks_148 : decode cX6_looks 148 = .ok (.getfield 47, 3) := by decide +kernel
theorem dX6_looks_151 : decode cX6_looks 151 = .ok (.iload 8, 2) := by decide +kernel
theorem dX6_looks_153 : decode cX6_looks 153 = .ok (.iaload, 1) := by decide +kernel
theorem dX6_looks_154 : decode cX6_looks 154 = .ok (.iastore, 1) := by decide +kernel
theorem dX6_looks_155 : decode cX6_looks 155 = .ok (.aload_n 0, 1) := by decide +kernel
theorem dX6_looks_156 : decode cX6_looks 156 = .ok (.getfield 68, 3) := by decide +kernel
theorem dX6_looks_159 : decode cX6_looks 159 = .ok (.iload 4, 2) := by decide +kernel
theorem dX6_looks_161 : decode cX6_looks 161 = .ok (.iload 6, 2) := by decide +kernel
theorem dX6_looks_163 : decode cX6_looks 163 = .ok (.iastore, 1) := by decide +kernel
theorem dX6_looks_164 : decode cX6_looks 164 = .ok (.aload_n 0, 1) := by decide +kernel
theorem dX6_looks_165 : decode cX6_looks 165 = .ok (.getfield 71, 3) := by decide +kernel
theorem dX6_looks_168 : decode cX6_looks 168 = .ok (.iload 4, 2) := by decide +kernel
theorem dX6_looks_170 : decode cX6_looks 170 = .ok (.iload 8, 2) := by decide +kernel
theorem dX6_looks_172 : decode cX6_looks 172 = .ok (.iastore, 1) := by decide +kernel
theorem dX6_looks_173 : decode cX6_looks 173 = .ok (.iinc 6 1, 3) := by decide +kernel
theorem dX6_looks_176 : decode cX6_looks 176 = .ok (.goto (-130), 3) := by decide +kernel
theorem dX6_looks_179 : decode cX6_looks 179 = .ok (.iinc 4 1, 3) := by decide +kernel
theorem dX6_looks_182 : decode cX6_looks 182 = .ok (.goto (-173), 3) := by decide +kernel
theorem dX6_looks_185 : decode cX6_looks 185 = .ok (.return_, 1) := by decide +kernel
theorem dX6_isHidden_0 : decode cX6_isHidden 0 = .ok (.iconst 0, 1) := by decide +kernel
theorem dX6_isHidden_1 : decode cX6_isHidden 1 = .ok (.istore_n 2, 1) := by decide +kernel
theorem dX6_isHidden_2 : decode cX6_isHidden 2 = .ok (.iconst 0, 1) := by decide +kernel
theorem dX6_isHidden_3 : decode cX6_isHidden 3 = .ok (.istore_n 3, 1) := by decide +kernel
theorem dX6_isHidden_4 : decode cX6_isHidden 4 = .ok (.iload_n 3, 1) := by decide +kernel
theorem dX6_isHidden_5 : decode cX6_isHidden 5 = .ok (.bipush 6, 2) := by decide +kernel
theorem dX6_isHidden_7 : decode cX6_isHidden 7 = .ok (.if_icmp .ge 120, 3) := by decide +kernel
theorem dX6_isHidden_10 : decode cX6_isHidden 10 = .ok (.aload_n 0, 1) := by decide +kernel
theorem dX6_isHidden_11 : decode cX6_isHidden 11 = .ok (.getfield 62, 3) := by decide +kernel
theorem dX6_isHidden_14 : decode cX6_isHidden 14 = .ok (.iload_n 1, 1) := by decide +kernel
theorem dX6_isHidden_15 : decode cX6_isHidden 15 = .ok (.iaload, 1) := by decide +kernel
theorem dX6_isHidden_16 : decode cX6_isHidden 16 = .ok (.iload_n 3, 1) := by decide +kernel
theorem dX6_isHidden_17 : decode cX6_isHidden 17 = .ok (.ishr, 1) := by decide +kernel
theorem dX6_isHidden_18 : decode cX6_isHidden 18 = .ok (.iconst 1, 1) := by decide +kernel
theorem dX6_isHidden_19 : decode cX6_isHidden 19 = .ok (.iand, 1) := by decide +kernel
theorem dX6_isHidden_20 : decode cX6_isHidden 20 = .ok (.iconst 1, 1) := by decide +kernel
theorem dX6_isHidden_21 : decode cX6_isHidden 21 = .ok (.if_icmp .ne 27, 3) := by decide +kernel
theorem dX6_isHidden_24 : decode cX6_isHidden 24 = .ok (.aload_n 0, 1) := by decide +kernel
theorem dX6_isHidden_25 : decode cX6_isHidden 25 = .ok (.getfield 65, 3) := by decide +kernel
theorem dX6_isHidden_28 : decode cX6_isHidden 28 = .ok (.iload_n 1, 1) := by decide +kernel
theorem dX6_isHidden_29 : decode cX6_isHidden 29 = .ok (.iaload, 1) := by decide +kernel
theorem dX6_isHidden_30 : decode cX6_isHidden 30 = .ok (.iconst (-1), 1) := by decide +kernel
theorem dX6_isHidden_31 : decode cX6_isHidden 31 = .ok (.if_icmp .eq 17, 3) := by decide +kernel
theorem dX6_isHidden_34 : decode cX6_isHidden 34 = .ok (.aload_n 0, 1) := by decide +kernel
theorem dX6_isHidden_35 : decode cX6_isHidden 35 = .ok (.getfield 65, 3) := by decide +kernel
theorem dX6_isHidden_38 : decode cX6_isHidden 38 = .ok (.iload_n 3, 1) := by decide +kernel
theorem dX6_isHidden_39 : decode cX6_isHidden 39 = .ok (.iaload, 1) := by decide +kernel
theorem dX6_isHidden_40 : decode cX6_isHidden 40 = .ok (.iconst (-1), 1) := by decide +kernel
theorem dX6_isHidden_41 : decode cX6_isHidden 41 = .ok (.if_icmp .eq 7, 3) := by decide +kernel
theorem dX6_isHidden_44 : decode cX6_isHidden 44 = .ok (.iconst 1, 1) := by decide +kernel
theorem dX6_isHidden_45 : decode cX6_isHidden 45 = .ok (.goto 4, 3) := by decide +kernel
theorem dX6_isHidden_48 : decode cX6_isHidden 48 = .ok (.iconst 0, 1) := by decide +kernel
theorem dX6_isHidden_49 : decode cX6_isHidden 49 = .ok (.istore 4, 2) := by decide +kernel
theorem dX6_isHidden_51 : decode cX6_isHidden 51 = .ok (.iload_n 2, 1) := by decide +kernel
theorem dX6_isHidden_52 : decode cX6_isHidden 52 = .ok (.ifCond .ne 63, 3) := by decide +kernel
theorem dX6_isHidden_55 : decode cX6_isHidden 55 = .ok (.iload 4, 2) := by decide +kernel
theorem dX6_isHidden_57 : decode cX6_isHidden 57 = .ok (.ifCond .eq 62, 3) := by decide +kernel
theorem dX6_isHidden_60 : decode cX6_isHidden 60 = .ok (.aload_n 0, 1) := by decide +kernel
theorem dX6_isHidden_61 : decode cX6_isHidden 61 = .ok (.getfield 68, 3) := by decide +kernel
theorem dX6_isHidden_64 : decode cX6_isHidden 64 = .ok (.iload_n 1, 1) := by decide +kernel
theorem dX6_isHidden_65 : decode cX6_isHidden 65 = .ok (.iaload, 1) := by decide +kernel
theorem dX6_isHidden_66 : decode cX6_isHidden 66 = .ok (.aload_n 0, 1) := by decide +kernel
theorem dX6_isHidden_67 : decode cX6_isHidden 67 = .ok (.getfield 68, 3) := by decide +kernel
theorem dX6_isHidden_70 : decode cX6_isHidden 70 = .ok (.iload_n 3, 1) := by decide +kernel
theorem dX6_isHidden_71 : decode cX6_isHidden 71 = .ok (.iaload, 1) := by decide +kernel
theorem dX6_isHidden_72 : decode cX6_isHidden 72 = .ok (.if_icmp .gt 43, 3) := by decide +kernel
theorem dX6_isHidden_75 : decode cX6_isHidden 75 = .ok (.aload_n 0, 1) := by decide +kernel
theorem dX6_isHidden_76 : decode cX6_isHidden 76 = .ok (.getfield 68, 3) := by decide +kernel
theorem dX6_isHidden_79 : decode cX6_isHidden 79 = .ok (.iload_n 1, 1) := by decide +kernel
theorem dX6_isHidden_80 : decode cX6_isHidden 80 = .ok (.iaload, 1) := by decide +kernel
theorem dX6_isHidden_81 : decode cX6_isHidden 81 = .ok (.aload_n 0, 1) := by decide +kernel
theorem dX6_isHidden_82 : decode cX6_isHidden 82 = .ok (.getfield 68, 3) := by decide +kernel
theorem dX6_isHidden_85 : decode cX6_isHidden 85 = .ok (.iload_n 3, 1) := by decide +kernel
theorem dX6_isHidden_86 : decode cX6_isHidden 86 = .ok (.iaload, 1) := by decide +kernel
theorem dX6_isHidden_87 : decode cX6_isHidden 87 = .ok (.if_icmp .ne 32, 3) := by decide +kernel
theorem dX6_isHidden_90 : decode cX6_isHidden 90 = .ok (.aload_n 0, 1) := by decide +kernel
theorem dX6_isHidden_91 : decode cX6_isHidden 91 = .ok (.getfield 53, 3) := by decide +kernel
theorem dX6_isHidden_94 : decode cX6_isHidden 94 = .ok (.aload_n 0, 1) := by decide +kernel
theorem dX6_isHidden_95 : decode cX6_isHidden 95 = .ok (.getfield 71, 3) := by decide +kernel
theorem dX6_isHidden_98 : decode cX6_isHidden 98 = .ok (.iload_n 1, 1) := by decide +kernel
theorem dX6_isHidden_99 : decode cX6_isHidden 99 = .ok (.iaload, 1) := by decide +kernel
theorem dX6_isHidden_100 : decode cX6_isHidden 100 = .ok (.iaload, 1) := by decide +kernel
theorem dX6_isHidden_101 : decode cX6_isHidden 101 = .ok (.aload_n 0, 1) := by decide +kernel
theorem dX6_isHidden_102 : decode cX6_isHidden 102 = .ok (.getfield 53, 3) := by decide +kernel
theorem dX6_isHidden_105 : decode cX6_isHidden 105 = .ok (.aload_n 0, 1) := by decide +kernel
theorem dX6_isHidden_106 : decode cX6_isHidden 106 = .ok (.getfield 71, 3) := by decide +kernel
theorem dX6_isHidden_109 : decode cX6_isHidden 109 = .ok (.iload_n 3, 1) := by decide +kernel
theorem dX6_isHidden_110 : decode cX6_isHidden 110 = .ok (.iaload, 1) := by decide +kernel
theorem dX6_isHidden_111 : decode cX6_isHidden 111 = .ok (.iaload, 1) := by decide +kernel
theorem dX6_isHidden_112 : decode cX6_isHidden 112 = .ok (.if_icmp .ge 7, 3) := by decide +kernel
theorem dX6_isHidden_115 : decode cX6_isHidden 115 = .ok (.iconst 1, 1) := by decide +kernel
theorem dX6_isHidden_116 : decode cX6_isHidden 116 = .ok (.goto 4, 3) := by decide +kernel
theorem dX6_isHidden_119 : decode cX6_isHidden 119 = .ok (.iconst 0, 1) := by decide +kernel
theorem dX6_isHidden_120 : decode cX6_isHidden 120 = .ok (.istore_n 2, 1) := by decide +kernel
theorem dX6_isHidden_121 : decode cX6_isHidden 121 = .ok (.iinc 3 1, 3) := by decide +kernel
theorem dX6_isHidden_124 : decode cX6_isHidden 124 = .ok (.goto (-120), 3) := by decide +kernel
theorem dX6_isHidden_127 : decode cX6_isHidden 127 = .ok (.iload_n 2, 1) := by decide +kernel
theorem dX6_isHidden_128 : decode cX6_isHidden 128 = .ok (.ireturn, 1) := by decide +kernel
theorem dX6_isHalted_0 : decode cX6_isHalted 0 = .ok (.iconst 0, 1) := by decide +kernel
theorem dX6_isHalted_1 : decode cX6_isHalted 1 = .ok (.istore_n 2, 1) := by decide +kernel
theorem dX6_isHalted_2 : decode cX6_isHalted 2 = .ok (.aload_n 0, 1) := by decide +kernel
theorem dX6_isHalted_3 : decode cX6_isHalted 3 = .ok (.iload_n 1, 1) := by decide +kernel
theorem dX6_isHalted_4 : decode cX6_isHalted 4 = .ok (.iconst 0, 1) := by decide +kernel
theorem dX6_isHalted_5 : decode cX6_isHalted 5 = .ok (.invokevirtual 102, 3) := by decide +kernel
theorem dX6_isHalted_8 : decode cX6_isHalted 8 = .ok (.istore_n 3, 1) := by decide +kernel
theorem dX6_isHalted_9 : decode cX6_isHalted 9 = .ok (.iload_n 3, 1) := by decide +kernel
theorem dX6_isHalted_10 : decode cX6_isHalted 10 = .ok (.aload_n 0, 1) := by decide +kernel
theorem dX6_isHalted_11 : decode cX6_isHalted 11 = .ok (.iload_n 1, 1) := by decide +kernel
theorem dX6_isHalted_12 : decode cX6_isHalted 12 = .ok (.iconst 1, 1) := by decide +kernel
theorem dX6_isHalted_13 : decode cX6_isHalted 13 = .ok (.iadd, 1) := by decide +kernel
theorem dX6_isHalted_14 : decode cX6_isHalted 14 = .ok (.iconst 0, 1) := by decide +kernel
theorem dX6_isHalted_15 : decode cX6_isHalted 15 = .ok (.invokevirtual 102, 3) := by decide +kernel
theorem dX6_isHalted_18 : decode cX6_isHalted 18 = .ok (.if_icmp .ge 44, 3) := by decide +kernel
theorem dX6_isHalted_21 : decode cX6_isHalted 21 = .ok (.iload_n 2, 1) := by decide +kernel
theorem dX6_isHalted_22 : decode cX6_isHalted 22 = .ok (.ifCond .ne 28, 3) := by decide +kernel
theorem dX6_isHalted_25 : decode cX6_isHalted 25 = .ok (.aload_n 0, 1) := by decide +kernel
theorem dX6_isHalted_26 : decode cX6_isHalted 26 = .ok (.getfield 32, 3) := by decide +kernel
theorem dX6_isHalted_29 : decode cX6_isHalted 29 = .ok (.iload_n 3, 1) := by decide +kernel
theorem dX6_isHalted_30 : decode cX6_isHalted 30 = .ok (.iaload, 1) := by decide +kernel
theorem dX6_isHalted_31 : decode cX6_isHalted 31 = .ok (.iconst (-1), 1) := by decide +kernel
theorem dX6_isHalted_32 : decode cX6_isHalted 32 = .ok (.if_icmp .eq 22, 3) := by decide +kernel
theorem dX6_isHalted_35 : decode cX6_isHalted 35 = .ok (.aload_n 0, 1) := by decide +kernel
theorem dX6_isHalted_36 : decode cX6_isHalted 36 = .ok (.getfield 50, 3) := by decide +kernel
theorem dX6_isHalted_39 : decode cX6_isHalted 39 = .ok (.aload_n 0, 1) := by decide +kernel
theorem dX6_isHalted_40 : decode cX6_isHalted 40 = .ok (.getfield 32, 3) := by decide +kernel
theorem dX6_isHalted_43 : decode cX6_isHalted 43 = .ok (.iload_n 3, 1) := by decide +kernel
theorem dX6_isHalted_44 : decode cX6_isHalted 44 = .ok (.iaload, 1) := by decide +kernel
theorem dX6_isHalted_45 : decode cX6_isHalted 45 = .ok (.iaload, 1) := by decide +kernel
theorem dX6_isHalted_46 : decode cX6_isHalted 46 = .ok (.iconst 1, 1) := by decide +kernel
theorem dX6_isHalted_47 : decode cX6_isHalted 47 = .ok (.if_icmp .eq 7, 3) := by decide +kernel
theorem dX6_isHalted_50 : decode cX6_isHalted 50 = .ok (.iconst 1, 1) := by decide +kernel
theorem dX6_isHalted_51 : decode cX6_isHalted 51 = .ok (.goto 4, 3) := by decide +kernel
theorem dX6_isHalted_54 : decode cX6_isHalted 54 = .ok (.iconst 0, 1) := by decide +kernel
theorem dX6_isHalted_55 : decode cX6_isHalted 55 = .ok (.istore_n 2, 1) := by decide +kernel
theorem dX6_isHalted_56 : decode cX6_isHalted 56 = .ok (.iinc 3 1, 3) := by decide +kernel
theorem dX6_isHalted_59 : decode cX6_isHalted 59 = .ok (.goto (-50), 3) := by decide +kernel
theorem dX6_isHalted_62 : decode cX6_isHalted 62 = .ok (.iload_n 2, 1) := by decide +kernel
theorem dX6_isHalted_63 : decode cX6_isHalted 63 = .ok (.ireturn, 1) := by decide +kernel
theorem dX6_works_0 : decode cX6_works 0 = .ok (.aload_n 0, 1) := by decide +kernel
theorem dX6_works_1 : decode cX6_works 1 = .ok (.getfield 109, 3) := by decide +kernel
theorem dX6_works_4 : decode cX6_works 4 = .ok (.aload_n 0, 1) := by decide +kernel
theorem dX6_works_5 : decode cX6_works 5 = .ok (.getfield 29, 3) := by decide +kernel
theorem dX6_works_8 : decode cX6_works 8 = .ok (.iload_n 1, 1) := by decide +kernel
theorem dX6_works_9 : decode cX6_works 9 = .ok (.iaload, 1) := by decide +kernel
theorem dX6_works_10 : decode cX6_works 10 = .ok (.if_icmp .ge 7, 3) := by decide +kernel
theorem dX6_works_13 : decode cX6_works 13 = .ok (.iconst 1, 1) := by decide +kernel
theorem dX6_works_14 : decode cX6_works 14 = .ok (.goto 4, 3) := by decide +kernel
theorem dX6_works_17 : decode cX6_works 17 = .ok (.iconst 0, 1) := by decide +kernel
theorem dX6_works_18 : decode cX6_works 18 = .ok (.ireturn, 1) := by decide +kernel
theorem dX6_setDuty_0 : decode cX6_setDuty 0 = .ok (.aload_n 0, 1) := by decide +kernel
theorem dX6_setDuty_1 : decode cX6_setDuty 1 = .ok (.iconst 0, 1) := by decide +kernel
theorem dX6_setDuty_2 : decode cX6_setDuty 2 = .ok (.putfield 74, 3) := by decide +kernel
theorem dX6_setDuty_5 : decode cX6_setDuty 5 = .ok (.iload_n 1, 1) := by decide +kernel
theorem dX6_setDuty_6 : decode cX6_setDuty 6 = .ok (.iconst 0, 1) := by decide +kernel
theorem dX6_setDuty_7 : decode cX6_setDuty 7 = .ok (.iconst 3, 1) := by decide +kernel
theorem dX6_setDuty_8 : decode cX6_setDuty 8 = .ok (.invokestatic 77, 3) := by decide +kernel
theorem dX6_setDuty_11 : decode cX6_setDuty 11 = .ok (.ifCond .eq 14, 3) := by decide +kernel
theorem dX6_setDuty_14 : decode cX6_setDuty 14 = .ok (.iload_n 2, 1) := by decide +kernel
theorem dX6_setDuty_15 : decode cX6_setDuty 15 = .ok (.iconst 0, 1) := by decide +kernel
theorem dX6_setDuty_16 : decode cX6_setDuty 16 = .ok (.sipush 255, 3) := by decide +kernel
theorem dX6_setDuty_19 : decode cX6_setDuty 19 = .ok (.invokestatic 77, 3) := by decide +kernel
theorem dX6_setDuty_22 : decode cX6_setDuty 22 = .ok (.ifCond .ne 9, 3) := by decide +kernel
theorem dX6_setDuty_25 : decode cX6_setDuty 25 = .ok (.aload_n 0, 1) := by decide +kernel
theorem dX6_setDuty_26 : decode cX6_setDuty 26 = .ok (.iconst 1, 1) := by decide +kernel
theorem dX6_setDuty_27 : decode cX6_setDuty 27 = .ok (.invokevirtual 112, 3) := by decide +kernel
theorem dX6_setDuty_30 : decode cX6_setDuty 30 = .ok (.ireturn, 1) := by decide +kernel
theorem dX6_setDuty_31 : decode cX6_setDuty 31 = .ok (.aload_n 0, 1) := by decide +kernel
theorem dX6_setDuty_32 : decode cX6_setDuty 32 = .ok (.getfield 7, 3) := by decide +kernel
theorem dX6_setDuty_35 : decode cX6_setDuty 35 = .ok (.iload_n 1, 1) := by decide +kernel
theorem dX6_setDuty_36 : decode cX6_setDuty 36 = .ok (.iaload, 1) := by decide +kernel
theorem dX6_setDuty_37 : decode cX6_setDuty 37 = .ok (.istore_n 3, 1) := by decide +kernel
theorem dX6_setDuty_38 : decode cX6_setDuty 38 = .ok (.aload_n 0, 1) := by decide +kernel
theorem dX6_setDuty_39 : decode cX6_setDuty 39 = .ok (.getfield 7, 3) := by decide +kernel
theorem dX6_setDuty_42 : decode cX6_setDuty 42 = .ok (.iload_n 1, 1) := by decide +kernel
theorem dX6_setDuty_43 : decode cX6_setDuty 43 = .ok (.iload_n 2, 1) := by decide +kernel
theorem dX6_setDuty_44 : decode cX6_setDuty 44 = .ok (.iastore, 1) := by decide +kernel
theorem dX6_setDuty_45 : decode cX6_setDuty 45 = .ok (.iload_n 3, 1) := by decide +kernel
theorem dX6_setDuty_46 : decode cX6_setDuty 46 = .ok (.ireturn, 1) := by decide +kernel
theorem dX6_good_0 : decode cX6_good 0 = .ok (.iconst 0, 1) := by decide +kernel
theorem dX6_good_1 : decode cX6_good 1 = .ok (.istore_n 2, 1) := by decide +kernel
theorem dX6_good_2 : decode cX6_good 2 = .ok (.iconst 0, 1) := by decide +kernel
theorem dX6_good_3 : decode cX6_good 3 = .ok (.istore_n 3, 1) := by decide +kernel
theorem dX6_good_4 : decode cX6_good 4 = .ok (.iload_n 3, 1) := by decide +kernel
theorem dX6_good_5 : decode cX6_good 5 = .ok (.bipush 8, 2) := by decide +kernel
theorem dX6_good_7 : decode cX6_good 7 = .ok (.if_icmp .ge 32, 3) := by decide +kernel
theorem dX6_good_10 : decode cX6_good 10 = .ok (.iload_n 2, 1) := by decide +kernel
theorem dX6_good_11 : decode cX6_good 11 = .ok (.aload_n 0, 1) := by decide +kernel
theorem dX6_good_12 : decode cX6_good 12 = .ok (.getfield 56, 3) := by decide +kernel
theorem dX6_good_15 : decode cX6_good 15 = .ok (.bipush 8, 2) := by decide +kernel
theorem dX6_good_17 : decode cX6_good 17 = .ok (.iload_n 1, 1) := by decide +kernel
theorem dX6_good_18 : decode cX6_good 18 = .ok (.imul, 1) := by decide +kernel
theorem dX6_good_19 : decode cX6_good 19 = .ok (.iload_n 3, 1) := by decide +kernel
theorem dX6_good_20 : decode cX6_good 20 = .ok (.iadd, 1) := by decide +kernel
theorem dX6_good_21 : decode cX6_good 21 = .ok (.iaload, 1) := by decide +kernel
theorem dX6_good_22 : decode cX6_good 22 = .ok (.iconst 1, 1) := by decide +kernel
theorem dX6_good_23 : decode cX6_good 23 = .ok (.if_icmp .ne 7, 3) := by decide +kernel
theorem dX6_good_26 : decode cX6_good 26 = .ok (.iconst 1, 1) := by decide +kernel
theorem dX6_good_27 : decode cX6_good 27 = .ok (.goto 4, 3) := by decide +kernel
theorem dX6_good_30 : decode cX6_good 30 = .ok (.iconst 0, 1) := by decide +kernel
theorem dX6_good_31 : decode cX6_good 31 = .ok (.iadd, 1) := by decide +kernel
theorem dX6_good_32 : decode cX6_good 32 = .ok (.istore_n 2, 1) := by decide +kernel
theorem dX6_good_33 : decode cX6_good 33 = .ok (.iinc 3 1, 3) := by decide +kernel
theorem dX6_good_36 : decode cX6_good 36 = .ok (.goto (-32), 3) := by decide +kernel
theorem dX6_good_39 : decode cX6_good 39 = .ok (.iload_n 2, 1) := by decide +kernel
theorem dX6_good_40 : decode cX6_good 40 = .ok (.ireturn, 1) := by decide +kernel
theorem dX6_voids_0 : decode cX6_voids 0 = .ok (.iconst 0, 1) := by decide +kernel
theorem dX6_voids_1 : decode cX6_voids 1 = .ok (.istore_n 2, 1) := by decide +kernel
theorem dX6_voids_2 : decode cX6_voids 2 = .ok (.iconst 0, 1) := by decide +kernel
theorem dX6_voids_3 : decode cX6_voids 3 = .ok (.istore_n 3, 1) := by decide +kernel
theorem dX6_voids_4 : decode cX6_voids 4 = .ok (.iload_n 3, 1) := by decide +kernel
theorem dX6_voids_5 : decode cX6_voids 5 = .ok (.aload_n 0, 1) := by decide +kernel
theorem dX6_voids_6 : decode cX6_voids 6 = .ok (.getfield 84, 3) := by decide +kernel
theorem dX6_voids_9 : decode cX6_voids 9 = .ok (.if_icmp .ge 147, 3) := by decide +kernel
theorem dX6_voids_12 : decode cX6_voids 12 = .ok (.aload_n 0, 1) := by decide +kernel
theorem dX6_voids_13 : decode cX6_voids 13 = .ok (.getfield 50, 3) := by decide +kernel
theorem dX6_voids_16 : decode cX6_voids 16 = .ok (.iload_n 3, 1) := by decide +kernel
theorem dX6_voids_17 : decode cX6_voids 17 = .ok (.iaload, 1) := by decide +kernel
theorem dX6_voids_18 : decode cX6_voids 18 = .ok (.iconst 1, 1) := by decide +kernel
theorem dX6_voids_19 : decode cX6_voids 19 = .ok (.if_icmp .ne 7, 3) := by decide +kernel
theorem dX6_voids_22 : decode cX6_voids 22 = .ok (.iconst 1, 1) := by decide +kernel
theorem dX6_voids_23 : decode cX6_voids 23 = .ok (.goto 4, 3) := by decide +kernel
theorem dX6_voids_26 : decode cX6_voids 26 = .ok (.iconst 0, 1) := by decide +kernel
theorem dX6_voids_27 : decode cX6_voids 27 = .ok (.istore 4, 2) := by decide +kernel
theorem dX6_voids_29 : decode cX6_voids 29 = .ok (.bipush 8, 2) := by decide +kernel
theorem dX6_voids_31 : decode cX6_voids 31 = .ok (.iload_n 3, 1) := by decide +kernel
theorem dX6_voids_32 : decode cX6_voids 32 = .ok (.imul, 1) := by decide +kernel
theorem dX6_voids_33 : decode cX6_voids 33 = .ok (.iload_n 1, 1) := by decide +kernel
theorem dX6_voids_34 : decode cX6_voids 34 = .ok (.iadd, 1) := by decide +kernel
theorem dX6_voids_35 : decode cX6_voids 35 = .ok (.istore 5, 2) := by decide +kernel
theorem dX6_voids_37 : decode cX6_voids 37 = .ok (.aload_n 0, 1) := by decide +kernel
theorem dX6_voids_38 : decode cX6_voids 38 = .ok (.getfield 56, 3) := by decide +kernel
theorem dX6_voids_41 : decode cX6_voids 41 = .ok (.iload 5, 2) := by decide +kernel
theorem dX6_voids_43 : decode cX6_voids 43 = .ok (.iaload, 1) := by decide +kernel
theorem dX6_voids_44 : decode cX6_voids 44 = .ok (.iconst 1, 1) := by decide +kernel
theorem dX6_voids_45 : decode cX6_voids 45 = .ok (.if_icmp .ne 28, 3) := by decide +kernel
theorem dX6_voids_48 : decode cX6_voids 48 = .ok (.aload_n 0, 1) := by decide +kernel
theorem dX6_voids_49 : decode cX6_voids 49 = .ok (.getfield 109, 3) := by decide +kernel
theorem dX6_voids_52 : decode cX6_voids 52 = .ok (.aload_n 0, 1) := by decide +kernel
theorem dX6_voids_53 : decode cX6_voids 53 = .ok (.getfield 59, 3) := by decide +kernel
theorem dX6_voids_56 : decode cX6_voids 56 = .ok (.iload 5, 2) := by decide +kernel
theorem dX6_voids_58 : decode cX6_voids 58 = .ok (.iaload, 1) := by decide +kernel
theorem dX6_voids_59 : decode cX6_voids 59 = .ok (.isub, 1) := by decide +kernel
theorem dX6_voids_60 : decode cX6_voids 60 = .ok (.bipush 30, 2) := by decide +kernel
theorem dX6_voids_62 : decode cX6_voids 62 = .ok (.if_icmp .ge 11, 3) := by decide +kernel
theorem dX6_voids_65 : decode cX6_voids 65 = .ok (.aload_n 0, 1) := by decide +kernel
theorem dX6_voids_66 : decode cX6_voids 66 = .ok (.getfield 56, 3) := by decide +kernel
theorem dX6_voids_69 : decode cX6_voids 69 = .ok (.iload 5, 2) := by decide +kernel
theorem dX6_voids_71 : decode cX6_voids 71 = .ok (.iconst 2, 1) := by decide +kernel
theorem dX6_voids_72 : decode cX6_voids 72 = .ok (.iastore, 1) := by decide +kernel
theorem dX6_voids_73 : decode cX6_voids 73 = .ok (.iload 4, 2) := by decide +kernel
theorem dX6_voids_75 : decode cX6_voids 75 = .ok (.ifCond .eq 19, 3) := by decide +kernel
theorem dX6_voids_78 : decode cX6_voids 78 = .ok (.aload_n 0, 1) := by decide +kernel
theorem dX6_voids_79 : decode cX6_voids 79 = .ok (.iload_n 3, 1) := by decide +kernel
theorem dX6_voids_80 : decode cX6_voids 80 = .ok (.invokevirtual 115, 3) := by decide +kernel
theorem dX6_voids_83 : decode cX6_voids 83 = .ok (.iconst 2, 1) := by decide +kernel
theorem dX6_voids_84 : decode cX6_voids 84 = .ok (.if_icmp .ge 10, 3) := by decide +kernel
theorem dX6_voids_87 : decode cX6_voids 87 = .ok (.aload_n 0, 1) := by decide +kernel
theorem dX6_voids_88 : decode cX6_voids 88 = .ok (.getfield 50, 3) := by decide +kernel
theorem dX6_voids_91 : decode cX6_voids 91 = .ok (.iload_n 3, 1) := by decide +kernel
theorem dX6_voids_92 : decode cX6_voids 92 = .ok (.iconst 2, 1) := by decide +kernel
theorem dX6_voids_93 : decode cX6_voids 93 = .ok (.iastore, 1) := by decide +kernel
theorem dX6_voids_94 : decode cX6_voids 94 = .ok (.aload_n 0, 1) := by decide +kernel
theorem dX6_voids_95 : decode cX6_voids 95 = .ok (.getfield 35, 3) := by decide +kernel
theorem dX6_voids_98 : decode cX6_voids 98 = .ok (.iload_n 3, 1) := by decide +kernel
theorem dX6_voids_99 : decode cX6_voids 99 = .ok (.iaload, 1) := by decide +kernel
theorem dX6_voids_100 : decode cX6_voids 100 = .ok (.iload_n 1, 1) := by decide +kernel
theorem dX6_voids_101 : decode cX6_voids 101 = .ok (.if_icmp .ne 26, 3) := by decide +kernel
theorem dX6_voids_104 : decode cX6_voids 104 = .ok (.aload_n 0, 1) := by decide +kernel
theorem dX6_voids_105 : decode cX6_voids 105 = .ok (.getfield 109, 3) := by decide +kernel
theorem dX6_voids_108 : decode cX6_voids 108 = .ok (.aload_n 0, 1) := by decide +kernel
theorem dX6_voids_109 : decode cX6_voids 109 = .ok (.getfield 44, 3) := by decide +kernel
theorem dX6_voids_112 : decode cX6_voids 112 = .ok (.iload_n 3, 1) := by decide +kernel
theorem dX6_voids_113 : decode cX6_voids 113 = .ok (.iaload, 1) := by decide +kernel
theorem dX6_voids_114 : decode cX6_voids 114 = .ok (.isub, 1) := by decide +kernel
theorem dX6_voids_115 : decode cX6_voids 115 = .ok (.bipush 30, 2) := by decide +kernel
theorem dX6_voids_117 : decode cX6_voids 117 = .ok (.if_icmp .ge 10, 3) := by decide +kernel
theorem dX6_voids_120 : decode cX6_voids 120 = .ok (.aload_n 0, 1) := by decide +kernel
theorem dX6_voids_121 : decode cX6_voids 121 = .ok (.getfield 50, 3) := by decide +kernel
theorem dX6_voids_124 : decode cX6_voids 124 = .ok (.iload_n 3, 1) := by decide +kernel
theorem dX6_voids_125 : decode cX6_voids 125 = .ok (.iconst 3, 1) := by decide +kernel
theorem dX6_voids_126 : decode cX6_voids 126 = .ok (.iastore, 1) := by decide +kernel
theorem dX6_voids_127 : decode cX6_voids 127 = .ok (.iload_n 2, 1) := by decide +kernel
theorem dX6_voids_128 : decode cX6_voids 128 = .ok (.iload 4, 2) := by decide +kernel
theorem dX6_voids_130 : decode cX6_voids 130 = .ok (.ifCond .eq 17, 3) := by decide +kernel
theorem dX6_voids_133 : decode cX6_voids 133 = .ok (.aload_n 0, 1) := by decide +kernel
theorem dX6_voids_134 : decode cX6_voids 134 = .ok (.getfield 50, 3) := by decide +kernel
theorem dX6_voids_137 : decode cX6_voids 137 = .ok (.iload_n 3, 1) := by decide +kernel
theorem dX6_voids_138 : decode cX6_voids 138 = .ok (.iaload, 1) := by decide +kernel
theorem dX6_voids_139 : decode cX6_voids 139 = .ok (.iconst 1, 1) := by decide +kernel
theorem dX6_voids_140 : decode cX6_voids 140 = .ok (.if_icmp .eq 7, 3) := by decide +kernel
theorem dX6_voids_143 : decode cX6_voids 143 = .ok (.iconst 1, 1) := by decide +kernel
theorem dX6_voids_144 : decode cX6_voids 144 = .ok (.goto 4, 3) := by decide +kernel
theorem dX6_voids_147 : decode cX6_voids 147 = .ok (.iconst 0, 1) := by decide +kernel
theorem dX6_voids_148 : decode cX6_voids 148 = .ok (.iadd, 1) := by decide +kernel
theorem dX6_voids_149 : decode cX6_voids 149 = .ok (.istore_n 2, 1) := by decide +kernel
theorem dX6_voids_150 : decode cX6_voids 150 = .ok (.iinc 3 1, 3) := by decide +kernel
theorem dX6_voids_153 : decode cX6_voids 153 = .ok (.goto (-149), 3) := by decide +kernel
theorem dX6_voids_156 : decode cX6_voids 156 = .ok (.iconst 0, 1) := by decide +kernel
theorem dX6_voids_157 : decode cX6_voids 157 = .ok (.istore_n 3, 1) := by decide +kernel
theorem dX6_voids_158 : decode cX6_voids 158 = .ok (.iload_n 3, 1) := by decide +kernel
theorem dX6_voids_159 : decode cX6_voids 159 = .ok (.aload_n 0, 1) := by decide +kernel
theorem dX6_voids_160 : decode cX6_voids 160 = .ok (.getfield 81, 3) := by decide +kernel
theorem dX6_voids_163 : decode cX6_voids 163 = .ok (.if_icmp .ge 36, 3) := by decide +kernel
theorem dX6_voids_166 : decode cX6_voids 166 = .ok (.aload_n 0, 1) := by decide +kernel
theorem dX6_voids_167 : decode cX6_voids 167 = .ok (.getfield 29, 3) := by decide +kernel
theorem dX6_voids_170 : decode cX6_voids 170 = .ok (.iload_n 3, 1) := by decide +kernel
theorem dX6_voids_171 : decode cX6_voids 171 = .ok (.aload_n 0, 1) := by decide +kernel
theorem dX6_voids_172 : decode cX6_voids 172 = .ok (.iload_n 3, 1) := by decide +kernel
theorem dX6_voids_173 : decode cX6_voids 173 = .ok (.invokevirtual 118, 3) := by decide +kernel
theorem dX6_voids_176 : decode cX6_voids 176 = .ok (.ifCond .eq 10, 3) := by decide +kernel
theorem dX6_voids_179 : decode cX6_voids 179 = .ok (.aload_n 0, 1) := by decide +kernel
theorem dX6_voids_180 : decode cX6_voids 180 = .ok (.getfield 109, 3) := by decide +kernel
theorem dX6_voids_183 : decode cX6_voids 183 = .ok (.goto 9, 3) := by decide +kernel
theorem dX6_voids_186 : decode cX6_voids 186 = .ok (.aload_n 0, 1) := by decide +kernel
theorem dX6_voids_187 : decode cX6_voids 187 = .ok (.getfield 29, 3) := by decide +kernel
theorem dX6_voids_190 : decode cX6_voids 190 = .ok (.iload_n 3, 1) := by decide +kernel
theorem dX6_voids_191 : decode cX6_voids 191 = .ok (.iaload, 1) := by decide +kernel
theorem dX6_voids_192 : decode cX6_voids 192 = .ok (.iastore, 1) := by decide +kernel
theorem dX6_voids_193 : decode cX6_voids 193 = .ok (.iinc 3 1, 3) := by decide +kernel
theorem dX6_voids_196 : decode cX6_voids 196 = .ok (.goto (-38), 3) := by decide +kernel
theorem dX6_voids_199 : decode cX6_voids 199 = .ok (.iload_n 2, 1) := by decide +kernel
theorem dX6_voids_200 : decode cX6_voids 200 = .ok (.ireturn, 1) := by decide +kernel
theorem dX6_leave_0 : decode cX6_leave 0 = .ok (.aload_n 0, 1) := by decide +kernel
theorem dX6_leave_1 : decode cX6_leave 1 = .ok (.iconst 0, 1) := by decide +kernel
theorem dX6_leave_2 : decode cX6_leave 2 = .ok (.putfield 74, 3) := by decide +kernel
theorem dX6_leave_5 : decode cX6_leave 5 = .ok (.iload_n 1, 1) := by decide +kernel
theorem dX6_leave_6 : decode cX6_leave 6 = .ok (.invokestatic 121, 3) := by decide +kernel
theorem dX6_leave_9 : decode cX6_leave 9 = .ok (.ifCond .ne 9, 3) := by decide +kernel
theorem dX6_leave_12 : decode cX6_leave 12 = .ok (.aload_n 0, 1) := by decide +kernel
theorem dX6_leave_13 : decode cX6_leave 13 = .ok (.iconst 1, 1) := by decide +kernel
theorem dX6_leave_14 : decode cX6_leave 14 = .ok (.invokevirtual 112, 3) := by decide +kernel
theorem dX6_leave_17 : decode cX6_leave 17 = .ok (.ireturn, 1) := by decide +kernel
theorem dX6_leave_18 : decode cX6_leave 18 = .ok (.aload_n 0, 1) := by decide +kernel
theorem dX6_leave_19 : decode cX6_leave 19 = .ok (.getfield 13, 3) := by decide +kernel
theorem dX6_leave_22 : decode cX6_leave 22 = .ok (.iload_n 1, 1) := by decide +kernel
theorem dX6_leave_23 : decode cX6_leave 23 = .ok (.iaload, 1) := by decide +kernel
theorem dX6_leave_24 : decode cX6_leave 24 = .ok (.ifCond .le 9, 3) := by decide +kernel
theorem dX6_leave_27 : decode cX6_leave 27 = .ok (.aload_n 0, 1) := by decide +kernel
theorem dX6_leave_28 : decode cX6_leave 28 = .ok (.iconst 2, 1) := by decide +kernel
theorem dX6_leave_29 : decode cX6_leave 29 = .ok (.invokevirtual 112, 3) := by decide +kernel
theorem dX6_leave_32 : decode cX6_leave 32 = .ok (.ireturn, 1) := by decide +kernel
theorem dX6_leave_33 : decode cX6_leave 33 = .ok (.aload_n 0, 1) := by decide +kernel
theorem dX6_leave_34 : decode cX6_leave 34 = .ok (.getfield 13, 3) := by decide +kernel
theorem dX6_leave_37 : decode cX6_leave 37 = .ok (.iload_n 1, 1) := by decide +kernel
theorem dX6_leave_38 : decode cX6_leave 38 = .ok (.iload_n 2, 1) := by decide +kernel
theorem dX6_leave_39 : decode cX6_leave 39 = .ok (.ifCond .eq 7, 3) := by decide +kernel
theorem dX6_leave_42 : decode cX6_leave 42 = .ok (.iconst 2, 1) := by decide +kernel
theorem dX6_leave_43 : decode cX6_leave 43 = .ok (.goto 4, 3) := by decide +kernel
theorem dX6_leave_46 : decode cX6_leave 46 = .ok (.iconst 1, 1) := by decide +kernel
theorem dX6_leave_47 : decode cX6_leave 47 = .ok (.iastore, 1) := by decide +kernel
theorem dX6_leave_48 : decode cX6_leave 48 = .ok (.iload_n 2, 1) := by decide +kernel
theorem dX6_leave_49 : decode cX6_leave 49 = .ok (.ifCond .eq 11, 3) := by decide +kernel
theorem dX6_leave_52 : decode cX6_leave 52 = .ok (.aload_n 0, 1) := by decide +kernel
theorem dX6_leave_53 : decode cX6_leave 53 = .ok (.iload_n 1, 1) := by decide +kernel
theorem dX6_leave_54 : decode cX6_leave 54 = .ok (.invokevirtual 124, 3) := by decide +kernel
theorem dX6_leave_57 : decode cX6_leave 57 = .ok (.goto 4, 3) := by decide +kernel
theorem dX6_leave_60 : decode cX6_leave 60 = .ok (.iconst 0, 1) := by decide +kernel
theorem dX6_leave_61 : decode cX6_leave 61 = .ok (.ireturn, 1) := by decide +kernel
theorem dX6_comeBack_0 : decode cX6_comeBack 0 = .ok (.aload_n 0, 1) := by decide +kernel
theorem dX6_comeBack_1 : decode cX6_comeBack 1 = .ok (.iload_n 1, 1) := by decide +kernel
theorem dX6_comeBack_2 : decode cX6_comeBack 2 = .ok (.invokestatic 121, 3) := by decide +kernel
theorem dX6_comeBack_5 : decode cX6_comeBack 5 = .ok (.ifCond .ne 7, 3) := by decide +kernel
theorem dX6_comeBack_8 : decode cX6_comeBack 8 = .ok (.iconst 1, 1) := by decide +kernel
theorem dX6_comeBack_9 : decode cX6_comeBack 9 = .ok (.goto 18, 3) := by decide +kernel
theorem dX6_comeBack_12 : decode cX6_comeBack 12 = .ok (.aload_n 0, 1) := by decide +kernel
theorem dX6_comeBack_13 : decode cX6_comeBack 13 = .ok (.getfield 13, 3) := by decide +kernel
theorem dX6_comeBack_16 : decode cX6_comeBack 16 = .ok (.iload_n 1, 1) := by decide +kernel
theorem dX6_comeBack_17 : decode cX6_comeBack 17 = .ok (.iaload, 1) := by decide +kernel
theorem dX6_comeBack_18 : decode cX6_comeBack 18 = .ok (.iconst 1, 1) := by decide +kernel
theorem dX6_comeBack_19 : decode cX6_comeBack 19 = .ok (.if_icmp .eq 7, 3) := by decide +kernel
theorem dX6_comeBack_22 : decode cX6_comeBack 22 = .ok (.iconst 2, 1) := by decide +kernel
theorem dX6_comeBack_23 : decode cX6_comeBack 23 = .ok (.goto 4, 3) := by decide +kernel
theorem dX6_comeBack_26 : decode cX6_comeBack 26 = .ok (.iconst 0, 1) := by decide +kernel
theorem dX6_comeBack_27 : decode cX6_comeBack 27 = .ok (.putfield 74, 3) := by decide +kernel
theorem dX6_comeBack_30 : decode cX6_comeBack 30 = .ok (.aload_n 0, 1) := by decide +kernel
theorem dX6_comeBack_31 : decode cX6_comeBack 31 = .ok (.getfield 74, 3) := by decide +kernel
theorem dX6_comeBack_34 : decode cX6_comeBack 34 = .ok (.ifCond .ne 10, 3) := by decide +kernel
theorem dX6_comeBack_37 : decode cX6_comeBack 37 = .ok (.aload_n 0, 1) := by decide +kernel
theorem dX6_comeBack_38 : decode cX6_comeBack 38 = .ok (.getfield 13, 3) := by decide +kernel
theorem dX6_comeBack_41 : decode cX6_comeBack 41 = .ok (.iload_n 1, 1) := by decide +kernel
theorem dX6_comeBack_42 : decode cX6_comeBack 42 = .ok (.iconst 0, 1) := by decide +kernel
theorem dX6_comeBack_43 : decode cX6_comeBack 43 = .ok (.iastore, 1) := by decide +kernel
theorem dX6_comeBack_44 : decode cX6_comeBack 44 = .ok (.return_, 1) := by decide +kernel
theorem dX6_goesBack_0 : decode cX6_goesBack 0 = .ok (.iconst 1, 1) := by decide +kernel
theorem dX6_goesBack_1 : decode cX6_goesBack 1 = .ok (.istore_n 2, 1) := by decide +kernel
theorem dX6_goesBack_2 : decode cX6_goesBack 2 = .ok (.iconst 0, 1) := by decide +kernel
theorem dX6_goesBack_3 : decode cX6_goesBack 3 = .ok (.istore_n 3, 1) := by decide +kernel
theorem dX6_goesBack_4 : decode cX6_goesBack 4 = .ok (.iload_n 2, 1) := by decide +kernel
theorem dX6_goesBack_5 : decode cX6_goesBack 5 = .ok (.ifCond .eq 90, 3) := by decide +kernel
theorem dX6_goesBack_8 : decode cX6_goesBack 8 = .ok (.aload_n 0, 1) := by decide +kernel
theorem dX6_goesBack_9 : decode cX6_goesBack 9 = .ok (.iload_n 1, 1) := by decide +kernel
theorem dX6_goesBack_10 : decode cX6_goesBack 10 = .ok (.iload_n 3, 1) := by decide +kernel
theorem dX6_goesBack_11 : decode cX6_goesBack 11 = .ok (.invokevirtual 99, 3) := by decide +kernel
theorem dX6_goesBack_14 : decode cX6_goesBack 14 = .ok (.istore 4, 2) := by decide +kernel
theorem dX6_goesBack_16 : decode cX6_goesBack 16 = .ok (.iconst 0, 1) := by decide +kernel
theorem dX6_goesBack_17 : decode cX6_goesBack 17 = .ok (.istore 5, 2) := by decide +kernel
theorem dX6_goesBack_19 : decode cX6_goesBack 19 = .ok (.iload 5, 2) := by decide +kernel
theorem dX6_goesBack_21 : decode cX6_goesBack 21 = .ok (.bipush 6, 2) := by decide +kernel
theorem dX6_goesBack_23 : decode cX6_goesBack 23 = .ok (.if_icmp .ge 66, 3) := by decide +kernel
theorem dX6_goesBack_26 : decode cX6_goesBack 26 = .ok (.aload_n 0, 1) := by decide +kernel
theorem dX6_goesBack_27 : decode cX6_goesBack 27 = .ok (.iload_n 1, 1) := by decide +kernel
theorem dX6_goesBack_28 : decode cX6_goesBack 28 = .ok (.iload 4, 2) := by decide +kernel
theorem dX6_goesBack_30 : decode cX6_goesBack 30 = .ok (.invokevirtual 102, 3) := by decide +kernel
theorem dX6_goesBack_33 : decode cX6_goesBack 33 = .ok (.iload 5, 2) := by decide +kernel
theorem dX6_goesBack_35 : decode cX6_goesBack 35 = .ok (.iadd, 1) := by decide +kernel
theorem dX6_goesBack_36 : decode cX6_goesBack 36 = .ok (.istore 6, 2) := by decide +kernel
theorem dX6_goesBack_38 : decode cX6_goesBack 38 = .ok (.aload_n 0, 1) := by decide +kernel
theorem dX6_goesBack_39 : decode cX6_goesBack 39 = .ok (.getfield 32, 3) := by decide +kernel
theorem dX6_goesBack_42 : decode cX6_goesBack 42 = .ok (.iload 6, 2) := by decide +kernel
theorem dX6_goesBack_44 : decode cX6_goesBack 44 = .ok (.iaload, 1) := by decide +kernel
theorem dX6_goesBack_45 : decode cX6_goesBack 45 = .ok (.iconst (-1), 1) := by decide +kernel
theorem dX6_goesBack_46 : decode cX6_goesBack 46 = .ok (.if_icmp .eq 37, 3) := by decide +kernel
theorem dX6_goesBack_49 : decode cX6_goesBack 49 = .ok (.aload_n 0, 1) := by decide +kernel
theorem dX6_goesBack_50 : decode cX6_goesBack 50 = .ok (.getfield 50, 3) := by decide +kernel
theorem dX6_goesBack_53 : decode cX6_goesBack 53 = .ok (.aload_n 0, 1) := by decide +kernel
theorem dX6_goesBack_54 : decode cX6_goesBack 54 = .ok (.getfield 32, 3) := by decide +kernel
theorem dX6_goesBack_57 : decode cX6_goesBack 57 = .ok (.iload 6, 2) := by decide +kernel
theorem dX6_goesBack_59 : decode cX6_goesBack 59 = .ok (.iaload, 1) := by decide +kernel
theorem dX6_goesBack_60 : decode cX6_goesBack 60 = .ok (.iaload, 1) := by decide +kernel
theorem dX6_goesBack_61 : decode cX6_goesBack 61 = .ok (.iconst 1, 1) := by decide +kernel
theorem dX6_goesBack_62 : decode cX6_goesBack 62 = .ok (.if_icmp .eq 21, 3) := by decide +kernel
theorem dX6_goesBack_65 : decode cX6_goesBack 65 = .ok (.aload_n 0, 1) := by decide +kernel
theorem dX6_goesBack_66 : decode cX6_goesBack 66 = .ok (.getfield 32, 3) := by decide +kernel
theorem dX6_goesBack_69 : decode cX6_goesBack 69 = .ok (.iload 6, 2) := by decide +kernel
theorem dX6_goesBack_71 : decode cX6_goesBack 71 = .ok (.aload_n 0, 1) := by decide +kernel
theorem dX6_goesBack_72 : decode cX6_goesBack 72 = .ok (.iload_n 1, 1) := by decide +kernel
theorem dX6_goesBack_73 : decode cX6_goesBack 73 = .ok (.iload 4, 2) := by decide +kernel
theorem dX6_goesBack_75 : decode cX6_goesBack 75 = .ok (.iload 5, 2) := by decide +kernel
theorem dX6_goesBack_77 : decode cX6_goesBack 77 = .ok (.invokevirtual 105, 3) := by decide +kernel
theorem dX6_goesBack_80 : decode cX6_goesBack 80 = .ok (.iastore, 1) := by decide +kernel
theorem dX6_goesBack_81 : decode cX6_goesBack 81 = .ok (.iconst 0, 1) := by decide +kernel
theorem dX6_goesBack_82 : decode cX6_goesBack 82 = .ok (.istore_n 2, 1) := by decide +kernel
theorem dX6_goesBack_83 : decode cX6_goesBack 83 = .ok (.iinc 5 1, 3) := by decide +kernel
theorem dX6_goesBack_86 : decode cX6_goesBack 86 = .ok (.goto (-67), 3) := by decide +kernel
theorem dX6_goesBack_89 : decode cX6_goesBack 89 = .ok (.iinc 3 1, 3) := by decide +kernel
theorem dX6_goesBack_92 : decode cX6_goesBack 92 = .ok (.goto (-88), 3) := by decide +kernel
theorem dX6_goesBack_95 : decode cX6_goesBack 95 = .ok (.return_, 1) := by decide +kernel
theorem dX6_lags_0 : decode cX6_lags 0 = .ok (.aload_n 0, 1) := by decide +kernel
theorem dX6_lags_1 : decode cX6_lags 1 = .ok (.iload_n 1, 1) := by decide +kernel
theorem dX6_lags_2 : decode cX6_lags 2 = .ok (.iload_n 2, 1) := by decide +kernel
theorem dX6_lags_3 : decode cX6_lags 3 = .ok (.invokevirtual 99, 3) := by decide +kernel
theorem dX6_lags_6 : decode cX6_lags 6 = .ok (.istore_n 3, 1) := by decide +kernel
theorem dX6_lags_7 : decode cX6_lags 7 = .ok (.iconst 0, 1) := by decide +kernel
theorem dX6_lags_8 : decode cX6_lags 8 = .ok (.istore 4, 2) := by decide +kernel
theorem dX6_lags_10 : decode cX6_lags 10 = .ok (.iconst 0, 1) := by decide +kernel
theorem dX6_lags_11 : decode cX6_lags 11 = .ok (.istore 5, 2) := by decide +kernel
theorem dX6_lags_13 : decode cX6_lags 13 = .ok (.iload 5, 2) := by decide +kernel
theorem dX6_lags_15 : decode cX6_lags 15 = .ok (.bipush 6, 2) := by decide +kernel
theorem dX6_lags_17 : decode cX6_lags 17 = .ok (.if_icmp .ge 46, 3) := by decide +kernel
theorem dX6_lags_20 : decode cX6_lags 20 = .ok (.iload 4, 2) := by decide +kernel
theorem dX6_lags_22 : decode cX6_lags 22 = .ok (.ifCond .ne 28, 3) := by decide +kernel
theorem dX6_lags_25 : decode cX6_lags 25 = .ok (.aload_n 0, 1) := by decide +kernel
theorem dX6_lags_26 : decode cX6_lags 26 = .ok (.getfield 32, 3) := by decide +kernel
theorem dX6_lags_29 : decode cX6_lags 29 = .ok (.aload_n 0, 1) := by decide +kernel
theorem dX6_lags_30 : decode cX6_lags 30 = .ok (.iload_n 1, 1) := by decide +kernel
theorem dX6_lags_31 : decode cX6_lags 31 = .ok (.iload_n 3, 1) := by decide +kernel
theorem dX6_lags_32 : decode cX6_lags 32 = .ok (.invokevirtual 102, 3) := by decide +kernel
theorem dX6_lags_35 : decode cX6_lags 35 = .ok (.iload 5, 2) := by decide +kernel
theorem dX6_lags_37 : decode cX6_lags 37 = .ok (.iadd, 1) := by decide +kernel
theorem dX6_lags_38 : decode cX6_lags 38 = .ok (.iaload, 1) := by decide +kernel
theorem dX6_lags_39 : decode cX6_lags 39 = .ok (.aload_n 0, 1) := by decide +kernel
theorem dX6_lags_40 : decode cX6_lags 40 = .ok (.iload_n 1, 1) := by decide +kernel
theorem dX6_lags_41 : decode cX6_lags 41 = .ok (.iload_n 3, 1) := by decide +kernel
theorem dX6_lags_42 : decode cX6_lags 42 = .ok (.iload 5, 2) := by decide +kernel
theorem dX6_lags_44 : decode cX6_lags 44 = .ok (.invokevirtual 105, 3) := by decide +kernel
theorem dX6_lags_47 : decode cX6_lags 47 = .ok (.if_icmp .eq 7, 3) := by decide +kernel
theorem dX6_lags_50 : decode cX6_lags 50 = .ok (.iconst 1, 1) := by decide +kernel
theorem dX6_lags_51 : decode cX6_lags 51 = .ok (.goto 4, 3) := by decide +kernel
theorem dX6_lags_54 : decode cX6_lags 54 = .ok (.iconst 0, 1) := by decide +kernel
theorem dX6_lags_55 : decode cX6_lags 55 = .ok (.istore 4, 2) := by decide +kernel
theorem dX6_lags_57 : decode cX6_lags 57 = .ok (.iinc 5 1, 3) := by decide +kernel
theorem dX6_lags_60 : decode cX6_lags 60 = .ok (.goto (-47), 3) := by decide +kernel
theorem dX6_lags_63 : decode cX6_lags 63 = .ok (.iload 4, 2) := by decide +kernel
theorem dX6_lags_65 : decode cX6_lags 65 = .ok (.ireturn, 1) := by decide +kernel
theorem dX6_takes_0 : decode cX6_takes 0 = .ok (.aload_n 0, 1) := by decide +kernel
theorem dX6_takes_1 : decode cX6_takes 1 = .ok (.iload_n 1, 1) := by decide +kernel
theorem dX6_takes_2 : decode cX6_takes 2 = .ok (.invokevirtual 95, 3) := by decide +kernel
theorem dX6_takes_5 : decode cX6_takes 5 = .ok (.iconst 1, 1) := by decide +kernel
theorem dX6_takes_6 : decode cX6_takes 6 = .ok (.isub, 1) := by decide +kernel
theorem dX6_takes_7 : decode cX6_takes 7 = .ok (.istore_n 2, 1) := by decide +kernel
theorem dX6_takes_8 : decode cX6_takes 8 = .ok (.iload_n 2, 1) := by decide +kernel
theorem dX6_takes_9 : decode cX6_takes 9 = .ok (.ifCond .lt 18, 3) := by decide +kernel
theorem dX6_takes_12 : decode cX6_takes 12 = .ok (.aload_n 0, 1) := by decide +kernel
theorem dX6_takes_13 : decode cX6_takes 13 = .ok (.iload_n 1, 1) := by decide +kernel
theorem dX6_takes_14 : decode cX6_takes 14 = .ok (.iload_n 2, 1) := by decide +kernel
theorem dX6_takes_15 : decode cX6_takes 15 = .ok (.invokevirtual 127, 3) := by decide +kernel
theorem dX6_takes_18 : decode cX6_takes 18 = .ok (.ifCond .ne 9, 3) := by decide +kernel
theorem dX6_takes_21 : decode cX6_takes 21 = .ok (.iinc 2 (-1), 3) := by decide +kernel
theorem dX6_takes_24 : decode cX6_takes 24 = .ok (.goto (-16), 3) := by decide +kernel
theorem dX6_takes_27 : decode cX6_takes 27 = .ok (.iconst 0, 1) := by decide +kernel
theorem dX6_takes_28 : decode cX6_takes 28 = .ok (.istore_n 3, 1) := by decide +kernel
theorem dX6_takes_29 : decode cX6_takes 29 = .ok (.iload_n 3, 1) := by decide +kernel
theorem dX6_takes_30 : decode cX6_takes 30 = .ok (.bipush 6, 2) := by decide +kernel
theorem dX6_takes_32 : decode cX6_takes 32 = .ok (.if_icmp .ge 43, 3) := by decide +kernel
theorem dX6_takes_35 : decode cX6_takes 35 = .ok (.iload_n 2, 1) := by decide +kernel
theorem dX6_takes_36 : decode cX6_takes 36 = .ok (.ifCond .lt 39, 3) := by decide +kernel
theorem dX6_takes_39 : decode cX6_takes 39 = .ok (.aload_n 0, 1) := by decide +kernel
theorem dX6_takes_40 : decode cX6_takes 40 = .ok (.iload_n 1, 1) := by decide +kernel
theorem dX6_takes_41 : decode cX6_takes 41 = .ok (.iload_n 2, 1) := by decide +kernel
theorem dX6_takes_42 : decode cX6_takes 42 = .ok (.invokevirtual 99, 3) := by decide +kernel
theorem dX6_takes_45 : decode cX6_takes 45 = .ok (.istore 4, 2) := by decide +kernel
theorem dX6_takes_47 : decode cX6_takes 47 = .ok (.aload_n 0, 1) := by decide +kernel
theorem dX6_takes_48 : decode cX6_takes 48 = .ok (.getfield 32, 3) := by decide +kernel
theorem dX6_takes_51 : decode cX6_takes 51 = .ok (.aload_n 0, 1) := by decide +kernel
theorem dX6_takes_52 : decode cX6_takes 52 = .ok (.iload_n 1, 1) := by decide +kernel
theorem dX6_takes_53 : decode cX6_takes 53 = .ok (.iload 4, 2) := by decide +kernel
theorem dX6_takes_55 : decode cX6_takes 55 = .ok (.invokevirtual 102, 3) := by decide +kernel
theorem dX6_takes_58 : decode cX6_takes 58 = .ok (.iload_n 3, 1) := by decide +kernel
theorem dX6_takes_59 : decode cX6_takes 59 = .ok (.iadd, 1) := by decide +kernel
theorem dX6_takes_60 : decode cX6_takes 60 = .ok (.aload_n 0, 1) := by decide +kernel
theorem dX6_takes_61 : decode cX6_takes 61 = .ok (.iload_n 1, 1) := by decide +kernel
theorem dX6_takes_62 : decode cX6_takes 62 = .ok (.iload 4, 2) := by decide +kernel
theorem dX6_takes_64 : decode cX6_takes 64 = .ok (.iload_n 3, 1) := by decide +kernel
theorem dX6_takes_65 : decode cX6_takes 65 = .ok (.invokevirtual 105, 3) := by decide +kernel
theorem dX6_takes_68 : decode cX6_takes 68 = .ok (.iastore, 1) := by decide +kernel
theorem dX6_takes_69 : decode cX6_takes 69 = .ok (.iinc 3 1, 3) := by decide +kernel
theorem dX6_takes_72 : decode cX6_takes 72 = .ok (.goto (-43), 3) := by decide +kernel
theorem dX6_takes_75 : decode cX6_takes 75 = .ok (.iload_n 2, 1) := by decide +kernel
theorem dX6_takes_76 : decode cX6_takes 76 = .ok (.ifCond .lt 7, 3) := by decide +kernel
theorem dX6_takes_79 : decode cX6_takes 79 = .ok (.iconst 1, 1) := by decide +kernel
theorem dX6_takes_80 : decode cX6_takes 80 = .ok (.goto 4, 3) := by decide +kernel
theorem dX6_takes_83 : decode cX6_takes 83 = .ok (.iconst 0, 1) := by decide +kernel
theorem dX6_takes_84 : decode cX6_takes 84 = .ok (.ireturn, 1) := by decide +kernel
theorem dX6_passes_0 : decode cX6_passes 0 = .ok (.aload_n 0, 1) := by decide +kernel
theorem dX6_passes_1 : decode cX6_passes 1 = .ok (.dup, 1) := by decide +kernel
theorem dX6_passes_2 : decode cX6_passes 2 = .ok (.getfield 109, 3) := by decide +kernel
theorem dX6_passes_5 : decode cX6_passes 5 = .ok (.iconst 1, 1) := by decide +kernel
theorem dX6_passes_6 : decode cX6_passes 6 = .ok (.iadd, 1) := by decide +kernel
theorem dX6_passes_7 : decode cX6_passes 7 = .ok (.putfield 109, 3) := by decide +kernel
theorem dX6_passes_10 : decode cX6_passes 10 = .ok (.aload_n 0, 1) := by decide +kernel
theorem dX6_passes_11 : decode cX6_passes 11 = .ok (.getfield 23, 3) := by decide +kernel
theorem dX6_passes_14 : decode cX6_passes 14 = .ok (.istore_n 1, 1) := by decide +kernel
theorem dX6_passes_15 : decode cX6_passes 15 = .ok (.iconst 0, 1) := by decide +kernel
theorem dX6_passes_16 : decode cX6_passes 16 = .ok (.istore_n 2, 1) := by decide +kernel
theorem dX6_passes_17 : decode cX6_passes 17 = .ok (.iconst 0, 1) := by decide +kernel
theorem dX6_passes_18 : decode cX6_passes 18 = .ok (.istore_n 3, 1) := by decide +kernel
theorem dX6_passes_19 : decode cX6_passes 19 = .ok (.iload_n 3, 1) := by decide +kernel
theorem dX6_passes_20 : decode cX6_passes 20 = .ok (.aload_n 0, 1) := by decide +kernel
theorem dX6_passes_21 : decode cX6_passes 21 = .ok (.getfield 81, 3) := by decide +kernel
theorem dX6_passes_24 : decode cX6_passes 24 = .ok (.if_icmp .ge 54, 3) := by decide +kernel
theorem dX6_passes_27 : decode cX6_passes 27 = .ok (.aload_n 0, 1) := by decide +kernel
theorem dX6_passes_28 : decode cX6_passes 28 = .ok (.iload_n 3, 1) := by decide +kernel
theorem dX6_passes_29 : decode cX6_passes 29 = .ok (.invokevirtual 118, 3) := by decide +kernel
theorem dX6_passes_32 : decode cX6_passes 32 = .ok (.ifCond .eq 14, 3) := by decide +kernel
theorem dX6_passes_35 : decode cX6_passes 35 = .ok (.aload_n 0, 1) := by decide +kernel
theorem dX6_passes_36 : decode cX6_passes 36 = .ok (.iload_n 3, 1) := by decide +kernel
theorem dX6_passes_37 : decode cX6_passes 37 = .ok (.invokevirtual 131, 3) := by decide +kernel
theorem dX6_passes_40 : decode cX6_passes 40 = .ok (.iinc 2 1, 3) := by decide +kernel
theorem dX6_passes_43 : decode cX6_passes 43 = .ok (.goto 29, 3) := by decide +kernel
theorem dX6_passes_46 : decode cX6_passes 46 = .ok (.aload_n 0, 1) := by decide +kernel
theorem dX6_passes_47 : decode cX6_passes 47 = .ok (.iload_n 3, 1) := by decide +kernel
theorem dX6_passes_48 : decode cX6_passes 48 = .ok (.invokevirtual 135, 3) := by decide +kernel
theorem dX6_passes_51 : decode cX6_passes 51 = .ok (.ifCond .ne 21, 3) := by decide +kernel
theorem dX6_passes_54 : decode cX6_passes 54 = .ok (.iload_n 1, 1) := by decide +kernel
theorem dX6_passes_55 : decode cX6_passes 55 = .ok (.ifCond .le 17, 3) := by decide +kernel
theorem dX6_passes_58 : decode cX6_passes 58 = .ok (.aload_n 0, 1) := by decide +kernel
theorem dX6_passes_59 : decode cX6_passes 59 = .ok (.iload_n 3, 1) := by decide +kernel
theorem dX6_passes_60 : decode cX6_passes 60 = .ok (.invokevirtual 138, 3) := by decide +kernel
theorem dX6_passes_63 : decode cX6_passes 63 = .ok (.ifCond .eq 9, 3) := by decide +kernel
theorem dX6_passes_66 : decode cX6_passes 66 = .ok (.iinc 1 (-1), 3) := by decide +kernel
theorem dX6_passes_69 : decode cX6_passes 69 = .ok (.iinc 2 1, 3) := by decide +kernel
theorem dX6_passes_72 : decode cX6_passes 72 = .ok (.iinc 3 1, 3) := by decide +kernel
theorem dX6_passes_75 : decode cX6_passes 75 = .ok (.goto (-56), 3) := by decide +kernel
theorem dX6_passes_78 : decode cX6_passes 78 = .ok (.iload_n 2, 1) := by decide +kernel
theorem dX6_passes_79 : decode cX6_passes 79 = .ok (.ireturn, 1) := by decide +kernel
theorem dX6_pass_0 : decode cX6_pass 0 = .ok (.aload_n 0, 1) := by decide +kernel
theorem dX6_pass_1 : decode cX6_pass 1 = .ok (.iconst 0, 1) := by decide +kernel
theorem dX6_pass_2 : decode cX6_pass 2 = .ok (.putfield 74, 3) := by decide +kernel
theorem dX6_pass_5 : decode cX6_pass 5 = .ok (.iload_n 1, 1) := by decide +kernel
theorem dX6_pass_6 : decode cX6_pass 6 = .ok (.iconst 1, 1) := by decide +kernel
theorem dX6_pass_7 : decode cX6_pass 7 = .ok (.bipush 60, 2) := by decide +kernel
theorem dX6_pass_9 : decode cX6_pass 9 = .ok (.invokestatic 77, 3) := by decide +kernel
theorem dX6_pass_12 : decode cX6_pass 12 = .ok (.ifCond .ne 9, 3) := by decide +kernel
theorem dX6_pass_15 : decode cX6_pass 15 = .ok (.aload_n 0, 1) := by decide +kernel
theorem dX6_pass_16 : decode cX6_pass 16 = .ok (.iconst 1, 1) := by decide +kernel
theorem dX6_pass_17 : decode cX6_pass 17 = .ok (.invokevirtual 112, 3) := by decide +kernel
theorem dX6_pass_20 : decode cX6_pass 20 = .ok (.ireturn, 1) := by decide +kernel
theorem dX6_pass_21 : decode cX6_pass 21 = .ok (.iconst 0, 1) := by decide +kernel
theorem dX6_pass_22 : decode cX6_pass 22 = .ok (.istore_n 2, 1) := by decide +kernel
theorem dX6_pass_23 : decode cX6_pass 23 = .ok (.iconst 0, 1) := by decide +kernel
theorem dX6_pass_24 : decode cX6_pass 24 = .ok (.istore_n 3, 1) := by decide +kernel
theorem dX6_pass_25 : decode cX6_pass 25 = .ok (.iload_n 3, 1) := by decide +kernel
theorem dX6_pass_26 : decode cX6_pass 26 = .ok (.iload_n 1, 1) := by decide +kernel
theorem dX6_pass_27 : decode cX6_pass 27 = .ok (.if_icmp .ge 16, 3) := by decide +kernel
theorem dX6_pass_30 : decode cX6_pass 30 = .ok (.iload_n 2, 1) := by decide +kernel
theorem dX6_pass_31 : decode cX6_pass 31 = .ok (.aload_n 0, 1) := by decide +kernel
theorem dX6_pass_32 : decode cX6_pass 32 = .ok (.invokevirtual 141, 3) := by decide +kernel
theorem dX6_pass_35 : decode cX6_pass 35 = .ok (.iadd, 1) := by decide +kernel
theorem dX6_pass_36 : decode cX6_pass 36 = .ok (.istore_n 2, 1) := by decide +kernel
theorem dX6_pass_37 : decode cX6_pass 37 = .ok (.iinc 3 1, 3) := by decide +kernel
theorem dX6_pass_40 : decode cX6_pass 40 = .ok (.goto (-15), 3) := by decide +kernel
theorem dX6_pass_43 : decode cX6_pass 43 = .ok (.iload_n 2, 1) := by decide +kernel
theorem dX6_pass_44 : decode cX6_pass 44 = .ok (.ireturn, 1) := by decide +kernel
theorem dX6_day_0 : decode cX6_day 0 = .ok (.aload_n 0, 1) := by decide +kernel
theorem dX6_day_1 : decode cX6_day 1 = .ok (.iconst 0, 1) := by decide +kernel
theorem dX6_day_2 : decode cX6_day 2 = .ok (.putfield 74, 3) := by decide +kernel
theorem dX6_day_5 : decode cX6_day 5 = .ok (.aload_n 0, 1) := by decide +kernel
theorem dX6_day_6 : decode cX6_day 6 = .ok (.getfield 109, 3) := by decide +kernel
theorem dX6_day_9 : decode cX6_day 9 = .ok (.ireturn, 1) := by decide +kernel
theorem dX6_addGroup_0 : decode cX6_addGroup 0 = .ok (.aload_n 0, 1) := by decide +kernel
theorem dX6_addGroup_1 : decode cX6_addGroup 1 = .ok (.iconst 0, 1) := by decide +kernel
theorem dX6_addGroup_2 : decode cX6_addGroup 2 = .ok (.putfield 74, 3) := by decide +kernel
theorem dX6_addGroup_5 : decode cX6_addGroup 5 = .ok (.aload_n 0, 1) := by decide +kernel
theorem dX6_addGroup_6 : decode cX6_addGroup 6 = .ok (.iload_n 1, 1) := by decide +kernel
theorem dX6_addGroup_7 : decode cX6_addGroup 7 = .ok (.invokevirtual 87, 3) := by decide +kernel
theorem dX6_addGroup_10 : decode cX6_addGroup 10 = .ok (.ifCond .ne 9, 3) := by decide +kernel
theorem dX6_addGroup_13 : decode cX6_addGroup 13 = .ok (.aload_n 0, 1) := by decide +kernel
theorem dX6_addGroup_14 : decode cX6_addGroup 14 = .ok (.iconst 1, 1) := by decide +kernel
theorem dX6_addGroup_15 : decode cX6_addGroup 15 = .ok (.invokevirtual 112, 3) := by decide +kernel
theorem dX6_addGroup_18 : decode cX6_addGroup 18 = .ok (.ireturn, 1) := by decide +kernel
theorem dX6_addGroup_19 : decode cX6_addGroup 19 = .ok (.aload_n 0, 1) := by decide +kernel
theorem dX6_addGroup_20 : decode cX6_addGroup 20 = .ok (.getfield 16, 3) := by decide +kernel
theorem dX6_addGroup_23 : decode cX6_addGroup 23 = .ok (.bipush 10, 2) := by decide +kernel
theorem dX6_addGroup_25 : decode cX6_addGroup 25 = .ok (.if_icmp .ne 9, 3) := by decide +kernel
theorem dX6_addGroup_28 : decode cX6_addGroup 28 = .ok (.aload_n 0, 1) := by decide +kernel
theorem dX6_addGroup_29 : decode cX6_addGroup 29 = .ok (.iconst 2, 1) := by decide +kernel
theorem dX6_addGroup_30 : decode cX6_addGroup 30 = .ok (.invokevirtual 112, 3) := by decide +kernel
theorem dX6_addGroup_33 : decode cX6_addGroup 33 = .ok (.ireturn, 1) := by decide +kernel
theorem dX6_addGroup_34 : decode cX6_addGroup 34 = .ok (.aload_n 0, 1) := by decide +kernel
theorem dX6_addGroup_35 : decode cX6_addGroup 35 = .ok (.getfield 20, 3) := by decide +kernel
theorem dX6_addGroup_38 : decode cX6_addGroup 38 = .ok (.aload_n 0, 1) := by decide +kernel
theorem dX6_addGroup_39 : decode cX6_addGroup 39 = .ok (.getfield 16, 3) := by decide +kernel
theorem dX6_addGroup_42 : decode cX6_addGroup 42 = .ok (.iload_n 1, 1) := by decide +kernel
theorem dX6_addGroup_43 : decode cX6_addGroup 43 = .ok (.iastore, 1) := by decide +kernel
theorem dX6_addGroup_44 : decode cX6_addGroup 44 = .ok (.aload_n 0, 1) := by decide +kernel
theorem dX6_addGroup_45 : decode cX6_addGroup 45 = .ok (.dup, 1) := by decide +kernel
theorem dX6_addGroup_46 : decode cX6_addGroup 46 = .ok (.getfield 16, 3) := by decide +kernel
theorem dX6_addGroup_49 : decode cX6_addGroup 49 = .ok (.iconst 1, 1) := by decide +kernel
theorem dX6_addGroup_50 : decode cX6_addGroup 50 = .ok (.iadd, 1) := by decide +kernel
theorem dX6_addGroup_51 : decode cX6_addGroup 51 = .ok (.putfield 16, 3) := by decide +kernel
theorem dX6_addGroup_54 : decode cX6_addGroup 54 = .ok (.aload_n 0, 1) := by decide +kernel
theorem dX6_addGroup_55 : decode cX6_addGroup 55 = .ok (.getfield 16, 3) := by decide +kernel
theorem dX6_addGroup_58 : decode cX6_addGroup 58 = .ok (.iconst 1, 1) := by decide +kernel
theorem dX6_addGroup_59 : decode cX6_addGroup 59 = .ok (.isub, 1) := by decide +kernel
theorem dX6_addGroup_60 : decode cX6_addGroup 60 = .ok (.ireturn, 1) := by decide +kernel
theorem dX6_addMachine_0 : decode cX6_addMachine 0 = .ok (.aload_n 0, 1) := by decide +kernel
theorem dX6_addMachine_1 : decode cX6_addMachine 1 = .ok (.iconst 0, 1) := by decide +kernel
theorem dX6_addMachine_2 : decode cX6_addMachine 2 = .ok (.putfield 74, 3) := by decide +kernel
theorem dX6_addMachine_5 : decode cX6_addMachine 5 = .ok (.aload_n 0, 1) := by decide +kernel
theorem dX6_addMachine_6 : decode cX6_addMachine 6 = .ok (.iload_n 1, 1) := by decide +kernel
theorem dX6_addMachine_7 : decode cX6_addMachine 7 = .ok (.invokevirtual 87, 3) := by decide +kernel
theorem dX6_addMachine_10 : decode cX6_addMachine 10 = .ok (.ifCond .ne 9, 3) := by decide +kernel
theorem dX6_addMachine_13 : decode cX6_addMachine 13 = .ok (.aload_n 0, 1) := by decide +kernel
theorem dX6_addMachine_14 : decode cX6_addMachine 14 = .ok (.iconst 1, 1) := by decide +kernel
theorem dX6_addMachine_15 : decode cX6_addMachine 15 = .ok (.invokevirtual 112, 3) := by decide +kernel
theorem dX6_addMachine_18 : decode cX6_addMachine 18 = .ok (.ireturn, 1) := by decide +kernel
theorem dX6_addMachine_19 : decode cX6_addMachine 19 = .ok (.aload_n 0, 1) := by decide +kernel
theorem dX6_addMachine_20 : decode cX6_addMachine 20 = .ok (.getfield 81, 3) := by decide +kernel
theorem dX6_addMachine_23 : decode cX6_addMachine 23 = .ok (.bipush 12, 2) := by decide +kernel
theorem dX6_addMachine_25 : decode cX6_addMachine 25 = .ok (.if_icmp .ne 9, 3) := by decide +kernel
theorem dX6_addMachine_28 : decode cX6_addMachine 28 = .ok (.aload_n 0, 1) := by decide +kernel
theorem dX6_addMachine_29 : decode cX6_addMachine 29 = .ok (.iconst 2, 1) := by decide +kernel
theorem dX6_addMachine_30 : decode cX6_addMachine 30 = .ok (.invokevirtual 112, 3) := by decide +kernel
theorem dX6_addMachine_33 : decode cX6_addMachine 33 = .ok (.ireturn, 1) := by decide +kernel
theorem dX6_addMachine_34 : decode cX6_addMachine 34 = .ok (.aload_n 0, 1) := by decide +kernel
theorem dX6_addMachine_35 : decode cX6_addMachine 35 = .ok (.getfield 26, 3) := by decide +kernel
theorem dX6_addMachine_38 : decode cX6_addMachine 38 = .ok (.aload_n 0, 1) := by decide +kernel
theorem dX6_addMachine_39 : decode cX6_addMachine 39 = .ok (.getfield 81, 3) := by decide +kernel
theorem dX6_addMachine_42 : decode cX6_addMachine 42 = .ok (.iload_n 1, 1) := by decide +kernel
theorem dX6_addMachine_43 : decode cX6_addMachine 43 = .ok (.iastore, 1) := by decide +kernel
theorem dX6_addMachine_44 : decode cX6_addMachine 44 = .ok (.aload_n 0, 1) := by decide +kernel
theorem dX6_addMachine_45 : decode cX6_addMachine 45 = .ok (.dup, 1) := by decide +kernel
theorem dX6_addMachine_46 : decode cX6_addMachine 46 = .ok (.getfield 81, 3) := by decide +kernel
theorem dX6_addMachine_49 : decode cX6_addMachine 49 = .ok (.iconst 1, 1) := by decide +kernel
theorem dX6_addMachine_50 : decode cX6_addMachine 50 = .ok (.iadd, 1) := by decide +kernel
theorem dX6_addMachine_51 : decode cX6_addMachine 51 = .ok (.putfield 81, 3) := by decide +kernel
theorem dX6_addMachine_54 : decode cX6_addMachine 54 = .ok (.aload_n 0, 1) := by decide +kernel
theorem dX6_addMachine_55 : decode cX6_addMachine 55 = .ok (.getfield 81, 3) := by decide +kernel
theorem dX6_addMachine_58 : decode cX6_addMachine 58 = .ok (.iconst 1, 1) := by decide +kernel
theorem dX6_addMachine_59 : decode cX6_addMachine 59 = .ok (.isub, 1) := by decide +kernel
theorem dX6_addMachine_60 : decode cX6_addMachine 60 = .ok (.ireturn, 1) := by decide +kernel
theorem dX6_isOver_0 : decode cX6_isOver 0 = .ok (.iload_n 2, 1) := by decide +kernel
theorem dX6_isOver_1 : decode cX6_isOver 1 = .ok (.istore_n 3, 1) := by decide +kernel
theorem dX6_isOver_2 : decode cX6_isOver 2 = .ok (.iload_n 3, 1) := by decide +kernel
theorem dX6_isOver_3 : decode cX6_isOver 3 = .ok (.iconst (-1), 1) := by decide +kernel
theorem dX6_isOver_4 : decode cX6_isOver 4 = .ok (.if_icmp .eq 18, 3) := by decide +kernel
theorem dX6_isOver_7 : decode cX6_isOver 7 = .ok (.iload_n 3, 1) := by decide +kernel
theorem dX6_isOver_8 : decode cX6_isOver 8 = .ok (.iload_n 1, 1) := by decide +kernel
theorem dX6_isOver_9 : decode cX6_isOver 9 = .ok (.if_icmp .eq 13, 3) := by decide +kernel
theorem dX6_isOver_12 : decode cX6_isOver 12 = .ok (.aload_n 0, 1) := by decide +kernel
theorem dX6_isOver_13 : decode cX6_isOver 13 = .ok (.getfield 20, 3) := by decide +kernel
theorem dX6_isOver_16 : decode cX6_isOver 16 = .ok (.iload_n 3, 1) := by decide +kernel
theorem dX6_isOver_17 : decode cX6_isOver 17 = .ok (.iaload, 1) := by decide +kernel
theorem dX6_isOver_18 : decode cX6_isOver 18 = .ok (.istore_n 3, 1) := by decide +kernel
theorem dX6_isOver_19 : decode cX6_isOver 19 = .ok (.goto (-17), 3) := by decide +kernel
theorem dX6_isOver_22 : decode cX6_isOver 22 = .ok (.iload_n 3, 1) := by decide +kernel
theorem dX6_isOver_23 : decode cX6_isOver 23 = .ok (.iload_n 1, 1) := by decide +kernel
theorem dX6_isOver_24 : decode cX6_isOver 24 = .ok (.if_icmp .ne 7, 3) := by decide +kernel
theorem dX6_isOver_27 : decode cX6_isOver 27 = .ok (.iconst 1, 1) := by decide +kernel
theorem dX6_isOver_28 : decode cX6_isOver 28 = .ok (.goto 4, 3) := by decide +kernel
theorem dX6_isOver_31 : decode cX6_isOver 31 = .ok (.iconst 0, 1) := by decide +kernel
theorem dX6_isOver_32 : decode cX6_isOver 32 = .ok (.ireturn, 1) := by decide +kernel
theorem dX6_moveMachine_0 : decode cX6_moveMachine 0 = .ok (.aload_n 0, 1) := by decide +kernel
theorem dX6_moveMachine_1 : decode cX6_moveMachine 1 = .ok (.iconst 0, 1) := by decide +kernel
theorem dX6_moveMachine_2 : decode cX6_moveMachine 2 = .ok (.putfield 74, 3) := by decide +kernel
theorem dX6_moveMachine_5 : decode cX6_moveMachine 5 = .ok (.aload_n 0, 1) := by decide +kernel
theorem dX6_moveMachine_6 : decode cX6_moveMachine 6 = .ok (.iload_n 1, 1) := by decide +kernel
theorem dX6_moveMachine_7 : decode cX6_moveMachine 7 = .ok (.invokevirtual 145, 3) := by decide +kernel
theorem dX6_moveMachine_10 : decode cX6_moveMachine 10 = .ok (.ifCond .eq 11, 3) := by decide +kernel
theorem dX6_moveMachine_13 : decode cX6_moveMachine 13 = .ok (.aload_n 0, 1) := by decide +kernel
theorem dX6_moveMachine_14 : decode cX6_moveMachine 14 = .ok (.iload_n 2, 1) := by decide +kernel
theorem dX6_moveMachine_15 : decode cX6_moveMachine 15 = .ok (.invokevirtual 87, 3) := by decide +kernel
theorem dX6_moveMachine_18 : decode cX6_moveMachine 18 = .ok (.ifCond .ne 9, 3) := by decide +kernel
theorem dX6_moveMachine_21 : decode cX6_moveMachine 21 = .ok (.aload_n 0, 1) := by decide +kernel
theorem dX6_moveMachine_22 : decode cX6_moveMachine 22 = .ok (.iconst 1, 1) := by decide +kernel
theorem dX6_moveMachine_23 : decode cX6_moveMachine 23 = .ok (.invokevirtual 112, 3) := by decide +kernel
theorem dX6_moveMachine_26 : decode cX6_moveMachine 26 = .ok (.ireturn, 1) := by decide +kernel
theorem dX6_moveMachine_27 : decode cX6_moveMachine 27 = .ok (.aload_n 0, 1) := by decide +kernel
theorem dX6_moveMachine_28 : decode cX6_moveMachine 28 = .ok (.iload_n 1, 1) := by decide +kernel
theorem dX6_moveMachine_29 : decode cX6_moveMachine 29 = .ok (.invokevirtual 135, 3) := by decide +kernel
theorem dX6_moveMachine_32 : decode cX6_moveMachine 32 = .ok (.ifCond .eq 9, 3) := by decide +kernel
theorem dX6_moveMachine_35 : decode cX6_moveMachine 35 = .ok (.aload_n 0, 1) := by decide +kernel
theorem dX6_moveMachine_36 : decode cX6_moveMachine 36 = .ok (.iconst 2, 1) := by decide +kernel
theorem dX6_moveMachine_37 : decode cX6_moveMachine 37 = .ok (.invokevirtual 112, 3) := by decide +kernel
theorem dX6_moveMachine_40 : decode cX6_moveMachine 40 = .ok (.ireturn, 1) := by decide +kernel
theorem dX6_moveMachine_41 : decode cX6_moveMachine 41 = .ok (.aload_n 0, 1) := by decide +kernel
theorem dX6_moveMachine_42 : decode cX6_moveMachine 42 = .ok (.getfield 26, 3) := by decide +kernel
theorem dX6_moveMachine_45 : decode cX6_moveMachine 45 = .ok (.iload_n 1, 1) := by decide +kernel
theorem dX6_moveMachine_46 : decode cX6_moveMachine 46 = .ok (.iaload, 1) := by decide +kernel
theorem dX6_moveMachine_47 : decode cX6_moveMachine 47 = .ok (.istore_n 3, 1) := by decide +kernel
theorem dX6_moveMachine_48 : decode cX6_moveMachine 48 = .ok (.aload_n 0, 1) := by decide +kernel
theorem dX6_moveMachine_49 : decode cX6_moveMachine 49 = .ok (.getfield 26, 3) := by decide +kernel
theorem dX6_moveMachine_52 : decode cX6_moveMachine 52 = .ok (.iload_n 1, 1) := by decide +kernel
theorem dX6_moveMachine_53 : decode cX6_moveMachine 53 = .ok (.iload_n 2, 1) := by decide +kernel
theorem dX6_moveMachine_54 : decode cX6_moveMachine 54 = .ok (.iastore, 1) := by decide +kernel
theorem dX6_moveMachine_55 : decode cX6_moveMachine 55 = .ok (.iconst 0, 1) := by decide +kernel
theorem dX6_moveMachine_56 : decode cX6_moveMachine 56 = .ok (.istore 4, 2) := by decide +kernel
theorem dX6_moveMachine_58 : decode cX6_moveMachine 58 = .ok (.iload 4, 2) := by decide +kernel
theorem dX6_moveMachine_60 : decode cX6_moveMachine 60 = .ok (.aload_n 0, 1) := by decide +kernel
theorem dX6_moveMachine_61 : decode cX6_moveMachine 61 = .ok (.getfield 16, 3) := by decide +kernel
theorem dX6_moveMachine_64 : decode cX6_moveMachine 64 = .ok (.if_icmp .ge 51, 3) := by decide +kernel
theorem dX6_moveMachine_67 : decode cX6_moveMachine 67 = .ok (.iconst 0, 1) := by decide +kernel
theorem dX6_moveMachine_68 : decode cX6_moveMachine 68 = .ok (.istore 5, 2) := by decide +kernel
theorem dX6_moveMachine_70 : decode cX6_moveMachine 70 = .ok (.iload 5, 2) := by decide +kernel
theorem dX6_moveMachine_72 : decode cX6_moveMachine 72 = .ok (.bipush 6, 2) := by decide +kernel
theorem dX6_moveMachine_74 : decode cX6_moveMachine 74 = .ok (.if_icmp .ge 35, 3) := by decide +kernel
theorem dX6_moveMachine_77 : decode cX6_moveMachine 77 = .ok (.aload_n 0, 1) := by decide +kernel
theorem dX6_moveMachine_78 : decode cX6_moveMachine 78 = .ok (.iload 4, 2) := by decide +kernel
theorem dX6_moveMachine_80 : decode cX6_moveMachine 80 = .ok (.iload_n 2, 1) := by decide +kernel
theorem dX6_moveMachine_81 : decode cX6_moveMachine 81 = .ok (.invokevirtual 148, 3) := by decide +kernel
theorem dX6_moveMachine_84 : decode cX6_moveMachine 84 = .ok (.ifCond .ne 25, 3) := by decide +kernel
theorem dX6_moveMachine_87 : decode cX6_moveMachine 87 = .ok (.aload_n 0, 1) := by decide +kernel
theorem dX6_moveMachine_88 : decode cX6_moveMachine 88 = .ok (.getfield 32, 3) := by decide +kernel
theorem dX6_moveMachine_91 : decode cX6_moveMachine 91 = .ok (.aload_n 0, 1) := by decide +kernel
theorem dX6_moveMachine_92 : decode cX6_moveMachine 92 = .ok (.iload_n 1, 1) := by decide +kernel
theorem dX6_moveMachine_93 : decode cX6_moveMachine 93 = .ok (.iload 4, 2) := by decide +kernel
theorem dX6_moveMachine_95 : decode cX6_moveMachine 95 = .ok (.invokevirtual 102, 3) := by decide +kernel
theorem dX6_moveMachine_98 : decode cX6_moveMachine 98 = .ok (.iload 5, 2) := by decide +kernel
theorem dX6_moveMachine_100 : decode cX6_moveMachine 100 = .ok (.iadd, 1) := by decide +kernel
theorem dX6_moveMachine_101 : decode cX6_moveMachine 101 = .ok (.iconst (-1), 1) := by decide +kernel
theorem dX6_moveMachine_102 : decode cX6_moveMachine 102 = .ok (.iastore, 1) := by decide +kernel
theorem dX6_moveMachine_103 : decode cX6_moveMachine 103 = .ok (.iinc 5 1, 3) := by decide +kernel
theorem dX6_moveMachine_106 : decode cX6_moveMachine 106 = .ok (.goto (-36), 3) := by decide +kernel
theorem dX6_moveMachine_109 : decode cX6_moveMachine 109 = .ok (.iinc 4 1, 3) := by decide +kernel
theorem dX6_moveMachine_112 : decode cX6_moveMachine 112 = .ok (.goto (-54), 3) := by decide +kernel
theorem dX6_moveMachine_115 : decode cX6_moveMachine 115 = .ok (.iload_n 3, 1) := by decide +kernel
theorem dX6_moveMachine_116 : decode cX6_moveMachine 116 = .ok (.ireturn, 1) := by decide +kernel
theorem dX6_work_0 : decode cX6_work 0 = .ok (.aload_n 0, 1) := by decide +kernel
theorem dX6_work_1 : decode cX6_work 1 = .ok (.iconst 0, 1) := by decide +kernel
theorem dX6_work_2 : decode cX6_work 2 = .ok (.putfield 74, 3) := by decide +kernel
theorem dX6_work_5 : decode cX6_work 5 = .ok (.aload_n 0, 1) := by decide +kernel
theorem dX6_work_6 : decode cX6_work 6 = .ok (.iload_n 1, 1) := by decide +kernel
theorem dX6_work_7 : decode cX6_work 7 = .ok (.invokevirtual 145, 3) := by decide +kernel
theorem dX6_work_10 : decode cX6_work 10 = .ok (.ifCond .ne 9, 3) := by decide +kernel
theorem dX6_work_13 : decode cX6_work 13 = .ok (.aload_n 0, 1) := by decide +kernel
theorem dX6_work_14 : decode cX6_work 14 = .ok (.iconst 1, 1) := by decide +kernel
theorem dX6_work_15 : decode cX6_work 15 = .ok (.invokevirtual 112, 3) := by decide +kernel
theorem dX6_work_18 : decode cX6_work 18 = .ok (.ireturn, 1) := by decide +kernel
theorem dX6_work_19 : decode cX6_work 19 = .ok (.iload_n 2, 1) := by decide +kernel
theorem dX6_work_20 : decode cX6_work 20 = .ok (.iconst 1, 1) := by decide +kernel
theorem dX6_work_21 : decode cX6_work 21 = .ok (.bipush 30, 2) := by decide +kernel
theorem dX6_work_23 : decode cX6_work 23 = .ok (.invokestatic 77, 3) := by decide +kernel
theorem dX6_work_26 : decode cX6_work 26 = .ok (.ifCond .ne 9, 3) := by decide +kernel
theorem dX6_work_29 : decode cX6_work 29 = .ok (.aload_n 0, 1) := by decide +kernel
theorem dX6_work_30 : decode cX6_work 30 = .ok (.iconst 2, 1) := by decide +kernel
theorem dX6_work_31 : decode cX6_work 31 = .ok (.invokevirtual 112, 3) := by decide +kernel
theorem dX6_work_34 : decode cX6_work 34 = .ok (.ireturn, 1) := by decide +kernel
theorem dX6_work_35 : decode cX6_work 35 = .ok (.aload_n 0, 1) := by decide +kernel
theorem dX6_work_36 : decode cX6_work 36 = .ok (.iload_n 1, 1) := by decide +kernel
theorem dX6_work_37 : decode cX6_work 37 = .ok (.invokevirtual 135, 3) := by decide +kernel
theorem dX6_work_40 : decode cX6_work 40 = .ok (.ifCond .ne 11, 3) := by decide +kernel
theorem dX6_work_43 : decode cX6_work 43 = .ok (.aload_n 0, 1) := by decide +kernel
theorem dX6_work_44 : decode cX6_work 44 = .ok (.iload_n 1, 1) := by decide +kernel
theorem dX6_work_45 : decode cX6_work 45 = .ok (.invokevirtual 118, 3) := by decide +kernel
theorem dX6_work_48 : decode cX6_work 48 = .ok (.ifCond .eq 9, 3) := by decide +kernel
theorem dX6_work_51 : decode cX6_work 51 = .ok (.aload_n 0, 1) := by decide +kernel
theorem dX6_work_52 : decode cX6_work 52 = .ok (.iconst 3, 1) := by decide +kernel
theorem dX6_work_53 : decode cX6_work 53 = .ok (.invokevirtual 112, 3) := by decide +kernel
theorem dX6_work_56 : decode cX6_work 56 = .ok (.ireturn, 1) := by decide +kernel
theorem dX6_work_57 : decode cX6_work 57 = .ok (.aload_n 0, 1) := by decide +kernel
theorem dX6_work_58 : decode cX6_work 58 = .ok (.getfield 29, 3) := by decide +kernel
theorem dX6_work_61 : decode cX6_work 61 = .ok (.iload_n 1, 1) := by decide +kernel
theorem dX6_work_62 : decode cX6_work 62 = .ok (.aload_n 0, 1) := by decide +kernel
theorem dX6_work_63 : decode cX6_work 63 = .ok (.getfield 109, 3) := by decide +kernel
theorem dX6_work_66 : decode cX6_work 66 = .ok (.iload_n 2, 1) := by decide +kernel
theorem dX6_work_67 : decode cX6_work 67 = .ok (.iadd, 1) := by decide +kernel
theorem dX6_work_68 : decode cX6_work 68 = .ok (.iastore, 1) := by decide +kernel
theorem dX6_work_69 : decode cX6_work 69 = .ok (.aload_n 0, 1) := by decide +kernel
theorem dX6_work_70 : decode cX6_work 70 = .ok (.getfield 29, 3) := by decide +kernel
theorem dX6_work_73 : decode cX6_work 73 = .ok (.iload_n 1, 1) := by decide +kernel
theorem dX6_work_74 : decode cX6_work 74 = .ok (.iaload, 1) := by decide +kernel
theorem dX6_work_75 : decode cX6_work 75 = .ok (.ireturn, 1) := by decide +kernel
theorem dX6_setPace_0 : decode cX6_setPace 0 = .ok (.aload_n 0, 1) := by decide +kernel
theorem dX6_setPace_1 : decode cX6_setPace 1 = .ok (.iconst 0, 1) := by decide +kernel
theorem dX6_setPace_2 : decode cX6_setPace 2 = .ok (.putfield 74, 3) := by decide +kernel
theorem dX6_setPace_5 : decode cX6_setPace 5 = .ok (.iload_n 1, 1) := by decide +kernel
theorem dX6_setPace_6 : decode cX6_setPace 6 = .ok (.iconst 0, 1) := by decide +kernel
theorem dX6_setPace_7 : decode cX6_setPace 7 = .ok (.bipush 12, 2) := by decide +kernel
theorem dX6_setPace_9 : decode cX6_setPace 9 = .ok (.invokestatic 77, 3) := by decide +kernel
theorem dX6_setPace_12 : decode cX6_setPace 12 = .ok (.ifCond .ne 9, 3) := by decide +kernel
theorem dX6_setPace_15 : decode cX6_setPace 15 = .ok (.aload_n 0, 1) := by decide +kernel
theorem dX6_setPace_16 : decode cX6_setPace 16 = .ok (.iconst 1, 1) := by decide +kernel
theorem dX6_setPace_17 : decode cX6_setPace 17 = .ok (.invokevirtual 112, 3) := by decide +kernel
theorem dX6_setPace_20 : decode cX6_setPace 20 = .ok (.ireturn, 1) := by decide +kernel
theorem dX6_setPace_21 : decode cX6_setPace 21 = .ok (.aload_n 0, 1) := by decide +kernel
theorem dX6_setPace_22 : decode cX6_setPace 22 = .ok (.getfield 23, 3) := by decide +kernel
theorem dX6_setPace_25 : decode cX6_setPace 25 = .ok (.istore_n 2, 1) := by decide +kernel
theorem dX6_setPace_26 : decode cX6_setPace 26 = .ok (.aload_n 0, 1) := by decide +kernel
theorem dX6_setPace_27 : decode cX6_setPace 27 = .ok (.iload_n 1, 1) := by decide +kernel
theorem dX6_setPace_28 : decode cX6_setPace 28 = .ok (.putfield 23, 3) := by decide +kernel
theorem dX6_setPace_31 : decode cX6_setPace 31 = .ok (.iload_n 2, 1) := by decide +kernel
theorem dX6_setPace_32 : decode cX6_setPace 32 = .ok (.ireturn, 1) := by decide +kernel
theorem dX6_isBusy_0 : decode cX6_isBusy 0 = .ok (.aload_n 0, 1) := by decide +kernel
theorem dX6_isBusy_1 : decode cX6_isBusy 1 = .ok (.aload_n 0, 1) := by decide +kernel
theorem dX6_isBusy_2 : decode cX6_isBusy 2 = .ok (.iload_n 1, 1) := by decide +kernel
theorem dX6_isBusy_3 : decode cX6_isBusy 3 = .ok (.invokevirtual 145, 3) := by decide +kernel
theorem dX6_isBusy_6 : decode cX6_isBusy 6 = .ok (.ifCond .eq 7, 3) := by decide +kernel
theorem dX6_isBusy_9 : decode cX6_isBusy 9 = .ok (.iconst 0, 1) := by decide +kernel
theorem dX6_isBusy_10 : decode cX6_isBusy 10 = .ok (.goto 4, 3) := by decide +kernel
theorem dX6_isBusy_13 : decode cX6_isBusy 13 = .ok (.iconst 1, 1) := by decide +kernel
theorem dX6_isBusy_14 : decode cX6_isBusy 14 = .ok (.putfield 74, 3) := by decide +kernel
theorem dX6_isBusy_17 : decode cX6_isBusy 17 = .ok (.aload_n 0, 1) := by decide +kernel
theorem dX6_isBusy_18 : decode cX6_isBusy 18 = .ok (.getfield 74, 3) := by decide +kernel
theorem dX6_isBusy_21 : decode cX6_isBusy 21 = .ok (.ifCond .ne 15, 3) := by decide +kernel
theorem dX6_isBusy_24 : decode cX6_isBusy 24 = .ok (.aload_n 0, 1) := by decide +kernel
theorem dX6_isBusy_25 : decode cX6_isBusy 25 = .ok (.iload_n 1, 1) := by decide +kernel
theorem dX6_isBusy_26 : decode cX6_isBusy 26 = .ok (.invokevirtual 135, 3) := by decide +kernel
theorem dX6_isBusy_29 : decode cX6_isBusy 29 = .ok (.ifCond .eq 7, 3) := by decide +kernel
theorem dX6_isBusy_32 : decode cX6_isBusy 32 = .ok (.iconst 1, 1) := by decide +kernel
theorem dX6_isBusy_33 : decode cX6_isBusy 33 = .ok (.goto 4, 3) := by decide +kernel
theorem dX6_isBusy_36 : decode cX6_isBusy 36 = .ok (.iconst 0, 1) := by decide +kernel
theorem dX6_isBusy_37 : decode cX6_isBusy 37 = .ok (.ireturn, 1) := by decide +kernel
theorem dX6_isStopped_0 : decode cX6_isStopped 0 = .ok (.aload_n 0, 1) := by decide +kernel
theorem dX6_isStopped_1 : decode cX6_isStopped 1 = .ok (.aload_n 0, 1) := by decide +kernel
theorem dX6_isStopped_2 : decode cX6_isStopped 2 = .ok (.iload_n 1, 1) := by decide +kernel
theorem dX6_isStopped_3 : decode cX6_isStopped 3 = .ok (.invokevirtual 145, 3) := by decide +kernel
theorem dX6_isStopped_6 : decode cX6_isStopped 6 = .ok (.ifCond .eq 7, 3) := by decide +kernel
theorem dX6_isStopped_9 : decode cX6_isStopped 9 = .ok (.iconst 0, 1) := by decide +kernel
theorem dX6_isStopped_10 : decode cX6_isStopped 10 = .ok (.goto 4, 3) := by decide +kernel
theorem dX6_isStopped_13 : decode cX6_isStopped 13 = .ok (.iconst 1, 1) := by decide +kernel
theorem dX6_isStopped_14 : decode cX6_isStopped 14 = .ok (.putfield 74, 3) := by decide +kernel
theorem dX6_isStopped_17 : decode cX6_isStopped 17 = .ok (.aload_n 0, 1) := by decide +kernel
theorem dX6_isStopped_18 : decode cX6_isStopped 18 = .ok (.getfield 74, 3) := by decide +kernel
theorem dX6_isStopped_21 : decode cX6_isStopped 21 = .ok (.ifCond .ne 15, 3) := by decide +kernel
theorem dX6_isStopped_24 : decode cX6_isStopped 24 = .ok (.aload_n 0, 1) := by decide +kernel
theorem dX6_isStopped_25 : decode cX6_isStopped 25 = .ok (.iload_n 1, 1) := by decide +kernel
theorem dX6_isStopped_26 : decode cX6_isStopped 26 = .ok (.invokevirtual 118, 3) := by decide +kernel
theorem dX6_isStopped_29 : decode cX6_isStopped 29 = .ok (.ifCond .eq 7, 3) := by decide +kernel
theorem dX6_isStopped_32 : decode cX6_isStopped 32 = .ok (.iconst 1, 1) := by decide +kernel
theorem dX6_isStopped_33 : decode cX6_isStopped 33 = .ok (.goto 4, 3) := by decide +kernel
theorem dX6_isStopped_36 : decode cX6_isStopped 36 = .ok (.iconst 0, 1) := by decide +kernel
theorem dX6_isStopped_37 : decode cX6_isStopped 37 = .ok (.ireturn, 1) := by decide +kernel
theorem dX6_propose_0 : decode cX6_propose 0 = .ok (.aload_n 0, 1) := by decide +kernel
theorem dX6_propose_1 : decode cX6_propose 1 = .ok (.iconst 0, 1) := by decide +kernel
theorem dX6_propose_2 : decode cX6_propose 2 = .ok (.putfield 74, 3) := by decide +kernel
theorem dX6_propose_5 : decode cX6_propose 5 = .ok (.iload_n 1, 1) := by decide +kernel
theorem dX6_propose_6 : decode cX6_propose 6 = .ok (.invokestatic 121, 3) := by decide +kernel
theorem dX6_propose_9 : decode cX6_propose 9 = .ok (.ifCond .eq 18, 3) := by decide +kernel
theorem dX6_propose_12 : decode cX6_propose 12 = .ok (.aload_n 0, 1) := by decide +kernel
theorem dX6_propose_13 : decode cX6_propose 13 = .ok (.iload_n 2, 1) := by decide +kernel
theorem dX6_propose_14 : decode cX6_propose 14 = .ok (.invokevirtual 151, 3) := by decide +kernel
theorem dX6_propose_17 : decode cX6_propose 17 = .ok (.ifCond .eq 10, 3) := by decide +kernel
theorem dX6_propose_20 : decode cX6_propose 20 = .ok (.iload_n 3, 1) := by decide +kernel
theorem dX6_propose_21 : decode cX6_propose 21 = .ok (.invokestatic 154, 3) := by decide +kernel
theorem dX6_propose_24 : decode cX6_propose 24 = .ok (.ifCond .ne 9, 3) := by decide +kernel
theorem dX6_propose_27 : decode cX6_propose 27 = .ok (.aload_n 0, 1) := by decide +kernel
theorem dX6_propose_28 : decode cX6_propose 28 = .ok (.iconst 1, 1) := by decide +kernel
theorem dX6_propose_29 : decode cX6_propose 29 = .ok (.invokevirtual 112, 3) := by decide +kernel
theorem dX6_propose_32 : decode cX6_propose 32 = .ok (.ireturn, 1) := by decide +kernel
theorem dX6_propose_33 : decode cX6_propose 33 = .ok (.iload 4, 2) := by decide +kernel
theorem dX6_propose_35 : decode cX6_propose 35 = .ok (.iconst 0, 1) := by decide +kernel
theorem dX6_propose_36 : decode cX6_propose 36 = .ok (.bipush 101, 2) := by decide +kernel
theorem dX6_propose_38 : decode cX6_propose 38 = .ok (.invokestatic 77, 3) := by decide +kernel
theorem dX6_propose_41 : decode cX6_propose 41 = .ok (.ifCond .ne 9, 3) := by decide +kernel
theorem dX6_propose_44 : decode cX6_propose 44 = .ok (.aload_n 0, 1) := by decide +kernel
theorem dX6_propose_45 : decode cX6_propose 45 = .ok (.iconst 2, 1) := by decide +kernel
theorem dX6_propose_46 : decode cX6_propose 46 = .ok (.invokevirtual 112, 3) := by decide +kernel
theorem dX6_propose_49 : decode cX6_propose 49 = .ok (.ireturn, 1) := by decide +kernel
theorem dX6_propose_50 : decode cX6_propose 50 = .ok (.aload_n 0, 1) := by decide +kernel
theorem dX6_propose_51 : decode cX6_propose 51 = .ok (.getfield 13, 3) := by decide +kernel
theorem dX6_propose_54 : decode cX6_propose 54 = .ok (.iload_n 1, 1) := by decide +kernel
theorem dX6_propose_55 : decode cX6_propose 55 = .ok (.iaload, 1) := by decide +kernel
theorem dX6_propose_56 : decode cX6_propose 56 = .ok (.ifCond .gt 12, 3) := by decide +kernel
theorem dX6_propose_59 : decode cX6_propose 59 = .ok (.aload_n 0, 1) := by decide +kernel
theorem dX6_propose_60 : decode cX6_propose 60 = .ok (.getfield 84, 3) := by decide +kernel
theorem dX6_propose_63 : decode cX6_propose 63 = .ok (.bipush 40, 2) := by decide +kernel
theorem dX6_propose_65 : decode cX6_propose 65 = .ok (.if_icmp .ne 9, 3) := by decide +kernel
theorem dX6_propose_68 : decode cX6_propose 68 = .ok (.aload_n 0, 1) := by decide +kernel
theorem dX6_propose_69 : decode cX6_propose 69 = .ok (.iconst 3, 1) := by decide +kernel
theorem dX6_propose_70 : decode cX6_propose 70 = .ok (.invokevirtual 112, 3) := by decide +kernel
theorem dX6_propose_73 : decode cX6_propose 73 = .ok (.ireturn, 1) := by decide +kernel
theorem dX6_propose_74 : decode cX6_propose 74 = .ok (.aload_n 0, 1) := by decide +kernel
theorem dX6_propose_75 : decode cX6_propose 75 = .ok (.getfield 35, 3) := by decide +kernel
theorem dX6_propose_78 : decode cX6_propose 78 = .ok (.aload_n 0, 1) := by decide +kernel
theorem dX6_propose_79 : decode cX6_propose 79 = .ok (.getfield 84, 3) := by decide +kernel
theorem dX6_propose_82 : decode cX6_propose 82 = .ok (.iload_n 1, 1) := by decide +kernel
theorem dX6_propose_83 : decode cX6_propose 83 = .ok (.iastore, 1) := by decide +kernel
theorem dX6_propose_84 : decode cX6_propose 84 = .ok (.aload_n 0, 1) := by decide +kernel
theorem dX6_propose_85 : decode cX6_propose 85 = .ok (.getfield 38, 3) := by decide +kernel
theorem dX6_propose_88 : decode cX6_propose 88 = .ok (.aload_n 0, 1) := by decide +kernel
theorem dX6_propose_89 : decode cX6_propose 89 = .ok (.getfield 84, 3) := by decide +kernel
theorem dX6_propose_92 : decode cX6_propose 92 = .ok (.iload_n 2, 1) := by decide +kernel
theorem dX6_propose_93 : decode cX6_propose 93 = .ok (.iastore, 1) := by decide +kernel
theorem dX6_propose_94 : decode cX6_propose 94 = .ok (.aload_n 0, 1) := by decide +kernel
theorem dX6_propose_95 : decode cX6_propose 95 = .ok (.getfield 41, 3) := by decide +kernel
theorem dX6_propose_98 : decode cX6_propose 98 = .ok (.aload_n 0, 1) := by decide +kernel
theorem dX6_propose_99 : decode cX6_propose 99 = .ok (.getfield 84, 3) := by decide +kernel
theorem dX6_propose_102 : decode cX6_propose 102 = .ok (.iload_n 3, 1) := by decide +kernel
theorem dX6_propose_103 : decode cX6_propose 103 = .ok (.iastore, 1) := by decide +kernel
theorem dX6_propose_104 : decode cX6_propose 104 = .ok (.aload_n 0, 1) := by decide +kernel
theorem dX6_propose_105 : decode cX6_propose 105 = .ok (.getfield 44, 3) := by decide +kernel
theorem dX6_propose_108 : decode cX6_propose 108 = .ok (.aload_n 0, 1) := by decide +kernel
theorem dX6_propose_109 : decode cX6_propose 109 = .ok (.getfield 84, 3) := by decide +kernel
theorem dX6_propose_112 : decode cX6_propose 112 = .ok (.aload_n 0, 1) := by decide +kernel
theorem dX6_propose_113 : decode cX6_propose 113 = .ok (.getfield 109, 3) := by decide +kernel
theorem dX6_propose_116 : decode cX6_propose 116 = .ok (.iastore, 1) := by decide +kernel
theorem dX6_propose_117 : decode cX6_propose 117 = .ok (.aload_n 0, 1) := by decide +kernel
theorem dX6_propose_118 : decode cX6_propose 118 = .ok (.getfield 47, 3) := by decide +kernel
theorem dX6_propose_121 : decode cX6_propose 121 = .ok (.aload_n 0, 1) := by decide +kernel
theorem dX6_propose_122 : decode cX6_propose 122 = .ok (.getfield 84, 3) := by decide +kernel
theorem dX6_propose_125 : decode cX6_propose 125 = .ok (.iload 4, 2) := by decide +kernel
theorem dX6_propose_127 : decode cX6_propose 127 = .ok (.iastore, 1) := by decide +kernel
theorem dX6_propose_128 : decode cX6_propose 128 = .ok (.aload_n 0, 1) := by decide +kernel
theorem dX6_propose_129 : decode cX6_propose 129 = .ok (.getfield 53, 3) := by decide +kernel
theorem dX6_propose_132 : decode cX6_propose 132 = .ok (.aload_n 0, 1) := by decide +kernel
theorem dX6_propose_133 : decode cX6_propose 133 = .ok (.getfield 84, 3) := by decide +kernel
theorem dX6_propose_136 : decode cX6_propose 136 = .ok (.iconst (-1), 1) := by decide +kernel
theorem dX6_propose_137 : decode cX6_propose 137 = .ok (.iastore, 1) := by decide +kernel
theorem dX6_propose_138 : decode cX6_propose 138 = .ok (.aload_n 0, 1) := by decide +kernel
theorem dX6_propose_139 : decode cX6_propose 139 = .ok (.dup, 1) := by decide +kernel
theorem dX6_propose_140 : decode cX6_propose 140 = .ok (.getfield 84, 3) := by decide +kernel
theorem dX6_propose_143 : decode cX6_propose 143 = .ok (.iconst 1, 1) := by decide +kernel
theorem dX6_propose_144 : decode cX6_propose 144 = .ok (.iadd, 1) := by decide +kernel
theorem dX6_propose_145 : decode cX6_propose 145 = .ok (.putfield 84, 3) := by decide +kernel
theorem dX6_propose_148 : decode cX6_propose 148 = .ok (.aload_n 0, 1) := by decide +kernel
theorem dX6_propose_149 : decode cX6_propose 149 = .ok (.getfield 84, 3) := by decide +kernel
theorem dX6_propose_152 : decode cX6_propose 152 = .ok (.iconst 1, 1) := by decide +kernel
theorem dX6_propose_153 : decode cX6_propose 153 = .ok (.isub, 1) := by decide +kernel
theorem dX6_propose_154 : decode cX6_propose 154 = .ok (.ireturn, 1) := by decide +kernel
theorem dX6_approve_0 : decode cX6_approve 0 = .ok (.aload_n 0, 1) := by decide +kernel
theorem dX6_approve_1 : decode cX6_approve 1 = .ok (.iconst 0, 1) := by decide +kernel
theorem dX6_approve_2 : decode cX6_approve 2 = .ok (.putfield 74, 3) := by decide +kernel
theorem dX6_approve_5 : decode cX6_approve 5 = .ok (.iload_n 1, 1) := by decide +kernel
theorem dX6_approve_6 : decode cX6_approve 6 = .ok (.invokestatic 121, 3) := by decide +kernel
theorem dX6_approve_9 : decode cX6_approve 9 = .ok (.ifCond .eq 11, 3) := by decide +kernel
theorem dX6_approve_12 : decode cX6_approve 12 = .ok (.aload_n 0, 1) := by decide +kernel
theorem dX6_approve_13 : decode cX6_approve 13 = .ok (.iload_n 2, 1) := by decide +kernel
theorem dX6_approve_14 : decode cX6_approve 14 = .ok (.invokevirtual 157, 3) := by decide +kernel
theorem dX6_approve_17 : decode cX6_approve 17 = .ok (.ifCond .ne 9, 3) := by decide +kernel
theorem dX6_approve_20 : decode cX6_approve 20 = .ok (.aload_n 0, 1) := by decide +kernel
theorem dX6_approve_21 : decode cX6_approve 21 = .ok (.iconst 1, 1) := by decide +kernel
theorem dX6_approve_22 : decode cX6_approve 22 = .ok (.invokevirtual 112, 3) := by decide +kernel
theorem dX6_approve_25 : decode cX6_approve 25 = .ok (.ireturn, 1) := by decide +kernel
theorem dX6_approve_26 : decode cX6_approve 26 = .ok (.bipush 8, 2) := by decide +kernel
theorem dX6_approve_28 : decode cX6_approve 28 = .ok (.iload_n 2, 1) := by decide +kernel
theorem dX6_approve_29 : decode cX6_approve 29 = .ok (.imul, 1) := by decide +kernel
theorem dX6_approve_30 : decode cX6_approve 30 = .ok (.iload_n 1, 1) := by decide +kernel
theorem dX6_approve_31 : decode cX6_approve 31 = .ok (.iadd, 1) := by decide +kernel
theorem dX6_approve_32 : decode cX6_approve 32 = .ok (.istore_n 3, 1) := by decide +kernel
theorem dX6_approve_33 : decode cX6_approve 33 = .ok (.aload_n 0, 1) := by decide +kernel
theorem dX6_approve_34 : decode cX6_approve 34 = .ok (.getfield 13, 3) := by decide +kernel
theorem dX6_approve_37 : decode cX6_approve 37 = .ok (.iload_n 1, 1) := by decide +kernel
theorem dX6_approve_38 : decode cX6_approve 38 = .ok (.iaload, 1) := by decide +kernel
theorem dX6_approve_39 : decode cX6_approve 39 = .ok (.ifCond .ne 29, 3) := by decide +kernel
theorem dX6_approve_42 : decode cX6_approve 42 = .ok (.aload_n 0, 1) := by decide +kernel
theorem dX6_approve_43 : decode cX6_approve 43 = .ok (.getfield 7, 3) := by decide +kernel
theorem dX6_approve_46 : decode cX6_approve 46 = .ok (.aload_n 0, 1) := by decide +kernel
theorem dX6_approve_47 : decode cX6_approve 47 = .ok (.getfield 109, 3) := by decide +kernel
theorem dX6_approve_50 : decode cX6_approve 50 = .ok (.bipush 7, 2) := by decide +kernel
theorem dX6_approve_52 : decode cX6_approve 52 = .ok (.idiv, 1) := by decide +kernel
theorem dX6_approve_53 : decode cX6_approve 53 = .ok (.iconst 4, 1) := by decide +kernel
theorem dX6_approve_54 : decode cX6_approve 54 = .ok (.irem, 1) := by decide +kernel
theorem dX6_approve_55 : decode cX6_approve 55 = .ok (.iaload, 1) := by decide +kernel
theorem dX6_approve_56 : decode cX6_approve 56 = .ok (.iload_n 1, 1) := by decide +kernel
theorem dX6_approve_57 : decode cX6_approve 57 = .ok (.ishr, 1) := by decide +kernel
theorem dX6_approve_58 : decode cX6_approve 58 = .ok (.iconst 1, 1) := by decide +kernel
theorem dX6_approve_59 : decode cX6_approve 59 = .ok (.iand, 1) := by decide +kernel
theorem dX6_approve_60 : decode cX6_approve 60 = .ok (.iconst 1, 1) := by decide +kernel
theorem dX6_approve_61 : decode cX6_approve 61 = .ok (.if_icmp .ne 7, 3) := by decide +kernel
theorem dX6_approve_64 : decode cX6_approve 64 = .ok (.iconst 1, 1) := by decide +kernel
theorem dX6_approve_65 : decode cX6_approve 65 = .ok (.goto 4, 3) := by decide +kernel
theorem dX6_approve_68 : decode cX6_approve 68 = .ok (.iconst 0, 1) := by decide +kernel
theorem dX6_approve_69 : decode cX6_approve 69 = .ok (.istore 4, 2) := by decide +kernel
theorem dX6_approve_71 : decode cX6_approve 71 = .ok (.iload 4, 2) := by decide +kernel
theorem dX6_approve_73 : decode cX6_approve 73 = .ok (.ifCond .eq 33, 3) := by decide +kernel
theorem dX6_approve_76 : decode cX6_approve 76 = .ok (.aload_n 0, 1) := by decide +kernel
theorem dX6_approve_77 : decode cX6_approve 77 = .ok (.getfield 35, 3) := by decide +kernel
theorem dX6_approve_80 : decode cX6_approve 80 = .ok (.iload_n 2, 1) := by decide +kernel
theorem dX6_approve_81 : decode cX6_approve 81 = .ok (.iaload, 1) := by decide +kernel
theorem dX6_approve_82 : decode cX6_approve 82 = .ok (.iload_n 1, 1) := by decide +kernel
theorem dX6_approve_83 : decode cX6_approve 83 = .ok (.if_icmp .eq 23, 3) := by decide +kernel
theorem dX6_approve_86 : decode cX6_approve 86 = .ok (.aload_n 0, 1) := by decide +kernel
theorem dX6_approve_87 : decode cX6_approve 87 = .ok (.getfield 56, 3) := by decide +kernel
theorem dX6_approve_90 : decode cX6_approve 90 = .ok (.iload_n 3, 1) := by decide +kernel
theorem dX6_approve_91 : decode cX6_approve 91 = .ok (.iaload, 1) := by decide +kernel
theorem dX6_approve_92 : decode cX6_approve 92 = .ok (.iconst 1, 1) := by decide +kernel
theorem dX6_approve_93 : decode cX6_approve 93 = .ok (.if_icmp .eq 13, 3) := by decide +kernel
theorem dX6_approve_96 : decode cX6_approve 96 = .ok (.aload_n 0, 1) := by decide +kernel
theorem dX6_approve_97 : decode cX6_approve 97 = .ok (.getfield 50, 3) := by decide +kernel
theorem dX6_approve_100 : decode cX6_approve 100 = .ok (.iload_n 2, 1) := by decide +kernel
theorem dX6_approve_101 : decode cX6_approve 101 = .ok (.iaload, 1) := by decide +kernel
theorem dX6_approve_102 : decode cX6_approve 102 = .ok (.iconst 3, 1) := by decide +kernel
theorem dX6_approve_103 : decode cX6_approve 103 = .ok (.if_icmp .ne 9, 3) := by decide +kernel
theorem dX6_approve_106 : decode cX6_approve 106 = .ok (.aload_n 0, 1) := by decide +kernel
theorem dX6_approve_107 : decode cX6_approve 107 = .ok (.iconst 2, 1) := by decide +kernel
theorem dX6_approve_108 : decode cX6_approve 108 = .ok (.invokevirtual 112, 3) := by decide +kernel
theorem dX6_approve_111 : decode cX6_approve 111 = .ok (.ireturn, 1) := by decide +kernel
theorem dX6_approve_112 : decode cX6_approve 112 = .ok (.aload_n 0, 1) := by decide +kernel
theorem dX6_approve_113 : decode cX6_approve 113 = .ok (.getfield 56, 3) := by decide +kernel
theorem dX6_approve_116 : decode cX6_approve 116 = .ok (.iload_n 3, 1) := by decide +kernel
theorem dX6_approve_117 : decode cX6_approve 117 = .ok (.iconst 1, 1) := by decide +kernel
theorem dX6_approve_118 : decode cX6_approve 118 = .ok (.iastore, 1) := by decide +kernel
theorem dX6_approve_119 : decode cX6_approve 119 = .ok (.aload_n 0, 1) := by decide +kernel
theorem dX6_approve_120 : decode cX6_approve 120 = .ok (.getfield 59, 3) := by decide +kernel
theorem dX6_approve_123 : decode cX6_approve 123 = .ok (.iload_n 3, 1) := by decide +kernel
theorem dX6_approve_124 : decode cX6_approve 124 = .ok (.aload_n 0, 1) := by decide +kernel
theorem dX6_approve_125 : decode cX6_approve 125 = .ok (.getfield 109, 3) := by decide +kernel
theorem dX6_approve_128 : decode cX6_approve 128 = .ok (.iastore, 1) := by decide +kernel
theorem dX6_approve_129 : decode cX6_approve 129 = .ok (.aload_n 0, 1) := by decide +kernel
theorem dX6_approve_130 : decode cX6_approve 130 = .ok (.getfield 50, 3) := by decide +kernel
theorem dX6_approve_133 : decode cX6_approve 133 = .ok (.iload_n 2, 1) := by decide +kernel
theorem dX6_approve_134 : decode cX6_approve 134 = .ok (.iaload, 1) := by decide +kernel
theorem dX6_approve_135 : decode cX6_approve 135 = .ok (.iconst 1, 1) := by decide +kernel
theorem dX6_approve_136 : decode cX6_approve 136 = .ok (.if_icmp .eq 74, 3) := by decide +kernel
theorem dX6_approve_139 : decode cX6_approve 139 = .ok (.aload_n 0, 1) := by decide +kernel
theorem dX6_approve_140 : decode cX6_approve 140 = .ok (.iload_n 2, 1) := by decide +kernel
theorem dX6_approve_141 : decode cX6_approve 141 = .ok (.invokevirtual 115, 3) := by decide +kernel
theorem dX6_approve_144 : decode cX6_approve 144 = .ok (.iconst 1, 1) := by decide +kernel
theorem dX6_approve_145 : decode cX6_approve 145 = .ok (.if_icmp .le 65, 3) := by decide +kernel
theorem dX6_approve_148 : decode cX6_approve 148 = .ok (.aload_n 0, 1) := by decide +kernel
theorem dX6_approve_149 : decode cX6_approve 149 = .ok (.getfield 50, 3) := by decide +kernel
theorem dX6_approve_152 : decode cX6_approve 152 = .ok (.iload_n 2, 1) := by decide +kernel
theorem dX6_approve_153 : decode cX6_approve 153 = .ok (.iconst 1, 1) := by decide +kernel
theorem dX6_approve_154 : decode cX6_approve 154 = .ok (.iastore, 1) := by decide +kernel
theorem dX6_approve_155 : decode cX6_approve 155 = .ok (.aload_n 0, 1) := by decide +kernel
theorem dX6_approve_156 : decode cX6_approve 156 = .ok (.dup, 1) := by decide +kernel
theorem dX6_approve_157 : decode cX6_approve 157 = .ok (.getfield 160, 3) := by decide +kernel
theorem dX6_approve_160 : decode cX6_approve 160 = .ok (.aload_n 0, 1) := by decide +kernel
theorem dX6_approve_161 : decode cX6_approve 161 = .ok (.getfield 53, 3) := by decide +kernel
theorem dX6_approve_164 : decode cX6_approve 164 = .ok (.iload_n 2, 1) := by decide +kernel
theorem dX6_approve_165 : decode cX6_approve 165 = .ok (.iaload, 1) := by decide +kernel
theorem dX6_approve_166 : decode cX6_approve 166 = .ok (.iconst (-1), 1) := by decide +kernel
theorem dX6_approve_167 : decode cX6_approve 167 = .ok (.if_icmp .ne 7, 3) := by decide +kernel
theorem dX6_approve_170 : decode cX6_approve 170 = .ok (.iconst 1, 1) := by decide +kernel
theorem dX6_approve_171 : decode cX6_approve 171 = .ok (.goto 4, 3) := by decide +kernel
theorem dX6_approve_174 : decode cX6_approve 174 = .ok (.iconst 0, 1) := by decide +kernel
theorem dX6_approve_175 : decode cX6_approve 175 = .ok (.iadd, 1) := by decide +kernel
theorem dX6_approve_176 : decode cX6_approve 176 = .ok (.putfield 160, 3) := by decide +kernel
theorem dX6_approve_179 : decode cX6_approve 179 = .ok (.aload_n 0, 1) := by decide +kernel
theorem dX6_approve_180 : decode cX6_approve 180 = .ok (.getfield 53, 3) := by decide +kernel
theorem dX6_approve_183 : decode cX6_approve 183 = .ok (.iload_n 2, 1) := by decide +kernel
theorem dX6_approve_184 : decode cX6_approve 184 = .ok (.aload_n 0, 1) := by decide +kernel
theorem dX6_approve_185 : decode cX6_approve 185 = .ok (.getfield 53, 3) := by decide +kernel
theorem dX6_approve_188 : decode cX6_approve 188 = .ok (.iload_n 2, 1) := by decide +kernel
theorem dX6_approve_189 : decode cX6_approve 189 = .ok (.iaload, 1) := by decide +kernel
theorem dX6_approve_190 : decode cX6_approve 190 = .ok (.iconst (-1), 1) := by decide +kernel
theorem dX6_approve_191 : decode cX6_approve 191 = .ok (.if_icmp .ne 12, 3) := by decide +kernel
theorem dX6_approve_194 : decode cX6_approve 194 = .ok (.aload_n 0, 1) := by decide +kernel
theorem dX6_approve_195 : decode cX6_approve 195 = .ok (.getfield 160, 3) := by decide +kernel
theorem dX6_approve_198 : decode cX6_approve 198 = .ok (.iconst 1, 1) := by decide +kernel
theorem dX6_approve_199 : decode cX6_approve 199 = .ok (.isub, 1) := by decide +kernel
theorem dX6_approve_200 : decode cX6_approve 200 = .ok (.goto 9, 3) := by decide +kernel
theorem dX6_approve_203 : decode cX6_approve 203 = .ok (.aload_n 0, 1) := by decide +kernel
theorem dX6_approve_204 : decode cX6_approve 204 = .ok (.getfield 53, 3) := by decide +kernel
theorem dX6_approve_207 : decode cX6_approve 207 = .ok (.iload_n 2, 1) := by decide +kernel
theorem dX6_approve_208 : decode cX6_approve 208 = .ok (.iaload, 1) := by decide +kernel
theorem dX6_approve_209 : decode cX6_approve 209 = .ok (.iastore, 1) := by decide +kernel
theorem dX6_approve_210 : decode cX6_approve 210 = .ok (.aload_n 0, 1) := by decide +kernel
theorem dX6_approve_211 : decode cX6_approve 211 = .ok (.getfield 50, 3) := by decide +kernel
theorem dX6_approve_214 : decode cX6_approve 214 = .ok (.iload_n 2, 1) := by decide +kernel
theorem dX6_approve_215 : decode cX6_approve 215 = .ok (.iaload, 1) := by decide +kernel
theorem dX6_approve_216 : decode cX6_approve 216 = .ok (.ireturn, 1) := by decide +kernel
theorem dX6_withdraw_0 : decode cX6_withdraw 0 = .ok (.aload_n 0, 1) := by decide +kernel
theorem dX6_withdraw_1 : decode cX6_withdraw 1 = .ok (.aload_n 0, 1) := by decide +kernel
theorem dX6_withdraw_2 : decode cX6_withdraw 2 = .ok (.iload_n 1, 1) := by decide +kernel
theorem dX6_withdraw_3 : decode cX6_withdraw 3 = .ok (.invokevirtual 157, 3) := by decide +kernel
theorem dX6_withdraw_6 : decode cX6_withdraw 6 = .ok (.ifCond .ne 7, 3) := by decide +kernel
theorem dX6_withdraw_9 : decode cX6_withdraw 9 = .ok (.iconst 1, 1) := by decide +kernel
theorem dX6_withdraw_10 : decode cX6_withdraw 10 = .ok (.goto 17, 3) := by decide +kernel
theorem dX6_withdraw_13 : decode cX6_withdraw 13 = .ok (.aload_n 0, 1) := by decide +kernel
theorem dX6_withdraw_14 : decode cX6_withdraw 14 = .ok (.getfield 50, 3) := by decide +kernel
theorem dX6_withdraw_17 : decode cX6_withdraw 17 = .ok (.iload_n 1, 1) := by decide +kernel
theorem dX6_withdraw_18 : decode cX6_withdraw 18 = .ok (.iaload, 1) := by decide +kernel
theorem dX6_withdraw_19 : decode cX6_withdraw 19 = .ok (.ifCond .eq 7, 3) := by decide +kernel
theorem dX6_withdraw_22 : decode cX6_withdraw 22 = .ok (.iconst 2, 1) := by decide +kernel
theorem dX6_withdraw_23 : decode cX6_withdraw 23 = .ok (.goto 4, 3) := by decide +kernel
theorem dX6_withdraw_26 : decode cX6_withdraw 26 = .ok (.iconst 0, 1) := by decide +kernel
theorem dX6_withdraw_27 : decode cX6_withdraw 27 = .ok (.putfield 74, 3) := by decide +kernel
theorem dX6_withdraw_30 : decode cX6_withdraw 30 = .ok (.aload_n 0, 1) := by decide +kernel
theorem dX6_withdraw_31 : decode cX6_withdraw 31 = .ok (.getfield 74, 3) := by decide +kernel
theorem dX6_withdraw_34 : decode cX6_withdraw 34 = .ok (.ifCond .ne 10, 3) := by decide +kernel
theorem dX6_withdraw_37 : decode cX6_withdraw 37 = .ok (.aload_n 0, 1) := by decide +kernel
theorem dX6_withdraw_38 : decode cX6_withdraw 38 = .ok (.getfield 50, 3) := by decide +kernel
theorem dX6_withdraw_41 : decode cX6_withdraw 41 = .ok (.iload_n 1, 1) := by decide +kernel
theorem dX6_withdraw_42 : decode cX6_withdraw 42 = .ok (.iconst 3, 1) := by decide +kernel
theorem dX6_withdraw_43 : decode cX6_withdraw 43 = .ok (.iastore, 1) := by decide +kernel
theorem dX6_withdraw_44 : decode cX6_withdraw 44 = .ok (.return_, 1) := by decide +kernel
theorem dX6_exclude_0 : decode cX6_exclude 0 = .ok (.aload_n 0, 1) := by decide +kernel
theorem dX6_exclude_1 : decode cX6_exclude 1 = .ok (.iload_n 1, 1) := by decide +kernel
theorem dX6_exclude_2 : decode cX6_exclude 2 = .ok (.invokestatic 154, 3) := by decide +kernel
theorem dX6_exclude_5 : decode cX6_exclude 5 = .ok (.ifCond .eq 10, 3) := by decide +kernel
theorem dX6_exclude_8 : decode cX6_exclude 8 = .ok (.iload_n 2, 1) := by decide +kernel
theorem dX6_exclude_9 : decode cX6_exclude 9 = .ok (.invokestatic 154, 3) := by decide +kernel
theorem dX6_exclude_12 : decode cX6_exclude 12 = .ok (.ifCond .ne 7, 3) := by decide +kernel
theorem dX6_exclude_15 : decode cX6_exclude 15 = .ok (.iconst 1, 1) := by decide +kernel
theorem dX6_exclude_16 : decode cX6_exclude 16 = .ok (.goto 13, 3) := by decide +kernel
theorem dX6_exclude_19 : decode cX6_exclude 19 = .ok (.iload_n 1, 1) := by decide +kernel
theorem dX6_exclude_20 : decode cX6_exclude 20 = .ok (.iload_n 2, 1) := by decide +kernel
theorem dX6_exclude_21 : decode cX6_exclude 21 = .ok (.if_icmp .ne 7, 3) := by decide +kernel
theorem dX6_exclude_24 : decode cX6_exclude 24 = .ok (.iconst 2, 1) := by decide +kernel
theorem dX6_exclude_25 : decode cX6_exclude 25 = .ok (.goto 4, 3) := by decide +kernel
theorem dX6_exclude_28 : decode cX6_exclude 28 = .ok (.iconst 0, 1) := by decide +kernel
theorem dX6_exclude_29 : decode cX6_exclude 29 = .ok (.putfield 74, 3) := by decide +kernel
theorem dX6_exclude_32 : decode cX6_exclude 32 = .ok (.aload_n 0, 1) := by decide +kernel
theorem dX6_exclude_33 : decode cX6_exclude 33 = .ok (.getfield 74, 3) := by decide +kernel
theorem dX6_exclude_36 : decode cX6_exclude 36 = .ok (.ifCond .le 5, 3) := by decide +kernel
theorem dX6_exclude_39 : decode cX6_exclude 39 = .ok (.iconst 0, 1) := by decide +kernel
theorem dX6_exclude_40 : decode cX6_exclude 40 = .ok (.ireturn, 1) := by decide +kernel
theorem dX6_exclude_41 : decode cX6_exclude 41 = .ok (.aload_n 0, 1) := by decide +kernel
theorem dX6_exclude_42 : decode cX6_exclude 42 = .ok (.getfield 62, 3) := by decide +kernel
theorem dX6_exclude_45 : decode cX6_exclude 45 = .ok (.iload_n 1, 1) := by decide +kernel
theorem dX6_exclude_46 : decode cX6_exclude 46 = .ok (.iaload, 1) := by decide +kernel
theorem dX6_exclude_47 : decode cX6_exclude 47 = .ok (.iload_n 2, 1) := by decide +kernel
theorem dX6_exclude_48 : decode cX6_exclude 48 = .ok (.ishr, 1) := by decide +kernel
theorem dX6_exclude_49 : decode cX6_exclude 49 = .ok (.iconst 1, 1) := by decide +kernel
theorem dX6_exclude_50 : decode cX6_exclude 50 = .ok (.iand, 1) := by decide +kernel
theorem dX6_exclude_51 : decode cX6_exclude 51 = .ok (.iconst 1, 1) := by decide +kernel
theorem dX6_exclude_52 : decode cX6_exclude 52 = .ok (.if_icmp .ne 7, 3) := by decide +kernel
theorem dX6_exclude_55 : decode cX6_exclude 55 = .ok (.iconst 1, 1) := by decide +kernel
theorem dX6_exclude_56 : decode cX6_exclude 56 = .ok (.goto 4, 3) := by decide +kernel
theorem dX6_exclude_59 : decode cX6_exclude 59 = .ok (.iconst 0, 1) := by decide +kernel
theorem dX6_exclude_60 : decode cX6_exclude 60 = .ok (.istore 4, 2) := by decide +kernel
theorem dX6_exclude_62 : decode cX6_exclude 62 = .ok (.iload 4, 2) := by decide +kernel
theorem dX6_exclude_64 : decode cX6_exclude 64 = .ok (.iload_n 3, 1) := by decide +kernel
theorem dX6_exclude_65 : decode cX6_exclude 65 = .ok (.if_icmp .eq 27, 3) := by decide +kernel
theorem dX6_exclude_68 : decode cX6_exclude 68 = .ok (.aload_n 0, 1) := by decide +kernel
theorem dX6_exclude_69 : decode cX6_exclude 69 = .ok (.getfield 62, 3) := by decide +kernel
theorem dX6_exclude_72 : decode cX6_exclude 72 = .ok (.iload_n 1, 1) := by decide +kernel
theorem dX6_exclude_73 : decode cX6_exclude 73 = .ok (.dup2, 1) := by decide +kernel
theorem dX6_exclude_74 : decode cX6_exclude 74 = .ok (.iaload, 1) := by decide +kernel
theorem dX6_exclude_75 : decode cX6_exclude 75 = .ok (.iconst 1, 1) := by decide +kernel
theorem dX6_exclude_76 : decode cX6_exclude 76 = .ok (.iload_n 2, 1) := by decide +kernel
theorem dX6_exclude_77 : decode cX6_exclude 77 = .ok (.ishl, 1) := by decide +kernel
theorem dX6_exclude_78 : decode cX6_exclude 78 = .ok (.ixor, 1) := by decide +kernel
theorem dX6_exclude_79 : decode cX6_exclude 79 = .ok (.iastore, 1) := by decide +kernel
theorem dX6_exclude_80 : decode cX6_exclude 80 = .ok (.aload_n 0, 1) := by decide +kernel
theorem dX6_exclude_81 : decode cX6_exclude 81 = .ok (.getfield 62, 3) := by decide +kernel
theorem dX6_exclude_84 : decode cX6_exclude 84 = .ok (.iload_n 2, 1) := by decide +kernel
theorem dX6_exclude_85 : decode cX6_exclude 85 = .ok (.dup2, 1) := by decide +kernel
theorem dX6_exclude_86 : decode cX6_exclude 86 = .ok (.iaload, 1) := by decide +kernel
theorem dX6_exclude_87 : decode cX6_exclude 87 = .ok (.iconst 1, 1) := by decide +kernel
theorem dX6_exclude_88 : decode cX6_exclude 88 = .ok (.iload_n 1, 1) := by decide +kernel
theorem dX6_exclude_89 : decode cX6_exclude 89 = .ok (.ishl, 1) := by decide +kernel
theorem dX6_exclude_90 : decode cX6_exclude 90 = .ok (.ixor, 1) := by decide +kernel
theorem dX6_exclude_91 : decode cX6_exclude 91 = .ok (.iastore, 1) := by decide +kernel
theorem dX6_exclude_92 : decode cX6_exclude 92 = .ok (.iload 4, 2) := by decide +kernel
theorem dX6_exclude_94 : decode cX6_exclude 94 = .ok (.ireturn, 1) := by decide +kernel
theorem dX6_changes_0 : decode cX6_changes 0 = .ok (.aload_n 0, 1) := by decide +kernel
theorem dX6_changes_1 : decode cX6_changes 1 = .ok (.iconst 0, 1) := by decide +kernel
theorem dX6_changes_2 : decode cX6_changes 2 = .ok (.putfield 74, 3) := by decide +kernel
theorem dX6_changes_5 : decode cX6_changes 5 = .ok (.aload_n 0, 1) := by decide +kernel
theorem dX6_changes_6 : decode cX6_changes 6 = .ok (.getfield 84, 3) := by decide +kernel
theorem dX6_changes_9 : decode cX6_changes 9 = .ok (.ireturn, 1) := by decide +kernel
theorem dX6_state_0 : decode cX6_state 0 = .ok (.aload_n 0, 1) := by decide +kernel
theorem dX6_state_1 : decode cX6_state 1 = .ok (.iconst 0, 1) := by decide +kernel
theorem dX6_state_2 : decode cX6_state 2 = .ok (.putfield 74, 3) := by decide +kernel
theorem dX6_state_5 : decode cX6_state 5 = .ok (.aload_n 0, 1) := by decide +kernel
theorem dX6_state_6 : decode cX6_state 6 = .ok (.iload_n 1, 1) := by decide +kernel
theorem dX6_state_7 : decode cX6_state 7 = .ok (.invokevirtual 157, 3) := by decide +kernel
theorem dX6_state_10 : decode cX6_state 10 = .ok (.ifCond .eq 12, 3) := by decide +kernel
theorem dX6_state_13 : decode cX6_state 13 = .ok (.aload_n 0, 1) := by decide +kernel
theorem dX6_state_14 : decode cX6_state 14 = .ok (.getfield 50, 3) := by decide +kernel
theorem dX6_state_17 : decode cX6_state 17 = .ok (.iload_n 1, 1) := by decide +kernel
theorem dX6_state_18 : decode cX6_state 18 = .ok (.iaload, 1) := by decide +kernel
theorem dX6_state_19 : decode cX6_state 19 = .ok (.goto 8, 3) := by decide +kernel
theorem dX6_state_22 : decode cX6_state 22 = .ok (.aload_n 0, 1) := by decide +kernel
theorem dX6_state_23 : decode cX6_state 23 = .ok (.iconst 1, 1) := by decide +kernel
theorem dX6_state_24 : decode cX6_state 24 = .ok (.invokevirtual 112, 3) := by decide +kernel
theorem dX6_state_27 : decode cX6_state 27 = .ok (.ireturn, 1) := by decide +kernel
theorem dX6_rank_0 : decode cX6_rank 0 = .ok (.aload_n 0, 1) := by decide +kernel
theorem dX6_rank_1 : decode cX6_rank 1 = .ok (.iconst 0, 1) := by decide +kernel
theorem dX6_rank_2 : decode cX6_rank 2 = .ok (.putfield 74, 3) := by decide +kernel
theorem dX6_rank_5 : decode cX6_rank 5 = .ok (.aload_n 0, 1) := by decide +kernel
theorem dX6_rank_6 : decode cX6_rank 6 = .ok (.iload_n 1, 1) := by decide +kernel
theorem dX6_rank_7 : decode cX6_rank 7 = .ok (.invokevirtual 157, 3) := by decide +kernel
theorem dX6_rank_10 : decode cX6_rank 10 = .ok (.ifCond .eq 12, 3) := by decide +kernel
theorem dX6_rank_13 : decode cX6_rank 13 = .ok (.aload_n 0, 1) := by decide +kernel
theorem dX6_rank_14 : decode cX6_rank 14 = .ok (.getfield 53, 3) := by decide +kernel
theorem dX6_rank_17 : decode cX6_rank 17 = .ok (.iload_n 1, 1) := by decide +kernel
theorem dX6_rank_18 : decode cX6_rank 18 = .ok (.iaload, 1) := by decide +kernel
theorem dX6_rank_19 : decode cX6_rank 19 = .ok (.goto 8, 3) := by decide +kernel
theorem dX6_rank_22 : decode cX6_rank 22 = .ok (.aload_n 0, 1) := by decide +kernel
theorem dX6_rank_23 : decode cX6_rank 23 = .ok (.iconst 1, 1) := by decide +kernel
theorem dX6_rank_24 : decode cX6_rank 24 = .ok (.invokevirtual 112, 3) := by decide +kernel
theorem dX6_rank_27 : decode cX6_rank 27 = .ok (.ireturn, 1) := by decide +kernel
theorem dX6_approvals_0 : decode cX6_approvals 0 = .ok (.aload_n 0, 1) := by decide +kernel
theorem dX6_approvals_1 : decode cX6_approvals 1 = .ok (.iconst 0, 1) := by decide +kernel
theorem dX6_approvals_2 : decode cX6_approvals 2 = .ok (.putfield 74, 3) := by decide +kernel
theorem dX6_approvals_5 : decode cX6_approvals 5 = .ok (.aload_n 0, 1) := by decide +kernel
theorem dX6_approvals_6 : decode cX6_approvals 6 = .ok (.iload_n 1, 1) := by decide +kernel
theorem dX6_approvals_7 : decode cX6_approvals 7 = .ok (.invokevirtual 157, 3) := by decide +kernel
theorem dX6_approvals_10 : decode cX6_approvals 10 = .ok (.ifCond .eq 11, 3) := by decide +kernel
theorem dX6_approvals_13 : decode cX6_approvals 13 = .ok (.aload_n 0, 1) := by decide +kernel
theorem dX6_approvals_14 : decode cX6_approvals 14 = .ok (.iload_n 1, 1) := by decide +kernel
theorem dX6_approvals_15 : decode cX6_approvals 15 = .ok (.invokevirtual 115, 3) := by decide +kernel
theorem dX6_approvals_18 : decode cX6_approvals 18 = .ok (.goto 8, 3) := by decide +kernel
theorem dX6_approvals_21 : decode cX6_approvals 21 = .ok (.aload_n 0, 1) := by decide +kernel
theorem dX6_approvals_22 : decode cX6_approvals 22 = .ok (.iconst 1, 1) := by decide +kernel
theorem dX6_approvals_23 : decode cX6_approvals 23 = .ok (.invokevirtual 112, 3) := by decide +kernel
theorem dX6_approvals_26 : decode cX6_approvals 26 = .ok (.ireturn, 1) := by decide +kernel
theorem dX6_told_0 : decode cX6_told 0 = .ok (.aload_n 0, 1) := by decide +kernel
theorem dX6_told_1 : decode cX6_told 1 = .ok (.iconst 0, 1) := by decide +kernel
theorem dX6_told_2 : decode cX6_told 2 = .ok (.putfield 74, 3) := by decide +kernel
theorem dX6_told_5 : decode cX6_told 5 = .ok (.aload_n 0, 1) := by decide +kernel
theorem dX6_told_6 : decode cX6_told 6 = .ok (.iload_n 1, 1) := by decide +kernel
theorem dX6_told_7 : decode cX6_told 7 = .ok (.invokevirtual 151, 3) := by decide +kernel
theorem dX6_told_10 : decode cX6_told 10 = .ok (.ifCond .eq 10, 3) := by decide +kernel
theorem dX6_told_13 : decode cX6_told 13 = .ok (.iload_n 2, 1) := by decide +kernel
theorem dX6_told_14 : decode cX6_told 14 = .ok (.invokestatic 154, 3) := by decide +kernel
theorem dX6_told_17 : decode cX6_told 17 = .ok (.ifCond .ne 9, 3) := by decide +kernel
theorem dX6_told_20 : decode cX6_told 20 = .ok (.aload_n 0, 1) := by decide +kernel
theorem dX6_told_21 : decode cX6_told 21 = .ok (.iconst 1, 1) := by decide +kernel
theorem dX6_told_22 : decode cX6_told 22 = .ok (.invokevirtual 112, 3) := by decide +kernel
theorem dX6_told_25 : decode cX6_told 25 = .ok (.ireturn, 1) := by decide +kernel
theorem dX6_told_26 : decode cX6_told 26 = .ok (.aload_n 0, 1) := by decide +kernel
theorem dX6_told_27 : decode cX6_told 27 = .ok (.iload_n 1, 1) := by decide +kernel
theorem dX6_told_28 : decode cX6_told 28 = .ok (.iload_n 2, 1) := by decide +kernel
theorem dX6_told_29 : decode cX6_told 29 = .ok (.invokevirtual 91, 3) := by decide +kernel
theorem dX6_told_32 : decode cX6_told 32 = .ok (.istore_n 3, 1) := by decide +kernel
theorem dX6_told_33 : decode cX6_told 33 = .ok (.iload_n 3, 1) := by decide +kernel
theorem dX6_told_34 : decode cX6_told 34 = .ok (.iconst (-1), 1) := by decide +kernel
theorem dX6_told_35 : decode cX6_told 35 = .ok (.if_icmp .eq 14, 3) := by decide +kernel
theorem dX6_told_38 : decode cX6_told 38 = .ok (.aload_n 0, 1) := by decide +kernel
theorem dX6_told_39 : decode cX6_told 39 = .ok (.getfield 47, 3) := by decide +kernel
theorem dX6_told_42 : decode cX6_told 42 = .ok (.iload_n 3, 1) := by decide +kernel
theorem dX6_told_43 : decode cX6_told 43 = .ok (.iaload, 1) := by decide +kernel
theorem dX6_told_44 : decode cX6_told 44 = .ok (.bipush 101, 2) := by decide +kernel
theorem dX6_told_46 : decode cX6_told 46 = .ok (.if_icmp .ne 7, 3) := by decide +kernel
theorem dX6_told_49 : decode cX6_told 49 = .ok (.iconst (-1), 1) := by decide +kernel
theorem dX6_told_50 : decode cX6_told 50 = .ok (.goto 9, 3) := by decide +kernel
theorem dX6_told_53 : decode cX6_told 53 = .ok (.aload_n 0, 1) := by decide +kernel
theorem dX6_told_54 : decode cX6_told 54 = .ok (.getfield 47, 3) := by decide +kernel
theorem dX6_told_57 : decode cX6_told 57 = .ok (.iload_n 3, 1) := by decide +kernel
theorem dX6_told_58 : decode cX6_told 58 = .ok (.iaload, 1) := by decide +kernel
theorem dX6_told_59 : decode cX6_told 59 = .ok (.ireturn, 1) := by decide +kernel
theorem dX6_taken_0 : decode cX6_taken 0 = .ok (.aload_n 0, 1) := by decide +kernel
theorem dX6_taken_1 : decode cX6_taken 1 = .ok (.iconst 0, 1) := by decide +kernel
theorem dX6_taken_2 : decode cX6_taken 2 = .ok (.putfield 74, 3) := by decide +kernel
theorem dX6_taken_5 : decode cX6_taken 5 = .ok (.aload_n 0, 1) := by decide +kernel
theorem dX6_taken_6 : decode cX6_taken 6 = .ok (.iload_n 1, 1) := by decide +kernel
theorem dX6_taken_7 : decode cX6_taken 7 = .ok (.invokevirtual 145, 3) := by decide +kernel
theorem dX6_taken_10 : decode cX6_taken 10 = .ok (.ifCond .eq 25, 3) := by decide +kernel
theorem dX6_taken_13 : decode cX6_taken 13 = .ok (.iload_n 2, 1) := by decide +kernel
theorem dX6_taken_14 : decode cX6_taken 14 = .ok (.iconst 0, 1) := by decide +kernel
theorem dX6_taken_15 : decode cX6_taken 15 = .ok (.aload_n 0, 1) := by decide +kernel
theorem dX6_taken_16 : decode cX6_taken 16 = .ok (.iload_n 1, 1) := by decide +kernel
theorem dX6_taken_17 : decode cX6_taken 17 = .ok (.invokevirtual 95, 3) := by decide +kernel
theorem dX6_taken_20 : decode cX6_taken 20 = .ok (.iconst 1, 1) := by decide +kernel
theorem dX6_taken_21 : decode cX6_taken 21 = .ok (.isub, 1) := by decide +kernel
theorem dX6_taken_22 : decode cX6_taken 22 = .ok (.invokestatic 77, 3) := by decide +kernel
theorem dX6_taken_25 : decode cX6_taken 25 = .ok (.ifCond .eq 10, 3) := by decide +kernel
theorem dX6_taken_28 : decode cX6_taken 28 = .ok (.iload_n 3, 1) := by decide +kernel
theorem dX6_taken_29 : decode cX6_taken 29 = .ok (.invokestatic 154, 3) := by decide +kernel
theorem dX6_taken_32 : decode cX6_taken 32 = .ok (.ifCond .ne 9, 3) := by decide +kernel
theorem dX6_taken_35 : decode cX6_taken 35 = .ok (.aload_n 0, 1) := by decide +kernel
theorem dX6_taken_36 : decode cX6_taken 36 = .ok (.iconst 1, 1) := by decide +kernel
theorem dX6_taken_37 : decode cX6_taken 37 = .ok (.invokevirtual 112, 3) := by decide +kernel
theorem dX6_taken_40 : decode cX6_taken 40 = .ok (.ireturn, 1) := by decide +kernel
theorem dX6_taken_41 : decode cX6_taken 41 = .ok (.aload_n 0, 1) := by decide +kernel
theorem dX6_taken_42 : decode cX6_taken 42 = .ok (.getfield 32, 3) := by decide +kernel
theorem dX6_taken_45 : decode cX6_taken 45 = .ok (.aload_n 0, 1) := by decide +kernel
theorem dX6_taken_46 : decode cX6_taken 46 = .ok (.iload_n 1, 1) := by decide +kernel
theorem dX6_taken_47 : decode cX6_taken 47 = .ok (.aload_n 0, 1) := by decide +kernel
theorem dX6_taken_48 : decode cX6_taken 48 = .ok (.iload_n 1, 1) := by decide +kernel
theorem dX6_taken_49 : decode cX6_taken 49 = .ok (.iload_n 2, 1) := by decide +kernel
theorem dX6_taken_50 : decode cX6_taken 50 = .ok (.invokevirtual 99, 3) := by decide +kernel
theorem dX6_taken_53 : decode cX6_taken 53 = .ok (.invokevirtual 102, 3) := by decide +kernel
theorem dX6_taken_56 : decode cX6_taken 56 = .ok (.iload_n 3, 1) := by decide +kernel
theorem dX6_taken_57 : decode cX6_taken 57 = .ok (.iadd, 1) := by decide +kernel
theorem dX6_taken_58 : decode cX6_taken 58 = .ok (.iaload, 1) := by decide +kernel
theorem dX6_taken_59 : decode cX6_taken 59 = .ok (.ireturn, 1) := by decide +kernel
theorem dX6_isAsked_0 : decode cX6_isAsked 0 = .ok (.aload_n 0, 1) := by decide +kernel
theorem dX6_isAsked_1 : decode cX6_isAsked 1 = .ok (.aload_n 0, 1) := by decide +kernel
theorem dX6_isAsked_2 : decode cX6_isAsked 2 = .ok (.iload_n 1, 1) := by decide +kernel
theorem dX6_isAsked_3 : decode cX6_isAsked 3 = .ok (.invokevirtual 145, 3) := by decide +kernel
theorem dX6_isAsked_6 : decode cX6_isAsked 6 = .ok (.ifCond .eq 14, 3) := by decide +kernel
theorem dX6_isAsked_9 : decode cX6_isAsked 9 = .ok (.iload_n 2, 1) := by decide +kernel
theorem dX6_isAsked_10 : decode cX6_isAsked 10 = .ok (.invokestatic 154, 3) := by decide +kernel
theorem dX6_isAsked_13 : decode cX6_isAsked 13 = .ok (.ifCond .eq 7, 3) := by decide +kernel
theorem dX6_isAsked_16 : decode cX6_isAsked 16 = .ok (.iconst 0, 1) := by decide +kernel
theorem dX6_isAsked_17 : decode cX6_isAsked 17 = .ok (.goto 4, 3) := by decide +kernel
theorem dX6_isAsked_20 : decode cX6_isAsked 20 = .ok (.iconst 1, 1) := by decide +kernel
theorem dX6_isAsked_21 : decode cX6_isAsked 21 = .ok (.putfield 74, 3) := by decide +kernel
theorem dX6_isAsked_24 : decode cX6_isAsked 24 = .ok (.aload_n 0, 1) := by decide +kernel
theorem dX6_isAsked_25 : decode cX6_isAsked 25 = .ok (.getfield 74, 3) := by decide +kernel
theorem dX6_isAsked_28 : decode cX6_isAsked 28 = .ok (.ifCond .ne 9, 3) := by decide +kernel
theorem dX6_isAsked_31 : decode cX6_isAsked 31 = .ok (.aload_n 0, 1) := by decide +kernel
theorem dX6_isAsked_32 : decode cX6_isAsked 32 = .ok (.iload_n 1, 1) := by decide +kernel
theorem dX6_isAsked_33 : decode cX6_isAsked 33 = .ok (.iload_n 3, 1) := by decide +kernel
theorem dX6_isAsked_34 : decode cX6_isAsked 34 = .ok (.invokevirtual 163, 3) := by decide +kernel
theorem dX6_isAsked_37 : decode cX6_isAsked 37 = .ok (.aload_n 0, 1) := by decide +kernel
theorem dX6_isAsked_38 : decode cX6_isAsked 38 = .ok (.getfield 74, 3) := by decide +kernel
theorem dX6_isAsked_41 : decode cX6_isAsked 41 = .ok (.ifCond .ne 7, 3) := by decide +kernel
theorem dX6_isAsked_44 : decode cX6_isAsked 44 = .ok (.iconst 1, 1) := by decide +kernel
theorem dX6_isAsked_45 : decode cX6_isAsked 45 = .ok (.goto 4, 3) := by decide +kernel
theorem dX6_isAsked_48 : decode cX6_isAsked 48 = .ok (.iconst 0, 1) := by decide +kernel
theorem dX6_isAsked_49 : decode cX6_isAsked 49 = .ok (.ireturn, 1) := by decide +kernel
theorem dX6_runs_0 : decode cX6_runs 0 = .ok (.aload_n 0, 1) := by decide +kernel
theorem dX6_runs_1 : decode cX6_runs 1 = .ok (.iload_n 1, 1) := by decide +kernel
theorem dX6_runs_2 : decode cX6_runs 2 = .ok (.iload_n 2, 1) := by decide +kernel
theorem dX6_runs_3 : decode cX6_runs 3 = .ok (.iconst 1, 1) := by decide +kernel
theorem dX6_runs_4 : decode cX6_runs 4 = .ok (.invokevirtual 167, 3) := by decide +kernel
theorem dX6_runs_7 : decode cX6_runs 7 = .ok (.ifCond .ne 5, 3) := by decide +kernel
theorem dX6_runs_10 : decode cX6_runs 10 = .ok (.iconst 0, 1) := by decide +kernel
theorem dX6_runs_11 : decode cX6_runs 11 = .ok (.ireturn, 1) := by decide +kernel
theorem dX6_runs_12 : decode cX6_runs 12 = .ok (.aload_n 0, 1) := by decide +kernel
theorem dX6_runs_13 : decode cX6_runs 13 = .ok (.iload_n 1, 1) := by decide +kernel
theorem dX6_runs_14 : decode cX6_runs 14 = .ok (.invokevirtual 118, 3) := by decide +kernel
theorem dX6_runs_17 : decode cX6_runs 17 = .ok (.ifCond .ne 11, 3) := by decide +kernel
theorem dX6_runs_20 : decode cX6_runs 20 = .ok (.aload_n 0, 1) := by decide +kernel
theorem dX6_runs_21 : decode cX6_runs 21 = .ok (.iload_n 2, 1) := by decide +kernel
theorem dX6_runs_22 : decode cX6_runs 22 = .ok (.invokevirtual 171, 3) := by decide +kernel
theorem dX6_runs_25 : decode cX6_runs 25 = .ok (.ifCond .eq 7, 3) := by decide +kernel
theorem dX6_runs_28 : decode cX6_runs 28 = .ok (.iconst (-1), 1) := by decide +kernel
theorem dX6_runs_29 : decode cX6_runs 29 = .ok (.goto 9, 3) := by decide +kernel
theorem dX6_runs_32 : decode cX6_runs 32 = .ok (.aload_n 0, 1) := by decide +kernel
theorem dX6_runs_33 : decode cX6_runs 33 = .ok (.getfield 65, 3) := by decide +kernel
theorem dX6_runs_36 : decode cX6_runs 36 = .ok (.iload_n 2, 1) := by decide +kernel
theorem dX6_runs_37 : decode cX6_runs 37 = .ok (.iaload, 1) := by decide +kernel
theorem dX6_runs_38 : decode cX6_runs 38 = .ok (.ireturn, 1) := by decide +kernel
theorem dX6_layerOf_0 : decode cX6_layerOf 0 = .ok (.aload_n 0, 1) := by decide +kernel
theorem dX6_layerOf_1 : decode cX6_layerOf 1 = .ok (.iload_n 1, 1) := by decide +kernel
theorem dX6_layerOf_2 : decode cX6_layerOf 2 = .ok (.iload_n 2, 1) := by decide +kernel
theorem dX6_layerOf_3 : decode cX6_layerOf 3 = .ok (.iconst 1, 1) := by decide +kernel
theorem dX6_layerOf_4 : decode cX6_layerOf 4 = .ok (.invokevirtual 167, 3) := by decide +kernel
theorem dX6_layerOf_7 : decode cX6_layerOf 7 = .ok (.ifCond .ne 5, 3) := by decide +kernel
theorem dX6_layerOf_10 : decode cX6_layerOf 10 = .ok (.iconst 0, 1) := by decide +kernel
theorem dX6_layerOf_11 : decode cX6_layerOf 11 = .ok (.ireturn, 1) := by decide +kernel
theorem dX6_layerOf_12 : decode cX6_layerOf 12 = .ok (.aload_n 0, 1) := by decide +kernel
theorem dX6_layerOf_13 : decode cX6_layerOf 13 = .ok (.iload_n 1, 1) := by decide +kernel
theorem dX6_layerOf_14 : decode cX6_layerOf 14 = .ok (.invokevirtual 118, 3) := by decide +kernel
theorem dX6_layerOf_17 : decode cX6_layerOf 17 = .ok (.ifCond .ne 11, 3) := by decide +kernel
theorem dX6_layerOf_20 : decode cX6_layerOf 20 = .ok (.aload_n 0, 1) := by decide +kernel
theorem dX6_layerOf_21 : decode cX6_layerOf 21 = .ok (.iload_n 2, 1) := by decide +kernel
theorem dX6_layerOf_22 : decode cX6_layerOf 22 = .ok (.invokevirtual 171, 3) := by decide +kernel
theorem dX6_layerOf_25 : decode cX6_layerOf 25 = .ok (.ifCond .eq 7, 3) := by decide +kernel
theorem dX6_layerOf_28 : decode cX6_layerOf 28 = .ok (.iconst (-1), 1) := by decide +kernel
theorem dX6_layerOf_29 : decode cX6_layerOf 29 = .ok (.goto 9, 3) := by decide +kernel
theorem dX6_layerOf_32 : decode cX6_layerOf 32 = .ok (.aload_n 0, 1) := by decide +kernel
theorem dX6_layerOf_33 : decode cX6_layerOf 33 = .ok (.getfield 68, 3) := by decide +kernel
theorem dX6_layerOf_36 : decode cX6_layerOf 36 = .ok (.iload_n 2, 1) := by decide +kernel
theorem dX6_layerOf_37 : decode cX6_layerOf 37 = .ok (.iaload, 1) := by decide +kernel
theorem dX6_layerOf_38 : decode cX6_layerOf 38 = .ok (.ireturn, 1) := by decide +kernel
theorem dX6_isDue_0 : decode cX6_isDue 0 = .ok (.aload_n 0, 1) := by decide +kernel
theorem dX6_isDue_1 : decode cX6_isDue 1 = .ok (.iload_n 1, 1) := by decide +kernel
theorem dX6_isDue_2 : decode cX6_isDue 2 = .ok (.iload_n 2, 1) := by decide +kernel
theorem dX6_isDue_3 : decode cX6_isDue 3 = .ok (.iconst 0, 1) := by decide +kernel
theorem dX6_isDue_4 : decode cX6_isDue 4 = .ok (.invokevirtual 167, 3) := by decide +kernel
theorem dX6_isDue_7 : decode cX6_isDue 7 = .ok (.ifCond .ne 5, 3) := by decide +kernel
theorem dX6_isDue_10 : decode cX6_isDue 10 = .ok (.iconst 0, 1) := by decide +kernel
theorem dX6_isDue_11 : decode cX6_isDue 11 = .ok (.ireturn, 1) := by decide +kernel
theorem dX6_isDue_12 : decode cX6_isDue 12 = .ok (.aload_n 0, 1) := by decide +kernel
theorem dX6_isDue_13 : decode cX6_isDue 13 = .ok (.iload_n 2, 1) := by decide +kernel
theorem dX6_isDue_14 : decode cX6_isDue 14 = .ok (.invokevirtual 171, 3) := by decide +kernel
theorem dX6_isDue_17 : decode cX6_isDue 17 = .ok (.ifCond .eq 7, 3) := by decide +kernel
theorem dX6_isDue_20 : decode cX6_isDue 20 = .ok (.iconst (-1), 1) := by decide +kernel
theorem dX6_isDue_21 : decode cX6_isDue 21 = .ok (.goto 9, 3) := by decide +kernel
theorem dX6_isDue_24 : decode cX6_isDue 24 = .ok (.aload_n 0, 1) := by decide +kernel
theorem dX6_isDue_25 : decode cX6_isDue 25 = .ok (.getfield 65, 3) := by decide +kernel
theorem dX6_isDue_28 : decode cX6_isDue 28 = .ok (.iload_n 2, 1) := by decide +kernel
theorem dX6_isDue_29 : decode cX6_isDue 29 = .ok (.iaload, 1) := by decide +kernel
theorem dX6_isDue_30 : decode cX6_isDue 30 = .ok (.ireturn, 1) := by decide +kernel
theorem dX6_due_0 : decode cX6_due 0 = .ok (.aload_n 0, 1) := by decide +kernel
theorem dX6_due_1 : decode cX6_due 1 = .ok (.iload_n 1, 1) := by decide +kernel
theorem dX6_due_2 : decode cX6_due 2 = .ok (.iload_n 2, 1) := by decide +kernel
theorem dX6_due_3 : decode cX6_due 3 = .ok (.invokevirtual 174, 3) := by decide +kernel
theorem dX6_due_6 : decode cX6_due 6 = .ok (.ireturn, 1) := by decide +kernel
theorem dX6_dueAnew_0 : decode cX6_dueAnew 0 = .ok (.aload_n 0, 1) := by decide +kernel
theorem dX6_dueAnew_1 : decode cX6_dueAnew 1 = .ok (.iload_n 1, 1) := by decide +kernel
theorem dX6_dueAnew_2 : decode cX6_dueAnew 2 = .ok (.iload_n 2, 1) := by decide +kernel
theorem dX6_dueAnew_3 : decode cX6_dueAnew 3 = .ok (.invokevirtual 174, 3) := by decide +kernel
theorem dX6_dueAnew_6 : decode cX6_dueAnew 6 = .ok (.ireturn, 1) := by decide +kernel
theorem dX6_behind_0 : decode cX6_behind 0 = .ok (.aload_n 0, 1) := by decide +kernel
theorem dX6_behind_1 : decode cX6_behind 1 = .ok (.iconst 0, 1) := by decide +kernel
theorem dX6_behind_2 : decode cX6_behind 2 = .ok (.putfield 74, 3) := by decide +kernel
theorem dX6_behind_5 : decode cX6_behind 5 = .ok (.aload_n 0, 1) := by decide +kernel
theorem dX6_behind_6 : decode cX6_behind 6 = .ok (.iload_n 1, 1) := by decide +kernel
theorem dX6_behind_7 : decode cX6_behind 7 = .ok (.invokevirtual 145, 3) := by decide +kernel
theorem dX6_behind_10 : decode cX6_behind 10 = .ok (.ifCond .ne 9, 3) := by decide +kernel
theorem dX6_behind_13 : decode cX6_behind 13 = .ok (.aload_n 0, 1) := by decide +kernel
theorem dX6_behind_14 : decode cX6_behind 14 = .ok (.iconst 1, 1) := by decide +kernel
theorem dX6_behind_15 : decode cX6_behind 15 = .ok (.invokevirtual 112, 3) := by decide +kernel
theorem dX6_behind_18 : decode cX6_behind 18 = .ok (.ireturn, 1) := by decide +kernel
theorem dX6_behind_19 : decode cX6_behind 19 = .ok (.iconst 0, 1) := by decide +kernel
theorem dX6_behind_20 : decode cX6_behind 20 = .ok (.istore_n 2, 1) := by decide +kernel
theorem dX6_behind_21 : decode cX6_behind 21 = .ok (.iconst 0, 1) := by decide +kernel
theorem dX6_behind_22 : decode cX6_behind 22 = .ok (.istore_n 3, 1) := by decide +kernel
theorem dX6_behind_23 : decode cX6_behind 23 = .ok (.iload_n 3, 1) := by decide +kernel
theorem dX6_behind_24 : decode cX6_behind 24 = .ok (.aload_n 0, 1) := by decide +kernel
theorem dX6_behind_25 : decode cX6_behind 25 = .ok (.iload_n 1, 1) := by decide +kernel
theorem dX6_behind_26 : decode cX6_behind 26 = .ok (.invokevirtual 95, 3) := by decide +kernel
theorem dX6_behind_29 : decode cX6_behind 29 = .ok (.if_icmp .ge 26, 3) := by decide +kernel
theorem dX6_behind_32 : decode cX6_behind 32 = .ok (.iload_n 2, 1) := by decide +kernel
theorem dX6_behind_33 : decode cX6_behind 33 = .ok (.aload_n 0, 1) := by decide +kernel
theorem dX6_behind_34 : decode cX6_behind 34 = .ok (.iload_n 1, 1) := by decide +kernel
theorem dX6_behind_35 : decode cX6_behind 35 = .ok (.iload_n 3, 1) := by decide +kernel
theorem dX6_behind_36 : decode cX6_behind 36 = .ok (.invokevirtual 127, 3) := by decide +kernel
theorem dX6_behind_39 : decode cX6_behind 39 = .ok (.ifCond .eq 7, 3) := by decide +kernel
theorem dX6_behind_42 : decode cX6_behind 42 = .ok (.iconst 1, 1) := by decide +kernel
theorem dX6_behind_43 : decode cX6_behind 43 = .ok (.goto 4, 3) := by decide +kernel
theorem dX6_behind_46 : decode cX6_behind 46 = .ok (.iconst 0, 1) := by decide +kernel
theorem dX6_behind_47 : decode cX6_behind 47 = .ok (.iadd, 1) := by decide +kernel
theorem dX6_behind_48 : decode cX6_behind 48 = .ok (.istore_n 2, 1) := by decide +kernel
theorem dX6_behind_49 : decode cX6_behind 49 = .ok (.iinc 3 1, 3) := by decide +kernel
theorem dX6_behind_52 : decode cX6_behind 52 = .ok (.goto (-29), 3) := by decide +kernel
theorem dX6_behind_55 : decode cX6_behind 55 = .ok (.iload_n 2, 1) := by decide +kernel
theorem dX6_behind_56 : decode cX6_behind 56 = .ok (.ireturn, 1) := by decide +kernel
theorem dX6_hidden_0 : decode cX6_hidden 0 = .ok (.aload_n 0, 1) := by decide +kernel
theorem dX6_hidden_1 : decode cX6_hidden 1 = .ok (.iload_n 1, 1) := by decide +kernel
theorem dX6_hidden_2 : decode cX6_hidden 2 = .ok (.iconst 0, 1) := by decide +kernel
theorem dX6_hidden_3 : decode cX6_hidden 3 = .ok (.iconst 0, 1) := by decide +kernel
theorem dX6_hidden_4 : decode cX6_hidden 4 = .ok (.invokevirtual 167, 3) := by decide +kernel
theorem dX6_hidden_7 : decode cX6_hidden 7 = .ok (.ifCond .ne 5, 3) := by decide +kernel
theorem dX6_hidden_10 : decode cX6_hidden 10 = .ok (.iconst 0, 1) := by decide +kernel
theorem dX6_hidden_11 : decode cX6_hidden 11 = .ok (.ireturn, 1) := by decide +kernel
theorem dX6_hidden_12 : decode cX6_hidden 12 = .ok (.iconst 0, 1) := by decide +kernel
theorem dX6_hidden_13 : decode cX6_hidden 13 = .ok (.istore_n 2, 1) := by decide +kernel
theorem dX6_hidden_14 : decode cX6_hidden 14 = .ok (.iconst 0, 1) := by decide +kernel
theorem dX6_hidden_15 : decode cX6_hidden 15 = .ok (.istore_n 3, 1) := by decide +kernel
theorem dX6_hidden_16 : decode cX6_hidden 16 = .ok (.iload_n 3, 1) := by decide +kernel
theorem dX6_hidden_17 : decode cX6_hidden 17 = .ok (.bipush 6, 2) := by decide +kernel
theorem dX6_hidden_19 : decode cX6_hidden 19 = .ok (.if_icmp .ge 27, 3) := by decide +kernel
theorem dX6_hidden_22 : decode cX6_hidden 22 = .ok (.iload_n 2, 1) := by decide +kernel
theorem dX6_hidden_23 : decode cX6_hidden 23 = .ok (.aload_n 0, 1) := by decide +kernel
theorem dX6_hidden_24 : decode cX6_hidden 24 = .ok (.iload_n 3, 1) := by decide +kernel
theorem dX6_hidden_25 : decode cX6_hidden 25 = .ok (.invokevirtual 171, 3) := by decide +kernel
theorem dX6_hidden_28 : decode cX6_hidden 28 = .ok (.ifCond .eq 9, 3) := by decide +kernel
theorem dX6_hidden_31 : decode cX6_hidden 31 = .ok (.iconst 1, 1) := by decide +kernel
theorem dX6_hidden_32 : decode cX6_hidden 32 = .ok (.iload_n 3, 1) := by decide +kernel
theorem dX6_hidden_33 : decode cX6_hidden 33 = .ok (.ishl, 1) := by decide +kernel
theorem dX6_hidden_34 : decode cX6_hidden 34 = .ok (.goto 4, 3) := by decide +kernel
theorem dX6_hidden_37 : decode cX6_hidden 37 = .ok (.iconst 0, 1) := by decide +kernel
theorem dX6_hidden_38 : decode cX6_hidden 38 = .ok (.ior, 1) := by decide +kernel
theorem dX6_hidden_39 : decode cX6_hidden 39 = .ok (.istore_n 2, 1) := by decide +kernel
theorem dX6_hidden_40 : decode cX6_hidden 40 = .ok (.iinc 3 1, 3) := by decide +kernel
theorem dX6_hidden_43 : decode cX6_hidden 43 = .ok (.goto (-27), 3) := by decide +kernel
theorem dX6_hidden_46 : decode cX6_hidden 46 = .ok (.iload_n 2, 1) := by decide +kernel
theorem dX6_hidden_47 : decode cX6_hidden 47 = .ok (.ireturn, 1) := by decide +kernel
theorem dX6_spread_0 : decode cX6_spread 0 = .ok (.aload_n 0, 1) := by decide +kernel
theorem dX6_spread_1 : decode cX6_spread 1 = .ok (.iconst 0, 1) := by decide +kernel
theorem dX6_spread_2 : decode cX6_spread 2 = .ok (.putfield 74, 3) := by decide +kernel
theorem dX6_spread_5 : decode cX6_spread 5 = .ok (.aload_n 0, 1) := by decide +kernel
theorem dX6_spread_6 : decode cX6_spread 6 = .ok (.iload_n 1, 1) := by decide +kernel
theorem dX6_spread_7 : decode cX6_spread 7 = .ok (.invokevirtual 157, 3) := by decide +kernel
theorem dX6_spread_10 : decode cX6_spread 10 = .ok (.ifCond .ne 9, 3) := by decide +kernel
theorem dX6_spread_13 : decode cX6_spread 13 = .ok (.aload_n 0, 1) := by decide +kernel
theorem dX6_spread_14 : decode cX6_spread 14 = .ok (.iconst 1, 1) := by decide +kernel
theorem dX6_spread_15 : decode cX6_spread 15 = .ok (.invokevirtual 112, 3) := by decide +kernel
theorem dX6_spread_18 : decode cX6_spread 18 = .ok (.ireturn, 1) := by decide +kernel
theorem dX6_spread_19 : decode cX6_spread 19 = .ok (.iconst 0, 1) := by decide +kernel
theorem dX6_spread_20 : decode cX6_spread 20 = .ok (.istore_n 2, 1) := by decide +kernel
theorem dX6_spread_21 : decode cX6_spread 21 = .ok (.iconst 0, 1) := by decide +kernel
theorem dX6_spread_22 : decode cX6_spread 22 = .ok (.istore_n 3, 1) := by decide +kernel
theorem dX6_spread_23 : decode cX6_spread 23 = .ok (.iload_n 3, 1) := by decide +kernel
theorem dX6_spread_24 : decode cX6_spread 24 = .ok (.aload_n 0, 1) := by decide +kernel
theorem dX6_spread_25 : decode cX6_spread 25 = .ok (.getfield 81, 3) := by decide +kernel
theorem dX6_spread_28 : decode cX6_spread 28 = .ok (.if_icmp .ge 75, 3) := by decide +kernel
theorem dX6_spread_31 : decode cX6_spread 31 = .ok (.iconst 0, 1) := by decide +kernel
theorem dX6_spread_32 : decode cX6_spread 32 = .ok (.istore 4, 2) := by decide +kernel
theorem dX6_spread_34 : decode cX6_spread 34 = .ok (.aload_n 0, 1) := by decide +kernel
theorem dX6_spread_35 : decode cX6_spread 35 = .ok (.iload_n 3, 1) := by decide +kernel
theorem dX6_spread_36 : decode cX6_spread 36 = .ok (.iconst 0, 1) := by decide +kernel
theorem dX6_spread_37 : decode cX6_spread 37 = .ok (.invokevirtual 102, 3) := by decide +kernel
theorem dX6_spread_40 : decode cX6_spread 40 = .ok (.istore 5, 2) := by decide +kernel
theorem dX6_spread_42 : decode cX6_spread 42 = .ok (.iload 5, 2) := by decide +kernel
theorem dX6_spread_44 : decode cX6_spread 44 = .ok (.aload_n 0, 1) := by decide +kernel
theorem dX6_spread_45 : decode cX6_spread 45 = .ok (.iload_n 3, 1) := by decide +kernel
theorem dX6_spread_46 : decode cX6_spread 46 = .ok (.iconst 1, 1) := by decide +kernel
theorem dX6_spread_47 : decode cX6_spread 47 = .ok (.iadd, 1) := by decide +kernel
theorem dX6_spread_48 : decode cX6_spread 48 = .ok (.iconst 0, 1) := by decide +kernel
theorem dX6_spread_49 : decode cX6_spread 49 = .ok (.invokevirtual 102, 3) := by decide +kernel
theorem dX6_spread_52 : decode cX6_spread 52 = .ok (.if_icmp .ge 32, 3) := by decide +kernel
theorem dX6_spread_55 : decode cX6_spread 55 = .ok (.iload 4, 2) := by decide +kernel
theorem dX6_spread_57 : decode cX6_spread 57 = .ok (.ifCond .ne 14, 3) := by decide +kernel
theorem dX6_spread_60 : decode cX6_spread 60 = .ok (.aload_n 0, 1) := by decide +kernel
theorem dX6_spread_61 : decode cX6_spread 61 = .ok (.getfield 32, 3) := by decide +kernel
theorem dX6_spread_64 : decode cX6_spread 64 = .ok (.iload 5, 2) := by decide +kernel
theorem dX6_spread_66 : decode cX6_spread 66 = .ok (.iaload, 1) := by decide +kernel
theorem dX6_spread_67 : decode cX6_spread 67 = .ok (.iload_n 1, 1) := by decide +kernel
theorem dX6_spread_68 : decode cX6_spread 68 = .ok (.if_icmp .ne 7, 3) := by decide +kernel
theorem dX6_spread_71 : decode cX6_spread 71 = .ok (.iconst 1, 1) := by decide +kernel
theorem dX6_spread_72 : decode cX6_spread 72 = .ok (.goto 4, 3) := by decide +kernel
theorem dX6_spread_75 : decode cX6_spread 75 = .ok (.iconst 0, 1) := by decide +kernel
theorem dX6_spread_76 : decode cX6_spread 76 = .ok (.istore 4, 2) := by decide +kernel
theorem dX6_spread_78 : decode cX6_spread 78 = .ok (.iinc 5 1, 3) := by decide +kernel
theorem dX6_spread_81 : decode cX6_spread 81 = .ok (.goto (-39), 3) := by decide +kernel
theorem dX6_spread_84 : decode cX6_spread 84 = .ok (.iload_n 2, 1) := by decide +kernel
theorem dX6_spread_85 : decode cX6_spread 85 = .ok (.iload 4, 2) := by decide +kernel
theorem dX6_spread_87 : decode cX6_spread 87 = .ok (.ifCond .eq 7, 3) := by decide +kernel
theorem dX6_spread_90 : decode cX6_spread 90 = .ok (.iconst 1, 1) := by decide +kernel
theorem dX6_spread_91 : decode cX6_spread 91 = .ok (.goto 4, 3) := by decide +kernel
theorem dX6_spread_94 : decode cX6_spread 94 = .ok (.iconst 0, 1) := by decide +kernel
theorem dX6_spread_95 : decode cX6_spread 95 = .ok (.iadd, 1) := by decide +kernel
theorem dX6_spread_96 : decode cX6_spread 96 = .ok (.istore_n 2, 1) := by decide +kernel
theorem dX6_spread_97 : decode cX6_spread 97 = .ok (.iinc 3 1, 3) := by decide +kernel
theorem dX6_spread_100 : decode cX6_spread 100 = .ok (.goto (-77), 3) := by decide +kernel
theorem dX6_spread_103 : decode cX6_spread 103 = .ok (.iload_n 2, 1) := by decide +kernel
theorem dX6_spread_104 : decode cX6_spread 104 = .ok (.ireturn, 1) := by decide +kernel
end
section
theorem dL_law_0 : decode cL_law 0 = .ok (.new 8, 3) := by decide +kernel
theorem dL_law_3 : decode cL_law 3 = .ok (.dup, 1) := by decide +kernel
theorem dL_law_4 : decode cL_law 4 = .ok (.invokespecial 104, 3) := by decide +kernel
theorem dL_law_7 : decode cL_law 7 = .ok (.astore_n 1, 1) := by decide +kernel
theorem dL_law_8 : decode cL_law 8 = .ok (.new 105, 3) := by decide +kernel
theorem dL_law_11 : decode cL_law 11 = .ok (.dup, 1) := by decide +kernel
theorem dL_law_12 : decode cL_law 12 = .ok (.invokespecial 107, 3) := by decide +kernel
theorem dL_law_15 : decode cL_law 15 = .ok (.astore_n 2, 1) := by decide +kernel
theorem dL_law_16 : decode cL_law 16 = .ok (.iconst 1, 1) := by decide +kernel
theorem dL_law_17 : decode cL_law 17 = .ok (.newarray .long, 2) := by decide +kernel
theorem dL_law_19 : decode cL_law 19 = .ok (.astore_n 3, 1) := by decide +kernel
theorem dL_law_20 : decode cL_law 20 = .ok (.iconst 0, 1) := by decide +kernel
theorem dL_law_21 : decode cL_law 21 = .ok (.istore 4, 2) := by decide +kernel
theorem dL_law_23 : decode cL_law 23 = .ok (.iload 4, 2) := by decide +kernel
theorem dL_law_25 : decode cL_law 25 = .ok (.aload_n 0, 1) := by decide +kernel
theorem dL_law_26 : decode cL_law 26 = .ok (.arraylength, 1) := by decide +kernel
theorem dL_law_27 : decode cL_law 27 = .ok (.iconst 5, 1) := by decide +kernel
theorem dL_law_28 : decode cL_law 28 = .ok (.isub, 1) := by decide +kernel
theorem dL_law_29 : decode cL_law 29 = .ok (.if_icmp .gt 1900, 3) := by decide +kernel
theorem dL_law_32 : decode cL_law 32 = .ok (.aload_n 0, 1) := by decide +kernel
theorem dL_law_33 : decode cL_law 33 = .ok (.iload 4, 2) := by decide +kernel
theorem dL_law_35 : decode cL_law 35 = .ok (.iaload, 1) := by decide +kernel
theorem dL_law_36 : decode cL_law 36 = .ok (.bipush 31, 2) := by decide +kernel
theorem dL_law_38 : decode cL_law 38 = .ok (.iand, 1) := by decide +kernel
theorem dL_law_39 : decode cL_law 39 = .ok (.tableswitch 1884 0 28 #[129, 197, 281, 317, 373, 386, 442, 498, 566, 634, 690, 753, 816, 908, 976, 1012, 1115, 1128, 1184, 1240, 1296, 1364, 1444, 1512, 1580, 1648, 1716, 1772, 1828], 129) := by decide +kernel
theorem dL_law_168 : decode cL_law 168 = .ok (.aload_n 1, 1) := by decide +kernel
theorem dL_law_169 : decode cL_law 169 = .ok (.aload_n 0, 1) := by decide +kernel
theorem dL_law_170 : decode cL_law 170 = .ok (.iload 4, 2) := by decide +kernel
theorem dL_law_172 : decode cL_law 172 = .ok (.iconst 1, 1) := by decide +kernel
theorem dL_law_173 : decode cL_law 173 = .ok (.iadd, 1) := by decide +kernel
theorem dL_law_174 : decode cL_law 174 = .ok (.iaload, 1) := by decide +kernel
theorem dL_law_175 : decode cL_law 175 = .ok (.aload_n 0, 1) := by decide +kernel
theorem dL_law_176 : decode cL_law 176 = .ok (.iload 4, 2) := by decide +kernel
theorem dL_law_178 : decode cL_law 178 = .ok (.iconst 2, 1) := by decide +kernel
theorem dL_law_179 : decode cL_law 179 = .ok (.iadd, 1) := by decide +kernel
theorem dL_law_180 : decode cL_law 180 = .ok (.iaload, 1) := by decide +kernel
theorem dL_law_181 : decode cL_law 181 = .ok (.aload_n 3, 1) := by decide +kernel
theorem dL_law_182 : decode cL_law 182 = .ok (.invokestatic 108, 3) := by decide +kernel
theorem dL_law_185 : decode cL_law 185 = .ok (.istore 5, 2) := by decide +kernel
theorem dL_law_187 : decode cL_law 187 = .ok (.aload_n 2, 1) := by decide +kernel
theorem dL_law_188 : decode cL_law 188 = .ok (.aload_n 0, 1) := by decide +kernel
theorem dL_law_189 : decode cL_law 189 = .ok (.iload 4, 2) := by decide +kernel
theorem dL_law_191 : decode cL_law 191 = .ok (.iconst 1, 1) := by decide +kernel
theorem dL_law_192 : decode cL_law 192 = .ok (.iadd, 1) := by decide +kernel
theorem dL_law_193 : decode cL_law 193 = .ok (.iaload, 1) := by decide +kernel
theorem dL_law_194 : decode cL_law 194 = .ok (.aload_n 0, 1) := by decide +kernel
theorem dL_law_195 : decode cL_law 195 = .ok (.iload 4, 2) := by decide +kernel
theorem dL_law_197 : decode cL_law 197 = .ok (.iconst 2, 1) := by decide +kernel
theorem dL_law_198 : decode cL_law 198 = .ok (.iadd, 1) := by decide +kernel
theorem dL_law_199 : decode cL_law 199 = .ok (.iaload, 1) := by decide +kernel
theorem dL_law_200 : decode cL_law 200 = .ok (.invokevirtual 113, 3) := by decide +kernel
theorem dL_law_203 : decode cL_law 203 = .ok (.istore 6, 2) := by decide +kernel
theorem dL_law_205 : decode cL_law 205 = .ok (.aload_n 2, 1) := by decide +kernel
theorem dL_law_206 : decode cL_law 206 = .ok (.invokevirtual 114, 3) := by decide +kernel
theorem dL_law_209 : decode cL_law 209 = .ok (.iload 5, 2) := by decide +kernel
theorem dL_law_211 : decode cL_law 211 = .ok (.if_icmp .eq 5, 3) := by decide +kernel
theorem dL_law_214 : decode cL_law 214 = .ok (.iconst 0, 1) := by decide +kernel
theorem dL_law_215 : decode cL_law 215 = .ok (.ireturn, 1) := by decide +kernel
theorem dL_law_216 : decode cL_law 216 = .ok (.iload 5, 2) := by decide +kernel
theorem dL_law_218 : decode cL_law 218 = .ok (.ifCond .ne 15, 3) := by decide +kernel
theorem dL_law_221 : decode cL_law 221 = .ok (.aload_n 3, 1) := by decide +kernel
theorem dL_law_222 : decode cL_law 222 = .ok (.iconst 0, 1) := by decide +kernel
theorem dL_law_223 : decode cL_law 223 = .ok (.laload, 1) := by decide +kernel
theorem dL_law_224 : decode cL_law 224 = .ok (.iload 6, 2) := by decide +kernel
theorem dL_law_226 : decode cL_law 226 = .ok (.i2l, 1) := by decide +kernel
theorem dL_law_227 : decode cL_law 227 = .ok (.lcmp, 1) := by decide +kernel
theorem dL_law_228 : decode cL_law 228 = .ok (.ifCond .eq 5, 3) := by decide +kernel
theorem dL_law_231 : decode cL_law 231 = .ok (.iconst 0, 1) := by decide +kernel
theorem dL_law_232 : decode cL_law 232 = .ok (.ireturn, 1) := by decide +kernel
theorem dL_law_233 : decode cL_law 233 = .ok (.goto 1690, 3) := by decide +kernel
theorem dL_law_236 : decode cL_law 236 = .ok (.aload_n 1, 1) := by decide +kernel
theorem dL_law_237 : decode cL_law 237 = .ok (.aload_n 0, 1) := by decide +kernel
theorem dL_law_238 : decode cL_law 238 = .ok (.iload 4, 2) := by decide +kernel
theorem dL_law_240 : decode cL_law 240 = .ok (.iconst 1, 1) := by decide +kernel
theorem dL_law_241 : decode cL_law 241 = .ok (.iadd, 1) := by decide +kernel
theorem dL_law_242 : decode cL_law 242 = .ok (.iaload, 1) := by decide +kernel
theorem dL_law_243 : decode cL_law 243 = .ok (.aload_n 0, 1) := by decide +kernel
theorem dL_law_244 : decode cL_law 244 = .ok (.iload 4, 2) := by decide +kernel
theorem dL_law_246 : decode cL_law 246 = .ok (.iconst 2, 1) := by decide +kernel
theorem dL_law_247 : decode cL_law 247 = .ok (.iadd, 1) := by decide +kernel
theorem dL_law_248 : decode cL_law 248 = .ok (.iaload, 1) := by decide +kernel
theorem dL_law_249 : decode cL_law 249 = .ok (.ifCond .eq 7, 3) := by decide +kernel
theorem dL_law_252 : decode cL_law 252 = .ok (.iconst 1, 1) := by decide +kernel
theorem dL_law_253 : decode cL_law 253 = .ok (.goto 4, 3) := by decide +kernel
theorem dL_law_256 : decode cL_law 256 = .ok (.iconst 0, 1) := by decide +kernel
theorem dL_law_257 : decode cL_law 257 = .ok (.aload_n 3, 1) := by decide +kernel
theorem dL_law_258 : decode cL_law 258 = .ok (.invokestatic 118, 3) := by decide +kernel
theorem dL_law_261 : decode cL_law 261 = .ok (.istore 5, 2) := by decide +kernel
theorem dL_law_263 : decode cL_law 263 = .ok (.aload_n 2, 1) := by decide +kernel
theorem dL_law_264 : decode cL_law 264 = .ok (.aload_n 0, 1) := by decide +kernel
theorem dL_law_265 : decode cL_law 265 = .ok (.iload 4, 2) := by decide +kernel
theorem dL_law_267 : decode cL_law 267 = .ok (.iconst 1, 1) := by decide +kernel
theorem dL_law_268 : decode cL_law 268 = .ok (.iadd, 1) := by decide +kernel
theorem dL_law_269 : decode cL_law 269 = .ok (.iaload, 1) := by decide +kernel
theorem dL_law_270 : decode cL_law 270 = .ok (.aload_n 0, 1) := by decide +kernel
theorem dL_law_271 : decode cL_law 271 = .ok (.iload 4, 2) := by decide +kernel
theorem dL_law_273 : decode cL_law 273 = .ok (.iconst 2, 1) := by decide +kernel
theorem dL_law_274 : decode cL_law 274 = .ok (.iadd, 1) := by decide +kernel
theorem dL_law_275 : decode cL_law 275 = .ok (.iaload, 1) := by decide +kernel
theorem dL_law_276 : decode cL_law 276 = .ok (.ifCond .eq 7, 3) := by decide +kernel
theorem dL_law_279 : decode cL_law 279 = .ok (.iconst 1, 1) := by decide +kernel
theorem dL_law_280 : decode cL_law 280 = .ok (.goto 4, 3) := by decide +kernel
theorem dL_law_283 : decode cL_law 283 = .ok (.iconst 0, 1) := by decide +kernel
theorem dL_law_284 : decode cL_law 284 = .ok (.invokevirtual 121, 3) := by decide +kernel
theorem dL_law_287 : decode cL_law 287 = .ok (.istore 6, 2) := by decide +kernel
theorem dL_law_289 : decode cL_law 289 = .ok (.aload_n 2, 1) := by decide +kernel
theorem dL_law_290 : decode cL_law 290 = .ok (.invokevirtual 114, 3) := by decide +kernel
theorem dL_law_293 : decode cL_law 293 = .ok (.iload 5, 2) := by decide +kernel
theorem dL_law_295 : decode cL_law 295 = .ok (.if_icmp .eq 5, 3) := by decide +kernel
theorem dL_law_298 : decode cL_law 298 = .ok (.iconst 0, 1) := by decide +kernel
theorem dL_law_299 : decode cL_law 299 = .ok (.ireturn, 1) := by decide +kernel
theorem dL_law_300 : decode cL_law 300 = .ok (.iload 5, 2) := by decide +kernel
theorem dL_law_302 : decode cL_law 302 = .ok (.ifCond .ne 15, 3) := by decide +kernel
theorem dL_law_305 : decode cL_law 305 = .ok (.aload_n 3, 1) := by decide +kernel
theorem dL_law_306 : decode cL_law 306 = .ok (.iconst 0, 1) := by decide +kernel
theorem dL_law_307 : decode cL_law 307 = .ok (.laload, 1) := by decide +kernel
theorem dL_law_308 : decode cL_law 308 = .ok (.iload 6, 2) := by decide +kernel
theorem dL_law_310 : decode cL_law 310 = .ok (.i2l, 1) := by decide +kernel
theorem dL_law_311 : decode cL_law 311 = .ok (.lcmp, 1) := by decide +kernel
theorem dL_law_312 : decode cL_law 312 = .ok (.ifCond .eq 5, 3) := by decide +kernel
theorem dL_law_315 : decode cL_law 315 = .ok (.iconst 0, 1) := by decide +kernel
theorem dL_law_316 : decode cL_law 316 = .ok (.ireturn, 1) := by decide +kernel
theorem dL_law_317 : decode cL_law 317 = .ok (.goto 1606, 3) := by decide +kernel
theorem dL_law_320 : decode cL_law 320 = .ok (.aload_n 1, 1) := by decide +kernel
theorem dL_law_321 : decode cL_law 321 = .ok (.aload_n 0, 1) := by decide +kernel
theorem dL_law_322 : decode cL_law 322 = .ok (.iload 4, 2) := by decide +kernel
theorem dL_law_324 : decode cL_law 324 = .ok (.iconst 1, 1) := by decide +kernel
theorem dL_law_325 : decode cL_law 325 = .ok (.iadd, 1) := by decide +kernel
theorem dL_law_326 : decode cL_law 326 = .ok (.iaload, 1) := by decide +kernel
theorem dL_law_327 : decode cL_law 327 = .ok (.invokestatic 122, 3) := by decide +kernel
theorem dL_law_330 : decode cL_law 330 = .ok (.istore 5, 2) := by decide +kernel
theorem dL_law_332 : decode cL_law 332 = .ok (.aload_n 2, 1) := by decide +kernel
theorem dL_law_333 : decode cL_law 333 = .ok (.aload_n 0, 1) := by decide +kernel
theorem dL_law_334 : decode cL_law 334 = .ok (.iload 4, 2) := by decide +kernel
theorem dL_law_336 : decode cL_law 336 = .ok (.iconst 1, 1) := by decide +kernel
theorem dL_law_337 : decode cL_law 337 = .ok (.iadd, 1) := by decide +kernel
theorem dL_law_338 : decode cL_law 338 = .ok (.iaload, 1) := by decide +kernel
theorem dL_law_339 : decode cL_law 339 = .ok (.invokevirtual 125, 3) := by decide +kernel
theorem dL_law_342 : decode cL_law 342 = .ok (.aload_n 2, 1) := by decide +kernel
theorem dL_law_343 : decode cL_law 343 = .ok (.invokevirtual 114, 3) := by decide +kernel
theorem dL_law_346 : decode cL_law 346 = .ok (.iload 5, 2) := by decide +kernel
theorem dL_law_348 : decode cL_law 348 = .ok (.if_icmp .eq 5, 3) := by decide +kernel
theorem dL_law_351 : decode cL_law 351 = .ok (.iconst 0, 1) := by decide +kernel
theorem dL_law_352 : decode cL_law 352 = .ok (.ireturn, 1) := by decide +kernel
theorem dL_law_353 : decode cL_law 353 = .ok (.goto 1570, 3) := by decide +kernel
theorem dL_law_356 : decode cL_law 356 = .ok (.aload_n 1, 1) := by decide +kernel
theorem dL_law_357 : decode cL_law 357 = .ok (.aload_n 0, 1) := by decide +kernel
theorem dL_law_358 : decode cL_law 358 = .ok (.iload 4, 2) := by decide +kernel
theorem dL_law_360 : decode cL_law 360 = .ok (.iconst 1, 1) := by decide +kernel
theorem dL_law_361 : decode cL_law 361 = .ok (.iadd, 1) := by decide +kernel
theorem dL_law_362 : decode cL_law 362 = .ok (.iaload, 1) := by decide +kernel
theorem dL_law_363 : decode cL_law 363 = .ok (.aload_n 3, 1) := by decide +kernel
theorem dL_law_364 : decode cL_law 364 = .ok (.invokestatic 126, 3) := by decide +kernel
theorem dL_law_367 : decode cL_law 367 = .ok (.istore 5, 2) := by decide +kernel
theorem dL_law_369 : decode cL_law 369 = .ok (.aload_n 2, 1) := by decide +kernel
theorem dL_law_370 : decode cL_law 370 = .ok (.aload_n 0, 1) := by decide +kernel
theorem dL_law_371 : decode cL_law 371 = .ok (.iload 4, 2) := by decide +kernel
theorem dL_law_373 : decode cL_law 373 = .ok (.iconst 1, 1) := by decide +kernel
theorem dL_law_374 : decode cL_law 374 = .ok (.iadd, 1) := by decide +kernel
theorem dL_law_375 : decode cL_law 375 = .ok (.iaload, 1) := by decide +kernel
theorem dL_law_376 : decode cL_law 376 = .ok (.invokevirtual 129, 3) := by decide +kernel
theorem dL_law_379 : decode cL_law 379 = .ok (.istore 6, 2) := by decide +kernel
theorem dL_law_381 : decode cL_law 381 = .ok (.aload_n 2, 1) := by decide +kernel
theorem dL_law_382 : decode cL_law 382 = .ok (.invokevirtual 114, 3) := by decide +kernel
theorem dL_law_385 : decode cL_law 385 = .ok (.iload 5, 2) := by decide +kernel
theorem dL_law_387 : decode cL_law 387 = .ok (.if_icmp .eq 5, 3) := by decide +kernel
theorem dL_law_390 : decode cL_law 390 = .ok (.iconst 0, 1) := by decide +kernel
theorem dL_law_391 : decode cL_law 391 = .ok (.ireturn, 1) := by decide +kernel
theorem dL_law_392 : decode cL_law 392 = .ok (.iload 5, 2) := by decide +kernel
theorem dL_law_394 : decode cL_law 394 = .ok (.ifCond .ne 15, 3) := by decide +kernel
theorem dL_law_397 : decode cL_law 397 = .ok (.aload_n 3, 1) := by decide +kernel
theorem dL_law_398 : decode cL_law 398 = .ok (.iconst 0, 1) := by decide +kernel
theorem dL_law_399 : decode cL_law 399 = .ok (.laload, 1) := by decide +kernel
theorem dL_law_400 : decode cL_law 400 = .ok (.iload 6, 2) := by decide +kernel
theorem dL_law_402 : decode cL_law 402 = .ok (.i2l, 1) := by decide +kernel
theorem dL_law_403 : decode cL_law 403 = .ok (.lcmp, 1) := by decide +kernel
theorem dL_law_404 : decode cL_law 404 = .ok (.ifCond .eq 5, 3) := by decide +kernel
theorem dL_law_407 : decode cL_law 407 = .ok (.iconst 0, 1) := by decide +kernel
theorem dL_law_408 : decode cL_law 408 = .ok (.ireturn, 1) := by decide +kernel
theorem dL_law_409 : decode cL_law 409 = .ok (.goto 1514, 3) := by decide +kernel
theorem dL_law_412 : decode cL_law 412 = .ok (.aload_n 1, 1) := by decide +kernel
theorem dL_law_413 : decode cL_law 413 = .ok (.invokevirtual 130, 3) := by decide +kernel
theorem dL_law_416 : decode cL_law 416 = .ok (.aload_n 2, 1) := by decide +kernel
theorem dL_law_417 : decode cL_law 417 = .ok (.invokevirtual 133, 3) := by decide +kernel
theorem dL_law_420 : decode cL_law 420 = .ok (.if_icmp .eq 1503, 3) := by decide +kernel
theorem dL_law_423 : decode cL_law 423 = .ok (.iconst 0, 1) := by decide +kernel
theorem dL_law_424 : decode cL_law 424 = .ok (.ireturn, 1) := by decide +kernel
theorem dL_law_425 : decode cL_law 425 = .ok (.aload_n 1, 1) := by decide +kernel
theorem dL_law_426 : decode cL_law 426 = .ok (.aload_n 0, 1) := by decide +kernel
theorem dL_law_427 : decode cL_law 427 = .ok (.iload 4, 2) := by decide +kernel
theorem dL_law_429 : decode cL_law 429 = .ok (.iconst 1, 1) := by decide +kernel
theorem dL_law_430 : decode cL_law 430 = .ok (.iadd, 1) := by decide +kernel
theorem dL_law_431 : decode cL_law 431 = .ok (.iaload, 1) := by decide +kernel
theorem dL_law_432 : decode cL_law 432 = .ok (.aload_n 3, 1) := by decide +kernel
theorem dL_law_433 : decode cL_law 433 = .ok (.invokestatic 134, 3) := by decide +kernel
theorem dL_law_436 : decode cL_law 436 = .ok (.istore 5, 2) := by decide +kernel
theorem dL_law_438 : decode cL_law 438 = .ok (.aload_n 2, 1) := by decide +kernel
theorem dL_law_439 : decode cL_law 439 = .ok (.aload_n 0, 1) := by decide +kernel
theorem dL_law_440 : decode cL_law 440 = .ok (.iload 4, 2) := by decide +kernel
theorem dL_law_442 : decode cL_law 442 = .ok (.iconst 1, 1) := by decide +kernel
theorem dL_law_443 : decode cL_law 443 = .ok (.iadd, 1) := by decide +kernel
theorem dL_law_444 : decode cL_law 444 = .ok (.iaload, 1) := by decide +kernel
theorem dL_law_445 : decode cL_law 445 = .ok (.invokevirtual 136, 3) := by decide +kernel
theorem dL_law_448 : decode cL_law 448 = .ok (.istore 6, 2) := by decide +kernel
theorem dL_law_450 : decode cL_law 450 = .ok (.aload_n 2, 1) := by decide +kernel
theorem dL_law_451 : decode cL_law 451 = .ok (.invokevirtual 114, 3) := by decide +kernel
theorem dL_law_454 : decode cL_law 454 = .ok (.iload 5, 2) := by decide +kernel
theorem dL_law_456 : decode cL_law 456 = .ok (.if_icmp .eq 5, 3) := by decide +kernel
theorem dL_law_459 : decode cL_law 459 = .ok (.iconst 0, 1) := by decide +kernel
theorem dL_law_460 : decode cL_law 460 = .ok (.ireturn, 1) := by decide +kernel
theorem dL_law_461 : decode cL_law 461 = .ok (.iload 5, 2) := by decide +kernel
theorem dL_law_463 : decode cL_law 463 = .ok (.ifCond .ne 15, 3) := by decide +kernel
theorem dL_law_466 : decode cL_law 466 = .ok (.aload_n 3, 1) := by decide +kernel
theorem dL_law_467 : decode cL_law 467 = .ok (.iconst 0, 1) := by decide +kernel
theorem dL_law_468 : decode cL_law 468 = .ok (.laload, 1) := by decide +kernel
theorem dL_law_469 : decode cL_law 469 = .ok (.iload 6, 2) := by decide +kernel
theorem dL_law_471 : decode cL_law 471 = .ok (.i2l, 1) := by decide +kernel
theorem dL_law_472 : decode cL_law 472 = .ok (.lcmp, 1) := by decide +kernel
theorem dL_law_473 : decode cL_law 473 = .ok (.ifCond .eq 5, 3) := by decide +kernel
theorem dL_law_476 : decode cL_law 476 = .ok (.iconst 0, 1) := by decide +kernel
theorem dL_law_477 : decode cL_law 477 = .ok (.ireturn, 1) := by decide +kernel
theorem dL_law_478 : decode cL_law 478 = .ok (.goto 1445, 3) := by decide +kernel
theorem dL_law_481 : decode cL_law 481 = .ok (.aload_n 1, 1) := by decide +kernel
theorem dL_law_482 : decode cL_law 482 = .ok (.aload_n 0, 1) := by decide +kernel
theorem dL_law_483 : decode cL_law 483 = .ok (.iload 4, 2) := by decide +kernel
theorem dL_law_485 : decode cL_law 485 = .ok (.iconst 1, 1) := by decide +kernel
theorem dL_law_486 : decode cL_law 486 = .ok (.iadd, 1) := by decide +kernel
theorem dL_law_487 : decode cL_law 487 = .ok (.iaload, 1) := by decide +kernel
theorem dL_law_488 : decode cL_law 488 = .ok (.aload_n 3, 1) := by decide +kernel
theorem dL_law_489 : decode cL_law 489 = .ok (.invokestatic 137, 3) := by decide +kernel
theorem dL_law_492 : decode cL_law 492 = .ok (.istore 5, 2) := by decide +kernel
theorem dL_law_494 : decode cL_law 494 = .ok (.aload_n 2, 1) := by decide +kernel
theorem dL_law_495 : decode cL_law 495 = .ok (.aload_n 0, 1) := by decide +kernel
theorem dL_law_496 : decode cL_law 496 = .ok (.iload 4, 2) := by decide +kernel
theorem dL_law_498 : decode cL_law 498 = .ok (.iconst 1, 1) := by decide +kernel
theorem dL_law_499 : decode cL_law 499 = .ok (.iadd, 1) := by decide +kernel
theorem dL_law_500 : decode cL_law 500 = .ok (.iaload, 1) := by decide +kernel
theorem dL_law_501 : decode cL_law 501 = .ok (.invokevirtual 139, 3) := by decide +kernel
theorem dL_law_504 : decode cL_law 504 = .ok (.istore 6, 2) := by decide +kernel
theorem dL_law_506 : decode cL_law 506 = .ok (.aload_n 2, 1) := by decide +kernel
theorem dL_law_507 : decode cL_law 507 = .ok (.invokevirtual 114, 3) := by decide +kernel
theorem dL_law_510 : decode cL_law 510 = .ok (.iload 5, 2) := by decide +kernel
theorem dL_law_512 : decode cL_law 512 = .ok (.if_icmp .eq 5, 3) := by decide +kernel
theorem dL_law_515 : decode cL_law 515 = .ok (.iconst 0, 1) := by decide +kernel
theorem dL_law_516 : decode cL_law 516 = .ok (.ireturn, 1) := by decide +kernel
theorem dL_law_517 : decode cL_law 517 = .ok (.iload 5, 2) := by decide +kernel
theorem dL_law_519 : decode cL_law 519 = .ok (.ifCond .ne 15, 3) := by decide +kernel
theorem dL_law_522 : decode cL_law 522 = .ok (.aload_n 3, 1) := by decide +kernel
theorem dL_law_523 : decode cL_law 523 = .ok (.iconst 0, 1) := by decide +kernel
theorem dL_law_524 : decode cL_law 524 = .ok (.laload, 1) := by decide +kernel
theorem dL_law_525 : decode cL_law 525 = .ok (.iload 6, 2) := by decide +kernel
theorem dL_law_527 : decode cL_law 527 = .ok (.i2l, 1) := by decide +kernel
theorem dL_law_528 : decode cL_law 528 = .ok (.lcmp, 1) := by decide +kernel
theorem dL_law_529 : decode cL_law 529 = .ok (.ifCond .eq 5, 3) := by decide +kernel
theorem dL_law_532 : decode cL_law 532 = .ok (.iconst 0, 1) := by decide +kernel
theorem dL_law_533 : decode cL_law 533 = .ok (.ireturn, 1) := by decide +kernel
theorem dL_law_534 : decode cL_law 534 = .ok (.goto 1389, 3) := by decide +kernel
theorem dL_law_537 : decode cL_law 537 = .ok (.aload_n 1, 1) := by decide +kernel
theorem dL_law_538 : decode cL_law 538 = .ok (.aload_n 0, 1) := by decide +kernel
theorem dL_law_539 : decode cL_law 539 = .ok (.iload 4, 2) := by decide +kernel
theorem dL_law_541 : decode cL_law 541 = .ok (.iconst 1, 1) := by decide +kernel
theorem dL_law_542 : decode cL_law 542 = .ok (.iadd, 1) := by decide +kernel
theorem dL_law_543 : decode cL_law 543 = .ok (.iaload, 1) := by decide +kernel
theorem dL_law_544 : decode cL_law 544 = .ok (.aload_n 0, 1) := by decide +kernel
theorem dL_law_545 : decode cL_law 545 = .ok (.iload 4, 2) := by decide +kernel
theorem dL_law_547 : decode cL_law 547 = .ok (.iconst 2, 1) := by decide +kernel
theorem dL_law_548 : decode cL_law 548 = .ok (.iadd, 1) := by decide +kernel
theorem dL_law_549 : decode cL_law 549 = .ok (.iaload, 1) := by decide +kernel
theorem dL_law_550 : decode cL_law 550 = .ok (.aload_n 3, 1) := by decide +kernel
theorem dL_law_551 : decode cL_law 551 = .ok (.invokestatic 140, 3) := by decide +kernel
theorem dL_law_554 : decode cL_law 554 = .ok (.istore 5, 2) := by decide +kernel
theorem dL_law_556 : decode cL_law 556 = .ok (.aload_n 2, 1) := by decide +kernel
theorem dL_law_557 : decode cL_law 557 = .ok (.aload_n 0, 1) := by decide +kernel
theorem dL_law_558 : decode cL_law 558 = .ok (.iload 4, 2) := by decide +kernel
theorem dL_law_560 : decode cL_law 560 = .ok (.iconst 1, 1) := by decide +kernel
theorem dL_law_561 : decode cL_law 561 = .ok (.iadd, 1) := by decide +kernel
theorem dL_law_562 : decode cL_law 562 = .ok (.iaload, 1) := by decide +kernel
theorem dL_law_563 : decode cL_law 563 = .ok (.aload_n 0, 1) := by decide +kernel
theorem dL_law_564 : decode cL_law 564 = .ok (.iload 4, 2) := by decide +kernel
theorem dL_law_566 : decode cL_law 566 = .ok (.iconst 2, 1) := by decide +kernel
theorem dL_law_567 : decode cL_law 567 = .ok (.iadd, 1) := by decide +kernel
theorem dL_law_568 : decode cL_law 568 = .ok (.iaload, 1) := by decide +kernel
theorem dL_law_569 : decode cL_law 569 = .ok (.invokevirtual 142, 3) := by decide +kernel
theorem dL_law_572 : decode cL_law 572 = .ok (.istore 6, 2) := by decide +kernel
theorem dL_law_574 : decode cL_law 574 = .ok (.aload_n 2, 1) := by decide +kernel
theorem dL_law_575 : decode cL_law 575 = .ok (.invokevirtual 114, 3) := by decide +kernel
theorem dL_law_578 : decode cL_law 578 = .ok (.iload 5, 2) := by decide +kernel
theorem dL_law_580 : decode cL_law 580 = .ok (.if_icmp .eq 5, 3) := by decide +kernel
theorem dL_law_583 : decode cL_law 583 = .ok (.iconst 0, 1) := by decide +kernel
theorem dL_law_584 : decode cL_law 584 = .ok (.ireturn, 1) := by decide +kernel
theorem dL_law_585 : decode cL_law 585 = .ok (.iload 5, 2) := by decide +kernel
theorem dL_law_587 : decode cL_law 587 = .ok (.ifCond .ne 15, 3) := by decide +kernel
theorem dL_law_590 : decode cL_law 590 = .ok (.aload_n 3, 1) := by decide +kernel
theorem dL_law_591 : decode cL_law 591 = .ok (.iconst 0, 1) := by decide +kernel
theorem dL_law_592 : decode cL_law 592 = .ok (.laload, 1) := by decide +kernel
theorem dL_law_593 : decode cL_law 593 = .ok (.iload 6, 2) := by decide +kernel
theorem dL_law_595 : decode cL_law 595 = .ok (.i2l, 1) := by decide +kernel
theorem dL_law_596 : decode cL_law 596 = .ok (.lcmp, 1) := by decide +kernel
theorem dL_law_597 : decode cL_law 597 = .ok (.ifCond .eq 5, 3) := by decide +kernel
theorem dL_law_600 : decode cL_law 600 = .ok (.iconst 0, 1) := by decide +kernel
theorem dL_law_601 : decode cL_law 601 = .ok (.ireturn, 1) := by decide +kernel
theorem dL_law_602 : decode cL_law 602 = .ok (.goto 1321, 3) := by decide +kernel
theorem dL_law_605 : decode cL_law 605 = .ok (.aload_n 1, 1) := by decide +kernel
theorem dL_law_606 : decode cL_law 606 = .ok (.aload_n 0, 1) := by decide +kernel
theorem dL_law_607 : decode cL_law 607 = .ok (.iload 4, 2) := by decide +kernel
theorem dL_law_609 : decode cL_law 609 = .ok (.iconst 1, 1) := by decide +kernel
theorem dL_law_610 : decode cL_law 610 = .ok (.iadd, 1) := by decide +kernel
theorem dL_law_611 : decode cL_law 611 = .ok (.iaload, 1) := by decide +kernel
theorem dL_law_612 : decode cL_law 612 = .ok (.aload_n 0, 1) := by decide +kernel
theorem dL_law_613 : decode cL_law 613 = .ok (.iload 4, 2) := by decide +kernel
theorem dL_law_615 : decode cL_law 615 = .ok (.iconst 2, 1) := by decide +kernel
theorem dL_law_616 : decode cL_law 616 = .ok (.iadd, 1) := by decide +kernel
theorem dL_law_617 : decode cL_law 617 = .ok (.iaload, 1) := by decide +kernel
theorem dL_law_618 : decode cL_law 618 = .ok (.aload_n 3, 1) := by decide +kernel
theorem dL_law_619 : decode cL_law 619 = .ok (.invokestatic 143, 3) := by decide +kernel
theorem dL_law_622 : decode cL_law 622 = .ok (.istore 5, 2) := by decide +kernel
theorem dL_law_624 : decode cL_law 624 = .ok (.aload_n 2, 1) := by decide +kernel
theorem dL_law_625 : decode cL_law 625 = .ok (.aload_n 0, 1) := by decide +kernel
theorem dL_law_626 : decode cL_law 626 = .ok (.iload 4, 2) := by decide +kernel
theorem dL_law_628 : decode cL_law 628 = .ok (.iconst 1, 1) := by decide +kernel
theorem dL_law_629 : decode cL_law 629 = .ok (.iadd, 1) := by decide +kernel
theorem dL_law_630 : decode cL_law 630 = .ok (.iaload, 1) := by decide +kernel
theorem dL_law_631 : decode cL_law 631 = .ok (.aload_n 0, 1) := by decide +kernel
theorem dL_law_632 : decode cL_law 632 = .ok (.iload 4, 2) := by decide +kernel
theorem dL_law_634 : decode cL_law 634 = .ok (.iconst 2, 1) := by decide +kernel
theorem dL_law_635 : decode cL_law 635 = .ok (.iadd, 1) := by decide +kernel
theorem dL_law_636 : decode cL_law 636 = .ok (.iaload, 1) := by decide +kernel
theorem dL_law_637 : decode cL_law 637 = .ok (.invokevirtual 145, 3) := by decide +kernel
theorem dL_law_640 : decode cL_law 640 = .ok (.istore 6, 2) := by decide +kernel
theorem dL_law_642 : decode cL_law 642 = .ok (.aload_n 2, 1) := by decide +kernel
theorem dL_law_643 : decode cL_law 643 = .ok (.invokevirtual 114, 3) := by decide +kernel
theorem dL_law_646 : decode cL_law 646 = .ok (.iload 5, 2) := by decide +kernel
theorem dL_law_648 : decode cL_law 648 = .ok (.if_icmp .eq 5, 3) := by decide +kernel
theorem dL_law_651 : decode cL_law 651 = .ok (.iconst 0, 1) := by decide +kernel
theorem dL_law_652 : decode cL_law 652 = .ok (.ireturn, 1) := by decide +kernel
theorem dL_law_653 : decode cL_law 653 = .ok (.iload 5, 2) := by decide +kernel
theorem dL_law_655 : decode cL_law 655 = .ok (.ifCond .ne 15, 3) := by decide +kernel
theorem dL_law_658 : decode cL_law 658 = .ok (.aload_n 3, 1) := by decide +kernel
theorem dL_law_659 : decode cL_law 659 = .ok (.iconst 0, 1) := by decide +kernel
theorem dL_law_660 : decode cL_law 660 = .ok (.laload, 1) := by decide +kernel
theorem dL_law_661 : decode cL_law 661 = .ok (.iload 6, 2) := by decide +kernel
theorem dL_law_663 : decode cL_law 663 = .ok (.i2l, 1) := by decide +kernel
theorem dL_law_664 : decode cL_law 664 = .ok (.lcmp, 1) := by decide +kernel
theorem dL_law_665 : decode cL_law 665 = .ok (.ifCond .eq 5, 3) := by decide +kernel
theorem dL_law_668 : decode cL_law 668 = .ok (.iconst 0, 1) := by decide +kernel
theorem dL_law_669 : decode cL_law 669 = .ok (.ireturn, 1) := by decide +kernel
theorem dL_law_670 : decode cL_law 670 = .ok (.goto 1253, 3) := by decide +kernel
theorem dL_law_673 : decode cL_law 673 = .ok (.aload_n 1, 1) := by decide +kernel
theorem dL_law_674 : decode cL_law 674 = .ok (.aload_n 0, 1) := by decide +kernel
theorem dL_law_675 : decode cL_law 675 = .ok (.iload 4, 2) := by decide +kernel
theorem dL_law_677 : decode cL_law 677 = .ok (.iconst 1, 1) := by decide +kernel
theorem dL_law_678 : decode cL_law 678 = .ok (.iadd, 1) := by decide +kernel
theorem dL_law_679 : decode cL_law 679 = .ok (.iaload, 1) := by decide +kernel
theorem dL_law_680 : decode cL_law 680 = .ok (.aload_n 3, 1) := by decide +kernel
theorem dL_law_681 : decode cL_law 681 = .ok (.invokestatic 146, 3) := by decide +kernel
theorem dL_law_684 : decode cL_law 684 = .ok (.istore 5, 2) := by decide +kernel
theorem dL_law_686 : decode cL_law 686 = .ok (.aload_n 2, 1) := by decide +kernel
theorem dL_law_687 : decode cL_law 687 = .ok (.aload_n 0, 1) := by decide +kernel
theorem dL_law_688 : decode cL_law 688 = .ok (.iload 4, 2) := by decide +kernel
theorem dL_law_690 : decode cL_law 690 = .ok (.iconst 1, 1) := by decide +kernel
theorem dL_law_691 : decode cL_law 691 = .ok (.iadd, 1) := by decide +kernel
theorem dL_law_692 : decode cL_law 692 = .ok (.iaload, 1) := by decide +kernel
theorem dL_law_693 : decode cL_law 693 = .ok (.invokevirtual 148, 3) := by decide +kernel
theorem dL_law_696 : decode cL_law 696 = .ok (.istore 6, 2) := by decide +kernel
theorem dL_law_698 : decode cL_law 698 = .ok (.aload_n 2, 1) := by decide +kernel
theorem dL_law_699 : decode cL_law 699 = .ok (.invokevirtual 114, 3) := by decide +kernel
theorem dL_law_702 : decode cL_law 702 = .ok (.iload 5, 2) := by decide +kernel
theorem dL_law_704 : decode cL_law 704 = .ok (.if_icmp .eq 5, 3) := by decide +kernel
theorem dL_law_707 : decode cL_law 707 = .ok (.iconst 0, 1) := by decide +kernel
theorem dL_law_708 : decode cL_law 708 = .ok (.ireturn, 1) := by decide +kernel
theorem dL_law_709 : decode cL_law 709 = .ok (.iload 5, 2) := by decide +kernel
theorem dL_law_711 : decode cL_law 711 = .ok (.ifCond .ne 15, 3) := by decide +kernel
theorem dL_law_714 : decode cL_law 714 = .ok (.aload_n 3, 1) := by decide +kernel
theorem dL_law_715 : decode cL_law 715 = .ok (.iconst 0, 1) := by decide +kernel
theorem dL_law_716 : decode cL_law 716 = .ok (.laload, 1) := by decide +kernel
theorem dL_law_717 : decode cL_law 717 = .ok (.iload 6, 2) := by decide +kernel
theorem dL_law_719 : decode cL_law 719 = .ok (.i2l, 1) := by decide +kernel
theorem dL_law_720 : decode cL_law 720 = .ok (.lcmp, 1) := by decide +kernel
theorem dL_law_721 : decode cL_law 721 = .ok (.ifCond .eq 5, 3) := by decide +kernel
theorem dL_law_724 : decode cL_law 724 = .ok (.iconst 0, 1) := by decide +kernel
theorem dL_law_725 : decode cL_law 725 = .ok (.ireturn, 1) := by decide +kernel
theorem dL_law_726 : decode cL_law 726 = .ok (.goto 1197, 3) := by decide +kernel
theorem dL_law_729 : decode cL_law 729 = .ok (.aload_n 1, 1) := by decide +kernel
theorem dL_law_730 : decode cL_law 730 = .ok (.aload_n 0, 1) := by decide +kernel
theorem dL_law_731 : decode cL_law 731 = .ok (.iload 4, 2) := by decide +kernel
theorem dL_law_733 : decode cL_law 733 = .ok (.iconst 1, 1) := by decide +kernel
theorem dL_law_734 : decode cL_law 734 = .ok (.iadd, 1) := by decide +kernel
theorem dL_law_735 : decode cL_law 735 = .ok (.iaload, 1) := by decide +kernel
theorem dL_law_736 : decode cL_law 736 = .ok (.aload_n 3, 1) := by decide +kernel
theorem dL_law_737 : decode cL_law 737 = .ok (.invokestatic 149, 3) := by decide +kernel
theorem dL_law_740 : decode cL_law 740 = .ok (.istore 5, 2) := by decide +kernel
theorem dL_law_742 : decode cL_law 742 = .ok (.aload_n 2, 1) := by decide +kernel
theorem dL_law_743 : decode cL_law 743 = .ok (.aload_n 0, 1) := by decide +kernel
theorem dL_law_744 : decode cL_law 744 = .ok (.iload 4, 2) := by decide +kernel
theorem dL_law_746 : decode cL_law 746 = .ok (.iconst 1, 1) := by decide +kernel
theorem dL_law_747 : decode cL_law 747 = .ok (.iadd, 1) := by decide +kernel
theorem dL_law_748 : decode cL_law 748 = .ok (.iaload, 1) := by decide +kernel
theorem dL_law_749 : decode cL_law 749 = .ok (.invokevirtual 151, 3) := by decide +kernel
theorem dL_law_752 : decode cL_law 752 = .ok (.istore 6, 2) := by decide +kernel
theorem dL_law_754 : decode cL_law 754 = .ok (.aload_n 2, 1) := by decide +kernel
theorem dL_law_755 : decode cL_law 755 = .ok (.invokevirtual 114, 3) := by decide +kernel
theorem dL_law_758 : decode cL_law 758 = .ok (.iload 5, 2) := by decide +kernel
theorem dL_law_760 : decode cL_law 760 = .ok (.if_icmp .eq 5, 3) := by decide +kernel
theorem dL_law_763 : decode cL_law 763 = .ok (.iconst 0, 1) := by decide +kernel
theorem dL_law_764 : decode cL_law 764 = .ok (.ireturn, 1) := by decide +kernel
theorem dL_law_765 : decode cL_law 765 = .ok (.iload 5, 2) := by decide +kernel
theorem dL_law_767 : decode cL_law 767 = .ok (.ifCond .ne 22, 3) := by decide +kernel
theorem dL_law_770 : decode cL_law 770 = .ok (.aload_n 3, 1) := by decide +kernel
theorem dL_law_771 : decode cL_law 771 = .ok (.iconst 0, 1) := by decide +kernel
theorem dL_law_772 : decode cL_law 772 = .ok (.laload, 1) := by decide +kernel
theorem dL_law_773 : decode cL_law 773 = .ok (.iload 6, 2) := by decide +kernel
theorem dL_law_775 : decode cL_law 775 = .ok (.ifCond .eq 7, 3) := by decide +kernel
theorem dL_law_778 : decode cL_law 778 = .ok (.lconst 1, 1) := by decide +kernel
theorem dL_law_779 : decode cL_law 779 = .ok (.goto 4, 3) := by decide +kernel
theorem dL_law_782 : decode cL_law 782 = .ok (.lconst 0, 1) := by decide +kernel
theorem dL_law_783 : decode cL_law 783 = .ok (.lcmp, 1) := by decide +kernel
theorem dL_law_784 : decode cL_law 784 = .ok (.ifCond .eq 5, 3) := by decide +kernel
theorem dL_law_787 : decode cL_law 787 = .ok (.iconst 0, 1) := by decide +kernel
theorem dL_law_788 : decode cL_law 788 = .ok (.ireturn, 1) := by decide +kernel
theorem dL_law_789 : decode cL_law 789 = .ok (.goto 1134, 3) := by decide +kernel
theorem dL_law_792 : decode cL_law 792 = .ok (.aload_n 1, 1) := by decide +kernel
theorem dL_law_793 : decode cL_law 793 = .ok (.aload_n 0, 1) := by decide +kernel
theorem dL_law_794 : decode cL_law 794 = .ok (.iload 4, 2) := by decide +kernel
theorem dL_law_796 : decode cL_law 796 = .ok (.iconst 1, 1) := by decide +kernel
theorem dL_law_797 : decode cL_law 797 = .ok (.iadd, 1) := by decide +kernel
theorem dL_law_798 : decode cL_law 798 = .ok (.iaload, 1) := by decide +kernel
theorem dL_law_799 : decode cL_law 799 = .ok (.aload_n 3, 1) := by decide +kernel
theorem dL_law_800 : decode cL_law 800 = .ok (.invokestatic 152, 3) := by decide +kernel
theorem dL_law_803 : decode cL_law 803 = .ok (.istore 5, 2) := by decide +kernel
theorem dL_law_805 : decode cL_law 805 = .ok (.aload_n 2, 1) := by decide +kernel
theorem dL_law_806 : decode cL_law 806 = .ok (.aload_n 0, 1) := by decide +kernel
theorem dL_law_807 : decode cL_law 807 = .ok (.iload 4, 2) := by decide +kernel
theorem dL_law_809 : decode cL_law 809 = .ok (.iconst 1, 1) := by decide +kernel
theorem dL_law_810 : decode cL_law 810 = .ok (.iadd, 1) := by decide +kernel
theorem dL_law_811 : decode cL_law 811 = .ok (.iaload, 1) := by decide +kernel
theorem dL_law_812 : decode cL_law 812 = .ok (.invokevirtual 154, 3) := by decide +kernel
theorem dL_law_815 : decode cL_law 815 = .ok (.istore 6, 2) := by decide +kernel
theorem dL_law_817 : decode cL_law 817 = .ok (.aload_n 2, 1) := by decide +kernel
theorem dL_law_818 : decode cL_law 818 = .ok (.invokevirtual 114, 3) := by decide +kernel
theorem dL_law_821 : decode cL_law 821 = .ok (.iload 5, 2) := by decide +kernel
theorem dL_law_823 : decode cL_law 823 = .ok (.if_icmp .eq 5, 3) := by decide +kernel
theorem dL_law_826 : decode cL_law 826 = .ok (.iconst 0, 1) := by decide +kernel
theorem dL_law_827 : decode cL_law 827 = .ok (.ireturn, 1) := by decide +kernel
theorem dL_law_828 : decode cL_law 828 = .ok (.iload 5, 2) := by decide +kernel
theorem dL_law_830 : decode cL_law 830 = .ok (.ifCond .ne 22, 3) := by decide +kernel
theorem dL_law_833 : decode cL_law 833 = .ok (.aload_n 3, 1) := by decide +kernel
theorem dL_law_834 : decode cL_law 834 = .ok (.iconst 0, 1) := by decide +kernel
theorem dL_law_835 : decode cL_law 835 = .ok (.laload, 1) := by decide +kernel
theorem dL_law_836 : decode cL_law 836 = .ok (.iload 6, 2) := by decide +kernel
theorem dL_law_838 : decode cL_law 838 = .ok (.ifCond .eq 7, 3) := by decide +kernel
theorem dL_law_841 : decode cL_law 841 = .ok (.lconst 1, 1) := by decide +kernel
theorem dL_law_842 : decode cL_law 842 = .ok (.goto 4, 3) := by decide +kernel
theorem dL_law_845 : decode cL_law 845 = .ok (.lconst 0, 1) := by decide +kernel
theorem dL_law_846 : decode cL_law 846 = .ok (.lcmp, 1) := by decide +kernel
theorem dL_law_847 : decode cL_law 847 = .ok (.ifCond .eq 5, 3) := by decide +kernel
theorem dL_law_850 : decode cL_law 850 = .ok (.iconst 0, 1) := by decide +kernel
theorem dL_law_851 : decode cL_law 851 = .ok (.ireturn, 1) := by decide +kernel
theorem dL_law_852 : decode cL_law 852 = .ok (.goto 1071, 3) := by decide +kernel
theorem dL_law_855 : decode cL_law 855 = .ok (.aload_n 1, 1) := by decide +kernel
theorem dL_law_856 : decode cL_law 856 = .ok (.aload_n 0, 1) := by decide +kernel
theorem dL_law_857 : decode cL_law 857 = .ok (.iload 4, 2) := by decide +kernel
theorem dL_law_859 : decode cL_law 859 = .ok (.iconst 1, 1) := by decide +kernel
theorem dL_law_860 : decode cL_law 860 = .ok (.iadd, 1) := by decide +kernel
theorem dL_law_861 : decode cL_law 861 = .ok (.iaload, 1) := by decide +kernel
theorem dL_law_862 : decode cL_law 862 = .ok (.aload_n 0, 1) := by decide +kernel
theorem dL_law_863 : decode cL_law 863 = .ok (.iload 4, 2) := by decide +kernel
theorem dL_law_865 : decode cL_law 865 = .ok (.iconst 2, 1) := by decide +kernel
theorem dL_law_866 : decode cL_law 866 = .ok (.iadd, 1) := by decide +kernel
theorem dL_law_867 : decode cL_law 867 = .ok (.iaload, 1) := by decide +kernel
theorem dL_law_868 : decode cL_law 868 = .ok (.aload_n 0, 1) := by decide +kernel
theorem dL_law_869 : decode cL_law 869 = .ok (.iload 4, 2) := by decide +kernel
theorem dL_law_871 : decode cL_law 871 = .ok (.iconst 3, 1) := by decide +kernel
theorem dL_law_872 : decode cL_law 872 = .ok (.iadd, 1) := by decide +kernel
theorem dL_law_873 : decode cL_law 873 = .ok (.iaload, 1) := by decide +kernel
theorem dL_law_874 : decode cL_law 874 = .ok (.aload_n 0, 1) := by decide +kernel
theorem dL_law_875 : decode cL_law 875 = .ok (.iload 4, 2) := by decide +kernel
theorem dL_law_877 : decode cL_law 877 = .ok (.iconst 4, 1) := by decide +kernel
theorem dL_law_878 : decode cL_law 878 = .ok (.iadd, 1) := by decide +kernel
theorem dL_law_879 : decode cL_law 879 = .ok (.iaload, 1) := by decide +kernel
theorem dL_law_880 : decode cL_law 880 = .ok (.aload_n 3, 1) := by decide +kernel
theorem dL_law_881 : decode cL_law 881 = .ok (.invokestatic 155, 3) := by decide +kernel
theorem dL_law_884 : decode cL_law 884 = .ok (.istore 5, 2) := by decide +kernel
theorem dL_law_886 : decode cL_law 886 = .ok (.aload_n 2, 1) := by decide +kernel
theorem dL_law_887 : decode cL_law 887 = .ok (.aload_n 0, 1) := by decide +kernel
theorem dL_law_888 : decode cL_law 888 = .ok (.iload 4, 2) := by decide +kernel
theorem dL_law_890 : decode cL_law 890 = .ok (.iconst 1, 1) := by decide +kernel
theorem dL_law_891 : decode cL_law 891 = .ok (.iadd, 1) := by decide +kernel
theorem dL_law_892 : decode cL_law 892 = .ok (.iaload, 1) := by decide +kernel
theorem dL_law_893 : decode cL_law 893 = .ok (.aload_n 0, 1) := by decide +kernel
theorem dL_law_894 : decode cL_law 894 = .ok (.iload 4, 2) := by decide +kernel
theorem dL_law_896 : decode cL_law 896 = .ok (.iconst 2, 1) := by decide +kernel
theorem dL_law_897 : decode cL_law 897 = .ok (.iadd, 1) := by decide +kernel
theorem dL_law_898 : decode cL_law 898 = .ok (.iaload, 1) := by decide +kernel
theorem dL_law_899 : decode cL_law 899 = .ok (.aload_n 0, 1) := by decide +kernel
theorem dL_law_900 : decode cL_law 900 = .ok (.iload 4, 2) := by decide +kernel
theorem dL_law_902 : decode cL_law 902 = .ok (.iconst 3, 1) := by decide +kernel
theorem dL_law_903 : decode cL_law 903 = .ok (.iadd, 1) := by decide +kernel
theorem dL_law_904 : decode cL_law 904 = .ok (.iaload, 1) := by decide +kernel
theorem dL_law_905 : decode cL_law 905 = .ok (.aload_n 0, 1) := by decide +kernel
theorem dL_law_906 : decode cL_law 906 = .ok (.iload 4, 2) := by decide +kernel
theorem dL_law_908 : decode cL_law 908 = .ok (.iconst 4, 1) := by decide +kernel
theorem dL_law_909 : decode cL_law 909 = .ok (.iadd, 1) := by decide +kernel
theorem dL_law_910 : decode cL_law 910 = .ok (.iaload, 1) := by decide +kernel
theorem dL_law_911 : decode cL_law 911 = .ok (.invokevirtual 158, 3) := by decide +kernel
theorem dL_law_914 : decode cL_law 914 = .ok (.istore 6, 2) := by decide +kernel
theorem dL_law_916 : decode cL_law 916 = .ok (.aload_n 2, 1) := by decide +kernel
theorem dL_law_917 : decode cL_law 917 = .ok (.invokevirtual 114, 3) := by decide +kernel
theorem dL_law_920 : decode cL_law 920 = .ok (.iload 5, 2) := by decide +kernel
theorem dL_law_922 : decode cL_law 922 = .ok (.if_icmp .eq 5, 3) := by decide +kernel
theorem dL_law_925 : decode cL_law 925 = .ok (.iconst 0, 1) := by decide +kernel
theorem dL_law_926 : decode cL_law 926 = .ok (.ireturn, 1) := by decide +kernel
theorem dL_law_927 : decode cL_law 927 = .ok (.iload 5, 2) := by decide +kernel
theorem dL_law_929 : decode cL_law 929 = .ok (.ifCond .ne 15, 3) := by decide +kernel
theorem dL_law_932 : decode cL_law 932 = .ok (.aload_n 3, 1) := by decide +kernel
theorem dL_law_933 : decode cL_law 933 = .ok (.iconst 0, 1) := by decide +kernel
theorem dL_law_934 : decode cL_law 934 = .ok (.laload, 1) := by decide +kernel
theorem dL_law_935 : decode cL_law 935 = .ok (.iload 6, 2) := by decide +kernel
theorem dL_law_937 : decode cL_law 937 = .ok (.i2l, 1) := by decide +kernel
theorem dL_law_938 : decode cL_law 938 = .ok (.lcmp, 1) := by decide +kernel
theorem dL_law_939 : decode cL_law 939 = .ok (.ifCond .eq 5, 3) := by decide +kernel
theorem dL_law_942 : decode cL_law 942 = .ok (.iconst 0, 1) := by decide +kernel
theorem dL_law_943 : decode cL_law 943 = .ok (.ireturn, 1) := by decide +kernel
theorem dL_law_944 : decode cL_law 944 = .ok (.goto 979, 3) := by decide +kernel
theorem dL_law_947 : decode cL_law 947 = .ok (.aload_n 1, 1) := by decide +kernel
theorem dL_law_948 : decode cL_law 948 = .ok (.aload_n 0, 1) := by decide +kernel
theorem dL_law_949 : decode cL_law 949 = .ok (.iload 4, 2) := by decide +kernel
theorem dL_law_951 : decode cL_law 951 = .ok (.iconst 1, 1) := by decide +kernel
theorem dL_law_952 : decode cL_law 952 = .ok (.iadd, 1) := by decide +kernel
theorem dL_law_953 : decode cL_law 953 = .ok (.iaload, 1) := by decide +kernel
theorem dL_law_954 : decode cL_law 954 = .ok (.aload_n 0, 1) := by decide +kernel
theorem dL_law_955 : decode cL_law 955 = .ok (.iload 4, 2) := by decide +kernel
theorem dL_law_957 : decode cL_law 957 = .ok (.iconst 2, 1) := by decide +kernel
theorem dL_law_958 : decode cL_law 958 = .ok (.iadd, 1) := by decide +kernel
theorem dL_law_959 : decode cL_law 959 = .ok (.iaload, 1) := by decide +kernel
theorem dL_law_960 : decode cL_law 960 = .ok (.aload_n 3, 1) := by decide +kernel
theorem dL_law_961 : decode cL_law 961 = .ok (.invokestatic 159, 3) := by decide +kernel
theorem dL_law_964 : decode cL_law 964 = .ok (.istore 5, 2) := by decide +kernel
theorem dL_law_966 : decode cL_law 966 = .ok (.aload_n 2, 1) := by decide +kernel
theorem dL_law_967 : decode cL_law 967 = .ok (.aload_n 0, 1) := by decide +kernel
theorem dL_law_968 : decode cL_law 968 = .ok (.iload 4, 2) := by decide +kernel
theorem dL_law_970 : decode cL_law 970 = .ok (.iconst 1, 1) := by decide +kernel
theorem dL_law_971 : decode cL_law 971 = .ok (.iadd, 1) := by decide +kernel
theorem dL_law_972 : decode cL_law 972 = .ok (.iaload, 1) := by decide +kernel
theorem dL_law_973 : decode cL_law 973 = .ok (.aload_n 0, 1) := by decide +kernel
theorem dL_law_974 : decode cL_law 974 = .ok (.iload 4, 2) := by decide +kernel
theorem dL_law_976 : decode cL_law 976 = .ok (.iconst 2, 1) := by decide +kernel
theorem dL_law_977 : decode cL_law 977 = .ok (.iadd, 1) := by decide +kernel
theorem dL_law_978 : decode cL_law 978 = .ok (.iaload, 1) := by decide +kernel
theorem dL_law_979 : decode cL_law 979 = .ok (.invokevirtual 161, 3) := by decide +kernel
theorem dL_law_982 : decode cL_law 982 = .ok (.istore 6, 2) := by decide +kernel
theorem dL_law_984 : decode cL_law 984 = .ok (.aload_n 2, 1) := by decide +kernel
theorem dL_law_985 : decode cL_law 985 = .ok (.invokevirtual 114, 3) := by decide +kernel
theorem dL_law_988 : decode cL_law 988 = .ok (.iload 5, 2) := by decide +kernel
theorem dL_law_990 : decode cL_law 990 = .ok (.if_icmp .eq 5, 3) := by decide +kernel
theorem dL_law_993 : decode cL_law 993 = .ok (.iconst 0, 1) := by decide +kernel
theorem dL_law_994 : decode cL_law 994 = .ok (.ireturn, 1) := by decide +kernel
theorem dL_law_995 : decode cL_law 995 = .ok (.iload 5, 2) := by decide +kernel
theorem dL_law_997 : decode cL_law 997 = .ok (.ifCond .ne 15, 3) := by decide +kernel
theorem dL_law_1000 : decode cL_law 1000 = .ok (.aload_n 3, 1) := by decide +kernel
theorem dL_law_1001 : decode cL_law 1001 = .ok (.iconst 0, 1) := by decide +kernel
theorem dL_law_1002 : decode cL_law 1002 = .ok (.laload, 1) := by decide +kernel
theorem dL_law_1003 : decode cL_law 1003 = .ok (.iload 6, 2) := by decide +kernel
theorem dL_law_1005 : decode cL_law 1005 = .ok (.i2l, 1) := by decide +kernel
theorem dL_law_1006 : decode cL_law 1006 = .ok (.lcmp, 1) := by decide +kernel
theorem dL_law_1007 : decode cL_law 1007 = .ok (.ifCond .eq 5, 3) := by decide +kernel
theorem dL_law_1010 : decode cL_law 1010 = .ok (.iconst 0, 1) := by decide +kernel
theorem dL_law_1011 : decode cL_law 1011 = .ok (.ireturn, 1) := by decide +kernel
theorem dL_law_1012 : decode cL_law 1012 = .ok (.goto 911, 3) := by decide +kernel
theorem dL_law_1015 : decode cL_law 1015 = .ok (.aload_n 1, 1) := by decide +kernel
theorem dL_law_1016 : decode cL_law 1016 = .ok (.aload_n 0, 1) := by decide +kernel
theorem dL_law_1017 : decode cL_law 1017 = .ok (.iload 4, 2) := by decide +kernel
theorem dL_law_1019 : decode cL_law 1019 = .ok (.iconst 1, 1) := by decide +kernel
theorem dL_law_1020 : decode cL_law 1020 = .ok (.iadd, 1) := by decide +kernel
theorem dL_law_1021 : decode cL_law 1021 = .ok (.iaload, 1) := by decide +kernel
theorem dL_law_1022 : decode cL_law 1022 = .ok (.invokestatic 162, 3) := by decide +kernel
theorem dL_law_1025 : decode cL_law 1025 = .ok (.istore 5, 2) := by decide +kernel
theorem dL_law_1027 : decode cL_law 1027 = .ok (.aload_n 2, 1) := by decide +kernel
theorem dL_law_1028 : decode cL_law 1028 = .ok (.aload_n 0, 1) := by decide +kernel
theorem dL_law_1029 : decode cL_law 1029 = .ok (.iload 4, 2) := by decide +kernel
theorem dL_law_1031 : decode cL_law 1031 = .ok (.iconst 1, 1) := by decide +kernel
theorem dL_law_1032 : decode cL_law 1032 = .ok (.iadd, 1) := by decide +kernel
theorem dL_law_1033 : decode cL_law 1033 = .ok (.iaload, 1) := by decide +kernel
theorem dL_law_1034 : decode cL_law 1034 = .ok (.invokevirtual 164, 3) := by decide +kernel
theorem dL_law_1037 : decode cL_law 1037 = .ok (.aload_n 2, 1) := by decide +kernel
theorem dL_law_1038 : decode cL_law 1038 = .ok (.invokevirtual 114, 3) := by decide +kernel
theorem dL_law_1041 : decode cL_law 1041 = .ok (.iload 5, 2) := by decide +kernel
theorem dL_law_1043 : decode cL_law 1043 = .ok (.if_icmp .eq 5, 3) := by decide +kernel
theorem dL_law_1046 : decode cL_law 1046 = .ok (.iconst 0, 1) := by decide +kernel
theorem dL_law_1047 : decode cL_law 1047 = .ok (.ireturn, 1) := by decide +kernel
theorem dL_law_1048 : decode cL_law 1048 = .ok (.goto 875, 3) := by decide +kernel
theorem dL_law_1051 : decode cL_law 1051 = .ok (.aload_n 1, 1) := by decide +kernel
theorem dL_law_1052 : decode cL_law 1052 = .ok (.aload_n 0, 1) := by decide +kernel
theorem dL_law_1053 : decode cL_law 1053 = .ok (.iload 4, 2) := by decide +kernel
theorem dL_law_1055 : decode cL_law 1055 = .ok (.iconst 1, 1) := by decide +kernel
theorem dL_law_1056 : decode cL_law 1056 = .ok (.iadd, 1) := by decide +kernel
theorem dL_law_1057 : decode cL_law 1057 = .ok (.iaload, 1) := by decide +kernel
theorem dL_law_1058 : decode cL_law 1058 = .ok (.aload_n 0, 1) := by decide +kernel
theorem dL_law_1059 : decode cL_law 1059 = .ok (.iload 4, 2) := by decide +kernel
theorem dL_law_1061 : decode cL_law 1061 = .ok (.iconst 2, 1) := by decide +kernel
theorem dL_law_1062 : decode cL_law 1062 = .ok (.iadd, 1) := by decide +kernel
theorem dL_law_1063 : decode cL_law 1063 = .ok (.iaload, 1) := by decide +kernel
theorem dL_law_1064 : decode cL_law 1064 = .ok (.aload_n 0, 1) := by decide +kernel
theorem dL_law_1065 : decode cL_law 1065 = .ok (.iload 4, 2) := by decide +kernel
theorem dL_law_1067 : decode cL_law 1067 = .ok (.iconst 3, 1) := by decide +kernel
theorem dL_law_1068 : decode cL_law 1068 = .ok (.iadd, 1) := by decide +kernel
theorem dL_law_1069 : decode cL_law 1069 = .ok (.iaload, 1) := by decide +kernel
theorem dL_law_1070 : decode cL_law 1070 = .ok (.ifCond .eq 7, 3) := by decide +kernel
theorem dL_law_1073 : decode cL_law 1073 = .ok (.iconst 1, 1) := by decide +kernel
theorem dL_law_1074 : decode cL_law 1074 = .ok (.goto 4, 3) := by decide +kernel
theorem dL_law_1077 : decode cL_law 1077 = .ok (.iconst 0, 1) := by decide +kernel
theorem dL_law_1078 : decode cL_law 1078 = .ok (.aload_n 3, 1) := by decide +kernel
theorem dL_law_1079 : decode cL_law 1079 = .ok (.invokestatic 165, 3) := by decide +kernel
theorem dL_law_1082 : decode cL_law 1082 = .ok (.istore 5, 2) := by decide +kernel
theorem dL_law_1084 : decode cL_law 1084 = .ok (.aload_n 2, 1) := by decide +kernel
theorem dL_law_1085 : decode cL_law 1085 = .ok (.aload_n 0, 1) := by decide +kernel
theorem dL_law_1086 : decode cL_law 1086 = .ok (.iload 4, 2) := by decide +kernel
theorem dL_law_1088 : decode cL_law 1088 = .ok (.iconst 1, 1) := by decide +kernel
theorem dL_law_1089 : decode cL_law 1089 = .ok (.iadd, 1) := by decide +kernel
theorem dL_law_1090 : decode cL_law 1090 = .ok (.iaload, 1) := by decide +kernel
theorem dL_law_1091 : decode cL_law 1091 = .ok (.aload_n 0, 1) := by decide +kernel
theorem dL_law_1092 : decode cL_law 1092 = .ok (.iload 4, 2) := by decide +kernel
theorem dL_law_1094 : decode cL_law 1094 = .ok (.iconst 2, 1) := by decide +kernel
theorem dL_law_1095 : decode cL_law 1095 = .ok (.iadd, 1) := by decide +kernel
theorem dL_law_1096 : decode cL_law 1096 = .ok (.iaload, 1) := by decide +kernel
theorem dL_law_1097 : decode cL_law 1097 = .ok (.aload_n 0, 1) := by decide +kernel
theorem dL_law_1098 : decode cL_law 1098 = .ok (.iload 4, 2) := by decide +kernel
theorem dL_law_1100 : decode cL_law 1100 = .ok (.iconst 3, 1) := by decide +kernel
theorem dL_law_1101 : decode cL_law 1101 = .ok (.iadd, 1) := by decide +kernel
theorem dL_law_1102 : decode cL_law 1102 = .ok (.iaload, 1) := by decide +kernel
theorem dL_law_1103 : decode cL_law 1103 = .ok (.ifCond .eq 7, 3) := by decide +kernel
theorem dL_law_1106 : decode cL_law 1106 = .ok (.iconst 1, 1) := by decide +kernel
theorem dL_law_1107 : decode cL_law 1107 = .ok (.goto 4, 3) := by decide +kernel
theorem dL_law_1110 : decode cL_law 1110 = .ok (.iconst 0, 1) := by decide +kernel
theorem dL_law_1111 : decode cL_law 1111 = .ok (.invokevirtual 168, 3) := by decide +kernel
theorem dL_law_1114 : decode cL_law 1114 = .ok (.istore 6, 2) := by decide +kernel
theorem dL_law_1116 : decode cL_law 1116 = .ok (.aload_n 2, 1) := by decide +kernel
theorem dL_law_1117 : decode cL_law 1117 = .ok (.invokevirtual 114, 3) := by decide +kernel
theorem dL_law_1120 : decode cL_law 1120 = .ok (.iload 5, 2) := by decide +kernel
theorem dL_law_1122 : decode cL_law 1122 = .ok (.if_icmp .eq 5, 3) := by decide +kernel
theorem dL_law_1125 : decode cL_law 1125 = .ok (.iconst 0, 1) := by decide +kernel
theorem dL_law_1126 : decode cL_law 1126 = .ok (.ireturn, 1) := by decide +kernel
theorem dL_law_1127 : decode cL_law 1127 = .ok (.iload 5, 2) := by decide +kernel
theorem dL_law_1129 : decode cL_law 1129 = .ok (.ifCond .ne 22, 3) := by decide +kernel
theorem dL_law_1132 : decode cL_law 1132 = .ok (.aload_n 3, 1) := by decide +kernel
theorem dL_law_1133 : decode cL_law 1133 = .ok (.iconst 0, 1) := by decide +kernel
theorem dL_law_1134 : decode cL_law 1134 = .ok (.laload, 1) := by decide +kernel
theorem dL_law_1135 : decode cL_law 1135 = .ok (.iload 6, 2) := by decide +kernel
theorem dL_law_1137 : decode cL_law 1137 = .ok (.ifCond .eq 7, 3) := by decide +kernel
theorem dL_law_1140 : decode cL_law 1140 = .ok (.lconst 1, 1) := by decide +kernel
theorem dL_law_1141 : decode cL_law 1141 = .ok (.goto 4, 3) := by decide +kernel
theorem dL_law_1144 : decode cL_law 1144 = .ok (.lconst 0, 1) := by decide +kernel
theorem dL_law_1145 : decode cL_law 1145 = .ok (.lcmp, 1) := by decide +kernel
theorem dL_law_1146 : decode cL_law 1146 = .ok (.ifCond .eq 5, 3) := by decide +kernel
theorem dL_law_1149 : decode cL_law 1149 = .ok (.iconst 0, 1) := by decide +kernel
theorem dL_law_1150 : decode cL_law 1150 = .ok (.ireturn, 1) := by decide +kernel
theorem dL_law_1151 : decode cL_law 1151 = .ok (.goto 772, 3) := by decide +kernel
theorem dL_law_1154 : decode cL_law 1154 = .ok (.aload_n 1, 1) := by decide +kernel
theorem dL_law_1155 : decode cL_law 1155 = .ok (.invokevirtual 169, 3) := by decide +kernel
theorem dL_law_1158 : decode cL_law 1158 = .ok (.aload_n 2, 1) := by decide +kernel
theorem dL_law_1159 : decode cL_law 1159 = .ok (.invokevirtual 172, 3) := by decide +kernel
theorem dL_law_1162 : decode cL_law 1162 = .ok (.if_icmp .eq 761, 3) := by decide +kernel
theorem dL_law_1165 : decode cL_law 1165 = .ok (.iconst 0, 1) := by decide +kernel
theorem dL_law_1166 : decode cL_law 1166 = .ok (.ireturn, 1) := by decide +kernel
theorem dL_law_1167 : decode cL_law 1167 = .ok (.aload_n 1, 1) := by decide +kernel
theorem dL_law_1168 : decode cL_law 1168 = .ok (.aload_n 0, 1) := by decide +kernel
theorem dL_law_1169 : decode cL_law 1169 = .ok (.iload 4, 2) := by decide +kernel
theorem dL_law_1171 : decode cL_law 1171 = .ok (.iconst 1, 1) := by decide +kernel
theorem dL_law_1172 : decode cL_law 1172 = .ok (.iadd, 1) := by decide +kernel
theorem dL_law_1173 : decode cL_law 1173 = .ok (.iaload, 1) := by decide +kernel
theorem dL_law_1174 : decode cL_law 1174 = .ok (.aload_n 3, 1) := by decide +kernel
theorem dL_law_1175 : decode cL_law 1175 = .ok (.invokestatic 173, 3) := by decide +kernel
theorem dL_law_1178 : decode cL_law 1178 = .ok (.istore 5, 2) := by decide +kernel
theorem dL_law_1180 : decode cL_law 1180 = .ok (.aload_n 2, 1) := by decide +kernel
theorem dL_law_1181 : decode cL_law 1181 = .ok (.aload_n 0, 1) := by decide +kernel
theorem dL_law_1182 : decode cL_law 1182 = .ok (.iload 4, 2) := by decide +kernel
theorem dL_law_1184 : decode cL_law 1184 = .ok (.iconst 1, 1) := by decide +kernel
theorem dL_law_1185 : decode cL_law 1185 = .ok (.iadd, 1) := by decide +kernel
theorem dL_law_1186 : decode cL_law 1186 = .ok (.iaload, 1) := by decide +kernel
theorem dL_law_1187 : decode cL_law 1187 = .ok (.invokevirtual 175, 3) := by decide +kernel
theorem dL_law_1190 : decode cL_law 1190 = .ok (.istore 6, 2) := by decide +kernel
theorem dL_law_1192 : decode cL_law 1192 = .ok (.aload_n 2, 1) := by decide +kernel
theorem dL_law_1193 : decode cL_law 1193 = .ok (.invokevirtual 114, 3) := by decide +kernel
theorem dL_law_1196 : decode cL_law 1196 = .ok (.iload 5, 2) := by decide +kernel
theorem dL_law_1198 : decode cL_law 1198 = .ok (.if_icmp .eq 5, 3) := by decide +kernel
theorem dL_law_1201 : decode cL_law 1201 = .ok (.iconst 0, 1) := by decide +kernel
theorem dL_law_1202 : decode cL_law 1202 = .ok (.ireturn, 1) := by decide +kernel
theorem dL_law_1203 : decode cL_law 1203 = .ok (.iload 5, 2) := by decide +kernel
theorem dL_law_1205 : decode cL_law 1205 = .ok (.ifCond .ne 15, 3) := by decide +kernel
theorem dL_law_1208 : decode cL_law 1208 = .ok (.aload_n 3, 1) := by decide +kernel
theorem dL_law_1209 : decode cL_law 1209 = .ok (.iconst 0, 1) := by decide +kernel
theorem dL_law_1210 : decode cL_law 1210 = .ok (.laload, 1) := by decide +kernel
theorem dL_law_1211 : decode cL_law 1211 = .ok (.iload 6, 2) := by decide +kernel
theorem dL_law_1213 : decode cL_law 1213 = .ok (.i2l, 1) := by decide +kernel
theorem dL_law_1214 : decode cL_law 1214 = .ok (.lcmp, 1) := by decide +kernel
theorem dL_law_1215 : decode cL_law 1215 = .ok (.ifCond .eq 5, 3) := by decide +kernel
theorem dL_law_1218 : decode cL_law 1218 = .ok (.iconst 0, 1) := by decide +kernel
theorem dL_law_1219 : decode cL_law 1219 = .ok (.ireturn, 1) := by decide +kernel
theorem dL_law_1220 : decode cL_law 1220 = .ok (.goto 703, 3) := by decide +kernel
theorem dL_law_1223 : decode cL_law 1223 = .ok (.aload_n 1, 1) := by decide +kernel
theorem dL_law_1224 : decode cL_law 1224 = .ok (.aload_n 0, 1) := by decide +kernel
theorem dL_law_1225 : decode cL_law 1225 = .ok (.iload 4, 2) := by decide +kernel
theorem dL_law_1227 : decode cL_law 1227 = .ok (.iconst 1, 1) := by decide +kernel
theorem dL_law_1228 : decode cL_law 1228 = .ok (.iadd, 1) := by decide +kernel
theorem dL_law_1229 : decode cL_law 1229 = .ok (.iaload, 1) := by decide +kernel
theorem dL_law_1230 : decode cL_law 1230 = .ok (.aload_n 3, 1) := by decide +kernel
theorem dL_law_1231 : decode cL_law 1231 = .ok (.invokestatic 176, 3) := by decide +kernel
theorem dL_law_1234 : decode cL_law 1234 = .ok (.istore 5, 2) := by decide +kernel
theorem dL_law_1236 : decode cL_law 1236 = .ok (.aload_n 2, 1) := by decide +kernel
theorem dL_law_1237 : decode cL_law 1237 = .ok (.aload_n 0, 1) := by decide +kernel
theorem dL_law_1238 : decode cL_law 1238 = .ok (.iload 4, 2) := by decide +kernel
theorem dL_law_1240 : decode cL_law 1240 = .ok (.iconst 1, 1) := by decide +kernel
theorem dL_law_1241 : decode cL_law 1241 = .ok (.iadd, 1) := by decide +kernel
theorem dL_law_1242 : decode cL_law 1242 = .ok (.iaload, 1) := by decide +kernel
theorem dL_law_1243 : decode cL_law 1243 = .ok (.invokevirtual 178, 3) := by decide +kernel
theorem dL_law_1246 : decode cL_law 1246 = .ok (.istore 6, 2) := by decide +kernel
theorem dL_law_1248 : decode cL_law 1248 = .ok (.aload_n 2, 1) := by decide +kernel
theorem dL_law_1249 : decode cL_law 1249 = .ok (.invokevirtual 114, 3) := by decide +kernel
theorem dL_law_1252 : decode cL_law 1252 = .ok (.iload 5, 2) := by decide +kernel
theorem dL_law_1254 : decode cL_law 1254 = .ok (.if_icmp .eq 5, 3) := by decide +kernel
theorem dL_law_1257 : decode cL_law 1257 = .ok (.iconst 0, 1) := by decide +kernel
theorem dL_law_1258 : decode cL_law 1258 = .ok (.ireturn, 1) := by decide +kernel
theorem dL_law_1259 : decode cL_law 1259 = .ok (.iload 5, 2) := by decide +kernel
theorem dL_law_1261 : decode cL_law 1261 = .ok (.ifCond .ne 15, 3) := by decide +kernel
theorem dL_law_1264 : decode cL_law 1264 = .ok (.aload_n 3, 1) := by decide +kernel
theorem dL_law_1265 : decode cL_law 1265 = .ok (.iconst 0, 1) := by decide +kernel
theorem dL_law_1266 : decode cL_law 1266 = .ok (.laload, 1) := by decide +kernel
theorem dL_law_1267 : decode cL_law 1267 = .ok (.iload 6, 2) := by decide +kernel
theorem dL_law_1269 : decode cL_law 1269 = .ok (.i2l, 1) := by decide +kernel
theorem dL_law_1270 : decode cL_law 1270 = .ok (.lcmp, 1) := by decide +kernel
theorem dL_law_1271 : decode cL_law 1271 = .ok (.ifCond .eq 5, 3) := by decide +kernel
theorem dL_law_1274 : decode cL_law 1274 = .ok (.iconst 0, 1) := by decide +kernel
theorem dL_law_1275 : decode cL_law 1275 = .ok (.ireturn, 1) := by decide +kernel
theorem dL_law_1276 : decode cL_law 1276 = .ok (.goto 647, 3) := by decide +kernel
theorem dL_law_1279 : decode cL_law 1279 = .ok (.aload_n 1, 1) := by decide +kernel
theorem dL_law_1280 : decode cL_law 1280 = .ok (.aload_n 0, 1) := by decide +kernel
theorem dL_law_1281 : decode cL_law 1281 = .ok (.iload 4, 2) := by decide +kernel
theorem dL_law_1283 : decode cL_law 1283 = .ok (.iconst 1, 1) := by decide +kernel
theorem dL_law_1284 : decode cL_law 1284 = .ok (.iadd, 1) := by decide +kernel
theorem dL_law_1285 : decode cL_law 1285 = .ok (.iaload, 1) := by decide +kernel
theorem dL_law_1286 : decode cL_law 1286 = .ok (.aload_n 3, 1) := by decide +kernel
theorem dL_law_1287 : decode cL_law 1287 = .ok (.invokestatic 179, 3) := by decide +kernel
theorem dL_law_1290 : decode cL_law 1290 = .ok (.istore 5, 2) := by decide +kernel
theorem dL_law_1292 : decode cL_law 1292 = .ok (.aload_n 2, 1) := by decide +kernel
theorem dL_law_1293 : decode cL_law 1293 = .ok (.aload_n 0, 1) := by decide +kernel
theorem dL_law_1294 : decode cL_law 1294 = .ok (.iload 4, 2) := by decide +kernel
theorem dL_law_1296 : decode cL_law 1296 = .ok (.iconst 1, 1) := by decide +kernel
theorem dL_law_1297 : decode cL_law 1297 = .ok (.iadd, 1) := by decide +kernel
theorem dL_law_1298 : decode cL_law 1298 = .ok (.iaload, 1) := by decide +kernel
theorem dL_law_1299 : decode cL_law 1299 = .ok (.invokevirtual 181, 3) := by decide +kernel
theorem dL_law_1302 : decode cL_law 1302 = .ok (.istore 6, 2) := by decide +kernel
theorem dL_law_1304 : decode cL_law 1304 = .ok (.aload_n 2, 1) := by decide +kernel
theorem dL_law_1305 : decode cL_law 1305 = .ok (.invokevirtual 114, 3) := by decide +kernel
theorem dL_law_1308 : decode cL_law 1308 = .ok (.iload 5, 2) := by decide +kernel
theorem dL_law_1310 : decode cL_law 1310 = .ok (.if_icmp .eq 5, 3) := by decide +kernel
theorem dL_law_1313 : decode cL_law 1313 = .ok (.iconst 0, 1) := by decide +kernel
theorem dL_law_1314 : decode cL_law 1314 = .ok (.ireturn, 1) := by decide +kernel
theorem dL_law_1315 : decode cL_law 1315 = .ok (.iload 5, 2) := by decide +kernel
theorem dL_law_1317 : decode cL_law 1317 = .ok (.ifCond .ne 15, 3) := by decide +kernel
theorem dL_law_1320 : decode cL_law 1320 = .ok (.aload_n 3, 1) := by decide +kernel
theorem dL_law_1321 : decode cL_law 1321 = .ok (.iconst 0, 1) := by decide +kernel
theorem dL_law_1322 : decode cL_law 1322 = .ok (.laload, 1) := by decide +kernel
theorem dL_law_1323 : decode cL_law 1323 = .ok (.iload 6, 2) := by decide +kernel
theorem dL_law_1325 : decode cL_law 1325 = .ok (.i2l, 1) := by decide +kernel
theorem dL_law_1326 : decode cL_law 1326 = .ok (.lcmp, 1) := by decide +kernel
theorem dL_law_1327 : decode cL_law 1327 = .ok (.ifCond .eq 5, 3) := by decide +kernel
theorem dL_law_1330 : decode cL_law 1330 = .ok (.iconst 0, 1) := by decide +kernel
theorem dL_law_1331 : decode cL_law 1331 = .ok (.ireturn, 1) := by decide +kernel
theorem dL_law_1332 : decode cL_law 1332 = .ok (.goto 591, 3) := by decide +kernel
theorem dL_law_1335 : decode cL_law 1335 = .ok (.aload_n 1, 1) := by decide +kernel
theorem dL_law_1336 : decode cL_law 1336 = .ok (.aload_n 0, 1) := by decide +kernel
theorem dL_law_1337 : decode cL_law 1337 = .ok (.iload 4, 2) := by decide +kernel
theorem dL_law_1339 : decode cL_law 1339 = .ok (.iconst 1, 1) := by decide +kernel
theorem dL_law_1340 : decode cL_law 1340 = .ok (.iadd, 1) := by decide +kernel
theorem dL_law_1341 : decode cL_law 1341 = .ok (.iaload, 1) := by decide +kernel
theorem dL_law_1342 : decode cL_law 1342 = .ok (.aload_n 0, 1) := by decide +kernel
theorem dL_law_1343 : decode cL_law 1343 = .ok (.iload 4, 2) := by decide +kernel
theorem dL_law_1345 : decode cL_law 1345 = .ok (.iconst 2, 1) := by decide +kernel
theorem dL_law_1346 : decode cL_law 1346 = .ok (.iadd, 1) := by decide +kernel
theorem dL_law_1347 : decode cL_law 1347 = .ok (.iaload, 1) := by decide +kernel
theorem dL_law_1348 : decode cL_law 1348 = .ok (.aload_n 3, 1) := by decide +kernel
theorem dL_law_1349 : decode cL_law 1349 = .ok (.invokestatic 182, 3) := by decide +kernel
theorem dL_law_1352 : decode cL_law 1352 = .ok (.istore 5, 2) := by decide +kernel
theorem dL_law_1354 : decode cL_law 1354 = .ok (.aload_n 2, 1) := by decide +kernel
theorem dL_law_1355 : decode cL_law 1355 = .ok (.aload_n 0, 1) := by decide +kernel
theorem dL_law_1356 : decode cL_law 1356 = .ok (.iload 4, 2) := by decide +kernel
theorem dL_law_1358 : decode cL_law 1358 = .ok (.iconst 1, 1) := by decide +kernel
theorem dL_law_1359 : decode cL_law 1359 = .ok (.iadd, 1) := by decide +kernel
theorem dL_law_1360 : decode cL_law 1360 = .ok (.iaload, 1) := by decide +kernel
theorem dL_law_1361 : decode cL_law 1361 = .ok (.aload_n 0, 1) := by decide +kernel
theorem dL_law_1362 : decode cL_law 1362 = .ok (.iload 4, 2) := by decide +kernel
theorem dL_law_1364 : decode cL_law 1364 = .ok (.iconst 2, 1) := by decide +kernel
theorem dL_law_1365 : decode cL_law 1365 = .ok (.iadd, 1) := by decide +kernel
theorem dL_law_1366 : decode cL_law 1366 = .ok (.iaload, 1) := by decide +kernel
theorem dL_law_1367 : decode cL_law 1367 = .ok (.invokevirtual 184, 3) := by decide +kernel
theorem dL_law_1370 : decode cL_law 1370 = .ok (.istore 6, 2) := by decide +kernel
theorem dL_law_1372 : decode cL_law 1372 = .ok (.aload_n 2, 1) := by decide +kernel
theorem dL_law_1373 : decode cL_law 1373 = .ok (.invokevirtual 114, 3) := by decide +kernel
theorem dL_law_1376 : decode cL_law 1376 = .ok (.iload 5, 2) := by decide +kernel
theorem dL_law_1378 : decode cL_law 1378 = .ok (.if_icmp .eq 5, 3) := by decide +kernel
theorem dL_law_1381 : decode cL_law 1381 = .ok (.iconst 0, 1) := by decide +kernel
theorem dL_law_1382 : decode cL_law 1382 = .ok (.ireturn, 1) := by decide +kernel
theorem dL_law_1383 : decode cL_law 1383 = .ok (.iload 5, 2) := by decide +kernel
theorem dL_law_1385 : decode cL_law 1385 = .ok (.ifCond .ne 15, 3) := by decide +kernel
theorem dL_law_1388 : decode cL_law 1388 = .ok (.aload_n 3, 1) := by decide +kernel
theorem dL_law_1389 : decode cL_law 1389 = .ok (.iconst 0, 1) := by decide +kernel
theorem dL_law_1390 : decode cL_law 1390 = .ok (.laload, 1) := by decide +kernel
theorem dL_law_1391 : decode cL_law 1391 = .ok (.iload 6, 2) := by decide +kernel
theorem dL_law_1393 : decode cL_law 1393 = .ok (.i2l, 1) := by decide +kernel
theorem dL_law_1394 : decode cL_law 1394 = .ok (.lcmp, 1) := by decide +kernel
theorem dL_law_1395 : decode cL_law 1395 = .ok (.ifCond .eq 5, 3) := by decide +kernel
theorem dL_law_1398 : decode cL_law 1398 = .ok (.iconst 0, 1) := by decide +kernel
theorem dL_law_1399 : decode cL_law 1399 = .ok (.ireturn, 1) := by decide +kernel
theorem dL_law_1400 : decode cL_law 1400 = .ok (.goto 523, 3) := by decide +kernel
theorem dL_law_1403 : decode cL_law 1403 = .ok (.aload_n 1, 1) := by decide +kernel
theorem dL_law_1404 : decode cL_law 1404 = .ok (.aload_n 0, 1) := by decide +kernel
theorem dL_law_1405 : decode cL_law 1405 = .ok (.iload 4, 2) := by decide +kernel
theorem dL_law_1407 : decode cL_law 1407 = .ok (.iconst 1, 1) := by decide +kernel
theorem dL_law_1408 : decode cL_law 1408 = .ok (.iadd, 1) := by decide +kernel
theorem dL_law_1409 : decode cL_law 1409 = .ok (.iaload, 1) := by decide +kernel
theorem dL_law_1410 : decode cL_law 1410 = .ok (.aload_n 0, 1) := by decide +kernel
theorem dL_law_1411 : decode cL_law 1411 = .ok (.iload 4, 2) := by decide +kernel
theorem dL_law_1413 : decode cL_law 1413 = .ok (.iconst 2, 1) := by decide +kernel
theorem dL_law_1414 : decode cL_law 1414 = .ok (.iadd, 1) := by decide +kernel
theorem dL_law_1415 : decode cL_law 1415 = .ok (.iaload, 1) := by decide +kernel
theorem dL_law_1416 : decode cL_law 1416 = .ok (.aload_n 0, 1) := by decide +kernel
theorem dL_law_1417 : decode cL_law 1417 = .ok (.iload 4, 2) := by decide +kernel
theorem dL_law_1419 : decode cL_law 1419 = .ok (.iconst 3, 1) := by decide +kernel
theorem dL_law_1420 : decode cL_law 1420 = .ok (.iadd, 1) := by decide +kernel
theorem dL_law_1421 : decode cL_law 1421 = .ok (.iaload, 1) := by decide +kernel
theorem dL_law_1422 : decode cL_law 1422 = .ok (.aload_n 3, 1) := by decide +kernel
theorem dL_law_1423 : decode cL_law 1423 = .ok (.invokestatic 185, 3) := by decide +kernel
theorem dL_law_1426 : decode cL_law 1426 = .ok (.istore 5, 2) := by decide +kernel
theorem dL_law_1428 : decode cL_law 1428 = .ok (.aload_n 2, 1) := by decide +kernel
theorem dL_law_1429 : decode cL_law 1429 = .ok (.aload_n 0, 1) := by decide +kernel
theorem dL_law_1430 : decode cL_law 1430 = .ok (.iload 4, 2) := by decide +kernel
theorem dL_law_1432 : decode cL_law 1432 = .ok (.iconst 1, 1) := by decide +kernel
theorem dL_law_1433 : decode cL_law 1433 = .ok (.iadd, 1) := by decide +kernel
theorem dL_law_1434 : decode cL_law 1434 = .ok (.iaload, 1) := by decide +kernel
theorem dL_law_1435 : decode cL_law 1435 = .ok (.aload_n 0, 1) := by decide +kernel
theorem dL_law_1436 : decode cL_law 1436 = .ok (.iload 4, 2) := by decide +kernel
theorem dL_law_1438 : decode cL_law 1438 = .ok (.iconst 2, 1) := by decide +kernel
theorem dL_law_1439 : decode cL_law 1439 = .ok (.iadd, 1) := by decide +kernel
theorem dL_law_1440 : decode cL_law 1440 = .ok (.iaload, 1) := by decide +kernel
theorem dL_law_1441 : decode cL_law 1441 = .ok (.aload_n 0, 1) := by decide +kernel
theorem dL_law_1442 : decode cL_law 1442 = .ok (.iload 4, 2) := by decide +kernel
theorem dL_law_1444 : decode cL_law 1444 = .ok (.iconst 3, 1) := by decide +kernel
theorem dL_law_1445 : decode cL_law 1445 = .ok (.iadd, 1) := by decide +kernel
theorem dL_law_1446 : decode cL_law 1446 = .ok (.iaload, 1) := by decide +kernel
theorem dL_law_1447 : decode cL_law 1447 = .ok (.invokevirtual 188, 3) := by decide +kernel
theorem dL_law_1450 : decode cL_law 1450 = .ok (.istore 6, 2) := by decide +kernel
theorem dL_law_1452 : decode cL_law 1452 = .ok (.aload_n 2, 1) := by decide +kernel
theorem dL_law_1453 : decode cL_law 1453 = .ok (.invokevirtual 114, 3) := by decide +kernel
theorem dL_law_1456 : decode cL_law 1456 = .ok (.iload 5, 2) := by decide +kernel
theorem dL_law_1458 : decode cL_law 1458 = .ok (.if_icmp .eq 5, 3) := by decide +kernel
theorem dL_law_1461 : decode cL_law 1461 = .ok (.iconst 0, 1) := by decide +kernel
theorem dL_law_1462 : decode cL_law 1462 = .ok (.ireturn, 1) := by decide +kernel
theorem dL_law_1463 : decode cL_law 1463 = .ok (.iload 5, 2) := by decide +kernel
theorem dL_law_1465 : decode cL_law 1465 = .ok (.ifCond .ne 15, 3) := by decide +kernel
theorem dL_law_1468 : decode cL_law 1468 = .ok (.aload_n 3, 1) := by decide +kernel
theorem dL_law_1469 : decode cL_law 1469 = .ok (.iconst 0, 1) := by decide +kernel
theorem dL_law_1470 : decode cL_law 1470 = .ok (.laload, 1) := by decide +kernel
theorem dL_law_1471 : decode cL_law 1471 = .ok (.iload 6, 2) := by decide +kernel
theorem dL_law_1473 : decode cL_law 1473 = .ok (.i2l, 1) := by decide +kernel
theorem dL_law_1474 : decode cL_law 1474 = .ok (.lcmp, 1) := by decide +kernel
theorem dL_law_1475 : decode cL_law 1475 = .ok (.ifCond .eq 5, 3) := by decide +kernel
theorem dL_law_1478 : decode cL_law 1478 = .ok (.iconst 0, 1) := by decide +kernel
theorem dL_law_1479 : decode cL_law 1479 = .ok (.ireturn, 1) := by decide +kernel
theorem dL_law_1480 : decode cL_law 1480 = .ok (.goto 443, 3) := by decide +kernel
theorem dL_law_1483 : decode cL_law 1483 = .ok (.aload_n 1, 1) := by decide +kernel
theorem dL_law_1484 : decode cL_law 1484 = .ok (.aload_n 0, 1) := by decide +kernel
theorem dL_law_1485 : decode cL_law 1485 = .ok (.iload 4, 2) := by decide +kernel
theorem dL_law_1487 : decode cL_law 1487 = .ok (.iconst 1, 1) := by decide +kernel
theorem dL_law_1488 : decode cL_law 1488 = .ok (.iadd, 1) := by decide +kernel
theorem dL_law_1489 : decode cL_law 1489 = .ok (.iaload, 1) := by decide +kernel
theorem dL_law_1490 : decode cL_law 1490 = .ok (.aload_n 0, 1) := by decide +kernel
theorem dL_law_1491 : decode cL_law 1491 = .ok (.iload 4, 2) := by decide +kernel
theorem dL_law_1493 : decode cL_law 1493 = .ok (.iconst 2, 1) := by decide +kernel
theorem dL_law_1494 : decode cL_law 1494 = .ok (.iadd, 1) := by decide +kernel
theorem dL_law_1495 : decode cL_law 1495 = .ok (.iaload, 1) := by decide +kernel
theorem dL_law_1496 : decode cL_law 1496 = .ok (.aload_n 3, 1) := by decide +kernel
theorem dL_law_1497 : decode cL_law 1497 = .ok (.invokestatic 189, 3) := by decide +kernel
theorem dL_law_1500 : decode cL_law 1500 = .ok (.istore 5, 2) := by decide +kernel
theorem dL_law_1502 : decode cL_law 1502 = .ok (.aload_n 2, 1) := by decide +kernel
theorem dL_law_1503 : decode cL_law 1503 = .ok (.aload_n 0, 1) := by decide +kernel
theorem dL_law_1504 : decode cL_law 1504 = .ok (.iload 4, 2) := by decide +kernel
theorem dL_law_1506 : decode cL_law 1506 = .ok (.iconst 1, 1) := by decide +kernel
theorem dL_law_1507 : decode cL_law 1507 = .ok (.iadd, 1) := by decide +kernel
theorem dL_law_1508 : decode cL_law 1508 = .ok (.iaload, 1) := by decide +kernel
theorem dL_law_1509 : decode cL_law 1509 = .ok (.aload_n 0, 1) := by decide +kernel
theorem dL_law_1510 : decode cL_law 1510 = .ok (.iload 4, 2) := by decide +kernel
theorem dL_law_1512 : decode cL_law 1512 = .ok (.iconst 2, 1) := by decide +kernel
theorem dL_law_1513 : decode cL_law 1513 = .ok (.iadd, 1) := by decide +kernel
theorem dL_law_1514 : decode cL_law 1514 = .ok (.iaload, 1) := by decide +kernel
theorem dL_law_1515 : decode cL_law 1515 = .ok (.invokevirtual 191, 3) := by decide +kernel
theorem dL_law_1518 : decode cL_law 1518 = .ok (.istore 6, 2) := by decide +kernel
theorem dL_law_1520 : decode cL_law 1520 = .ok (.aload_n 2, 1) := by decide +kernel
theorem dL_law_1521 : decode cL_law 1521 = .ok (.invokevirtual 114, 3) := by decide +kernel
theorem dL_law_1524 : decode cL_law 1524 = .ok (.iload 5, 2) := by decide +kernel
theorem dL_law_1526 : decode cL_law 1526 = .ok (.if_icmp .eq 5, 3) := by decide +kernel
theorem dL_law_1529 : decode cL_law 1529 = .ok (.iconst 0, 1) := by decide +kernel
theorem dL_law_1530 : decode cL_law 1530 = .ok (.ireturn, 1) := by decide +kernel
theorem dL_law_1531 : decode cL_law 1531 = .ok (.iload 5, 2) := by decide +kernel
theorem dL_law_1533 : decode cL_law 1533 = .ok (.ifCond .ne 15, 3) := by decide +kernel
theorem dL_law_1536 : decode cL_law 1536 = .ok (.aload_n 3, 1) := by decide +kernel
theorem dL_law_1537 : decode cL_law 1537 = .ok (.iconst 0, 1) := by decide +kernel
theorem dL_law_1538 : decode cL_law 1538 = .ok (.laload, 1) := by decide +kernel
theorem dL_law_1539 : decode cL_law 1539 = .ok (.iload 6, 2) := by decide +kernel
theorem dL_law_1541 : decode cL_law 1541 = .ok (.i2l, 1) := by decide +kernel
theorem dL_law_1542 : decode cL_law 1542 = .ok (.lcmp, 1) := by decide +kernel
theorem dL_law_1543 : decode cL_law 1543 = .ok (.ifCond .eq 5, 3) := by decide +kernel
theorem dL_law_1546 : decode cL_law 1546 = .ok (.iconst 0, 1) := by decide +kernel
theorem dL_law_1547 : decode cL_law 1547 = .ok (.ireturn, 1) := by decide +kernel
theorem dL_law_1548 : decode cL_law 1548 = .ok (.goto 375, 3) := by decide +kernel
theorem dL_law_1551 : decode cL_law 1551 = .ok (.aload_n 1, 1) := by decide +kernel
theorem dL_law_1552 : decode cL_law 1552 = .ok (.aload_n 0, 1) := by decide +kernel
theorem dL_law_1553 : decode cL_law 1553 = .ok (.iload 4, 2) := by decide +kernel
theorem dL_law_1555 : decode cL_law 1555 = .ok (.iconst 1, 1) := by decide +kernel
theorem dL_law_1556 : decode cL_law 1556 = .ok (.iadd, 1) := by decide +kernel
theorem dL_law_1557 : decode cL_law 1557 = .ok (.iaload, 1) := by decide +kernel
theorem dL_law_1558 : decode cL_law 1558 = .ok (.aload_n 0, 1) := by decide +kernel
theorem dL_law_1559 : decode cL_law 1559 = .ok (.iload 4, 2) := by decide +kernel
theorem dL_law_1561 : decode cL_law 1561 = .ok (.iconst 2, 1) := by decide +kernel
theorem dL_law_1562 : decode cL_law 1562 = .ok (.iadd, 1) := by decide +kernel
theorem dL_law_1563 : decode cL_law 1563 = .ok (.iaload, 1) := by decide +kernel
theorem dL_law_1564 : decode cL_law 1564 = .ok (.aload_n 3, 1) := by decide +kernel
theorem dL_law_1565 : decode cL_law 1565 = .ok (.invokestatic 192, 3) := by decide +kernel
theorem dL_law_1568 : decode cL_law 1568 = .ok (.istore 5, 2) := by decide +kernel
theorem dL_law_1570 : decode cL_law 1570 = .ok (.aload_n 2, 1) := by decide +kernel
theorem dL_law_1571 : decode cL_law 1571 = .ok (.aload_n 0, 1) := by decide +kernel
theorem dL_law_1572 : decode cL_law 1572 = .ok (.iload 4, 2) := by decide +kernel
theorem dL_law_1574 : decode cL_law 1574 = .ok (.iconst 1, 1) := by decide +kernel
theorem dL_law_1575 : decode cL_law 1575 = .ok (.iadd, 1) := by decide +kernel
theorem dL_law_1576 : decode cL_law 1576 = .ok (.iaload, 1) := by decide +kernel
theorem dL_law_1577 : decode cL_law 1577 = .ok (.aload_n 0, 1) := by decide +kernel
theorem dL_law_1578 : decode cL_law 1578 = .ok (.iload 4, 2) := by decide +kernel
theorem dL_law_1580 : decode cL_law 1580 = .ok (.iconst 2, 1) := by decide +kernel
theorem dL_law_1581 : decode cL_law 1581 = .ok (.iadd, 1) := by decide +kernel
theorem dL_law_1582 : decode cL_law 1582 = .ok (.iaload, 1) := by decide +kernel
theorem dL_law_1583 : decode cL_law 1583 = .ok (.invokevirtual 194, 3) := by decide +kernel
theorem dL_law_1586 : decode cL_law 1586 = .ok (.istore 6, 2) := by decide +kernel
theorem dL_law_1588 : decode cL_law 1588 = .ok (.aload_n 2, 1) := by decide +kernel
theorem dL_law_1589 : decode cL_law 1589 = .ok (.invokevirtual 114, 3) := by decide +kernel
theorem dL_law_1592 : decode cL_law 1592 = .ok (.iload 5, 2) := by decide +kernel
theorem dL_law_1594 : decode cL_law 1594 = .ok (.if_icmp .eq 5, 3) := by decide +kernel
theorem dL_law_1597 : decode cL_law 1597 = .ok (.iconst 0, 1) := by decide +kernel
theorem dL_law_1598 : decode cL_law 1598 = .ok (.ireturn, 1) := by decide +kernel
theorem dL_law_1599 : decode cL_law 1599 = .ok (.iload 5, 2) := by decide +kernel
theorem dL_law_1601 : decode cL_law 1601 = .ok (.ifCond .ne 15, 3) := by decide +kernel
theorem dL_law_1604 : decode cL_law 1604 = .ok (.aload_n 3, 1) := by decide +kernel
theorem dL_law_1605 : decode cL_law 1605 = .ok (.iconst 0, 1) := by decide +kernel
theorem dL_law_1606 : decode cL_law 1606 = .ok (.laload, 1) := by decide +kernel
theorem dL_law_1607 : decode cL_law 1607 = .ok (.iload 6, 2) := by decide +kernel
theorem dL_law_1609 : decode cL_law 1609 = .ok (.i2l, 1) := by decide +kernel
theorem dL_law_1610 : decode cL_law 1610 = .ok (.lcmp, 1) := by decide +kernel
theorem dL_law_1611 : decode cL_law 1611 = .ok (.ifCond .eq 5, 3) := by decide +kernel
theorem dL_law_1614 : decode cL_law 1614 = .ok (.iconst 0, 1) := by decide +kernel
theorem dL_law_1615 : decode cL_law 1615 = .ok (.ireturn, 1) := by decide +kernel
theorem dL_law_1616 : decode cL_law 1616 = .ok (.goto 307, 3) := by decide +kernel
theorem dL_law_1619 : decode cL_law 1619 = .ok (.aload_n 1, 1) := by decide +kernel
theorem dL_law_1620 : decode cL_law 1620 = .ok (.aload_n 0, 1) := by decide +kernel
theorem dL_law_1621 : decode cL_law 1621 = .ok (.iload 4, 2) := by decide +kernel
theorem dL_law_1623 : decode cL_law 1623 = .ok (.iconst 1, 1) := by decide +kernel
theorem dL_law_1624 : decode cL_law 1624 = .ok (.iadd, 1) := by decide +kernel
theorem dL_law_1625 : decode cL_law 1625 = .ok (.iaload, 1) := by decide +kernel
theorem dL_law_1626 : decode cL_law 1626 = .ok (.aload_n 0, 1) := by decide +kernel
theorem dL_law_1627 : decode cL_law 1627 = .ok (.iload 4, 2) := by decide +kernel
theorem dL_law_1629 : decode cL_law 1629 = .ok (.iconst 2, 1) := by decide +kernel
theorem dL_law_1630 : decode cL_law 1630 = .ok (.iadd, 1) := by decide +kernel
theorem dL_law_1631 : decode cL_law 1631 = .ok (.iaload, 1) := by decide +kernel
theorem dL_law_1632 : decode cL_law 1632 = .ok (.aload_n 3, 1) := by decide +kernel
theorem dL_law_1633 : decode cL_law 1633 = .ok (.invokestatic 195, 3) := by decide +kernel
theorem dL_law_1636 : decode cL_law 1636 = .ok (.istore 5, 2) := by decide +kernel
theorem dL_law_1638 : decode cL_law 1638 = .ok (.aload_n 2, 1) := by decide +kernel
theorem dL_law_1639 : decode cL_law 1639 = .ok (.aload_n 0, 1) := by decide +kernel
theorem dL_law_1640 : decode cL_law 1640 = .ok (.iload 4, 2) := by decide +kernel
theorem dL_law_1642 : decode cL_law 1642 = .ok (.iconst 1, 1) := by decide +kernel
theorem dL_law_1643 : decode cL_law 1643 = .ok (.iadd, 1) := by decide +kernel
theorem dL_law_1644 : decode cL_law 1644 = .ok (.iaload, 1) := by decide +kernel
theorem dL_law_1645 : decode cL_law 1645 = .ok (.aload_n 0, 1) := by decide +kernel
theorem dL_law_1646 : decode cL_law 1646 = .ok (.iload 4, 2) := by decide +kernel
theorem dL_law_1648 : decode cL_law 1648 = .ok (.iconst 2, 1) := by decide +kernel
theorem dL_law_1649 : decode cL_law 1649 = .ok (.iadd, 1) := by decide +kernel
theorem dL_law_1650 : decode cL_law 1650 = .ok (.iaload, 1) := by decide +kernel
theorem dL_law_1651 : decode cL_law 1651 = .ok (.invokevirtual 197, 3) := by decide +kernel
theorem dL_law_1654 : decode cL_law 1654 = .ok (.istore 6, 2) := by decide +kernel
theorem dL_law_1656 : decode cL_law 1656 = .ok (.aload_n 2, 1) := by decide +kernel
theorem dL_law_1657 : decode cL_law 1657 = .ok (.invokevirtual 114, 3) := by decide +kernel
theorem dL_law_1660 : decode cL_law 1660 = .ok (.iload 5, 2) := by decide +kernel
theorem dL_law_1662 : decode cL_law 1662 = .ok (.if_icmp .eq 5, 3) := by decide +kernel
theorem dL_law_1665 : decode cL_law 1665 = .ok (.iconst 0, 1) := by decide +kernel
theorem dL_law_1666 : decode cL_law 1666 = .ok (.ireturn, 1) := by decide +kernel
theorem dL_law_1667 : decode cL_law 1667 = .ok (.iload 5, 2) := by decide +kernel
theorem dL_law_1669 : decode cL_law 1669 = .ok (.ifCond .ne 15, 3) := by decide +kernel
theorem dL_law_1672 : decode cL_law 1672 = .ok (.aload_n 3, 1) := by decide +kernel
theorem dL_law_1673 : decode cL_law 1673 = .ok (.iconst 0, 1) := by decide +kernel
theorem dL_law_1674 : decode cL_law 1674 = .ok (.laload, 1) := by decide +kernel
theorem dL_law_1675 : decode cL_law 1675 = .ok (.iload 6, 2) := by decide +kernel
theorem dL_law_1677 : decode cL_law 1677 = .ok (.i2l, 1) := by decide +kernel
theorem dL_law_1678 : decode cL_law 1678 = .ok (.lcmp, 1) := by decide +kernel
theorem dL_law_1679 : decode cL_law 1679 = .ok (.ifCond .eq 5, 3) := by decide +kernel
theorem dL_law_1682 : decode cL_law 1682 = .ok (.iconst 0, 1) := by decide +kernel
theorem dL_law_1683 : decode cL_law 1683 = .ok (.ireturn, 1) := by decide +kernel
theorem dL_law_1684 : decode cL_law 1684 = .ok (.goto 239, 3) := by decide +kernel
theorem dL_law_1687 : decode cL_law 1687 = .ok (.aload_n 1, 1) := by decide +kernel
theorem dL_law_1688 : decode cL_law 1688 = .ok (.aload_n 0, 1) := by decide +kernel
theorem dL_law_1689 : decode cL_law 1689 = .ok (.iload 4, 2) := by decide +kernel
theorem dL_law_1691 : decode cL_law 1691 = .ok (.iconst 1, 1) := by decide +kernel
theorem dL_law_1692 : decode cL_law 1692 = .ok (.iadd, 1) := by decide +kernel
theorem dL_law_1693 : decode cL_law 1693 = .ok (.iaload, 1) := by decide +kernel
theorem dL_law_1694 : decode cL_law 1694 = .ok (.aload_n 0, 1) := by decide +kernel
theorem dL_law_1695 : decode cL_law 1695 = .ok (.iload 4, 2) := by decide +kernel
theorem dL_law_1697 : decode cL_law 1697 = .ok (.iconst 2, 1) := by decide +kernel
theorem dL_law_1698 : decode cL_law 1698 = .ok (.iadd, 1) := by decide +kernel
theorem dL_law_1699 : decode cL_law 1699 = .ok (.iaload, 1) := by decide +kernel
theorem dL_law_1700 : decode cL_law 1700 = .ok (.aload_n 3, 1) := by decide +kernel
theorem dL_law_1701 : decode cL_law 1701 = .ok (.invokestatic 198, 3) := by decide +kernel
theorem dL_law_1704 : decode cL_law 1704 = .ok (.istore 5, 2) := by decide +kernel
theorem dL_law_1706 : decode cL_law 1706 = .ok (.aload_n 2, 1) := by decide +kernel
theorem dL_law_1707 : decode cL_law 1707 = .ok (.aload_n 0, 1) := by decide +kernel
theorem dL_law_1708 : decode cL_law 1708 = .ok (.iload 4, 2) := by decide +kernel
theorem dL_law_1710 : decode cL_law 1710 = .ok (.iconst 1, 1) := by decide +kernel
theorem dL_law_1711 : decode cL_law 1711 = .ok (.iadd, 1) := by decide +kernel
theorem dL_law_1712 : decode cL_law 1712 = .ok (.iaload, 1) := by decide +kernel
theorem dL_law_1713 : decode cL_law 1713 = .ok (.aload_n 0, 1) := by decide +kernel
theorem dL_law_1714 : decode cL_law 1714 = .ok (.iload 4, 2) := by decide +kernel
theorem dL_law_1716 : decode cL_law 1716 = .ok (.iconst 2, 1) := by decide +kernel
theorem dL_law_1717 : decode cL_law 1717 = .ok (.iadd, 1) := by decide +kernel
theorem dL_law_1718 : decode cL_law 1718 = .ok (.iaload, 1) := by decide +kernel
theorem dL_law_1719 : decode cL_law 1719 = .ok (.invokevirtual 200, 3) := by decide +kernel
theorem dL_law_1722 : decode cL_law 1722 = .ok (.istore 6, 2) := by decide +kernel
theorem dL_law_1724 : decode cL_law 1724 = .ok (.aload_n 2, 1) := by decide +kernel
theorem dL_law_1725 : decode cL_law 1725 = .ok (.invokevirtual 114, 3) := by decide +kernel
theorem dL_law_1728 : decode cL_law 1728 = .ok (.iload 5, 2) := by decide +kernel
theorem dL_law_1730 : decode cL_law 1730 = .ok (.if_icmp .eq 5, 3) := by decide +kernel
theorem dL_law_1733 : decode cL_law 1733 = .ok (.iconst 0, 1) := by decide +kernel
theorem dL_law_1734 : decode cL_law 1734 = .ok (.ireturn, 1) := by decide +kernel
theorem dL_law_1735 : decode cL_law 1735 = .ok (.iload 5, 2) := by decide +kernel
theorem dL_law_1737 : decode cL_law 1737 = .ok (.ifCond .ne 15, 3) := by decide +kernel
theorem dL_law_1740 : decode cL_law 1740 = .ok (.aload_n 3, 1) := by decide +kernel
theorem dL_law_1741 : decode cL_law 1741 = .ok (.iconst 0, 1) := by decide +kernel
theorem dL_law_1742 : decode cL_law 1742 = .ok (.laload, 1) := by decide +kernel
theorem dL_law_1743 : decode cL_law 1743 = .ok (.iload 6, 2) := by decide +kernel
theorem dL_law_1745 : decode cL_law 1745 = .ok (.i2l, 1) := by decide +kernel
theorem dL_law_1746 : decode cL_law 1746 = .ok (.lcmp, 1) := by decide +kernel
theorem dL_law_1747 : decode cL_law 1747 = .ok (.ifCond .eq 5, 3) := by decide +kernel
theorem dL_law_1750 : decode cL_law 1750 = .ok (.iconst 0, 1) := by decide +kernel
theorem dL_law_1751 : decode cL_law 1751 = .ok (.ireturn, 1) := by decide +kernel
theorem dL_law_1752 : decode cL_law 1752 = .ok (.goto 171, 3) := by decide +kernel
theorem dL_law_1755 : decode cL_law 1755 = .ok (.aload_n 1, 1) := by decide +kernel
theorem dL_law_1756 : decode cL_law 1756 = .ok (.aload_n 0, 1) := by decide +kernel
theorem dL_law_1757 : decode cL_law 1757 = .ok (.iload 4, 2) := by decide +kernel
theorem dL_law_1759 : decode cL_law 1759 = .ok (.iconst 1, 1) := by decide +kernel
theorem dL_law_1760 : decode cL_law 1760 = .ok (.iadd, 1) := by decide +kernel
theorem dL_law_1761 : decode cL_law 1761 = .ok (.iaload, 1) := by decide +kernel
theorem dL_law_1762 : decode cL_law 1762 = .ok (.aload_n 3, 1) := by decide +kernel
theorem dL_law_1763 : decode cL_law 1763 = .ok (.invokestatic 201, 3) := by decide +kernel
theorem dL_law_1766 : decode cL_law 1766 = .ok (.istore 5, 2) := by decide +kernel
theorem dL_law_1768 : decode cL_law 1768 = .ok (.aload_n 2, 1) := by decide +kernel
theorem dL_law_1769 : decode cL_law 1769 = .ok (.aload_n 0, 1) := by decide +kernel
theorem dL_law_1770 : decode cL_law 1770 = .ok (.iload 4, 2) := by decide +kernel
theorem dL_law_1772 : decode cL_law 1772 = .ok (.iconst 1, 1) := by decide +kernel
theorem dL_law_1773 : decode cL_law 1773 = .ok (.iadd, 1) := by decide +kernel
theorem dL_law_1774 : decode cL_law 1774 = .ok (.iaload, 1) := by decide +kernel
theorem dL_law_1775 : decode cL_law 1775 = .ok (.invokevirtual 203, 3) := by decide +kernel
theorem dL_law_1778 : decode cL_law 1778 = .ok (.istore 6, 2) := by decide +kernel
theorem dL_law_1780 : decode cL_law 1780 = .ok (.aload_n 2, 1) := by decide +kernel
theorem dL_law_1781 : decode cL_law 1781 = .ok (.invokevirtual 114, 3) := by decide +kernel
theorem dL_law_1784 : decode cL_law 1784 = .ok (.iload 5, 2) := by decide +kernel
theorem dL_law_1786 : decode cL_law 1786 = .ok (.if_icmp .eq 5, 3) := by decide +kernel
theorem dL_law_1789 : decode cL_law 1789 = .ok (.iconst 0, 1) := by decide +kernel
theorem dL_law_1790 : decode cL_law 1790 = .ok (.ireturn, 1) := by decide +kernel
theorem dL_law_1791 : decode cL_law 1791 = .ok (.iload 5, 2) := by decide +kernel
theorem dL_law_1793 : decode cL_law 1793 = .ok (.ifCond .ne 15, 3) := by decide +kernel
theorem dL_law_1796 : decode cL_law 1796 = .ok (.aload_n 3, 1) := by decide +kernel
theorem dL_law_1797 : decode cL_law 1797 = .ok (.iconst 0, 1) := by decide +kernel
theorem dL_law_1798 : decode cL_law 1798 = .ok (.laload, 1) := by decide +kernel
theorem dL_law_1799 : decode cL_law 1799 = .ok (.iload 6, 2) := by decide +kernel
theorem dL_law_1801 : decode cL_law 1801 = .ok (.i2l, 1) := by decide +kernel
theorem dL_law_1802 : decode cL_law 1802 = .ok (.lcmp, 1) := by decide +kernel
theorem dL_law_1803 : decode cL_law 1803 = .ok (.ifCond .eq 5, 3) := by decide +kernel
theorem dL_law_1806 : decode cL_law 1806 = .ok (.iconst 0, 1) := by decide +kernel
theorem dL_law_1807 : decode cL_law 1807 = .ok (.ireturn, 1) := by decide +kernel
theorem dL_law_1808 : decode cL_law 1808 = .ok (.goto 115, 3) := by decide +kernel
theorem dL_law_1811 : decode cL_law 1811 = .ok (.aload_n 1, 1) := by decide +kernel
theorem dL_law_1812 : decode cL_law 1812 = .ok (.aload_n 0, 1) := by decide +kernel
theorem dL_law_1813 : decode cL_law 1813 = .ok (.iload 4, 2) := by decide +kernel
theorem dL_law_1815 : decode cL_law 1815 = .ok (.iconst 1, 1) := by decide +kernel
theorem dL_law_1816 : decode cL_law 1816 = .ok (.iadd, 1) := by decide +kernel
theorem dL_law_1817 : decode cL_law 1817 = .ok (.iaload, 1) := by decide +kernel
theorem dL_law_1818 : decode cL_law 1818 = .ok (.aload_n 3, 1) := by decide +kernel
theorem dL_law_1819 : decode cL_law 1819 = .ok (.invokestatic 204, 3) := by decide +kernel
theorem dL_law_1822 : decode cL_law 1822 = .ok (.istore 5, 2) := by decide +kernel
theorem dL_law_1824 : decode cL_law 1824 = .ok (.aload_n 2, 1) := by decide +kernel
theorem dL_law_1825 : decode cL_law 1825 = .ok (.aload_n 0, 1) := by decide +kernel
theorem dL_law_1826 : decode cL_law 1826 = .ok (.iload 4, 2) := by decide +kernel
theorem dL_law_1828 : decode cL_law 1828 = .ok (.iconst 1, 1) := by decide +kernel
theorem dL_law_1829 : decode cL_law 1829 = .ok (.iadd, 1) := by decide +kernel
theorem dL_law_1830 : decode cL_law 1830 = .ok (.iaload, 1) := by decide +kernel
theorem dL_law_1831 : decode cL_law 1831 = .ok (.invokevirtual 206, 3) := by decide +kernel
theorem dL_law_1834 : decode cL_law 1834 = .ok (.istore 6, 2) := by decide +kernel
theorem dL_law_1836 : decode cL_law 1836 = .ok (.aload_n 2, 1) := by decide +kernel
theorem dL_law_1837 : decode cL_law 1837 = .ok (.invokevirtual 114, 3) := by decide +kernel
theorem dL_law_1840 : decode cL_law 1840 = .ok (.iload 5, 2) := by decide +kernel
theorem dL_law_1842 : decode cL_law 1842 = .ok (.if_icmp .eq 5, 3) := by decide +kernel
theorem dL_law_1845 : decode cL_law 1845 = .ok (.iconst 0, 1) := by decide +kernel
theorem dL_law_1846 : decode cL_law 1846 = .ok (.ireturn, 1) := by decide +kernel
theorem dL_law_1847 : decode cL_law 1847 = .ok (.iload 5, 2) := by decide +kernel
theorem dL_law_1849 : decode cL_law 1849 = .ok (.ifCond .ne 15, 3) := by decide +kernel
theorem dL_law_1852 : decode cL_law 1852 = .ok (.aload_n 3, 1) := by decide +kernel
theorem dL_law_1853 : decode cL_law 1853 = .ok (.iconst 0, 1) := by decide +kernel
theorem dL_law_1854 : decode cL_law 1854 = .ok (.laload, 1) := by decide +kernel
theorem dL_law_1855 : decode cL_law 1855 = .ok (.iload 6, 2) := by decide +kernel
theorem dL_law_1857 : decode cL_law 1857 = .ok (.i2l, 1) := by decide +kernel
theorem dL_law_1858 : decode cL_law 1858 = .ok (.lcmp, 1) := by decide +kernel
theorem dL_law_1859 : decode cL_law 1859 = .ok (.ifCond .eq 5, 3) := by decide +kernel
theorem dL_law_1862 : decode cL_law 1862 = .ok (.iconst 0, 1) := by decide +kernel
theorem dL_law_1863 : decode cL_law 1863 = .ok (.ireturn, 1) := by decide +kernel
theorem dL_law_1864 : decode cL_law 1864 = .ok (.goto 59, 3) := by decide +kernel
theorem dL_law_1867 : decode cL_law 1867 = .ok (.aload_n 1, 1) := by decide +kernel
theorem dL_law_1868 : decode cL_law 1868 = .ok (.aload_n 0, 1) := by decide +kernel
theorem dL_law_1869 : decode cL_law 1869 = .ok (.iload 4, 2) := by decide +kernel
theorem dL_law_1871 : decode cL_law 1871 = .ok (.iconst 1, 1) := by decide +kernel
theorem dL_law_1872 : decode cL_law 1872 = .ok (.iadd, 1) := by decide +kernel
theorem dL_law_1873 : decode cL_law 1873 = .ok (.iaload, 1) := by decide +kernel
theorem dL_law_1874 : decode cL_law 1874 = .ok (.aload_n 3, 1) := by decide +kernel
theorem dL_law_1875 : decode cL_law 1875 = .ok (.invokestatic 207, 3) := by decide +kernel
theorem dL_law_1878 : decode cL_law 1878 = .ok (.istore 5, 2) := by decide +kernel
theorem dL_law_1880 : decode cL_law 1880 = .ok (.aload_n 2, 1) := by decide +kernel
theorem dL_law_1881 : decode cL_law 1881 = .ok (.aload_n 0, 1) := by decide +kernel
theorem dL_law_1882 : decode cL_law 1882 = .ok (.iload 4, 2) := by decide +kernel
theorem dL_law_1884 : decode cL_law 1884 = .ok (.iconst 1, 1) := by decide +kernel
theorem dL_law_1885 : decode cL_law 1885 = .ok (.iadd, 1) := by decide +kernel
theorem dL_law_1886 : decode cL_law 1886 = .ok (.iaload, 1) := by decide +kernel
theorem dL_law_1887 : decode cL_law 1887 = .ok (.invokevirtual 209, 3) := by decide +kernel
theorem dL_law_1890 : decode cL_law 1890 = .ok (.istore 6, 2) := by decide +kernel
theorem dL_law_1892 : decode cL_law 1892 = .ok (.aload_n 2, 1) := by decide +kernel
theorem dL_law_1893 : decode cL_law 1893 = .ok (.invokevirtual 114, 3) := by decide +kernel
theorem dL_law_1896 : decode cL_law 1896 = .ok (.iload 5, 2) := by decide +kernel
theorem dL_law_1898 : decode cL_law 1898 = .ok (.if_icmp .eq 5, 3) := by decide +kernel
theorem dL_law_1901 : decode cL_law 1901 = .ok (.iconst 0, 1) := by decide +kernel
theorem dL_law_1902 : decode cL_law 1902 = .ok (.ireturn, 1) := by decide +kernel
theorem dL_law_1903 : decode cL_law 1903 = .ok (.iload 5, 2) := by decide +kernel
theorem dL_law_1905 : decode cL_law 1905 = .ok (.ifCond .ne 15, 3) := by decide +kernel
theorem dL_law_1908 : decode cL_law 1908 = .ok (.aload_n 3, 1) := by decide +kernel
theorem dL_law_1909 : decode cL_law 1909 = .ok (.iconst 0, 1) := by decide +kernel
theorem dL_law_1910 : decode cL_law 1910 = .ok (.laload, 1) := by decide +kernel
theorem dL_law_1911 : decode cL_law 1911 = .ok (.iload 6, 2) := by decide +kernel
theorem dL_law_1913 : decode cL_law 1913 = .ok (.i2l, 1) := by decide +kernel
theorem dL_law_1914 : decode cL_law 1914 = .ok (.lcmp, 1) := by decide +kernel
theorem dL_law_1915 : decode cL_law 1915 = .ok (.ifCond .eq 5, 3) := by decide +kernel
theorem dL_law_1918 : decode cL_law 1918 = .ok (.iconst 0, 1) := by decide +kernel
theorem dL_law_1919 : decode cL_law 1919 = .ok (.ireturn, 1) := by decide +kernel
theorem dL_law_1920 : decode cL_law 1920 = .ok (.goto 3, 3) := by decide +kernel
theorem dL_law_1923 : decode cL_law 1923 = .ok (.iinc 4 5, 3) := by decide +kernel
theorem dL_law_1926 : decode cL_law 1926 = .ok (.goto (-1903), 3) := by decide +kernel
theorem dL_law_1929 : decode cL_law 1929 = .ok (.iconst 1, 1) := by decide +kernel
theorem dL_law_1930 : decode cL_law 1930 = .ok (.ireturn, 1) := by decide +kernel
end
section
/-! the good words of the tables, one by one; what a call of each link asks (written by wip/whole/mk_words.py) -/
def Tw : List Cond := lw_tbl.filter goodWord
theorem Tw_of {w : Cond} (i : Nat) (h : lw_tbl[i]? = some w) (g : goodWord w = true) : w ∈ Tw := List.mem_filter.mpr ⟨List.mem_of_getElem? h, g⟩
theorem Tw_in {w : Cond} (h : w ∈ Tw) : w ∈ lw_tbl := (List.mem_filter.mp h).1
theorem Tw_good {L : List Cond} (h : ∀ w ∈ L, w ∈ Tw) : GoodIn Tw L := fun w hw => ⟨h w hw, good_of_word (List.mem_filter.mp (h w hw)).2⟩
theorem Tw_all {L : List Cond} (h1 : ∀ w ∈ L, w ∈ lw_tbl) (h2 : ∀ w ∈ L, goodWord w = true) : ∀ w ∈ L, w ∈ Tw := fun w hw => List.mem_filter.mpr ⟨h1 w hw, h2 w hw⟩
def WS (y : MethodName) (cc : ByteArray) (maxL : Nat) (ret : Option FieldType) : List Cond := Cond.code y cc maxL ret :: Tw
def WH (y : MethodName) (cc : ByteArray) (maxL : Nat) (ret : Option FieldType) (hh : List (Nat × Nat × Nat × Nat)) : List Cond := Cond.codeWith y cc maxL ret hh :: Tw
theorem WS_all {y : MethodName} {cc : ByteArray} {maxL : Nat} {ret : Option FieldType} (h : Cond.code y cc maxL ret ∈ Tw) : ∀ w ∈ WS y cc maxL ret, w ∈ Tw := fun w hw => by
  rcases List.mem_cons.mp hw with e | e
  · rw [e]; exact h
  · exact e
theorem WH_all {y : MethodName} {cc : ByteArray} {maxL : Nat} {ret : Option FieldType} {hh : List (Nat × Nat × Nat × Nat)} (h : Cond.codeWith y cc maxL ret hh ∈ Tw) : ∀ w ∈ WH y cc maxL ret hh, w ∈ Tw := fun w hw => by
  rcases List.mem_cons.mp hw with e | e
  · rw [e]; exact h
  · exact e
theorem app_all {a b : List Cond} (ha : ∀ w ∈ a, w ∈ Tw) (hb : ∀ w ∈ b, w ∈ Tw) : ∀ w ∈ a ++ b, w ∈ Tw := fun w h => (List.mem_append.mp h).elim (ha w) (hb w)
theorem nil_all : ∀ w ∈ ([] : List Cond), w ∈ Tw := fun _ h => nomatch h
theorem cons_all {c : Cond} {L : List Cond} (hc : c ∈ Tw) (h : ∀ w ∈ L, w ∈ Tw) : ∀ w ∈ c :: L, w ∈ Tw := fun w hw => (List.mem_cons.mp hw).elim (fun e => by rw [e]; exact hc) (h w)
theorem goodV {own C : String} {idx : Nat} {y : MethodName} {L : List Cond} (h1 : Cond.methodLink own idx y ∈ Tw) (h2 : Cond.instanceMethod y ∈ Tw) (h3 : Cond.selects C y y ∈ Tw) (h4 : Cond.initialized C ∈ Tw) (h5 : ∀ w ∈ L, w ∈ Tw) : GoodIn Tw (wsV own idx C y L) :=
  Tw_good (app_all (cons_all h1 (cons_all h2 (cons_all h3 (cons_all h4 nil_all)))) h5)
theorem goodS {own : String} {idx : Nat} {y : MethodName} {L : List Cond} (h1 : Cond.methodLink own idx y ∈ Tw) (h2 : Cond.static y ∈ Tw) (h4 : Cond.initialized y.cls ∈ Tw) (h5 : ∀ w ∈ L, w ∈ Tw) : GoodIn Tw (va_wsS own idx y L) :=
  Tw_good (app_all (cons_all h1 (cons_all h2 (cons_all h4 nil_all))) h5)
theorem tw_ini_L : (Jvm.Cond.initialized "FleetSettingsLaw") ∈ Tw := Tw_of 52 (by decide +kernel) rfl
theorem tw_ini_X5 : (Jvm.Cond.initialized "FleetSettings") ∈ Tw := Tw_of 53 (by decide +kernel) rfl
theorem tw_ini_X1 : (Jvm.Cond.initialized "FleetSettings$Heads") ∈ Tw := Tw_of 54 (by decide +kernel) rfl
theorem tw_ini_J7 : (Jvm.Cond.initialized "java/util/Arrays") ∈ Tw := Tw_of 55 (by decide +kernel) rfl
theorem tw_ini_X3 : (Jvm.Cond.initialized "FleetSettings$Outcome") ∈ Tw := Tw_of 56 (by decide +kernel) rfl
theorem tw_ini_X4 : (Jvm.Cond.initialized "FleetSettings$Person") ∈ Tw := Tw_of 57 (by decide +kernel) rfl
theorem tw_ini_X2 : (Jvm.Cond.initialized "FleetSettings$Machine") ∈ Tw := Tw_of 58 (by decide +kernel) rfl
theorem tw_ini_X0 : (Jvm.Cond.initialized "FleetSettings$Change") ∈ Tw := Tw_of 59 (by decide +kernel) rfl
theorem tw_ini_X6 : (Jvm.Cond.initialized "FleetSettingsModel") ∈ Tw := Tw_of 60 (by decide +kernel) rfl
theorem tw_ini_THR : (Jvm.Cond.initialized "java/lang/Throwable") ∈ Tw := Tw_of 61 (by decide +kernel) rfl
theorem tw_ini_EXC : (Jvm.Cond.initialized "java/lang/Exception") ∈ Tw := Tw_of 62 (by decide +kernel) rfl
theorem tw_ini_RTE : (Jvm.Cond.initialized "java/lang/RuntimeException") ∈ Tw := Tw_of 63 (by decide +kernel) rfl
theorem tw_ini_IAE : (Jvm.Cond.initialized "java/lang/IllegalArgumentException") ∈ Tw := Tw_of 64 (by decide +kernel) rfl
theorem tw_ini_IOOBE : (Jvm.Cond.initialized "java/lang/IndexOutOfBoundsException") ∈ Tw := Tw_of 65 (by decide +kernel) rfl
theorem tw_ini_ISE : (Jvm.Cond.initialized "java/lang/IllegalStateException") ∈ Tw := Tw_of 66 (by decide +kernel) rfl
theorem tw_ini_J6 : (Jvm.Cond.initialized "java/lang/Integer") ∈ Tw := Tw_of 67 (by decide +kernel) rfl
theorem tw_cl_L_8 : (Jvm.Cond.classLink "FleetSettingsLaw" (8 : Nat) "FleetSettings") ∈ Tw := Tw_of 68 (by decide +kernel) rfl
theorem tw_ins_X5 : (Jvm.Cond.instantiable "FleetSettings" (16 : Nat)) ∈ Tw := Tw_of 69 (by decide +kernel) rfl
theorem tw_ml_L_104 : (Jvm.Cond.methodLink "FleetSettingsLaw" (104 : Nat) ({ cls := "FleetSettings", name := "<init>", desc := "()V" } : Jvm.MethodName)) ∈ Tw := Tw_of 70 (by decide +kernel) rfl
theorem tw_im_X5_init : (Jvm.Cond.instanceMethod ({ cls := "FleetSettings", name := "<init>", desc := "()V" } : Jvm.MethodName)) ∈ Tw := Tw_of 71 (by decide +kernel) rfl
theorem tw_code_X5_init : (Jvm.Cond.code ({ cls := "FleetSettings", name := "<init>", desc := "()V" } : Jvm.MethodName) prog_1_method_1_code (2 : Nat) (Option.none : Option Jvm.ClassFile.FieldType)) ∈ Tw := Tw_of 72 (by decide +kernel) rfl
theorem tw_ml_X5_3 : (Jvm.Cond.methodLink "FleetSettings" (3 : Nat) ({ cls := "java/lang/Object", name := "<init>", desc := "()V" } : Jvm.MethodName)) ∈ Tw := Tw_of 73 (by decide +kernel) rfl
theorem tw_im_objInit : (Jvm.Cond.instanceMethod ({ cls := "java/lang/Object", name := "<init>", desc := "()V" } : Jvm.MethodName)) ∈ Tw := Tw_of 74 (by decide +kernel) rfl
theorem tw_code_objInit : (Jvm.Cond.code ({ cls := "java/lang/Object", name := "<init>", desc := "()V" } : Jvm.MethodName) object_method_1_code (1 : Nat) (Option.none : Option Jvm.ClassFile.FieldType)) ∈ Tw := Tw_of 75 (by decide +kernel) rfl
theorem tw_cl_X5_17 : (Jvm.Cond.classLink "FleetSettings" (17 : Nat) "FleetSettings$Person") ∈ Tw := Tw_of 76 (by decide +kernel) rfl
theorem tw_cl_X5_29 : (Jvm.Cond.classLink "FleetSettings" (29 : Nat) "FleetSettings$Machine") ∈ Tw := Tw_of 78 (by decide +kernel) rfl
theorem tw_cl_X5_35 : (Jvm.Cond.classLink "FleetSettings" (35 : Nat) "FleetSettings$Change") ∈ Tw := Tw_of 80 (by decide +kernel) rfl
theorem tw_cl_X5_44 : (Jvm.Cond.classLink "FleetSettings" (44 : Nat) "FleetSettings$Heads") ∈ Tw := Tw_of 82 (by decide +kernel) rfl
theorem tw_ins_X1 : (Jvm.Cond.instantiable "FleetSettings$Heads" (2 : Nat)) ∈ Tw := Tw_of 83 (by decide +kernel) rfl
theorem tw_ml_X5_46 : (Jvm.Cond.methodLink "FleetSettings" (46 : Nat) ({ cls := "FleetSettings$Heads", name := "<init>", desc := "()V" } : Jvm.MethodName)) ∈ Tw := Tw_of 84 (by decide +kernel) rfl
theorem tw_im_X1_init : (Jvm.Cond.instanceMethod ({ cls := "FleetSettings$Heads", name := "<init>", desc := "()V" } : Jvm.MethodName)) ∈ Tw := Tw_of 85 (by decide +kernel) rfl
theorem tw_code_X1_init : (Jvm.Cond.code ({ cls := "FleetSettings$Heads", name := "<init>", desc := "()V" } : Jvm.MethodName) prog_3_method_1_code (1 : Nat) (Option.none : Option Jvm.ClassFile.FieldType)) ∈ Tw := Tw_of 86 (by decide +kernel) rfl
theorem tw_ml_X1_3 : (Jvm.Cond.methodLink "FleetSettings$Heads" (3 : Nat) ({ cls := "java/lang/Object", name := "<init>", desc := "()V" } : Jvm.MethodName)) ∈ Tw := Tw_of 87 (by decide +kernel) rfl
theorem tw_ml_X1_18 : (Jvm.Cond.methodLink "FleetSettings$Heads" (18 : Nat) ({ cls := "java/util/Arrays", name := "fill", desc := "([II)V" } : Jvm.MethodName)) ∈ Tw := Tw_of 88 (by decide +kernel) rfl
theorem tw_st_J7_fill_53178 : (Jvm.Cond.static ({ cls := "java/util/Arrays", name := "fill", desc := "([II)V" } : Jvm.MethodName)) ∈ Tw := Tw_of 89 (by decide +kernel) rfl
theorem tw_code_J7_fill_53178 : (Jvm.Cond.code ({ cls := "java/util/Arrays", name := "fill", desc := "([II)V" } : Jvm.MethodName) prog_17_method_103_code (4 : Nat) (Option.none : Option Jvm.ClassFile.FieldType)) ∈ Tw := Tw_of 90 (by decide +kernel) rfl
theorem tw_fl_X1_9 : (Jvm.Cond.fieldLink "FleetSettings$Heads" (9 : Nat) "FleetSettings$Heads" "changeAt" "[I") ∈ Tw := Tw_of 91 (by decide +kernel) rfl
theorem tw_fl_X5_219 : (Jvm.Cond.fieldLink "FleetSettings" (219 : Nat) "FleetSettings$Heads" "changeAt" "[I") ∈ Tw := Tw_of 92 (by decide +kernel) rfl
theorem tw_fl_X1_15 : (Jvm.Cond.fieldLink "FleetSettings$Heads" (15 : Nat) "FleetSettings$Heads" "rankOfChange" "[I") ∈ Tw := Tw_of 93 (by decide +kernel) rfl
theorem tw_fl_X5_216 : (Jvm.Cond.fieldLink "FleetSettings" (216 : Nat) "FleetSettings$Heads" "rankOfChange" "[I") ∈ Tw := Tw_of 94 (by decide +kernel) rfl
theorem tw_ac_int : (Jvm.Cond.arrayClass Jvm.ClassFile.FieldType.int) ∈ Tw := Tw_of 100 (by decide +kernel) rfl
theorem tw_cl_X5_54 : (Jvm.Cond.classLink "FleetSettings" (54 : Nat) "FleetSettings$Outcome") ∈ Tw := Tw_of 101 (by decide +kernel) rfl
theorem tw_ins_X3 : (Jvm.Cond.instantiable "FleetSettings$Outcome" (4 : Nat)) ∈ Tw := Tw_of 102 (by decide +kernel) rfl
theorem tw_im_X3_init : (Jvm.Cond.instanceMethod ({ cls := "FleetSettings$Outcome", name := "<init>", desc := "()V" } : Jvm.MethodName)) ∈ Tw := Tw_of 104 (by decide +kernel) rfl
theorem tw_code_X3_init : (Jvm.Cond.code ({ cls := "FleetSettings$Outcome", name := "<init>", desc := "()V" } : Jvm.MethodName) prog_5_method_1_code (1 : Nat) (Option.none : Option Jvm.ClassFile.FieldType)) ∈ Tw := Tw_of 105 (by decide +kernel) rfl
theorem tw_ml_X3_3 : (Jvm.Cond.methodLink "FleetSettings$Outcome" (3 : Nat) ({ cls := "java/lang/Object", name := "<init>", desc := "()V" } : Jvm.MethodName)) ∈ Tw := Tw_of 106 (by decide +kernel) rfl
theorem tw_fl_X3_9 : (Jvm.Cond.fieldLink "FleetSettings$Outcome" (9 : Nat) "FleetSettings$Outcome" "value" "[I") ∈ Tw := Tw_of 107 (by decide +kernel) rfl
theorem tw_fl_X3_15 : (Jvm.Cond.fieldLink "FleetSettings$Outcome" (15 : Nat) "FleetSettings$Outcome" "layer" "[I") ∈ Tw := Tw_of 108 (by decide +kernel) rfl
theorem tw_fl_X3_18 : (Jvm.Cond.fieldLink "FleetSettings$Outcome" (18 : Nat) "FleetSettings$Outcome" "rankOfKey" "[I") ∈ Tw := Tw_of 109 (by decide +kernel) rfl
theorem tw_fl_X3_27 : (Jvm.Cond.fieldLink "FleetSettings$Outcome" (27 : Nat) "FleetSettings$Outcome" "hiddenKeys" "I") ∈ Tw := Tw_of 110 (by decide +kernel) rfl
theorem tw_fl_X5_260 : (Jvm.Cond.fieldLink "FleetSettings" (260 : Nat) "FleetSettings$Outcome" "hiddenKeys" "I") ∈ Tw := Tw_of 111 (by decide +kernel) rfl
theorem tw_ml_X5_61 : (Jvm.Cond.methodLink "FleetSettings" (61 : Nat) ({ cls := "java/util/Arrays", name := "fill", desc := "([II)V" } : Jvm.MethodName)) ∈ Tw := Tw_of 121 (by decide +kernel) rfl
theorem tw_ins_X4 : (Jvm.Cond.instantiable "FleetSettings$Person" (4 : Nat)) ∈ Tw := Tw_of 122 (by decide +kernel) rfl
theorem tw_im_X4_init : (Jvm.Cond.instanceMethod ({ cls := "FleetSettings$Person", name := "<init>", desc := "()V" } : Jvm.MethodName)) ∈ Tw := Tw_of 124 (by decide +kernel) rfl
theorem tw_code_X4_init : (Jvm.Cond.code ({ cls := "FleetSettings$Person", name := "<init>", desc := "()V" } : Jvm.MethodName) prog_6_method_1_code (1 : Nat) (Option.none : Option Jvm.ClassFile.FieldType)) ∈ Tw := Tw_of 125 (by decide +kernel) rfl
theorem tw_ml_X4_3 : (Jvm.Cond.methodLink "FleetSettings$Person" (3 : Nat) ({ cls := "java/lang/Object", name := "<init>", desc := "()V" } : Jvm.MethodName)) ∈ Tw := Tw_of 126 (by decide +kernel) rfl
theorem tw_fl_X4_9 : (Jvm.Cond.fieldLink "FleetSettings$Person" (9 : Nat) "FleetSettings$Person" "isInService" "Z") ∈ Tw := Tw_of 127 (by decide +kernel) rfl
theorem tw_fl_X5_82 : (Jvm.Cond.fieldLink "FleetSettings" (82 : Nat) "FleetSettings$Person" "isInService" "Z") ∈ Tw := Tw_of 128 (by decide +kernel) rfl
theorem tw_fl_X4_15 : (Jvm.Cond.fieldLink "FleetSettings$Person" (15 : Nat) "FleetSettings$Person" "isSuspect" "Z") ∈ Tw := Tw_of 129 (by decide +kernel) rfl
theorem tw_fl_X5_94 : (Jvm.Cond.fieldLink "FleetSettings" (94 : Nat) "FleetSettings$Person" "isSuspect" "Z") ∈ Tw := Tw_of 130 (by decide +kernel) rfl
theorem tw_fl_X4_18 : (Jvm.Cond.fieldLink "FleetSettings$Person" (18 : Nat) "FleetSettings$Person" "leftDay" "I") ∈ Tw := Tw_of 131 (by decide +kernel) rfl
theorem tw_fl_X5_100 : (Jvm.Cond.fieldLink "FleetSettings" (100 : Nat) "FleetSettings$Person" "leftDay" "I") ∈ Tw := Tw_of 132 (by decide +kernel) rfl
theorem tw_fl_X5_103 : (Jvm.Cond.fieldLink "FleetSettings" (103 : Nat) "FleetSettings$Person" "leftMoment" "I") ∈ Tw := Tw_of 133 (by decide +kernel) rfl
theorem tw_fl_X0_71 : (Jvm.Cond.fieldLink "FleetSettings$Change" (71 : Nat) "FleetSettings$Person" "leftMoment" "I") ∈ Tw := Tw_of 134 (by decide +kernel) rfl
theorem tw_ins_X2 : (Jvm.Cond.instantiable "FleetSettings$Machine" (6 : Nat)) ∈ Tw := Tw_of 144 (by decide +kernel) rfl
theorem tw_ml_X5_68 : (Jvm.Cond.methodLink "FleetSettings" (68 : Nat) ({ cls := "FleetSettings$Machine", name := "<init>", desc := "(I)V" } : Jvm.MethodName)) ∈ Tw := Tw_of 145 (by decide +kernel) rfl
theorem tw_im_X2_init : (Jvm.Cond.instanceMethod ({ cls := "FleetSettings$Machine", name := "<init>", desc := "(I)V" } : Jvm.MethodName)) ∈ Tw := Tw_of 146 (by decide +kernel) rfl
theorem tw_code_X2_init : (Jvm.Cond.code ({ cls := "FleetSettings$Machine", name := "<init>", desc := "(I)V" } : Jvm.MethodName) prog_4_method_1_code (2 : Nat) (Option.none : Option Jvm.ClassFile.FieldType)) ∈ Tw := Tw_of 147 (by decide +kernel) rfl
theorem tw_ml_X2_3 : (Jvm.Cond.methodLink "FleetSettings$Machine" (3 : Nat) ({ cls := "java/lang/Object", name := "<init>", desc := "()V" } : Jvm.MethodName)) ∈ Tw := Tw_of 148 (by decide +kernel) rfl
theorem tw_ml_X2_22 : (Jvm.Cond.methodLink "FleetSettings$Machine" (22 : Nat) ({ cls := "java/util/Arrays", name := "fill", desc := "([II)V" } : Jvm.MethodName)) ∈ Tw := Tw_of 149 (by decide +kernel) rfl
theorem tw_fl_X2_18 : (Jvm.Cond.fieldLink "FleetSettings$Machine" (18 : Nat) "FleetSettings$Machine" "ownSlot" "I") ∈ Tw := Tw_of 150 (by decide +kernel) rfl
theorem tw_fl_X2_28 : (Jvm.Cond.fieldLink "FleetSettings$Machine" (28 : Nat) "FleetSettings$Machine" "group" "I") ∈ Tw := Tw_of 151 (by decide +kernel) rfl
theorem tw_fl_X5_144 : (Jvm.Cond.fieldLink "FleetSettings" (144 : Nat) "FleetSettings$Machine" "group" "I") ∈ Tw := Tw_of 152 (by decide +kernel) rfl
theorem tw_fl_X5_139 : (Jvm.Cond.fieldLink "FleetSettings" (139 : Nat) "FleetSettings$Machine" "freeFrom" "I") ∈ Tw := Tw_of 153 (by decide +kernel) rfl
theorem tw_fl_X2_31 : (Jvm.Cond.fieldLink "FleetSettings$Machine" (31 : Nat) "FleetSettings$Machine" "layerCount" "I") ∈ Tw := Tw_of 154 (by decide +kernel) rfl
theorem tw_fl_X5_225 : (Jvm.Cond.fieldLink "FleetSettings" (225 : Nat) "FleetSettings$Machine" "layerCount" "I") ∈ Tw := Tw_of 155 (by decide +kernel) rfl
theorem tw_fl_X2_9 : (Jvm.Cond.fieldLink "FleetSettings$Machine" (9 : Nat) "FleetSettings$Machine" "slotOfLayer" "[I") ∈ Tw := Tw_of 156 (by decide +kernel) rfl
theorem tw_fl_X5_236 : (Jvm.Cond.fieldLink "FleetSettings" (236 : Nat) "FleetSettings$Machine" "slotOfLayer" "[I") ∈ Tw := Tw_of 157 (by decide +kernel) rfl
theorem tw_fl_X2_15 : (Jvm.Cond.fieldLink "FleetSettings$Machine" (15 : Nat) "FleetSettings$Machine" "takenAt" "[I") ∈ Tw := Tw_of 158 (by decide +kernel) rfl
theorem tw_fl_X5_233 : (Jvm.Cond.fieldLink "FleetSettings" (233 : Nat) "FleetSettings$Machine" "takenAt" "[I") ∈ Tw := Tw_of 159 (by decide +kernel) rfl
theorem tw_ins_X0 : (Jvm.Cond.instantiable "FleetSettings$Change" (8 : Nat)) ∈ Tw := Tw_of 173 (by decide +kernel) rfl
theorem tw_ml_X5_71 : (Jvm.Cond.methodLink "FleetSettings" (71 : Nat) ({ cls := "FleetSettings$Change", name := "<init>", desc := "()V" } : Jvm.MethodName)) ∈ Tw := Tw_of 174 (by decide +kernel) rfl
theorem tw_im_X0_init : (Jvm.Cond.instanceMethod ({ cls := "FleetSettings$Change", name := "<init>", desc := "()V" } : Jvm.MethodName)) ∈ Tw := Tw_of 175 (by decide +kernel) rfl
theorem tw_code_X0_init : (Jvm.Cond.code ({ cls := "FleetSettings$Change", name := "<init>", desc := "()V" } : Jvm.MethodName) prog_2_method_1_code (1 : Nat) (Option.none : Option Jvm.ClassFile.FieldType)) ∈ Tw := Tw_of 176 (by decide +kernel) rfl
theorem tw_ml_X0_3 : (Jvm.Cond.methodLink "FleetSettings$Change" (3 : Nat) ({ cls := "java/lang/Object", name := "<init>", desc := "()V" } : Jvm.MethodName)) ∈ Tw := Tw_of 177 (by decide +kernel) rfl
theorem tw_ml_X0_22 : (Jvm.Cond.methodLink "FleetSettings$Change" (22 : Nat) ({ cls := "java/util/Arrays", name := "fill", desc := "([II)V" } : Jvm.MethodName)) ∈ Tw := Tw_of 178 (by decide +kernel) rfl
theorem tw_fl_X0_28 : (Jvm.Cond.fieldLink "FleetSettings$Change" (28 : Nat) "FleetSettings$Change" "author" "I") ∈ Tw := Tw_of 179 (by decide +kernel) rfl
theorem tw_fl_X0_31 : (Jvm.Cond.fieldLink "FleetSettings$Change" (31 : Nat) "FleetSettings$Change" "cell" "I") ∈ Tw := Tw_of 180 (by decide +kernel) rfl
theorem tw_fl_X5_263 : (Jvm.Cond.fieldLink "FleetSettings" (263 : Nat) "FleetSettings$Change" "cell" "I") ∈ Tw := Tw_of 181 (by decide +kernel) rfl
theorem tw_fl_X0_34 : (Jvm.Cond.fieldLink "FleetSettings$Change" (34 : Nat) "FleetSettings$Change" "what" "I") ∈ Tw := Tw_of 182 (by decide +kernel) rfl
theorem tw_fl_X5_333 : (Jvm.Cond.fieldLink "FleetSettings" (333 : Nat) "FleetSettings$Change" "what" "I") ∈ Tw := Tw_of 183 (by decide +kernel) rfl
theorem tw_fl_X0_37 : (Jvm.Cond.fieldLink "FleetSettings$Change" (37 : Nat) "FleetSettings$Change" "proposedDay" "I") ∈ Tw := Tw_of 184 (by decide +kernel) rfl
theorem tw_fl_X0_9 : (Jvm.Cond.fieldLink "FleetSettings$Change" (9 : Nat) "FleetSettings$Change" "condition" "I") ∈ Tw := Tw_of 185 (by decide +kernel) rfl
theorem tw_fl_X5_195 : (Jvm.Cond.fieldLink "FleetSettings" (195 : Nat) "FleetSettings$Change" "condition" "I") ∈ Tw := Tw_of 186 (by decide +kernel) rfl
theorem tw_fl_X0_40 : (Jvm.Cond.fieldLink "FleetSettings$Change" (40 : Nat) "FleetSettings$Change" "goodApprovers" "I") ∈ Tw := Tw_of 187 (by decide +kernel) rfl
theorem tw_fl_X0_15 : (Jvm.Cond.fieldLink "FleetSettings$Change" (15 : Nat) "FleetSettings$Change" "approvedDay" "[I") ∈ Tw := Tw_of 188 (by decide +kernel) rfl
theorem tw_fl_X0_19 : (Jvm.Cond.fieldLink "FleetSettings$Change" (19 : Nat) "FleetSettings$Change" "approvedMoment" "[I") ∈ Tw := Tw_of 189 (by decide +kernel) rfl
theorem tw_fl_X5_97 : (Jvm.Cond.fieldLink "FleetSettings" (97 : Nat) "FleetSettings" "today" "I") ∈ Tw := Tw_of 207 (by decide +kernel) rfl
theorem tw_fl_X5_9 : (Jvm.Cond.fieldLink "FleetSettings" (9 : Nat) "FleetSettings" "pace" "I") ∈ Tw := Tw_of 208 (by decide +kernel) rfl
theorem tw_fl_X5_13 : (Jvm.Cond.fieldLink "FleetSettings" (13 : Nat) "FleetSettings" "dutySets" "[I") ∈ Tw := Tw_of 209 (by decide +kernel) rfl
theorem tw_fl_X5_19 : (Jvm.Cond.fieldLink "FleetSettings" (19 : Nat) "FleetSettings" "personRows" "[LFleetSettings$Person;") ∈ Tw := Tw_of 210 (by decide +kernel) rfl
theorem tw_fl_X5_23 : (Jvm.Cond.fieldLink "FleetSettings" (23 : Nat) "FleetSettings" "parents" "[I") ∈ Tw := Tw_of 211 (by decide +kernel) rfl
theorem tw_fl_X5_26 : (Jvm.Cond.fieldLink "FleetSettings" (26 : Nat) "FleetSettings" "groupCount" "I") ∈ Tw := Tw_of 212 (by decide +kernel) rfl
theorem tw_fl_X5_31 : (Jvm.Cond.fieldLink "FleetSettings" (31 : Nat) "FleetSettings" "machineRows" "[LFleetSettings$Machine;") ∈ Tw := Tw_of 213 (by decide +kernel) rfl
theorem tw_fl_X5_127 : (Jvm.Cond.fieldLink "FleetSettings" (127 : Nat) "FleetSettings" "machineCount" "I") ∈ Tw := Tw_of 214 (by decide +kernel) rfl
theorem tw_fl_X5_37 : (Jvm.Cond.fieldLink "FleetSettings" (37 : Nat) "FleetSettings" "changeRows" "[LFleetSettings$Change;") ∈ Tw := Tw_of 215 (by decide +kernel) rfl
theorem tw_fl_X5_163 : (Jvm.Cond.fieldLink "FleetSettings" (163 : Nat) "FleetSettings" "changeCount" "I") ∈ Tw := Tw_of 216 (by decide +kernel) rfl
theorem tw_fl_X5_281 : (Jvm.Cond.fieldLink "FleetSettings" (281 : Nat) "FleetSettings" "rankCount" "I") ∈ Tw := Tw_of 217 (by decide +kernel) rfl
theorem tw_fl_X5_91 : (Jvm.Cond.fieldLink "FleetSettings" (91 : Nat) "FleetSettings" "moment" "I") ∈ Tw := Tw_of 218 (by decide +kernel) rfl
theorem tw_fl_X5_41 : (Jvm.Cond.fieldLink "FleetSettings" (41 : Nat) "FleetSettings" "excludedBy" "[I") ∈ Tw := Tw_of 219 (by decide +kernel) rfl
theorem tw_fl_X5_47 : (Jvm.Cond.fieldLink "FleetSettings" (47 : Nat) "FleetSettings" "heads" "LFleetSettings$Heads;") ∈ Tw := Tw_of 220 (by decide +kernel) rfl
theorem tw_fl_X5_51 : (Jvm.Cond.fieldLink "FleetSettings" (51 : Nat) "FleetSettings" "headsAnew" "LFleetSettings$Heads;") ∈ Tw := Tw_of 221 (by decide +kernel) rfl
theorem tw_fl_X5_57 : (Jvm.Cond.fieldLink "FleetSettings" (57 : Nat) "FleetSettings" "outcome" "LFleetSettings$Outcome;") ∈ Tw := Tw_of 222 (by decide +kernel) rfl
theorem tw_ml_L_130 : (Jvm.Cond.methodLink "FleetSettingsLaw" (130 : Nat) ({ cls := "FleetSettings", name := "day", desc := "()I" } : Jvm.MethodName)) ∈ Tw := Tw_of 256 (by decide +kernel) rfl
theorem tw_im_X5_day : (Jvm.Cond.instanceMethod ({ cls := "FleetSettings", name := "day", desc := "()I" } : Jvm.MethodName)) ∈ Tw := Tw_of 257 (by decide +kernel) rfl
theorem tw_sel_X5_day : (Jvm.Cond.selects "FleetSettings" ({ cls := "FleetSettings", name := "day", desc := "()I" } : Jvm.MethodName) ({ cls := "FleetSettings", name := "day", desc := "()I" } : Jvm.MethodName)) ∈ Tw := Tw_of 258 (by decide +kernel) rfl
theorem tw_code_X5_day : (Jvm.Cond.code ({ cls := "FleetSettings", name := "day", desc := "()I" } : Jvm.MethodName) prog_1_method_6_code (1 : Nat) (Option.some Jvm.ClassFile.FieldType.int)) ∈ Tw := Tw_of 259 (by decide +kernel) rfl
theorem tw_ml_L_169 : (Jvm.Cond.methodLink "FleetSettingsLaw" (169 : Nat) ({ cls := "FleetSettings", name := "changes", desc := "()I" } : Jvm.MethodName)) ∈ Tw := Tw_of 260 (by decide +kernel) rfl
theorem tw_im_X5_changes : (Jvm.Cond.instanceMethod ({ cls := "FleetSettings", name := "changes", desc := "()I" } : Jvm.MethodName)) ∈ Tw := Tw_of 261 (by decide +kernel) rfl
theorem tw_sel_X5_changes : (Jvm.Cond.selects "FleetSettings" ({ cls := "FleetSettings", name := "changes", desc := "()I" } : Jvm.MethodName) ({ cls := "FleetSettings", name := "changes", desc := "()I" } : Jvm.MethodName)) ∈ Tw := Tw_of 262 (by decide +kernel) rfl
theorem tw_code_X5_changes : (Jvm.Cond.code ({ cls := "FleetSettings", name := "changes", desc := "()I" } : Jvm.MethodName) prog_1_method_18_code (1 : Nat) (Option.some Jvm.ClassFile.FieldType.int)) ∈ Tw := Tw_of 263 (by decide +kernel) rfl
theorem tw_ml_L_108 : (Jvm.Cond.methodLink "FleetSettingsLaw" (108 : Nat) ({ cls := "FleetSettingsLaw", name := "setDuty", desc := "(LFleetSettings;II[J)I" } : Jvm.MethodName)) ∈ Tw := Tw_of 264 (by decide +kernel) rfl
theorem tw_st_L_setDuty : (Jvm.Cond.static ({ cls := "FleetSettingsLaw", name := "setDuty", desc := "(LFleetSettings;II[J)I" } : Jvm.MethodName)) ∈ Tw := Tw_of 265 (by decide +kernel) rfl
theorem tw_code_L_setDuty : (Jvm.Cond.codeWith ({ cls := "FleetSettingsLaw", name := "setDuty", desc := "(LFleetSettings;II[J)I" } : Jvm.MethodName) method_3_code (5 : Nat) (Option.some Jvm.ClassFile.FieldType.int) [((0 : Nat), (10 : Nat), (13 : Nat), (13 : Nat))]) ∈ Tw := Tw_of 266 (by decide +kernel) rfl
theorem tw_cl_L_13 : (Jvm.Cond.classLink "FleetSettingsLaw" (13 : Nat) "java/lang/IllegalArgumentException") ∈ Tw := Tw_of 267 (by decide +kernel) rfl
theorem tw_ml_L_7 : (Jvm.Cond.methodLink "FleetSettingsLaw" (7 : Nat) ({ cls := "FleetSettings", name := "setDuty", desc := "(II)I" } : Jvm.MethodName)) ∈ Tw := Tw_of 268 (by decide +kernel) rfl
theorem tw_im_X5_setDuty : (Jvm.Cond.instanceMethod ({ cls := "FleetSettings", name := "setDuty", desc := "(II)I" } : Jvm.MethodName)) ∈ Tw := Tw_of 269 (by decide +kernel) rfl
theorem tw_sel_X5_setDuty : (Jvm.Cond.selects "FleetSettings" ({ cls := "FleetSettings", name := "setDuty", desc := "(II)I" } : Jvm.MethodName) ({ cls := "FleetSettings", name := "setDuty", desc := "(II)I" } : Jvm.MethodName)) ∈ Tw := Tw_of 270 (by decide +kernel) rfl
theorem tw_code_X5_setDuty : (Jvm.Cond.code ({ cls := "FleetSettings", name := "setDuty", desc := "(II)I" } : Jvm.MethodName) prog_1_method_2_code (4 : Nat) (Option.some Jvm.ClassFile.FieldType.int)) ∈ Tw := Tw_of 271 (by decide +kernel) rfl
theorem tw_cl_X5_72 : (Jvm.Cond.classLink "FleetSettings" (72 : Nat) "java/lang/IllegalArgumentException") ∈ Tw := Tw_of 272 (by decide +kernel) rfl
theorem tw_ins_IAE : (Jvm.Cond.instantiable "java/lang/IllegalArgumentException" (6 : Nat)) ∈ Tw := Tw_of 273 (by decide +kernel) rfl
theorem tw_fl_THR_198 : (Jvm.Cond.fieldLink "java/lang/Throwable" (198 : Nat) "java/lang/Throwable" "backtrace" "Ljava/lang/Object;") ∈ Tw := Tw_of 293 (by decide +kernel) rfl
theorem tw_ml_THR_1 : (Jvm.Cond.methodLink "java/lang/Throwable" (1 : Nat) ({ cls := "java/lang/Object", name := "<init>", desc := "()V" } : Jvm.MethodName)) ∈ Tw := Tw_of 297 (by decide +kernel) rfl
theorem tw_fl_THR_13 : (Jvm.Cond.fieldLink "java/lang/Throwable" (13 : Nat) "java/lang/Throwable" "UNASSIGNED_STACK" "[Ljava/lang/StackTraceElement;") ∈ Tw := Tw_of 298 (by decide +kernel) rfl
theorem tw_fl_THR_20 : (Jvm.Cond.fieldLink "java/lang/Throwable" (20 : Nat) "java/lang/Throwable" "SUPPRESSED_SENTINEL" "Ljava/util/List;") ∈ Tw := Tw_of 300 (by decide +kernel) rfl
theorem tw_ml_THR_27 : (Jvm.Cond.methodLink "java/lang/Throwable" (27 : Nat) ({ cls := "java/lang/Throwable", name := "fillInStackTrace", desc := "()Ljava/lang/Throwable;" } : Jvm.MethodName)) ∈ Tw := Tw_of 302 (by decide +kernel) rfl
theorem tw_ml_THR_202 : (Jvm.Cond.methodLink "java/lang/Throwable" (202 : Nat) ({ cls := "java/lang/Throwable", name := "fillInStackTrace", desc := "(I)Ljava/lang/Throwable;" } : Jvm.MethodName)) ∈ Tw := Tw_of 308 (by decide +kernel) rfl
theorem tw_ins_THR : (Jvm.Cond.instantiable "java/lang/Throwable" (6 : Nat)) ∈ Tw := Tw_of 311 (by decide +kernel) rfl
theorem tw_ml_X5_76 : (Jvm.Cond.methodLink "FleetSettings" (76 : Nat) ({ cls := "java/lang/IllegalArgumentException", name := "<init>", desc := "(Ljava/lang/String;)V" } : Jvm.MethodName)) ∈ Tw := Tw_of 314 (by decide +kernel) rfl
theorem tw_ml_IAE_7 : (Jvm.Cond.methodLink "java/lang/IllegalArgumentException" (7 : Nat) ({ cls := "java/lang/RuntimeException", name := "<init>", desc := "(Ljava/lang/String;)V" } : Jvm.MethodName)) ∈ Tw := Tw_of 317 (by decide +kernel) rfl
theorem tw_ml_RTE_7 : (Jvm.Cond.methodLink "java/lang/RuntimeException" (7 : Nat) ({ cls := "java/lang/Exception", name := "<init>", desc := "(Ljava/lang/String;)V" } : Jvm.MethodName)) ∈ Tw := Tw_of 320 (by decide +kernel) rfl
theorem tw_ml_EXC_7 : (Jvm.Cond.methodLink "java/lang/Exception" (7 : Nat) ({ cls := "java/lang/Throwable", name := "<init>", desc := "(Ljava/lang/String;)V" } : Jvm.MethodName)) ∈ Tw := Tw_of 323 (by decide +kernel) rfl
theorem tw_fl_THR_31 : (Jvm.Cond.fieldLink "java/lang/Throwable" (31 : Nat) "java/lang/Throwable" "detailMessage" "Ljava/lang/String;") ∈ Tw := Tw_of 327 (by decide +kernel) rfl
theorem tw_fl_THR_7 : (Jvm.Cond.fieldLink "java/lang/Throwable" (7 : Nat) "java/lang/Throwable" "cause" "Ljava/lang/Throwable;") ∈ Tw := Tw_of 328 (by decide +kernel) rfl
theorem tw_fl_THR_17 : (Jvm.Cond.fieldLink "java/lang/Throwable" (17 : Nat) "java/lang/Throwable" "stackTrace" "[Ljava/lang/StackTraceElement;") ∈ Tw := Tw_of 329 (by decide +kernel) rfl
theorem tw_fl_THR_24 : (Jvm.Cond.fieldLink "java/lang/Throwable" (24 : Nat) "java/lang/Throwable" "suppressedExceptions" "Ljava/util/List;") ∈ Tw := Tw_of 330 (by decide +kernel) rfl
theorem tw_ac_byte : (Jvm.Cond.arrayClass Jvm.ClassFile.FieldType.byte) ∈ Tw := Tw_of 339 (by decide +kernel) rfl
theorem tw_ml_L_118 : (Jvm.Cond.methodLink "FleetSettingsLaw" (118 : Nat) ({ cls := "FleetSettingsLaw", name := "leave", desc := "(LFleetSettings;IZ[J)I" } : Jvm.MethodName)) ∈ Tw := Tw_of 340 (by decide +kernel) rfl
theorem tw_st_L_leave : (Jvm.Cond.static ({ cls := "FleetSettingsLaw", name := "leave", desc := "(LFleetSettings;IZ[J)I" } : Jvm.MethodName)) ∈ Tw := Tw_of 341 (by decide +kernel) rfl
theorem tw_code_L_leave : (Jvm.Cond.codeWith ({ cls := "FleetSettingsLaw", name := "leave", desc := "(LFleetSettings;IZ[J)I" } : Jvm.MethodName) method_4_code (5 : Nat) (Option.some Jvm.ClassFile.FieldType.int) [((0 : Nat), (10 : Nat), (13 : Nat), (19 : Nat)), ((0 : Nat), (10 : Nat), (17 : Nat), (21 : Nat))]) ∈ Tw := Tw_of 342 (by decide +kernel) rfl
theorem tw_cl_L_19 : (Jvm.Cond.classLink "FleetSettingsLaw" (19 : Nat) "java/lang/IndexOutOfBoundsException") ∈ Tw := Tw_of 343 (by decide +kernel) rfl
theorem tw_cl_L_21 : (Jvm.Cond.classLink "FleetSettingsLaw" (21 : Nat) "java/lang/IllegalStateException") ∈ Tw := Tw_of 344 (by decide +kernel) rfl
theorem tw_ml_L_15 : (Jvm.Cond.methodLink "FleetSettingsLaw" (15 : Nat) ({ cls := "FleetSettings", name := "leave", desc := "(IZ)I" } : Jvm.MethodName)) ∈ Tw := Tw_of 345 (by decide +kernel) rfl
theorem tw_im_X5_leave : (Jvm.Cond.instanceMethod ({ cls := "FleetSettings", name := "leave", desc := "(IZ)I" } : Jvm.MethodName)) ∈ Tw := Tw_of 346 (by decide +kernel) rfl
theorem tw_sel_X5_leave : (Jvm.Cond.selects "FleetSettings" ({ cls := "FleetSettings", name := "leave", desc := "(IZ)I" } : Jvm.MethodName) ({ cls := "FleetSettings", name := "leave", desc := "(IZ)I" } : Jvm.MethodName)) ∈ Tw := Tw_of 347 (by decide +kernel) rfl
theorem tw_code_X5_leave : (Jvm.Cond.code ({ cls := "FleetSettings", name := "leave", desc := "(IZ)I" } : Jvm.MethodName) prog_1_method_3_code (4 : Nat) (Option.some Jvm.ClassFile.FieldType.int)) ∈ Tw := Tw_of 348 (by decide +kernel) rfl
theorem tw_ml_X5_79 : (Jvm.Cond.methodLink "FleetSettings" (79 : Nat) ({ cls := "FleetSettings", name := "requirePerson", desc := "(I)V" } : Jvm.MethodName)) ∈ Tw := Tw_of 349 (by decide +kernel) rfl
theorem tw_st_X5_requirePerson : (Jvm.Cond.static ({ cls := "FleetSettings", name := "requirePerson", desc := "(I)V" } : Jvm.MethodName)) ∈ Tw := Tw_of 350 (by decide +kernel) rfl
theorem tw_code_X5_requirePerson : (Jvm.Cond.code ({ cls := "FleetSettings", name := "requirePerson", desc := "(I)V" } : Jvm.MethodName) prog_1_method_31_code (1 : Nat) (Option.none : Option Jvm.ClassFile.FieldType)) ∈ Tw := Tw_of 351 (by decide +kernel) rfl
theorem tw_cl_X5_228 : (Jvm.Cond.classLink "FleetSettings" (228 : Nat) "java/lang/IndexOutOfBoundsException") ∈ Tw := Tw_of 352 (by decide +kernel) rfl
theorem tw_ins_IOOBE : (Jvm.Cond.instantiable "java/lang/IndexOutOfBoundsException" (6 : Nat)) ∈ Tw := Tw_of 353 (by decide +kernel) rfl
theorem tw_ml_X5_232 : (Jvm.Cond.methodLink "FleetSettings" (232 : Nat) ({ cls := "java/lang/IndexOutOfBoundsException", name := "<init>", desc := "(Ljava/lang/String;)V" } : Jvm.MethodName)) ∈ Tw := Tw_of 362 (by decide +kernel) rfl
theorem tw_ml_IOOBE_7 : (Jvm.Cond.methodLink "java/lang/IndexOutOfBoundsException" (7 : Nat) ({ cls := "java/lang/RuntimeException", name := "<init>", desc := "(Ljava/lang/String;)V" } : Jvm.MethodName)) ∈ Tw := Tw_of 365 (by decide +kernel) rfl
theorem tw_cl_X5_86 : (Jvm.Cond.classLink "FleetSettings" (86 : Nat) "java/lang/IllegalStateException") ∈ Tw := Tw_of 368 (by decide +kernel) rfl
theorem tw_ins_ISE : (Jvm.Cond.instantiable "java/lang/IllegalStateException" (6 : Nat)) ∈ Tw := Tw_of 369 (by decide +kernel) rfl
theorem tw_ml_X5_90 : (Jvm.Cond.methodLink "FleetSettings" (90 : Nat) ({ cls := "java/lang/IllegalStateException", name := "<init>", desc := "(Ljava/lang/String;)V" } : Jvm.MethodName)) ∈ Tw := Tw_of 378 (by decide +kernel) rfl
theorem tw_ml_ISE_7 : (Jvm.Cond.methodLink "java/lang/IllegalStateException" (7 : Nat) ({ cls := "java/lang/RuntimeException", name := "<init>", desc := "(Ljava/lang/String;)V" } : Jvm.MethodName)) ∈ Tw := Tw_of 381 (by decide +kernel) rfl
theorem tw_ml_X5_106 : (Jvm.Cond.methodLink "FleetSettings" (106 : Nat) ({ cls := "FleetSettings", name := "voidWhatIsNotOld", desc := "(I)I" } : Jvm.MethodName)) ∈ Tw := Tw_of 384 (by decide +kernel) rfl
theorem tw_im_X5_voidWhatIsNotOld : (Jvm.Cond.instanceMethod ({ cls := "FleetSettings", name := "voidWhatIsNotOld", desc := "(I)I" } : Jvm.MethodName)) ∈ Tw := Tw_of 386 (by decide +kernel) rfl
theorem tw_code_X5_voidWhatIsNotOld : (Jvm.Cond.code ({ cls := "FleetSettings", name := "voidWhatIsNotOld", desc := "(I)I" } : Jvm.MethodName) prog_1_method_44_code (5 : Nat) (Option.some Jvm.ClassFile.FieldType.int)) ∈ Tw := Tw_of 387 (by decide +kernel) rfl
theorem tw_ml_X5_287 : (Jvm.Cond.methodLink "FleetSettings" (287 : Nat) ({ cls := "FleetSettings$Change", name := "loseByLeaving", desc := "(II)Z" } : Jvm.MethodName)) ∈ Tw := Tw_of 388 (by decide +kernel) rfl
theorem tw_im_X0_loseByLeaving : (Jvm.Cond.instanceMethod ({ cls := "FleetSettings$Change", name := "loseByLeaving", desc := "(II)Z" } : Jvm.MethodName)) ∈ Tw := Tw_of 389 (by decide +kernel) rfl
theorem tw_sel_X0_loseByLeaving : (Jvm.Cond.selects "FleetSettings$Change" ({ cls := "FleetSettings$Change", name := "loseByLeaving", desc := "(II)Z" } : Jvm.MethodName) ({ cls := "FleetSettings$Change", name := "loseByLeaving", desc := "(II)Z" } : Jvm.MethodName)) ∈ Tw := Tw_of 390 (by decide +kernel) rfl
theorem tw_code_X0_loseByLeaving : (Jvm.Cond.code ({ cls := "FleetSettings$Change", name := "loseByLeaving", desc := "(II)Z" } : Jvm.MethodName) prog_2_method_6_code (4 : Nat) (Option.some Jvm.ClassFile.FieldType.boolean)) ∈ Tw := Tw_of 391 (by decide +kernel) rfl
theorem tw_st_X5_contains : (Jvm.Cond.static ({ cls := "FleetSettings", name := "contains", desc := "(II)Z" } : Jvm.MethodName)) ∈ Tw := Tw_of 393 (by decide +kernel) rfl
theorem tw_code_X5_contains : (Jvm.Cond.code ({ cls := "FleetSettings", name := "contains", desc := "(II)Z" } : Jvm.MethodName) prog_1_method_40_code (2 : Nat) (Option.some Jvm.ClassFile.FieldType.boolean)) ∈ Tw := Tw_of 394 (by decide +kernel) rfl
theorem tw_st_X5_with : (Jvm.Cond.static ({ cls := "FleetSettings", name := "with", desc := "(IIZ)I" } : Jvm.MethodName)) ∈ Tw := Tw_of 396 (by decide +kernel) rfl
theorem tw_code_X5_with : (Jvm.Cond.code ({ cls := "FleetSettings", name := "with", desc := "(IIZ)I" } : Jvm.MethodName) prog_1_method_41_code (3 : Nat) (Option.some Jvm.ClassFile.FieldType.int)) ∈ Tw := Tw_of 397 (by decide +kernel) rfl
theorem tw_ml_X0_57 : (Jvm.Cond.methodLink "FleetSettings$Change" (57 : Nat) ({ cls := "FleetSettings$Change", name := "countGood", desc := "()I" } : Jvm.MethodName)) ∈ Tw := Tw_of 398 (by decide +kernel) rfl
theorem tw_im_X0_countGood : (Jvm.Cond.instanceMethod ({ cls := "FleetSettings$Change", name := "countGood", desc := "()I" } : Jvm.MethodName)) ∈ Tw := Tw_of 399 (by decide +kernel) rfl
theorem tw_sel_X0_countGood : (Jvm.Cond.selects "FleetSettings$Change" ({ cls := "FleetSettings$Change", name := "countGood", desc := "()I" } : Jvm.MethodName) ({ cls := "FleetSettings$Change", name := "countGood", desc := "()I" } : Jvm.MethodName)) ∈ Tw := Tw_of 400 (by decide +kernel) rfl
theorem tw_code_X0_countGood : (Jvm.Cond.code ({ cls := "FleetSettings$Change", name := "countGood", desc := "()I" } : Jvm.MethodName) prog_2_method_5_code (1 : Nat) (Option.some Jvm.ClassFile.FieldType.int)) ∈ Tw := Tw_of 401 (by decide +kernel) rfl
theorem tw_ml_X0_51 : (Jvm.Cond.methodLink "FleetSettings$Change" (51 : Nat) ({ cls := "java/lang/Integer", name := "bitCount", desc := "(I)I" } : Jvm.MethodName)) ∈ Tw := Tw_of 402 (by decide +kernel) rfl
theorem tw_st_J6_bitCount_0f7a4 : (Jvm.Cond.static ({ cls := "java/lang/Integer", name := "bitCount", desc := "(I)I" } : Jvm.MethodName)) ∈ Tw := Tw_of 403 (by decide +kernel) rfl
theorem tw_code_J6_bitCount_0f7a4 : (Jvm.Cond.code ({ cls := "java/lang/Integer", name := "bitCount", desc := "(I)I" } : Jvm.MethodName) prog_13_method_49_code (1 : Nat) (Option.some Jvm.ClassFile.FieldType.int)) ∈ Tw := Tw_of 404 (by decide +kernel) rfl
theorem tw_ct_J6_265 : (Jvm.Cond.constant "java/lang/Integer" (265 : Nat) (1431655765 : Int32)) ∈ Tw := Tw_of 405 (by decide +kernel) rfl
theorem tw_ct_J6_266 : (Jvm.Cond.constant "java/lang/Integer" (266 : Nat) (858993459 : Int32)) ∈ Tw := Tw_of 406 (by decide +kernel) rfl
theorem tw_ct_J6_267 : (Jvm.Cond.constant "java/lang/Integer" (267 : Nat) (252645135 : Int32)) ∈ Tw := Tw_of 407 (by decide +kernel) rfl
theorem tw_ml_X5_284 : (Jvm.Cond.methodLink "FleetSettings" (284 : Nat) ({ cls := "FleetSettings", name := "findHeads", desc := "()V" } : Jvm.MethodName)) ∈ Tw := Tw_of 408 (by decide +kernel) rfl
theorem tw_im_X5_findHeads : (Jvm.Cond.instanceMethod ({ cls := "FleetSettings", name := "findHeads", desc := "()V" } : Jvm.MethodName)) ∈ Tw := Tw_of 410 (by decide +kernel) rfl
theorem tw_code_X5_findHeads : (Jvm.Cond.code ({ cls := "FleetSettings", name := "findHeads", desc := "()V" } : Jvm.MethodName) prog_1_method_45_code (2 : Nat) (Option.none : Option Jvm.ClassFile.FieldType)) ∈ Tw := Tw_of 411 (by decide +kernel) rfl
theorem tw_ml_X5_290 : (Jvm.Cond.methodLink "FleetSettings" (290 : Nat) ({ cls := "FleetSettings$Heads", name := "forgetChanges", desc := "()V" } : Jvm.MethodName)) ∈ Tw := Tw_of 412 (by decide +kernel) rfl
theorem tw_im_X1_forgetChanges : (Jvm.Cond.instanceMethod ({ cls := "FleetSettings$Heads", name := "forgetChanges", desc := "()V" } : Jvm.MethodName)) ∈ Tw := Tw_of 413 (by decide +kernel) rfl
theorem tw_sel_X1_forgetChanges : (Jvm.Cond.selects "FleetSettings$Heads" ({ cls := "FleetSettings$Heads", name := "forgetChanges", desc := "()V" } : Jvm.MethodName) ({ cls := "FleetSettings$Heads", name := "forgetChanges", desc := "()V" } : Jvm.MethodName)) ∈ Tw := Tw_of 414 (by decide +kernel) rfl
theorem tw_code_X1_forgetChanges : (Jvm.Cond.code ({ cls := "FleetSettings$Heads", name := "forgetChanges", desc := "()V" } : Jvm.MethodName) prog_3_method_2_code (1 : Nat) (Option.none : Option Jvm.ClassFile.FieldType)) ∈ Tw := Tw_of 415 (by decide +kernel) rfl
theorem tw_ml_X5_293 : (Jvm.Cond.methodLink "FleetSettings" (293 : Nat) ({ cls := "FleetSettings$Heads", name := "raise", desc := "(II)V" } : Jvm.MethodName)) ∈ Tw := Tw_of 416 (by decide +kernel) rfl
theorem tw_im_X1_raise : (Jvm.Cond.instanceMethod ({ cls := "FleetSettings$Heads", name := "raise", desc := "(II)V" } : Jvm.MethodName)) ∈ Tw := Tw_of 417 (by decide +kernel) rfl
theorem tw_sel_X1_raise : (Jvm.Cond.selects "FleetSettings$Heads" ({ cls := "FleetSettings$Heads", name := "raise", desc := "(II)V" } : Jvm.MethodName) ({ cls := "FleetSettings$Heads", name := "raise", desc := "(II)V" } : Jvm.MethodName)) ∈ Tw := Tw_of 418 (by decide +kernel) rfl
theorem tw_code_X1_raise : (Jvm.Cond.code ({ cls := "FleetSettings$Heads", name := "raise", desc := "(II)V" } : Jvm.MethodName) prog_3_method_3_code (4 : Nat) (Option.none : Option Jvm.ClassFile.FieldType)) ∈ Tw := Tw_of 419 (by decide +kernel) rfl
theorem tw_ml_X5_147 : (Jvm.Cond.methodLink "FleetSettings" (147 : Nat) ({ cls := "FleetSettings", name := "nearestLayerNotHeld", desc := "(LFleetSettings$Machine;)I" } : Jvm.MethodName)) ∈ Tw := Tw_of 420 (by decide +kernel) rfl
theorem tw_im_X5_nearestLayerNotHeld : (Jvm.Cond.instanceMethod ({ cls := "FleetSettings", name := "nearestLayerNotHeld", desc := "(LFleetSettings$Machine;)I" } : Jvm.MethodName)) ∈ Tw := Tw_of 422 (by decide +kernel) rfl
theorem tw_code_X5_nearestLayerNotHeld : (Jvm.Cond.code ({ cls := "FleetSettings", name := "nearestLayerNotHeld", desc := "(LFleetSettings$Machine;)I" } : Jvm.MethodName) prog_1_method_49_code (4 : Nat) (Option.some Jvm.ClassFile.FieldType.int)) ∈ Tw := Tw_of 423 (by decide +kernel) rfl
theorem tw_ml_X5_171 : (Jvm.Cond.methodLink "FleetSettings" (171 : Nat) ({ cls := "FleetSettings", name := "cellOf", desc := "(II)I" } : Jvm.MethodName)) ∈ Tw := Tw_of 424 (by decide +kernel) rfl
theorem tw_st_X5_cellOf : (Jvm.Cond.static ({ cls := "FleetSettings", name := "cellOf", desc := "(II)I" } : Jvm.MethodName)) ∈ Tw := Tw_of 425 (by decide +kernel) rfl
theorem tw_code_X5_cellOf : (Jvm.Cond.code ({ cls := "FleetSettings", name := "cellOf", desc := "(II)I" } : Jvm.MethodName) prog_1_method_39_code (2 : Nat) (Option.some Jvm.ClassFile.FieldType.int)) ∈ Tw := Tw_of 426 (by decide +kernel) rfl
theorem tw_ml_X5_313 : (Jvm.Cond.methodLink "FleetSettings" (313 : Nat) ({ cls := "FleetSettings", name := "isTakenNotHeld", desc := "(I)Z" } : Jvm.MethodName)) ∈ Tw := Tw_of 427 (by decide +kernel) rfl
theorem tw_im_X5_isTakenNotHeld : (Jvm.Cond.instanceMethod ({ cls := "FleetSettings", name := "isTakenNotHeld", desc := "(I)Z" } : Jvm.MethodName)) ∈ Tw := Tw_of 429 (by decide +kernel) rfl
theorem tw_code_X5_isTakenNotHeld : (Jvm.Cond.code ({ cls := "FleetSettings", name := "isTakenNotHeld", desc := "(I)Z" } : Jvm.MethodName) prog_1_method_50_code (2 : Nat) (Option.some Jvm.ClassFile.FieldType.boolean)) ∈ Tw := Tw_of 430 (by decide +kernel) rfl
theorem tw_ml_X5_276 : (Jvm.Cond.methodLink "FleetSettings" (276 : Nat) ({ cls := "FleetSettings", name := "isChange", desc := "(I)Z" } : Jvm.MethodName)) ∈ Tw := Tw_of 431 (by decide +kernel) rfl
theorem tw_im_X5_isChange : (Jvm.Cond.instanceMethod ({ cls := "FleetSettings", name := "isChange", desc := "(I)Z" } : Jvm.MethodName)) ∈ Tw := Tw_of 433 (by decide +kernel) rfl
theorem tw_code_X5_isChange : (Jvm.Cond.code ({ cls := "FleetSettings", name := "isChange", desc := "(I)Z" } : Jvm.MethodName) prog_1_method_37_code (2 : Nat) (Option.some Jvm.ClassFile.FieldType.boolean)) ∈ Tw := Tw_of 434 (by decide +kernel) rfl
theorem tw_ml_L_122 : (Jvm.Cond.methodLink "FleetSettingsLaw" (122 : Nat) ({ cls := "FleetSettingsLaw", name := "comeBack", desc := "(LFleetSettings;I)I" } : Jvm.MethodName)) ∈ Tw := Tw_of 435 (by decide +kernel) rfl
theorem tw_st_L_comeBack : (Jvm.Cond.static ({ cls := "FleetSettingsLaw", name := "comeBack", desc := "(LFleetSettings;I)I" } : Jvm.MethodName)) ∈ Tw := Tw_of 436 (by decide +kernel) rfl
theorem tw_code_L_comeBack : (Jvm.Cond.codeWith ({ cls := "FleetSettingsLaw", name := "comeBack", desc := "(LFleetSettings;I)I" } : Jvm.MethodName) method_5_code (3 : Nat) (Option.some Jvm.ClassFile.FieldType.int) [((0 : Nat), (5 : Nat), (8 : Nat), (19 : Nat)), ((0 : Nat), (5 : Nat), (11 : Nat), (21 : Nat))]) ∈ Tw := Tw_of 437 (by decide +kernel) rfl
theorem tw_ml_L_23 : (Jvm.Cond.methodLink "FleetSettingsLaw" (23 : Nat) ({ cls := "FleetSettings", name := "comeBack", desc := "(I)V" } : Jvm.MethodName)) ∈ Tw := Tw_of 438 (by decide +kernel) rfl
theorem tw_im_X5_comeBack : (Jvm.Cond.instanceMethod ({ cls := "FleetSettings", name := "comeBack", desc := "(I)V" } : Jvm.MethodName)) ∈ Tw := Tw_of 439 (by decide +kernel) rfl
theorem tw_sel_X5_comeBack : (Jvm.Cond.selects "FleetSettings" ({ cls := "FleetSettings", name := "comeBack", desc := "(I)V" } : Jvm.MethodName) ({ cls := "FleetSettings", name := "comeBack", desc := "(I)V" } : Jvm.MethodName)) ∈ Tw := Tw_of 440 (by decide +kernel) rfl
theorem tw_code_X5_comeBack : (Jvm.Cond.code ({ cls := "FleetSettings", name := "comeBack", desc := "(I)V" } : Jvm.MethodName) prog_1_method_4_code (3 : Nat) (Option.none : Option Jvm.ClassFile.FieldType)) ∈ Tw := Tw_of 441 (by decide +kernel) rfl
theorem tw_ml_L_126 : (Jvm.Cond.methodLink "FleetSettingsLaw" (126 : Nat) ({ cls := "FleetSettingsLaw", name := "pass", desc := "(LFleetSettings;I[J)I" } : Jvm.MethodName)) ∈ Tw := Tw_of 443 (by decide +kernel) rfl
theorem tw_st_L_pass : (Jvm.Cond.static ({ cls := "FleetSettingsLaw", name := "pass", desc := "(LFleetSettings;I[J)I" } : Jvm.MethodName)) ∈ Tw := Tw_of 444 (by decide +kernel) rfl
theorem tw_code_L_pass : (Jvm.Cond.codeWith ({ cls := "FleetSettingsLaw", name := "pass", desc := "(LFleetSettings;I[J)I" } : Jvm.MethodName) method_6_code (4 : Nat) (Option.some Jvm.ClassFile.FieldType.int) [((0 : Nat), (9 : Nat), (12 : Nat), (13 : Nat))]) ∈ Tw := Tw_of 445 (by decide +kernel) rfl
theorem tw_ml_L_27 : (Jvm.Cond.methodLink "FleetSettingsLaw" (27 : Nat) ({ cls := "FleetSettings", name := "pass", desc := "(I)I" } : Jvm.MethodName)) ∈ Tw := Tw_of 446 (by decide +kernel) rfl
theorem tw_im_X5_pass : (Jvm.Cond.instanceMethod ({ cls := "FleetSettings", name := "pass", desc := "(I)I" } : Jvm.MethodName)) ∈ Tw := Tw_of 447 (by decide +kernel) rfl
theorem tw_sel_X5_pass : (Jvm.Cond.selects "FleetSettings" ({ cls := "FleetSettings", name := "pass", desc := "(I)I" } : Jvm.MethodName) ({ cls := "FleetSettings", name := "pass", desc := "(I)I" } : Jvm.MethodName)) ∈ Tw := Tw_of 448 (by decide +kernel) rfl
theorem tw_code_X5_pass : (Jvm.Cond.code ({ cls := "FleetSettings", name := "pass", desc := "(I)I" } : Jvm.MethodName) prog_1_method_5_code (5 : Nat) (Option.some Jvm.ClassFile.FieldType.int)) ∈ Tw := Tw_of 449 (by decide +kernel) rfl
theorem tw_ml_X5_114 : (Jvm.Cond.methodLink "FleetSettings" (114 : Nat) ({ cls := "FleetSettings", name := "stepMachines", desc := "()I" } : Jvm.MethodName)) ∈ Tw := Tw_of 451 (by decide +kernel) rfl
theorem tw_im_X5_stepMachines : (Jvm.Cond.instanceMethod ({ cls := "FleetSettings", name := "stepMachines", desc := "()I" } : Jvm.MethodName)) ∈ Tw := Tw_of 453 (by decide +kernel) rfl
theorem tw_code_X5_stepMachines : (Jvm.Cond.code ({ cls := "FleetSettings", name := "stepMachines", desc := "()I" } : Jvm.MethodName) prog_1_method_47_code (6 : Nat) (Option.some Jvm.ClassFile.FieldType.int)) ∈ Tw := Tw_of 454 (by decide +kernel) rfl
theorem tw_ml_X5_305 : (Jvm.Cond.methodLink "FleetSettings" (305 : Nat) ({ cls := "FleetSettings", name := "goBack", desc := "(LFleetSettings$Machine;I)V" } : Jvm.MethodName)) ∈ Tw := Tw_of 455 (by decide +kernel) rfl
theorem tw_im_X5_goBack : (Jvm.Cond.instanceMethod ({ cls := "FleetSettings", name := "goBack", desc := "(LFleetSettings$Machine;I)V" } : Jvm.MethodName)) ∈ Tw := Tw_of 457 (by decide +kernel) rfl
theorem tw_code_X5_goBack : (Jvm.Cond.code ({ cls := "FleetSettings", name := "goBack", desc := "(LFleetSettings$Machine;I)V" } : Jvm.MethodName) prog_1_method_51_code (5 : Nat) (Option.none : Option Jvm.ClassFile.FieldType)) ∈ Tw := Tw_of 458 (by decide +kernel) rfl
theorem tw_ml_X5_309 : (Jvm.Cond.methodLink "FleetSettings" (309 : Nat) ({ cls := "FleetSettings", name := "takeFarthestLayer", desc := "(LFleetSettings$Machine;)Z" } : Jvm.MethodName)) ∈ Tw := Tw_of 459 (by decide +kernel) rfl
theorem tw_im_X5_takeFarthestLayer : (Jvm.Cond.instanceMethod ({ cls := "FleetSettings", name := "takeFarthestLayer", desc := "(LFleetSettings$Machine;)Z" } : Jvm.MethodName)) ∈ Tw := Tw_of 461 (by decide +kernel) rfl
theorem tw_code_X5_takeFarthestLayer : (Jvm.Cond.code ({ cls := "FleetSettings", name := "takeFarthestLayer", desc := "(LFleetSettings$Machine;)Z" } : Jvm.MethodName) prog_1_method_52_code (3 : Nat) (Option.some Jvm.ClassFile.FieldType.boolean)) ∈ Tw := Tw_of 462 (by decide +kernel) rfl
theorem tw_ml_X5_256 : (Jvm.Cond.methodLink "FleetSettings" (256 : Nat) ({ cls := "FleetSettings", name := "isBehindIn", desc := "(LFleetSettings$Machine;I)Z" } : Jvm.MethodName)) ∈ Tw := Tw_of 463 (by decide +kernel) rfl
theorem tw_im_X5_isBehindIn : (Jvm.Cond.instanceMethod ({ cls := "FleetSettings", name := "isBehindIn", desc := "(LFleetSettings$Machine;I)Z" } : Jvm.MethodName)) ∈ Tw := Tw_of 465 (by decide +kernel) rfl
theorem tw_code_X5_isBehindIn : (Jvm.Cond.code ({ cls := "FleetSettings", name := "isBehindIn", desc := "(LFleetSettings$Machine;I)Z" } : Jvm.MethodName) prog_1_method_54_code (5 : Nat) (Option.some Jvm.ClassFile.FieldType.boolean)) ∈ Tw := Tw_of 466 (by decide +kernel) rfl
theorem tw_ml_X5_316 : (Jvm.Cond.methodLink "FleetSettings" (316 : Nat) ({ cls := "FleetSettings", name := "takeLayer", desc := "(LFleetSettings$Machine;I)V" } : Jvm.MethodName)) ∈ Tw := Tw_of 467 (by decide +kernel) rfl
theorem tw_im_X5_takeLayer : (Jvm.Cond.instanceMethod ({ cls := "FleetSettings", name := "takeLayer", desc := "(LFleetSettings$Machine;I)V" } : Jvm.MethodName)) ∈ Tw := Tw_of 469 (by decide +kernel) rfl
theorem tw_code_X5_takeLayer : (Jvm.Cond.code ({ cls := "FleetSettings", name := "takeLayer", desc := "(LFleetSettings$Machine;I)V" } : Jvm.MethodName) prog_1_method_53_code (5 : Nat) (Option.none : Option Jvm.ClassFile.FieldType)) ∈ Tw := Tw_of 470 (by decide +kernel) rfl
theorem tw_ml_X5_118 : (Jvm.Cond.methodLink "FleetSettings" (118 : Nat) ({ cls := "FleetSettings", name := "isAnyBusy", desc := "()Z" } : Jvm.MethodName)) ∈ Tw := Tw_of 471 (by decide +kernel) rfl
theorem tw_im_X5_isAnyBusy : (Jvm.Cond.instanceMethod ({ cls := "FleetSettings", name := "isAnyBusy", desc := "()Z" } : Jvm.MethodName)) ∈ Tw := Tw_of 473 (by decide +kernel) rfl
theorem tw_code_X5_isAnyBusy : (Jvm.Cond.code ({ cls := "FleetSettings", name := "isAnyBusy", desc := "()Z" } : Jvm.MethodName) prog_1_method_48_code (2 : Nat) (Option.some Jvm.ClassFile.FieldType.boolean)) ∈ Tw := Tw_of 474 (by decide +kernel) rfl
theorem tw_ml_L_134 : (Jvm.Cond.methodLink "FleetSettingsLaw" (134 : Nat) ({ cls := "FleetSettingsLaw", name := "addGroup", desc := "(LFleetSettings;I[J)I" } : Jvm.MethodName)) ∈ Tw := Tw_of 475 (by decide +kernel) rfl
theorem tw_st_L_addGroup : (Jvm.Cond.static ({ cls := "FleetSettingsLaw", name := "addGroup", desc := "(LFleetSettings;I[J)I" } : Jvm.MethodName)) ∈ Tw := Tw_of 476 (by decide +kernel) rfl
theorem tw_code_L_addGroup : (Jvm.Cond.codeWith ({ cls := "FleetSettingsLaw", name := "addGroup", desc := "(LFleetSettings;I[J)I" } : Jvm.MethodName) method_7_code (4 : Nat) (Option.some Jvm.ClassFile.FieldType.int) [((0 : Nat), (9 : Nat), (12 : Nat), (19 : Nat)), ((0 : Nat), (9 : Nat), (15 : Nat), (21 : Nat))]) ∈ Tw := Tw_of 477 (by decide +kernel) rfl
theorem tw_ml_L_31 : (Jvm.Cond.methodLink "FleetSettingsLaw" (31 : Nat) ({ cls := "FleetSettings", name := "addGroup", desc := "(I)I" } : Jvm.MethodName)) ∈ Tw := Tw_of 478 (by decide +kernel) rfl
theorem tw_im_X5_addGroup : (Jvm.Cond.instanceMethod ({ cls := "FleetSettings", name := "addGroup", desc := "(I)I" } : Jvm.MethodName)) ∈ Tw := Tw_of 479 (by decide +kernel) rfl
theorem tw_sel_X5_addGroup : (Jvm.Cond.selects "FleetSettings" ({ cls := "FleetSettings", name := "addGroup", desc := "(I)I" } : Jvm.MethodName) ({ cls := "FleetSettings", name := "addGroup", desc := "(I)I" } : Jvm.MethodName)) ∈ Tw := Tw_of 480 (by decide +kernel) rfl
theorem tw_code_X5_addGroup : (Jvm.Cond.code ({ cls := "FleetSettings", name := "addGroup", desc := "(I)I" } : Jvm.MethodName) prog_1_method_7_code (3 : Nat) (Option.some Jvm.ClassFile.FieldType.int)) ∈ Tw := Tw_of 481 (by decide +kernel) rfl
theorem tw_ml_X5_122 : (Jvm.Cond.methodLink "FleetSettings" (122 : Nat) ({ cls := "FleetSettings", name := "requireGroup", desc := "(I)V" } : Jvm.MethodName)) ∈ Tw := Tw_of 482 (by decide +kernel) rfl
theorem tw_im_X5_requireGroup : (Jvm.Cond.instanceMethod ({ cls := "FleetSettings", name := "requireGroup", desc := "(I)V" } : Jvm.MethodName)) ∈ Tw := Tw_of 484 (by decide +kernel) rfl
theorem tw_code_X5_requireGroup : (Jvm.Cond.code ({ cls := "FleetSettings", name := "requireGroup", desc := "(I)V" } : Jvm.MethodName) prog_1_method_33_code (2 : Nat) (Option.none : Option Jvm.ClassFile.FieldType)) ∈ Tw := Tw_of 485 (by decide +kernel) rfl
theorem tw_ml_L_137 : (Jvm.Cond.methodLink "FleetSettingsLaw" (137 : Nat) ({ cls := "FleetSettingsLaw", name := "addMachine", desc := "(LFleetSettings;I[J)I" } : Jvm.MethodName)) ∈ Tw := Tw_of 488 (by decide +kernel) rfl
theorem tw_st_L_addMachine : (Jvm.Cond.static ({ cls := "FleetSettingsLaw", name := "addMachine", desc := "(LFleetSettings;I[J)I" } : Jvm.MethodName)) ∈ Tw := Tw_of 489 (by decide +kernel) rfl
theorem tw_code_L_addMachine : (Jvm.Cond.codeWith ({ cls := "FleetSettingsLaw", name := "addMachine", desc := "(LFleetSettings;I[J)I" } : Jvm.MethodName) method_8_code (4 : Nat) (Option.some Jvm.ClassFile.FieldType.int) [((0 : Nat), (9 : Nat), (12 : Nat), (19 : Nat)), ((0 : Nat), (9 : Nat), (15 : Nat), (21 : Nat))]) ∈ Tw := Tw_of 490 (by decide +kernel) rfl
theorem tw_ml_L_34 : (Jvm.Cond.methodLink "FleetSettingsLaw" (34 : Nat) ({ cls := "FleetSettings", name := "addMachine", desc := "(I)I" } : Jvm.MethodName)) ∈ Tw := Tw_of 491 (by decide +kernel) rfl
theorem tw_im_X5_addMachine : (Jvm.Cond.instanceMethod ({ cls := "FleetSettings", name := "addMachine", desc := "(I)I" } : Jvm.MethodName)) ∈ Tw := Tw_of 492 (by decide +kernel) rfl
theorem tw_sel_X5_addMachine : (Jvm.Cond.selects "FleetSettings" ({ cls := "FleetSettings", name := "addMachine", desc := "(I)I" } : Jvm.MethodName) ({ cls := "FleetSettings", name := "addMachine", desc := "(I)I" } : Jvm.MethodName)) ∈ Tw := Tw_of 493 (by decide +kernel) rfl
theorem tw_code_X5_addMachine : (Jvm.Cond.code ({ cls := "FleetSettings", name := "addMachine", desc := "(I)I" } : Jvm.MethodName) prog_1_method_8_code (3 : Nat) (Option.some Jvm.ClassFile.FieldType.int)) ∈ Tw := Tw_of 494 (by decide +kernel) rfl
theorem tw_ml_X5_132 : (Jvm.Cond.methodLink "FleetSettings" (132 : Nat) ({ cls := "FleetSettings$Machine", name := "enterGroup", desc := "(I[I)V" } : Jvm.MethodName)) ∈ Tw := Tw_of 496 (by decide +kernel) rfl
theorem tw_im_X2_enterGroup : (Jvm.Cond.instanceMethod ({ cls := "FleetSettings$Machine", name := "enterGroup", desc := "(I[I)V" } : Jvm.MethodName)) ∈ Tw := Tw_of 497 (by decide +kernel) rfl
theorem tw_sel_X2_enterGroup : (Jvm.Cond.selects "FleetSettings$Machine" ({ cls := "FleetSettings$Machine", name := "enterGroup", desc := "(I[I)V" } : Jvm.MethodName) ({ cls := "FleetSettings$Machine", name := "enterGroup", desc := "(I[I)V" } : Jvm.MethodName)) ∈ Tw := Tw_of 498 (by decide +kernel) rfl
theorem tw_code_X2_enterGroup : (Jvm.Cond.code ({ cls := "FleetSettings$Machine", name := "enterGroup", desc := "(I[I)V" } : Jvm.MethodName) prog_4_method_2_code (4 : Nat) (Option.none : Option Jvm.ClassFile.FieldType)) ∈ Tw := Tw_of 499 (by decide +kernel) rfl
theorem tw_ml_X2_34 : (Jvm.Cond.methodLink "FleetSettings$Machine" (34 : Nat) ({ cls := "FleetSettings$Machine", name := "dropOtherGroups", desc := "()V" } : Jvm.MethodName)) ∈ Tw := Tw_of 500 (by decide +kernel) rfl
theorem tw_im_X2_dropOtherGroups : (Jvm.Cond.instanceMethod ({ cls := "FleetSettings$Machine", name := "dropOtherGroups", desc := "()V" } : Jvm.MethodName)) ∈ Tw := Tw_of 502 (by decide +kernel) rfl
theorem tw_code_X2_dropOtherGroups : (Jvm.Cond.code ({ cls := "FleetSettings$Machine", name := "dropOtherGroups", desc := "()V" } : Jvm.MethodName) prog_4_method_3_code (2 : Nat) (Option.none : Option Jvm.ClassFile.FieldType)) ∈ Tw := Tw_of 503 (by decide +kernel) rfl
theorem tw_ml_X2_37 : (Jvm.Cond.methodLink "FleetSettings$Machine" (37 : Nat) ({ cls := "FleetSettings$Machine", name := "isLayer", desc := "(I)Z" } : Jvm.MethodName)) ∈ Tw := Tw_of 504 (by decide +kernel) rfl
theorem tw_im_X2_isLayer : (Jvm.Cond.instanceMethod ({ cls := "FleetSettings$Machine", name := "isLayer", desc := "(I)Z" } : Jvm.MethodName)) ∈ Tw := Tw_of 506 (by decide +kernel) rfl
theorem tw_code_X2_isLayer : (Jvm.Cond.code ({ cls := "FleetSettings$Machine", name := "isLayer", desc := "(I)Z" } : Jvm.MethodName) prog_4_method_5_code (3 : Nat) (Option.some Jvm.ClassFile.FieldType.boolean)) ∈ Tw := Tw_of 507 (by decide +kernel) rfl
theorem tw_ml_X2_41 : (Jvm.Cond.methodLink "FleetSettings$Machine" (41 : Nat) ({ cls := "FleetSettings$Machine", name := "drop", desc := "(I)V" } : Jvm.MethodName)) ∈ Tw := Tw_of 508 (by decide +kernel) rfl
theorem tw_im_X2_drop : (Jvm.Cond.instanceMethod ({ cls := "FleetSettings$Machine", name := "drop", desc := "(I)V" } : Jvm.MethodName)) ∈ Tw := Tw_of 510 (by decide +kernel) rfl
theorem tw_code_X2_drop : (Jvm.Cond.code ({ cls := "FleetSettings$Machine", name := "drop", desc := "(I)V" } : Jvm.MethodName) prog_4_method_4_code (3 : Nat) (Option.none : Option Jvm.ClassFile.FieldType)) ∈ Tw := Tw_of 511 (by decide +kernel) rfl
theorem tw_ml_L_140 : (Jvm.Cond.methodLink "FleetSettingsLaw" (140 : Nat) ({ cls := "FleetSettingsLaw", name := "moveMachine", desc := "(LFleetSettings;II[J)I" } : Jvm.MethodName)) ∈ Tw := Tw_of 513 (by decide +kernel) rfl
theorem tw_st_L_moveMachine : (Jvm.Cond.static ({ cls := "FleetSettingsLaw", name := "moveMachine", desc := "(LFleetSettings;II[J)I" } : Jvm.MethodName)) ∈ Tw := Tw_of 514 (by decide +kernel) rfl
theorem tw_code_L_moveMachine : (Jvm.Cond.codeWith ({ cls := "FleetSettingsLaw", name := "moveMachine", desc := "(LFleetSettings;II[J)I" } : Jvm.MethodName) method_9_code (5 : Nat) (Option.some Jvm.ClassFile.FieldType.int) [((0 : Nat), (10 : Nat), (13 : Nat), (19 : Nat)), ((0 : Nat), (10 : Nat), (17 : Nat), (21 : Nat))]) ∈ Tw := Tw_of 515 (by decide +kernel) rfl
theorem tw_ml_L_37 : (Jvm.Cond.methodLink "FleetSettingsLaw" (37 : Nat) ({ cls := "FleetSettings", name := "moveMachine", desc := "(II)I" } : Jvm.MethodName)) ∈ Tw := Tw_of 516 (by decide +kernel) rfl
theorem tw_im_X5_moveMachine : (Jvm.Cond.instanceMethod ({ cls := "FleetSettings", name := "moveMachine", desc := "(II)I" } : Jvm.MethodName)) ∈ Tw := Tw_of 517 (by decide +kernel) rfl
theorem tw_sel_X5_moveMachine : (Jvm.Cond.selects "FleetSettings" ({ cls := "FleetSettings", name := "moveMachine", desc := "(II)I" } : Jvm.MethodName) ({ cls := "FleetSettings", name := "moveMachine", desc := "(II)I" } : Jvm.MethodName)) ∈ Tw := Tw_of 518 (by decide +kernel) rfl
theorem tw_code_X5_moveMachine : (Jvm.Cond.code ({ cls := "FleetSettings", name := "moveMachine", desc := "(II)I" } : Jvm.MethodName) prog_1_method_9_code (5 : Nat) (Option.some Jvm.ClassFile.FieldType.int)) ∈ Tw := Tw_of 519 (by decide +kernel) rfl
theorem tw_ml_X5_136 : (Jvm.Cond.methodLink "FleetSettings" (136 : Nat) ({ cls := "FleetSettings", name := "requireMachine", desc := "(I)V" } : Jvm.MethodName)) ∈ Tw := Tw_of 520 (by decide +kernel) rfl
theorem tw_im_X5_requireMachine : (Jvm.Cond.instanceMethod ({ cls := "FleetSettings", name := "requireMachine", desc := "(I)V" } : Jvm.MethodName)) ∈ Tw := Tw_of 522 (by decide +kernel) rfl
theorem tw_code_X5_requireMachine : (Jvm.Cond.code ({ cls := "FleetSettings", name := "requireMachine", desc := "(I)V" } : Jvm.MethodName) prog_1_method_34_code (2 : Nat) (Option.none : Option Jvm.ClassFile.FieldType)) ∈ Tw := Tw_of 523 (by decide +kernel) rfl
theorem tw_ml_L_143 : (Jvm.Cond.methodLink "FleetSettingsLaw" (143 : Nat) ({ cls := "FleetSettingsLaw", name := "work", desc := "(LFleetSettings;II[J)I" } : Jvm.MethodName)) ∈ Tw := Tw_of 526 (by decide +kernel) rfl
theorem tw_st_L_work : (Jvm.Cond.static ({ cls := "FleetSettingsLaw", name := "work", desc := "(LFleetSettings;II[J)I" } : Jvm.MethodName)) ∈ Tw := Tw_of 527 (by decide +kernel) rfl
theorem tw_code_L_work : (Jvm.Cond.codeWith ({ cls := "FleetSettingsLaw", name := "work", desc := "(LFleetSettings;II[J)I" } : Jvm.MethodName) method_10_code (5 : Nat) (Option.some Jvm.ClassFile.FieldType.int) [((0 : Nat), (10 : Nat), (13 : Nat), (19 : Nat)), ((0 : Nat), (10 : Nat), (17 : Nat), (13 : Nat)), ((0 : Nat), (10 : Nat), (21 : Nat), (21 : Nat))]) ∈ Tw := Tw_of 528 (by decide +kernel) rfl
theorem tw_ml_L_40 : (Jvm.Cond.methodLink "FleetSettingsLaw" (40 : Nat) ({ cls := "FleetSettings", name := "work", desc := "(II)I" } : Jvm.MethodName)) ∈ Tw := Tw_of 529 (by decide +kernel) rfl
theorem tw_im_X5_work : (Jvm.Cond.instanceMethod ({ cls := "FleetSettings", name := "work", desc := "(II)I" } : Jvm.MethodName)) ∈ Tw := Tw_of 530 (by decide +kernel) rfl
theorem tw_sel_X5_work : (Jvm.Cond.selects "FleetSettings" ({ cls := "FleetSettings", name := "work", desc := "(II)I" } : Jvm.MethodName) ({ cls := "FleetSettings", name := "work", desc := "(II)I" } : Jvm.MethodName)) ∈ Tw := Tw_of 531 (by decide +kernel) rfl
theorem tw_code_X5_work : (Jvm.Cond.code ({ cls := "FleetSettings", name := "work", desc := "(II)I" } : Jvm.MethodName) prog_1_method_10_code (4 : Nat) (Option.some Jvm.ClassFile.FieldType.int)) ∈ Tw := Tw_of 532 (by decide +kernel) rfl
theorem tw_ml_L_146 : (Jvm.Cond.methodLink "FleetSettingsLaw" (146 : Nat) ({ cls := "FleetSettingsLaw", name := "setPace", desc := "(LFleetSettings;I[J)I" } : Jvm.MethodName)) ∈ Tw := Tw_of 534 (by decide +kernel) rfl
theorem tw_st_L_setPace : (Jvm.Cond.static ({ cls := "FleetSettingsLaw", name := "setPace", desc := "(LFleetSettings;I[J)I" } : Jvm.MethodName)) ∈ Tw := Tw_of 535 (by decide +kernel) rfl
theorem tw_code_L_setPace : (Jvm.Cond.codeWith ({ cls := "FleetSettingsLaw", name := "setPace", desc := "(LFleetSettings;I[J)I" } : Jvm.MethodName) method_11_code (4 : Nat) (Option.some Jvm.ClassFile.FieldType.int) [((0 : Nat), (9 : Nat), (12 : Nat), (13 : Nat))]) ∈ Tw := Tw_of 536 (by decide +kernel) rfl
theorem tw_ml_L_43 : (Jvm.Cond.methodLink "FleetSettingsLaw" (43 : Nat) ({ cls := "FleetSettings", name := "setPace", desc := "(I)I" } : Jvm.MethodName)) ∈ Tw := Tw_of 537 (by decide +kernel) rfl
theorem tw_im_X5_setPace : (Jvm.Cond.instanceMethod ({ cls := "FleetSettings", name := "setPace", desc := "(I)I" } : Jvm.MethodName)) ∈ Tw := Tw_of 538 (by decide +kernel) rfl
theorem tw_sel_X5_setPace : (Jvm.Cond.selects "FleetSettings" ({ cls := "FleetSettings", name := "setPace", desc := "(I)I" } : Jvm.MethodName) ({ cls := "FleetSettings", name := "setPace", desc := "(I)I" } : Jvm.MethodName)) ∈ Tw := Tw_of 539 (by decide +kernel) rfl
theorem tw_code_X5_setPace : (Jvm.Cond.code ({ cls := "FleetSettings", name := "setPace", desc := "(I)I" } : Jvm.MethodName) prog_1_method_11_code (3 : Nat) (Option.some Jvm.ClassFile.FieldType.int)) ∈ Tw := Tw_of 540 (by decide +kernel) rfl
theorem tw_ml_L_149 : (Jvm.Cond.methodLink "FleetSettingsLaw" (149 : Nat) ({ cls := "FleetSettingsLaw", name := "isBusy", desc := "(LFleetSettings;I[J)I" } : Jvm.MethodName)) ∈ Tw := Tw_of 542 (by decide +kernel) rfl
theorem tw_st_L_isBusy : (Jvm.Cond.static ({ cls := "FleetSettingsLaw", name := "isBusy", desc := "(LFleetSettings;I[J)I" } : Jvm.MethodName)) ∈ Tw := Tw_of 543 (by decide +kernel) rfl
theorem tw_code_L_isBusy : (Jvm.Cond.codeWith ({ cls := "FleetSettingsLaw", name := "isBusy", desc := "(LFleetSettings;I[J)I" } : Jvm.MethodName) method_12_code (4 : Nat) (Option.some Jvm.ClassFile.FieldType.int) [((0 : Nat), (16 : Nat), (19 : Nat), (19 : Nat))]) ∈ Tw := Tw_of 544 (by decide +kernel) rfl
theorem tw_ml_L_46 : (Jvm.Cond.methodLink "FleetSettingsLaw" (46 : Nat) ({ cls := "FleetSettings", name := "isBusy", desc := "(I)Z" } : Jvm.MethodName)) ∈ Tw := Tw_of 545 (by decide +kernel) rfl
theorem tw_im_X5_isBusy : (Jvm.Cond.instanceMethod ({ cls := "FleetSettings", name := "isBusy", desc := "(I)Z" } : Jvm.MethodName)) ∈ Tw := Tw_of 546 (by decide +kernel) rfl
theorem tw_sel_X5_isBusy : (Jvm.Cond.selects "FleetSettings" ({ cls := "FleetSettings", name := "isBusy", desc := "(I)Z" } : Jvm.MethodName) ({ cls := "FleetSettings", name := "isBusy", desc := "(I)Z" } : Jvm.MethodName)) ∈ Tw := Tw_of 547 (by decide +kernel) rfl
theorem tw_code_X5_isBusy : (Jvm.Cond.code ({ cls := "FleetSettings", name := "isBusy", desc := "(I)Z" } : Jvm.MethodName) prog_1_method_12_code (2 : Nat) (Option.some Jvm.ClassFile.FieldType.boolean)) ∈ Tw := Tw_of 548 (by decide +kernel) rfl
theorem tw_ml_L_152 : (Jvm.Cond.methodLink "FleetSettingsLaw" (152 : Nat) ({ cls := "FleetSettingsLaw", name := "isStopped", desc := "(LFleetSettings;I[J)I" } : Jvm.MethodName)) ∈ Tw := Tw_of 549 (by decide +kernel) rfl
theorem tw_st_L_isStopped : (Jvm.Cond.static ({ cls := "FleetSettingsLaw", name := "isStopped", desc := "(LFleetSettings;I[J)I" } : Jvm.MethodName)) ∈ Tw := Tw_of 550 (by decide +kernel) rfl
theorem tw_code_L_isStopped : (Jvm.Cond.codeWith ({ cls := "FleetSettingsLaw", name := "isStopped", desc := "(LFleetSettings;I[J)I" } : Jvm.MethodName) method_13_code (4 : Nat) (Option.some Jvm.ClassFile.FieldType.int) [((0 : Nat), (16 : Nat), (19 : Nat), (19 : Nat))]) ∈ Tw := Tw_of 551 (by decide +kernel) rfl
theorem tw_ml_L_50 : (Jvm.Cond.methodLink "FleetSettingsLaw" (50 : Nat) ({ cls := "FleetSettings", name := "isStopped", desc := "(I)Z" } : Jvm.MethodName)) ∈ Tw := Tw_of 552 (by decide +kernel) rfl
theorem tw_im_X5_isStopped : (Jvm.Cond.instanceMethod ({ cls := "FleetSettings", name := "isStopped", desc := "(I)Z" } : Jvm.MethodName)) ∈ Tw := Tw_of 553 (by decide +kernel) rfl
theorem tw_sel_X5_isStopped : (Jvm.Cond.selects "FleetSettings" ({ cls := "FleetSettings", name := "isStopped", desc := "(I)Z" } : Jvm.MethodName) ({ cls := "FleetSettings", name := "isStopped", desc := "(I)Z" } : Jvm.MethodName)) ∈ Tw := Tw_of 554 (by decide +kernel) rfl
theorem tw_code_X5_isStopped : (Jvm.Cond.code ({ cls := "FleetSettings", name := "isStopped", desc := "(I)Z" } : Jvm.MethodName) prog_1_method_13_code (2 : Nat) (Option.some Jvm.ClassFile.FieldType.boolean)) ∈ Tw := Tw_of 555 (by decide +kernel) rfl
theorem tw_ml_L_155 : (Jvm.Cond.methodLink "FleetSettingsLaw" (155 : Nat) ({ cls := "FleetSettingsLaw", name := "propose", desc := "(LFleetSettings;IIII[J)I" } : Jvm.MethodName)) ∈ Tw := Tw_of 556 (by decide +kernel) rfl
theorem tw_st_L_propose : (Jvm.Cond.static ({ cls := "FleetSettingsLaw", name := "propose", desc := "(LFleetSettings;IIII[J)I" } : Jvm.MethodName)) ∈ Tw := Tw_of 557 (by decide +kernel) rfl
theorem tw_code_L_propose : (Jvm.Cond.codeWith ({ cls := "FleetSettingsLaw", name := "propose", desc := "(LFleetSettings;IIII[J)I" } : Jvm.MethodName) method_14_code (7 : Nat) (Option.some Jvm.ClassFile.FieldType.int) [((0 : Nat), (14 : Nat), (17 : Nat), (19 : Nat)), ((0 : Nat), (14 : Nat), (21 : Nat), (13 : Nat)), ((0 : Nat), (14 : Nat), (25 : Nat), (21 : Nat))]) ∈ Tw := Tw_of 558 (by decide +kernel) rfl
theorem tw_ml_L_53 : (Jvm.Cond.methodLink "FleetSettingsLaw" (53 : Nat) ({ cls := "FleetSettings", name := "propose", desc := "(IIII)I" } : Jvm.MethodName)) ∈ Tw := Tw_of 559 (by decide +kernel) rfl
theorem tw_im_X5_propose : (Jvm.Cond.instanceMethod ({ cls := "FleetSettings", name := "propose", desc := "(IIII)I" } : Jvm.MethodName)) ∈ Tw := Tw_of 560 (by decide +kernel) rfl
theorem tw_sel_X5_propose : (Jvm.Cond.selects "FleetSettings" ({ cls := "FleetSettings", name := "propose", desc := "(IIII)I" } : Jvm.MethodName) ({ cls := "FleetSettings", name := "propose", desc := "(IIII)I" } : Jvm.MethodName)) ∈ Tw := Tw_of 561 (by decide +kernel) rfl
theorem tw_code_X5_propose : (Jvm.Cond.code ({ cls := "FleetSettings", name := "propose", desc := "(IIII)I" } : Jvm.MethodName) prog_1_method_14_code (6 : Nat) (Option.some Jvm.ClassFile.FieldType.int)) ∈ Tw := Tw_of 562 (by decide +kernel) rfl
theorem tw_ml_X5_155 : (Jvm.Cond.methodLink "FleetSettings" (155 : Nat) ({ cls := "FleetSettings", name := "requirePlace", desc := "(I)V" } : Jvm.MethodName)) ∈ Tw := Tw_of 563 (by decide +kernel) rfl
theorem tw_im_X5_requirePlace : (Jvm.Cond.instanceMethod ({ cls := "FleetSettings", name := "requirePlace", desc := "(I)V" } : Jvm.MethodName)) ∈ Tw := Tw_of 565 (by decide +kernel) rfl
theorem tw_code_X5_requirePlace : (Jvm.Cond.code ({ cls := "FleetSettings", name := "requirePlace", desc := "(I)V" } : Jvm.MethodName) prog_1_method_35_code (2 : Nat) (Option.none : Option Jvm.ClassFile.FieldType)) ∈ Tw := Tw_of 566 (by decide +kernel) rfl
theorem tw_ml_X5_168 : (Jvm.Cond.methodLink "FleetSettings" (168 : Nat) ({ cls := "FleetSettings", name := "slotOf", desc := "(I)I" } : Jvm.MethodName)) ∈ Tw := Tw_of 567 (by decide +kernel) rfl
theorem tw_im_X5_slotOf : (Jvm.Cond.instanceMethod ({ cls := "FleetSettings", name := "slotOf", desc := "(I)I" } : Jvm.MethodName)) ∈ Tw := Tw_of 569 (by decide +kernel) rfl
theorem tw_code_X5_slotOf : (Jvm.Cond.code ({ cls := "FleetSettings", name := "slotOf", desc := "(I)I" } : Jvm.MethodName) prog_1_method_38_code (2 : Nat) (Option.some Jvm.ClassFile.FieldType.int)) ∈ Tw := Tw_of 570 (by decide +kernel) rfl
theorem tw_ml_X5_158 : (Jvm.Cond.methodLink "FleetSettings" (158 : Nat) ({ cls := "FleetSettings", name := "requireKey", desc := "(I)V" } : Jvm.MethodName)) ∈ Tw := Tw_of 572 (by decide +kernel) rfl
theorem tw_st_X5_requireKey : (Jvm.Cond.static ({ cls := "FleetSettings", name := "requireKey", desc := "(I)V" } : Jvm.MethodName)) ∈ Tw := Tw_of 573 (by decide +kernel) rfl
theorem tw_code_X5_requireKey : (Jvm.Cond.code ({ cls := "FleetSettings", name := "requireKey", desc := "(I)V" } : Jvm.MethodName) prog_1_method_32_code (1 : Nat) (Option.none : Option Jvm.ClassFile.FieldType)) ∈ Tw := Tw_of 574 (by decide +kernel) rfl
theorem tw_ml_X5_175 : (Jvm.Cond.methodLink "FleetSettings" (175 : Nat) ({ cls := "FleetSettings$Change", name := "begin", desc := "(IIII)V" } : Jvm.MethodName)) ∈ Tw := Tw_of 578 (by decide +kernel) rfl
theorem tw_im_X0_begin : (Jvm.Cond.instanceMethod ({ cls := "FleetSettings$Change", name := "begin", desc := "(IIII)V" } : Jvm.MethodName)) ∈ Tw := Tw_of 579 (by decide +kernel) rfl
theorem tw_sel_X0_begin : (Jvm.Cond.selects "FleetSettings$Change" ({ cls := "FleetSettings$Change", name := "begin", desc := "(IIII)V" } : Jvm.MethodName) ({ cls := "FleetSettings$Change", name := "begin", desc := "(IIII)V" } : Jvm.MethodName)) ∈ Tw := Tw_of 580 (by decide +kernel) rfl
theorem tw_code_X0_begin : (Jvm.Cond.code ({ cls := "FleetSettings$Change", name := "begin", desc := "(IIII)V" } : Jvm.MethodName) prog_2_method_2_code (5 : Nat) (Option.none : Option Jvm.ClassFile.FieldType)) ∈ Tw := Tw_of 581 (by decide +kernel) rfl
theorem tw_ml_L_159 : (Jvm.Cond.methodLink "FleetSettingsLaw" (159 : Nat) ({ cls := "FleetSettingsLaw", name := "approve", desc := "(LFleetSettings;II[J)I" } : Jvm.MethodName)) ∈ Tw := Tw_of 582 (by decide +kernel) rfl
theorem tw_st_L_approve : (Jvm.Cond.static ({ cls := "FleetSettingsLaw", name := "approve", desc := "(LFleetSettings;II[J)I" } : Jvm.MethodName)) ∈ Tw := Tw_of 583 (by decide +kernel) rfl
theorem tw_code_L_approve : (Jvm.Cond.codeWith ({ cls := "FleetSettingsLaw", name := "approve", desc := "(LFleetSettings;II[J)I" } : Jvm.MethodName) method_15_code (5 : Nat) (Option.some Jvm.ClassFile.FieldType.int) [((0 : Nat), (10 : Nat), (13 : Nat), (19 : Nat)), ((0 : Nat), (10 : Nat), (17 : Nat), (21 : Nat))]) ∈ Tw := Tw_of 584 (by decide +kernel) rfl
theorem tw_ml_L_57 : (Jvm.Cond.methodLink "FleetSettingsLaw" (57 : Nat) ({ cls := "FleetSettings", name := "approve", desc := "(II)I" } : Jvm.MethodName)) ∈ Tw := Tw_of 585 (by decide +kernel) rfl
theorem tw_im_X5_approve : (Jvm.Cond.instanceMethod ({ cls := "FleetSettings", name := "approve", desc := "(II)I" } : Jvm.MethodName)) ∈ Tw := Tw_of 586 (by decide +kernel) rfl
theorem tw_sel_X5_approve : (Jvm.Cond.selects "FleetSettings" ({ cls := "FleetSettings", name := "approve", desc := "(II)I" } : Jvm.MethodName) ({ cls := "FleetSettings", name := "approve", desc := "(II)I" } : Jvm.MethodName)) ∈ Tw := Tw_of 587 (by decide +kernel) rfl
theorem tw_code_X5_approve : (Jvm.Cond.code ({ cls := "FleetSettings", name := "approve", desc := "(II)I" } : Jvm.MethodName) prog_1_method_15_code (4 : Nat) (Option.some Jvm.ClassFile.FieldType.int)) ∈ Tw := Tw_of 588 (by decide +kernel) rfl
theorem tw_ml_X5_179 : (Jvm.Cond.methodLink "FleetSettings" (179 : Nat) ({ cls := "FleetSettings", name := "requireChange", desc := "(I)V" } : Jvm.MethodName)) ∈ Tw := Tw_of 589 (by decide +kernel) rfl
theorem tw_im_X5_requireChange : (Jvm.Cond.instanceMethod ({ cls := "FleetSettings", name := "requireChange", desc := "(I)V" } : Jvm.MethodName)) ∈ Tw := Tw_of 591 (by decide +kernel) rfl
theorem tw_code_X5_requireChange : (Jvm.Cond.code ({ cls := "FleetSettings", name := "requireChange", desc := "(I)V" } : Jvm.MethodName) prog_1_method_36_code (2 : Nat) (Option.none : Option Jvm.ClassFile.FieldType)) ∈ Tw := Tw_of 592 (by decide +kernel) rfl
theorem tw_ml_X5_182 : (Jvm.Cond.methodLink "FleetSettings" (182 : Nat) ({ cls := "FleetSettings", name := "isOnDuty", desc := "(I)Z" } : Jvm.MethodName)) ∈ Tw := Tw_of 594 (by decide +kernel) rfl
theorem tw_im_X5_isOnDuty : (Jvm.Cond.instanceMethod ({ cls := "FleetSettings", name := "isOnDuty", desc := "(I)Z" } : Jvm.MethodName)) ∈ Tw := Tw_of 596 (by decide +kernel) rfl
theorem tw_code_X5_isOnDuty : (Jvm.Cond.code ({ cls := "FleetSettings", name := "isOnDuty", desc := "(I)Z" } : Jvm.MethodName) prog_1_method_42_code (3 : Nat) (Option.some Jvm.ClassFile.FieldType.boolean)) ∈ Tw := Tw_of 597 (by decide +kernel) rfl
theorem tw_ml_X5_208 : (Jvm.Cond.methodLink "FleetSettings" (208 : Nat) ({ cls := "FleetSettings", name := "contains", desc := "(II)Z" } : Jvm.MethodName)) ∈ Tw := Tw_of 598 (by decide +kernel) rfl
theorem tw_ml_X5_186 : (Jvm.Cond.methodLink "FleetSettings" (186 : Nat) ({ cls := "FleetSettings$Change", name := "canBeApprovedBy", desc := "(I)Z" } : Jvm.MethodName)) ∈ Tw := Tw_of 599 (by decide +kernel) rfl
theorem tw_im_X0_canBeApprovedBy : (Jvm.Cond.instanceMethod ({ cls := "FleetSettings$Change", name := "canBeApprovedBy", desc := "(I)Z" } : Jvm.MethodName)) ∈ Tw := Tw_of 600 (by decide +kernel) rfl
theorem tw_sel_X0_canBeApprovedBy : (Jvm.Cond.selects "FleetSettings$Change" ({ cls := "FleetSettings$Change", name := "canBeApprovedBy", desc := "(I)Z" } : Jvm.MethodName) ({ cls := "FleetSettings$Change", name := "canBeApprovedBy", desc := "(I)Z" } : Jvm.MethodName)) ∈ Tw := Tw_of 601 (by decide +kernel) rfl
theorem tw_code_X0_canBeApprovedBy : (Jvm.Cond.code ({ cls := "FleetSettings$Change", name := "canBeApprovedBy", desc := "(I)Z" } : Jvm.MethodName) prog_2_method_3_code (2 : Nat) (Option.some Jvm.ClassFile.FieldType.boolean)) ∈ Tw := Tw_of 602 (by decide +kernel) rfl
theorem tw_ml_X5_191 : (Jvm.Cond.methodLink "FleetSettings" (191 : Nat) ({ cls := "FleetSettings$Change", name := "addApproval", desc := "(III)V" } : Jvm.MethodName)) ∈ Tw := Tw_of 604 (by decide +kernel) rfl
theorem tw_im_X0_addApproval : (Jvm.Cond.instanceMethod ({ cls := "FleetSettings$Change", name := "addApproval", desc := "(III)V" } : Jvm.MethodName)) ∈ Tw := Tw_of 605 (by decide +kernel) rfl
theorem tw_sel_X0_addApproval : (Jvm.Cond.selects "FleetSettings$Change" ({ cls := "FleetSettings$Change", name := "addApproval", desc := "(III)V" } : Jvm.MethodName) ({ cls := "FleetSettings$Change", name := "addApproval", desc := "(III)V" } : Jvm.MethodName)) ∈ Tw := Tw_of 606 (by decide +kernel) rfl
theorem tw_code_X0_addApproval : (Jvm.Cond.code ({ cls := "FleetSettings$Change", name := "addApproval", desc := "(III)V" } : Jvm.MethodName) prog_2_method_4_code (4 : Nat) (Option.none : Option Jvm.ClassFile.FieldType)) ∈ Tw := Tw_of 607 (by decide +kernel) rfl
theorem tw_ml_X5_198 : (Jvm.Cond.methodLink "FleetSettings" (198 : Nat) ({ cls := "FleetSettings$Change", name := "countGood", desc := "()I" } : Jvm.MethodName)) ∈ Tw := Tw_of 608 (by decide +kernel) rfl
theorem tw_ml_X5_201 : (Jvm.Cond.methodLink "FleetSettings" (201 : Nat) ({ cls := "FleetSettings", name := "hold", desc := "(I)V" } : Jvm.MethodName)) ∈ Tw := Tw_of 609 (by decide +kernel) rfl
theorem tw_im_X5_hold : (Jvm.Cond.instanceMethod ({ cls := "FleetSettings", name := "hold", desc := "(I)V" } : Jvm.MethodName)) ∈ Tw := Tw_of 611 (by decide +kernel) rfl
theorem tw_code_X5_hold : (Jvm.Cond.code ({ cls := "FleetSettings", name := "hold", desc := "(I)V" } : Jvm.MethodName) prog_1_method_43_code (2 : Nat) (Option.none : Option Jvm.ClassFile.FieldType)) ∈ Tw := Tw_of 612 (by decide +kernel) rfl
theorem tw_ml_L_162 : (Jvm.Cond.methodLink "FleetSettingsLaw" (162 : Nat) ({ cls := "FleetSettingsLaw", name := "withdraw", desc := "(LFleetSettings;I)I" } : Jvm.MethodName)) ∈ Tw := Tw_of 613 (by decide +kernel) rfl
theorem tw_st_L_withdraw : (Jvm.Cond.static ({ cls := "FleetSettingsLaw", name := "withdraw", desc := "(LFleetSettings;I)I" } : Jvm.MethodName)) ∈ Tw := Tw_of 614 (by decide +kernel) rfl
theorem tw_code_L_withdraw : (Jvm.Cond.codeWith ({ cls := "FleetSettingsLaw", name := "withdraw", desc := "(LFleetSettings;I)I" } : Jvm.MethodName) method_16_code (3 : Nat) (Option.some Jvm.ClassFile.FieldType.int) [((0 : Nat), (5 : Nat), (8 : Nat), (19 : Nat)), ((0 : Nat), (5 : Nat), (11 : Nat), (21 : Nat))]) ∈ Tw := Tw_of 615 (by decide +kernel) rfl
theorem tw_ml_L_60 : (Jvm.Cond.methodLink "FleetSettingsLaw" (60 : Nat) ({ cls := "FleetSettings", name := "withdraw", desc := "(I)V" } : Jvm.MethodName)) ∈ Tw := Tw_of 616 (by decide +kernel) rfl
theorem tw_im_X5_withdraw : (Jvm.Cond.instanceMethod ({ cls := "FleetSettings", name := "withdraw", desc := "(I)V" } : Jvm.MethodName)) ∈ Tw := Tw_of 617 (by decide +kernel) rfl
theorem tw_sel_X5_withdraw : (Jvm.Cond.selects "FleetSettings" ({ cls := "FleetSettings", name := "withdraw", desc := "(I)V" } : Jvm.MethodName) ({ cls := "FleetSettings", name := "withdraw", desc := "(I)V" } : Jvm.MethodName)) ∈ Tw := Tw_of 618 (by decide +kernel) rfl
theorem tw_code_X5_withdraw : (Jvm.Cond.code ({ cls := "FleetSettings", name := "withdraw", desc := "(I)V" } : Jvm.MethodName) prog_1_method_16_code (3 : Nat) (Option.none : Option Jvm.ClassFile.FieldType)) ∈ Tw := Tw_of 619 (by decide +kernel) rfl
theorem tw_ml_L_165 : (Jvm.Cond.methodLink "FleetSettingsLaw" (165 : Nat) ({ cls := "FleetSettingsLaw", name := "exclude", desc := "(LFleetSettings;IIZ[J)I" } : Jvm.MethodName)) ∈ Tw := Tw_of 621 (by decide +kernel) rfl
theorem tw_st_L_exclude : (Jvm.Cond.static ({ cls := "FleetSettingsLaw", name := "exclude", desc := "(LFleetSettings;IIZ[J)I" } : Jvm.MethodName)) ∈ Tw := Tw_of 622 (by decide +kernel) rfl
theorem tw_code_L_exclude : (Jvm.Cond.codeWith ({ cls := "FleetSettingsLaw", name := "exclude", desc := "(LFleetSettings;IIZ[J)I" } : Jvm.MethodName) method_17_code (6 : Nat) (Option.some Jvm.ClassFile.FieldType.int) [((0 : Nat), (19 : Nat), (22 : Nat), (19 : Nat)), ((0 : Nat), (19 : Nat), (26 : Nat), (13 : Nat))]) ∈ Tw := Tw_of 623 (by decide +kernel) rfl
theorem tw_ml_L_63 : (Jvm.Cond.methodLink "FleetSettingsLaw" (63 : Nat) ({ cls := "FleetSettings", name := "exclude", desc := "(IIZ)Z" } : Jvm.MethodName)) ∈ Tw := Tw_of 624 (by decide +kernel) rfl
theorem tw_im_X5_exclude : (Jvm.Cond.instanceMethod ({ cls := "FleetSettings", name := "exclude", desc := "(IIZ)Z" } : Jvm.MethodName)) ∈ Tw := Tw_of 625 (by decide +kernel) rfl
theorem tw_sel_X5_exclude : (Jvm.Cond.selects "FleetSettings" ({ cls := "FleetSettings", name := "exclude", desc := "(IIZ)Z" } : Jvm.MethodName) ({ cls := "FleetSettings", name := "exclude", desc := "(IIZ)Z" } : Jvm.MethodName)) ∈ Tw := Tw_of 626 (by decide +kernel) rfl
theorem tw_code_X5_exclude : (Jvm.Cond.code ({ cls := "FleetSettings", name := "exclude", desc := "(IIZ)Z" } : Jvm.MethodName) prog_1_method_17_code (5 : Nat) (Option.some Jvm.ClassFile.FieldType.boolean)) ∈ Tw := Tw_of 627 (by decide +kernel) rfl
theorem tw_ml_X5_212 : (Jvm.Cond.methodLink "FleetSettings" (212 : Nat) ({ cls := "FleetSettings", name := "with", desc := "(IIZ)I" } : Jvm.MethodName)) ∈ Tw := Tw_of 629 (by decide +kernel) rfl
theorem tw_ml_L_173 : (Jvm.Cond.methodLink "FleetSettingsLaw" (173 : Nat) ({ cls := "FleetSettingsLaw", name := "state", desc := "(LFleetSettings;I[J)I" } : Jvm.MethodName)) ∈ Tw := Tw_of 630 (by decide +kernel) rfl
theorem tw_st_L_state : (Jvm.Cond.static ({ cls := "FleetSettingsLaw", name := "state", desc := "(LFleetSettings;I[J)I" } : Jvm.MethodName)) ∈ Tw := Tw_of 631 (by decide +kernel) rfl
theorem tw_code_L_state : (Jvm.Cond.codeWith ({ cls := "FleetSettingsLaw", name := "state", desc := "(LFleetSettings;I[J)I" } : Jvm.MethodName) method_18_code (4 : Nat) (Option.some Jvm.ClassFile.FieldType.int) [((0 : Nat), (9 : Nat), (12 : Nat), (19 : Nat))]) ∈ Tw := Tw_of 632 (by decide +kernel) rfl
theorem tw_ml_L_67 : (Jvm.Cond.methodLink "FleetSettingsLaw" (67 : Nat) ({ cls := "FleetSettings", name := "state", desc := "(I)I" } : Jvm.MethodName)) ∈ Tw := Tw_of 633 (by decide +kernel) rfl
theorem tw_im_X5_state : (Jvm.Cond.instanceMethod ({ cls := "FleetSettings", name := "state", desc := "(I)I" } : Jvm.MethodName)) ∈ Tw := Tw_of 634 (by decide +kernel) rfl
theorem tw_sel_X5_state : (Jvm.Cond.selects "FleetSettings" ({ cls := "FleetSettings", name := "state", desc := "(I)I" } : Jvm.MethodName) ({ cls := "FleetSettings", name := "state", desc := "(I)I" } : Jvm.MethodName)) ∈ Tw := Tw_of 635 (by decide +kernel) rfl
theorem tw_code_X5_state : (Jvm.Cond.code ({ cls := "FleetSettings", name := "state", desc := "(I)I" } : Jvm.MethodName) prog_1_method_19_code (2 : Nat) (Option.some Jvm.ClassFile.FieldType.int)) ∈ Tw := Tw_of 636 (by decide +kernel) rfl
theorem tw_ml_L_176 : (Jvm.Cond.methodLink "FleetSettingsLaw" (176 : Nat) ({ cls := "FleetSettingsLaw", name := "rank", desc := "(LFleetSettings;I[J)I" } : Jvm.MethodName)) ∈ Tw := Tw_of 637 (by decide +kernel) rfl
theorem tw_st_L_rank : (Jvm.Cond.static ({ cls := "FleetSettingsLaw", name := "rank", desc := "(LFleetSettings;I[J)I" } : Jvm.MethodName)) ∈ Tw := Tw_of 638 (by decide +kernel) rfl
theorem tw_code_L_rank : (Jvm.Cond.codeWith ({ cls := "FleetSettingsLaw", name := "rank", desc := "(LFleetSettings;I[J)I" } : Jvm.MethodName) method_19_code (4 : Nat) (Option.some Jvm.ClassFile.FieldType.int) [((0 : Nat), (9 : Nat), (12 : Nat), (19 : Nat))]) ∈ Tw := Tw_of 639 (by decide +kernel) rfl
theorem tw_ml_L_70 : (Jvm.Cond.methodLink "FleetSettingsLaw" (70 : Nat) ({ cls := "FleetSettings", name := "rank", desc := "(I)I" } : Jvm.MethodName)) ∈ Tw := Tw_of 640 (by decide +kernel) rfl
theorem tw_im_X5_rank : (Jvm.Cond.instanceMethod ({ cls := "FleetSettings", name := "rank", desc := "(I)I" } : Jvm.MethodName)) ∈ Tw := Tw_of 641 (by decide +kernel) rfl
theorem tw_sel_X5_rank : (Jvm.Cond.selects "FleetSettings" ({ cls := "FleetSettings", name := "rank", desc := "(I)I" } : Jvm.MethodName) ({ cls := "FleetSettings", name := "rank", desc := "(I)I" } : Jvm.MethodName)) ∈ Tw := Tw_of 642 (by decide +kernel) rfl
theorem tw_code_X5_rank : (Jvm.Cond.code ({ cls := "FleetSettings", name := "rank", desc := "(I)I" } : Jvm.MethodName) prog_1_method_20_code (2 : Nat) (Option.some Jvm.ClassFile.FieldType.int)) ∈ Tw := Tw_of 643 (by decide +kernel) rfl
theorem tw_ml_L_179 : (Jvm.Cond.methodLink "FleetSettingsLaw" (179 : Nat) ({ cls := "FleetSettingsLaw", name := "approvals", desc := "(LFleetSettings;I[J)I" } : Jvm.MethodName)) ∈ Tw := Tw_of 644 (by decide +kernel) rfl
theorem tw_st_L_approvals : (Jvm.Cond.static ({ cls := "FleetSettingsLaw", name := "approvals", desc := "(LFleetSettings;I[J)I" } : Jvm.MethodName)) ∈ Tw := Tw_of 645 (by decide +kernel) rfl
theorem tw_code_L_approvals : (Jvm.Cond.codeWith ({ cls := "FleetSettingsLaw", name := "approvals", desc := "(LFleetSettings;I[J)I" } : Jvm.MethodName) method_20_code (4 : Nat) (Option.some Jvm.ClassFile.FieldType.int) [((0 : Nat), (9 : Nat), (12 : Nat), (19 : Nat))]) ∈ Tw := Tw_of 646 (by decide +kernel) rfl
theorem tw_ml_L_73 : (Jvm.Cond.methodLink "FleetSettingsLaw" (73 : Nat) ({ cls := "FleetSettings", name := "approvals", desc := "(I)I" } : Jvm.MethodName)) ∈ Tw := Tw_of 647 (by decide +kernel) rfl
theorem tw_im_X5_approvals : (Jvm.Cond.instanceMethod ({ cls := "FleetSettings", name := "approvals", desc := "(I)I" } : Jvm.MethodName)) ∈ Tw := Tw_of 648 (by decide +kernel) rfl
theorem tw_sel_X5_approvals : (Jvm.Cond.selects "FleetSettings" ({ cls := "FleetSettings", name := "approvals", desc := "(I)I" } : Jvm.MethodName) ({ cls := "FleetSettings", name := "approvals", desc := "(I)I" } : Jvm.MethodName)) ∈ Tw := Tw_of 649 (by decide +kernel) rfl
theorem tw_code_X5_approvals : (Jvm.Cond.code ({ cls := "FleetSettings", name := "approvals", desc := "(I)I" } : Jvm.MethodName) prog_1_method_21_code (2 : Nat) (Option.some Jvm.ClassFile.FieldType.int)) ∈ Tw := Tw_of 650 (by decide +kernel) rfl
theorem tw_ml_L_182 : (Jvm.Cond.methodLink "FleetSettingsLaw" (182 : Nat) ({ cls := "FleetSettingsLaw", name := "told", desc := "(LFleetSettings;II[J)I" } : Jvm.MethodName)) ∈ Tw := Tw_of 651 (by decide +kernel) rfl
theorem tw_st_L_told : (Jvm.Cond.static ({ cls := "FleetSettingsLaw", name := "told", desc := "(LFleetSettings;II[J)I" } : Jvm.MethodName)) ∈ Tw := Tw_of 652 (by decide +kernel) rfl
theorem tw_code_L_told : (Jvm.Cond.codeWith ({ cls := "FleetSettingsLaw", name := "told", desc := "(LFleetSettings;II[J)I" } : Jvm.MethodName) method_21_code (5 : Nat) (Option.some Jvm.ClassFile.FieldType.int) [((0 : Nat), (10 : Nat), (13 : Nat), (19 : Nat))]) ∈ Tw := Tw_of 653 (by decide +kernel) rfl
theorem tw_ml_L_76 : (Jvm.Cond.methodLink "FleetSettingsLaw" (76 : Nat) ({ cls := "FleetSettings", name := "told", desc := "(II)I" } : Jvm.MethodName)) ∈ Tw := Tw_of 654 (by decide +kernel) rfl
theorem tw_im_X5_told : (Jvm.Cond.instanceMethod ({ cls := "FleetSettings", name := "told", desc := "(II)I" } : Jvm.MethodName)) ∈ Tw := Tw_of 655 (by decide +kernel) rfl
theorem tw_sel_X5_told : (Jvm.Cond.selects "FleetSettings" ({ cls := "FleetSettings", name := "told", desc := "(II)I" } : Jvm.MethodName) ({ cls := "FleetSettings", name := "told", desc := "(II)I" } : Jvm.MethodName)) ∈ Tw := Tw_of 656 (by decide +kernel) rfl
theorem tw_code_X5_told : (Jvm.Cond.code ({ cls := "FleetSettings", name := "told", desc := "(II)I" } : Jvm.MethodName) prog_1_method_22_code (4 : Nat) (Option.some Jvm.ClassFile.FieldType.int)) ∈ Tw := Tw_of 657 (by decide +kernel) rfl
theorem tw_ml_X5_222 : (Jvm.Cond.methodLink "FleetSettings" (222 : Nat) ({ cls := "FleetSettings", name := "whatIsToldBy", desc := "(I)I" } : Jvm.MethodName)) ∈ Tw := Tw_of 658 (by decide +kernel) rfl
theorem tw_im_X5_whatIsToldBy : (Jvm.Cond.instanceMethod ({ cls := "FleetSettings", name := "whatIsToldBy", desc := "(I)I" } : Jvm.MethodName)) ∈ Tw := Tw_of 660 (by decide +kernel) rfl
theorem tw_code_X5_whatIsToldBy : (Jvm.Cond.code ({ cls := "FleetSettings", name := "whatIsToldBy", desc := "(I)I" } : Jvm.MethodName) prog_1_method_58_code (2 : Nat) (Option.some Jvm.ClassFile.FieldType.int)) ∈ Tw := Tw_of 661 (by decide +kernel) rfl
theorem tw_ml_L_185 : (Jvm.Cond.methodLink "FleetSettingsLaw" (185 : Nat) ({ cls := "FleetSettingsLaw", name := "taken", desc := "(LFleetSettings;III[J)I" } : Jvm.MethodName)) ∈ Tw := Tw_of 662 (by decide +kernel) rfl
theorem tw_st_L_taken : (Jvm.Cond.static ({ cls := "FleetSettingsLaw", name := "taken", desc := "(LFleetSettings;III[J)I" } : Jvm.MethodName)) ∈ Tw := Tw_of 663 (by decide +kernel) rfl
theorem tw_code_L_taken : (Jvm.Cond.codeWith ({ cls := "FleetSettingsLaw", name := "taken", desc := "(LFleetSettings;III[J)I" } : Jvm.MethodName) method_22_code (6 : Nat) (Option.some Jvm.ClassFile.FieldType.int) [((0 : Nat), (12 : Nat), (15 : Nat), (19 : Nat))]) ∈ Tw := Tw_of 664 (by decide +kernel) rfl
theorem tw_ml_L_79 : (Jvm.Cond.methodLink "FleetSettingsLaw" (79 : Nat) ({ cls := "FleetSettings", name := "taken", desc := "(III)I" } : Jvm.MethodName)) ∈ Tw := Tw_of 665 (by decide +kernel) rfl
theorem tw_im_X5_taken : (Jvm.Cond.instanceMethod ({ cls := "FleetSettings", name := "taken", desc := "(III)I" } : Jvm.MethodName)) ∈ Tw := Tw_of 666 (by decide +kernel) rfl
theorem tw_sel_X5_taken : (Jvm.Cond.selects "FleetSettings" ({ cls := "FleetSettings", name := "taken", desc := "(III)I" } : Jvm.MethodName) ({ cls := "FleetSettings", name := "taken", desc := "(III)I" } : Jvm.MethodName)) ∈ Tw := Tw_of 667 (by decide +kernel) rfl
theorem tw_code_X5_taken : (Jvm.Cond.code ({ cls := "FleetSettings", name := "taken", desc := "(III)I" } : Jvm.MethodName) prog_1_method_23_code (5 : Nat) (Option.some Jvm.ClassFile.FieldType.int)) ∈ Tw := Tw_of 668 (by decide +kernel) rfl
theorem tw_ml_L_189 : (Jvm.Cond.methodLink "FleetSettingsLaw" (189 : Nat) ({ cls := "FleetSettingsLaw", name := "runs", desc := "(LFleetSettings;II[J)I" } : Jvm.MethodName)) ∈ Tw := Tw_of 670 (by decide +kernel) rfl
theorem tw_st_L_runs : (Jvm.Cond.static ({ cls := "FleetSettingsLaw", name := "runs", desc := "(LFleetSettings;II[J)I" } : Jvm.MethodName)) ∈ Tw := Tw_of 671 (by decide +kernel) rfl
theorem tw_code_L_runs : (Jvm.Cond.codeWith ({ cls := "FleetSettingsLaw", name := "runs", desc := "(LFleetSettings;II[J)I" } : Jvm.MethodName) method_23_code (5 : Nat) (Option.some Jvm.ClassFile.FieldType.int) [((0 : Nat), (10 : Nat), (13 : Nat), (19 : Nat))]) ∈ Tw := Tw_of 672 (by decide +kernel) rfl
theorem tw_ml_L_83 : (Jvm.Cond.methodLink "FleetSettingsLaw" (83 : Nat) ({ cls := "FleetSettings", name := "runs", desc := "(II)I" } : Jvm.MethodName)) ∈ Tw := Tw_of 673 (by decide +kernel) rfl
theorem tw_im_X5_runs : (Jvm.Cond.instanceMethod ({ cls := "FleetSettings", name := "runs", desc := "(II)I" } : Jvm.MethodName)) ∈ Tw := Tw_of 674 (by decide +kernel) rfl
theorem tw_sel_X5_runs : (Jvm.Cond.selects "FleetSettings" ({ cls := "FleetSettings", name := "runs", desc := "(II)I" } : Jvm.MethodName) ({ cls := "FleetSettings", name := "runs", desc := "(II)I" } : Jvm.MethodName)) ∈ Tw := Tw_of 675 (by decide +kernel) rfl
theorem tw_code_X5_runs : (Jvm.Cond.code ({ cls := "FleetSettings", name := "runs", desc := "(II)I" } : Jvm.MethodName) prog_1_method_24_code (3 : Nat) (Option.some Jvm.ClassFile.FieldType.int)) ∈ Tw := Tw_of 676 (by decide +kernel) rfl
theorem tw_ml_X5_239 : (Jvm.Cond.methodLink "FleetSettings" (239 : Nat) ({ cls := "FleetSettings", name := "findRunning", desc := "(LFleetSettings$Machine;)V" } : Jvm.MethodName)) ∈ Tw := Tw_of 677 (by decide +kernel) rfl
theorem tw_im_X5_findRunning : (Jvm.Cond.instanceMethod ({ cls := "FleetSettings", name := "findRunning", desc := "(LFleetSettings$Machine;)V" } : Jvm.MethodName)) ∈ Tw := Tw_of 679 (by decide +kernel) rfl
theorem tw_code_X5_findRunning : (Jvm.Cond.code ({ cls := "FleetSettings", name := "findRunning", desc := "(LFleetSettings$Machine;)V" } : Jvm.MethodName) prog_1_method_55_code (2 : Nat) (Option.none : Option Jvm.ClassFile.FieldType)) ∈ Tw := Tw_of 680 (by decide +kernel) rfl
theorem tw_ml_X5_319 : (Jvm.Cond.methodLink "FleetSettings" (319 : Nat) ({ cls := "FleetSettings$Outcome", name := "forget", desc := "()V" } : Jvm.MethodName)) ∈ Tw := Tw_of 681 (by decide +kernel) rfl
theorem tw_im_X3_forget : (Jvm.Cond.instanceMethod ({ cls := "FleetSettings$Outcome", name := "forget", desc := "()V" } : Jvm.MethodName)) ∈ Tw := Tw_of 682 (by decide +kernel) rfl
theorem tw_sel_X3_forget : (Jvm.Cond.selects "FleetSettings$Outcome" ({ cls := "FleetSettings$Outcome", name := "forget", desc := "()V" } : Jvm.MethodName) ({ cls := "FleetSettings$Outcome", name := "forget", desc := "()V" } : Jvm.MethodName)) ∈ Tw := Tw_of 683 (by decide +kernel) rfl
theorem tw_code_X3_forget : (Jvm.Cond.code ({ cls := "FleetSettings$Outcome", name := "forget", desc := "()V" } : Jvm.MethodName) prog_5_method_2_code (1 : Nat) (Option.none : Option Jvm.ClassFile.FieldType)) ∈ Tw := Tw_of 684 (by decide +kernel) rfl
theorem tw_ml_X3_21 : (Jvm.Cond.methodLink "FleetSettings$Outcome" (21 : Nat) ({ cls := "java/util/Arrays", name := "fill", desc := "([II)V" } : Jvm.MethodName)) ∈ Tw := Tw_of 685 (by decide +kernel) rfl
theorem tw_ml_X5_249 : (Jvm.Cond.methodLink "FleetSettings" (249 : Nat) ({ cls := "FleetSettings", name := "findOutcome", desc := "(LFleetSettings$Machine;[I[I)V" } : Jvm.MethodName)) ∈ Tw := Tw_of 686 (by decide +kernel) rfl
theorem tw_im_X5_findOutcome : (Jvm.Cond.instanceMethod ({ cls := "FleetSettings", name := "findOutcome", desc := "(LFleetSettings$Machine;[I[I)V" } : Jvm.MethodName)) ∈ Tw := Tw_of 688 (by decide +kernel) rfl
theorem tw_code_X5_findOutcome : (Jvm.Cond.code ({ cls := "FleetSettings", name := "findOutcome", desc := "(LFleetSettings$Machine;[I[I)V" } : Jvm.MethodName) prog_1_method_56_code (5 : Nat) (Option.none : Option Jvm.ClassFile.FieldType)) ∈ Tw := Tw_of 689 (by decide +kernel) rfl
theorem tw_ml_X5_322 : (Jvm.Cond.methodLink "FleetSettings" (322 : Nat) ({ cls := "FleetSettings", name := "decide", desc := "(LFleetSettings$Machine;[I[II)V" } : Jvm.MethodName)) ∈ Tw := Tw_of 690 (by decide +kernel) rfl
theorem tw_im_X5_decide : (Jvm.Cond.instanceMethod ({ cls := "FleetSettings", name := "decide", desc := "(LFleetSettings$Machine;[I[II)V" } : Jvm.MethodName)) ∈ Tw := Tw_of 692 (by decide +kernel) rfl
theorem tw_code_X5_decide : (Jvm.Cond.code ({ cls := "FleetSettings", name := "decide", desc := "(LFleetSettings$Machine;[I[II)V" } : Jvm.MethodName) prog_1_method_57_code (8 : Nat) (Option.none : Option Jvm.ClassFile.FieldType)) ∈ Tw := Tw_of 693 (by decide +kernel) rfl
theorem tw_ml_X5_330 : (Jvm.Cond.methodLink "FleetSettings" (330 : Nat) ({ cls := "FleetSettings$Outcome", name := "set", desc := "(IIII)V" } : Jvm.MethodName)) ∈ Tw := Tw_of 694 (by decide +kernel) rfl
theorem tw_im_X3_set : (Jvm.Cond.instanceMethod ({ cls := "FleetSettings$Outcome", name := "set", desc := "(IIII)V" } : Jvm.MethodName)) ∈ Tw := Tw_of 695 (by decide +kernel) rfl
theorem tw_sel_X3_set : (Jvm.Cond.selects "FleetSettings$Outcome" ({ cls := "FleetSettings$Outcome", name := "set", desc := "(IIII)V" } : Jvm.MethodName) ({ cls := "FleetSettings$Outcome", name := "set", desc := "(IIII)V" } : Jvm.MethodName)) ∈ Tw := Tw_of 696 (by decide +kernel) rfl
theorem tw_code_X3_set : (Jvm.Cond.code ({ cls := "FleetSettings$Outcome", name := "set", desc := "(IIII)V" } : Jvm.MethodName) prog_5_method_3_code (5 : Nat) (Option.none : Option Jvm.ClassFile.FieldType)) ∈ Tw := Tw_of 697 (by decide +kernel) rfl
theorem tw_ml_X5_326 : (Jvm.Cond.methodLink "FleetSettings" (326 : Nat) ({ cls := "FleetSettings$Outcome", name := "hideExcluded", desc := "([I)V" } : Jvm.MethodName)) ∈ Tw := Tw_of 698 (by decide +kernel) rfl
theorem tw_im_X3_hideExcluded : (Jvm.Cond.instanceMethod ({ cls := "FleetSettings$Outcome", name := "hideExcluded", desc := "([I)V" } : Jvm.MethodName)) ∈ Tw := Tw_of 699 (by decide +kernel) rfl
theorem tw_sel_X3_hideExcluded : (Jvm.Cond.selects "FleetSettings$Outcome" ({ cls := "FleetSettings$Outcome", name := "hideExcluded", desc := "([I)V" } : Jvm.MethodName) ({ cls := "FleetSettings$Outcome", name := "hideExcluded", desc := "([I)V" } : Jvm.MethodName)) ∈ Tw := Tw_of 700 (by decide +kernel) rfl
theorem tw_code_X3_hideExcluded : (Jvm.Cond.code ({ cls := "FleetSettings$Outcome", name := "hideExcluded", desc := "([I)V" } : Jvm.MethodName) prog_5_method_4_code (4 : Nat) (Option.none : Option Jvm.ClassFile.FieldType)) ∈ Tw := Tw_of 701 (by decide +kernel) rfl
theorem tw_ml_X3_35 : (Jvm.Cond.methodLink "FleetSettings$Outcome" (35 : Nat) ({ cls := "FleetSettings$Outcome", name := "yields", desc := "(II)Z" } : Jvm.MethodName)) ∈ Tw := Tw_of 703 (by decide +kernel) rfl
theorem tw_im_X3_yields : (Jvm.Cond.instanceMethod ({ cls := "FleetSettings$Outcome", name := "yields", desc := "(II)Z" } : Jvm.MethodName)) ∈ Tw := Tw_of 705 (by decide +kernel) rfl
theorem tw_code_X3_yields : (Jvm.Cond.code ({ cls := "FleetSettings$Outcome", name := "yields", desc := "(II)Z" } : Jvm.MethodName) prog_5_method_5_code (3 : Nat) (Option.some Jvm.ClassFile.FieldType.boolean)) ∈ Tw := Tw_of 706 (by decide +kernel) rfl
theorem tw_ml_X5_243 : (Jvm.Cond.methodLink "FleetSettings" (243 : Nat) ({ cls := "FleetSettings$Outcome", name := "valueIfShown", desc := "(I)I" } : Jvm.MethodName)) ∈ Tw := Tw_of 708 (by decide +kernel) rfl
theorem tw_im_X3_valueIfShown : (Jvm.Cond.instanceMethod ({ cls := "FleetSettings$Outcome", name := "valueIfShown", desc := "(I)I" } : Jvm.MethodName)) ∈ Tw := Tw_of 709 (by decide +kernel) rfl
theorem tw_sel_X3_valueIfShown : (Jvm.Cond.selects "FleetSettings$Outcome" ({ cls := "FleetSettings$Outcome", name := "valueIfShown", desc := "(I)I" } : Jvm.MethodName) ({ cls := "FleetSettings$Outcome", name := "valueIfShown", desc := "(I)I" } : Jvm.MethodName)) ∈ Tw := Tw_of 710 (by decide +kernel) rfl
theorem tw_code_X3_valueIfShown : (Jvm.Cond.code ({ cls := "FleetSettings$Outcome", name := "valueIfShown", desc := "(I)I" } : Jvm.MethodName) prog_5_method_6_code (2 : Nat) (Option.some Jvm.ClassFile.FieldType.int)) ∈ Tw := Tw_of 711 (by decide +kernel) rfl
theorem tw_ml_L_192 : (Jvm.Cond.methodLink "FleetSettingsLaw" (192 : Nat) ({ cls := "FleetSettingsLaw", name := "layerOf", desc := "(LFleetSettings;II[J)I" } : Jvm.MethodName)) ∈ Tw := Tw_of 712 (by decide +kernel) rfl
theorem tw_st_L_layerOf : (Jvm.Cond.static ({ cls := "FleetSettingsLaw", name := "layerOf", desc := "(LFleetSettings;II[J)I" } : Jvm.MethodName)) ∈ Tw := Tw_of 713 (by decide +kernel) rfl
theorem tw_code_L_layerOf : (Jvm.Cond.codeWith ({ cls := "FleetSettingsLaw", name := "layerOf", desc := "(LFleetSettings;II[J)I" } : Jvm.MethodName) method_24_code (5 : Nat) (Option.some Jvm.ClassFile.FieldType.int) [((0 : Nat), (10 : Nat), (13 : Nat), (19 : Nat))]) ∈ Tw := Tw_of 714 (by decide +kernel) rfl
theorem tw_ml_L_86 : (Jvm.Cond.methodLink "FleetSettingsLaw" (86 : Nat) ({ cls := "FleetSettings", name := "layerOf", desc := "(II)I" } : Jvm.MethodName)) ∈ Tw := Tw_of 715 (by decide +kernel) rfl
theorem tw_im_X5_layerOf : (Jvm.Cond.instanceMethod ({ cls := "FleetSettings", name := "layerOf", desc := "(II)I" } : Jvm.MethodName)) ∈ Tw := Tw_of 716 (by decide +kernel) rfl
theorem tw_sel_X5_layerOf : (Jvm.Cond.selects "FleetSettings" ({ cls := "FleetSettings", name := "layerOf", desc := "(II)I" } : Jvm.MethodName) ({ cls := "FleetSettings", name := "layerOf", desc := "(II)I" } : Jvm.MethodName)) ∈ Tw := Tw_of 717 (by decide +kernel) rfl
theorem tw_code_X5_layerOf : (Jvm.Cond.code ({ cls := "FleetSettings", name := "layerOf", desc := "(II)I" } : Jvm.MethodName) prog_1_method_25_code (3 : Nat) (Option.some Jvm.ClassFile.FieldType.int)) ∈ Tw := Tw_of 718 (by decide +kernel) rfl
theorem tw_ml_X5_246 : (Jvm.Cond.methodLink "FleetSettings" (246 : Nat) ({ cls := "FleetSettings$Outcome", name := "layerIfShown", desc := "(I)I" } : Jvm.MethodName)) ∈ Tw := Tw_of 719 (by decide +kernel) rfl
theorem tw_im_X3_layerIfShown : (Jvm.Cond.instanceMethod ({ cls := "FleetSettings$Outcome", name := "layerIfShown", desc := "(I)I" } : Jvm.MethodName)) ∈ Tw := Tw_of 720 (by decide +kernel) rfl
theorem tw_sel_X3_layerIfShown : (Jvm.Cond.selects "FleetSettings$Outcome" ({ cls := "FleetSettings$Outcome", name := "layerIfShown", desc := "(I)I" } : Jvm.MethodName) ({ cls := "FleetSettings$Outcome", name := "layerIfShown", desc := "(I)I" } : Jvm.MethodName)) ∈ Tw := Tw_of 721 (by decide +kernel) rfl
theorem tw_code_X3_layerIfShown : (Jvm.Cond.code ({ cls := "FleetSettings$Outcome", name := "layerIfShown", desc := "(I)I" } : Jvm.MethodName) prog_5_method_7_code (2 : Nat) (Option.some Jvm.ClassFile.FieldType.int)) ∈ Tw := Tw_of 722 (by decide +kernel) rfl
theorem tw_ml_X3_42 : (Jvm.Cond.methodLink "FleetSettings$Outcome" (42 : Nat) ({ cls := "FleetSettings$Outcome", name := "valueIfShown", desc := "(I)I" } : Jvm.MethodName)) ∈ Tw := Tw_of 723 (by decide +kernel) rfl
theorem tw_ml_L_195 : (Jvm.Cond.methodLink "FleetSettingsLaw" (195 : Nat) ({ cls := "FleetSettingsLaw", name := "due", desc := "(LFleetSettings;II[J)I" } : Jvm.MethodName)) ∈ Tw := Tw_of 724 (by decide +kernel) rfl
theorem tw_st_L_due : (Jvm.Cond.static ({ cls := "FleetSettingsLaw", name := "due", desc := "(LFleetSettings;II[J)I" } : Jvm.MethodName)) ∈ Tw := Tw_of 725 (by decide +kernel) rfl
theorem tw_code_L_due : (Jvm.Cond.codeWith ({ cls := "FleetSettingsLaw", name := "due", desc := "(LFleetSettings;II[J)I" } : Jvm.MethodName) method_25_code (5 : Nat) (Option.some Jvm.ClassFile.FieldType.int) [((0 : Nat), (10 : Nat), (13 : Nat), (19 : Nat))]) ∈ Tw := Tw_of 726 (by decide +kernel) rfl
theorem tw_ml_L_89 : (Jvm.Cond.methodLink "FleetSettingsLaw" (89 : Nat) ({ cls := "FleetSettings", name := "due", desc := "(II)I" } : Jvm.MethodName)) ∈ Tw := Tw_of 727 (by decide +kernel) rfl
theorem tw_im_X5_due : (Jvm.Cond.instanceMethod ({ cls := "FleetSettings", name := "due", desc := "(II)I" } : Jvm.MethodName)) ∈ Tw := Tw_of 728 (by decide +kernel) rfl
theorem tw_sel_X5_due : (Jvm.Cond.selects "FleetSettings" ({ cls := "FleetSettings", name := "due", desc := "(II)I" } : Jvm.MethodName) ({ cls := "FleetSettings", name := "due", desc := "(II)I" } : Jvm.MethodName)) ∈ Tw := Tw_of 729 (by decide +kernel) rfl
theorem tw_code_X5_due : (Jvm.Cond.code ({ cls := "FleetSettings", name := "due", desc := "(II)I" } : Jvm.MethodName) prog_1_method_26_code (3 : Nat) (Option.some Jvm.ClassFile.FieldType.int)) ∈ Tw := Tw_of 730 (by decide +kernel) rfl
theorem tw_ml_L_198 : (Jvm.Cond.methodLink "FleetSettingsLaw" (198 : Nat) ({ cls := "FleetSettingsLaw", name := "dueAnew", desc := "(LFleetSettings;II[J)I" } : Jvm.MethodName)) ∈ Tw := Tw_of 731 (by decide +kernel) rfl
theorem tw_st_L_dueAnew : (Jvm.Cond.static ({ cls := "FleetSettingsLaw", name := "dueAnew", desc := "(LFleetSettings;II[J)I" } : Jvm.MethodName)) ∈ Tw := Tw_of 732 (by decide +kernel) rfl
theorem tw_code_L_dueAnew : (Jvm.Cond.codeWith ({ cls := "FleetSettingsLaw", name := "dueAnew", desc := "(LFleetSettings;II[J)I" } : Jvm.MethodName) method_26_code (5 : Nat) (Option.some Jvm.ClassFile.FieldType.int) [((0 : Nat), (10 : Nat), (13 : Nat), (19 : Nat))]) ∈ Tw := Tw_of 733 (by decide +kernel) rfl
theorem tw_ml_L_92 : (Jvm.Cond.methodLink "FleetSettingsLaw" (92 : Nat) ({ cls := "FleetSettings", name := "dueAnew", desc := "(II)I" } : Jvm.MethodName)) ∈ Tw := Tw_of 734 (by decide +kernel) rfl
theorem tw_im_X5_dueAnew : (Jvm.Cond.instanceMethod ({ cls := "FleetSettings", name := "dueAnew", desc := "(II)I" } : Jvm.MethodName)) ∈ Tw := Tw_of 735 (by decide +kernel) rfl
theorem tw_sel_X5_dueAnew : (Jvm.Cond.selects "FleetSettings" ({ cls := "FleetSettings", name := "dueAnew", desc := "(II)I" } : Jvm.MethodName) ({ cls := "FleetSettings", name := "dueAnew", desc := "(II)I" } : Jvm.MethodName)) ∈ Tw := Tw_of 736 (by decide +kernel) rfl
theorem tw_code_X5_dueAnew : (Jvm.Cond.code ({ cls := "FleetSettings", name := "dueAnew", desc := "(II)I" } : Jvm.MethodName) prog_1_method_27_code (3 : Nat) (Option.some Jvm.ClassFile.FieldType.int)) ∈ Tw := Tw_of 737 (by decide +kernel) rfl
theorem tw_ml_X5_253 : (Jvm.Cond.methodLink "FleetSettings" (253 : Nat) ({ cls := "FleetSettings", name := "findHeadsAnew", desc := "()V" } : Jvm.MethodName)) ∈ Tw := Tw_of 738 (by decide +kernel) rfl
theorem tw_im_X5_findHeadsAnew : (Jvm.Cond.instanceMethod ({ cls := "FleetSettings", name := "findHeadsAnew", desc := "()V" } : Jvm.MethodName)) ∈ Tw := Tw_of 740 (by decide +kernel) rfl
theorem tw_code_X5_findHeadsAnew : (Jvm.Cond.code ({ cls := "FleetSettings", name := "findHeadsAnew", desc := "()V" } : Jvm.MethodName) prog_1_method_46_code (2 : Nat) (Option.none : Option Jvm.ClassFile.FieldType)) ∈ Tw := Tw_of 741 (by decide +kernel) rfl
theorem tw_ml_X5_297 : (Jvm.Cond.methodLink "FleetSettings" (297 : Nat) ({ cls := "FleetSettings$Change", name := "firstHeldMoment", desc := "([LFleetSettings$Person;)I" } : Jvm.MethodName)) ∈ Tw := Tw_of 742 (by decide +kernel) rfl
theorem tw_im_X0_firstHeldMoment : (Jvm.Cond.instanceMethod ({ cls := "FleetSettings$Change", name := "firstHeldMoment", desc := "([LFleetSettings$Person;)I" } : Jvm.MethodName)) ∈ Tw := Tw_of 743 (by decide +kernel) rfl
theorem tw_sel_X0_firstHeldMoment : (Jvm.Cond.selects "FleetSettings$Change" ({ cls := "FleetSettings$Change", name := "firstHeldMoment", desc := "([LFleetSettings$Person;)I" } : Jvm.MethodName) ({ cls := "FleetSettings$Change", name := "firstHeldMoment", desc := "([LFleetSettings$Person;)I" } : Jvm.MethodName)) ∈ Tw := Tw_of 744 (by decide +kernel) rfl
theorem tw_code_X0_firstHeldMoment : (Jvm.Cond.code ({ cls := "FleetSettings$Change", name := "firstHeldMoment", desc := "([LFleetSettings$Person;)I" } : Jvm.MethodName) prog_2_method_8_code (6 : Nat) (Option.some Jvm.ClassFile.FieldType.int)) ∈ Tw := Tw_of 745 (by decide +kernel) rfl
theorem tw_ml_X0_67 : (Jvm.Cond.methodLink "FleetSettings$Change" (67 : Nat) ({ cls := "FleetSettings$Change", name := "countGoodAt", desc := "(I[LFleetSettings$Person;)I" } : Jvm.MethodName)) ∈ Tw := Tw_of 746 (by decide +kernel) rfl
theorem tw_im_X0_countGoodAt : (Jvm.Cond.instanceMethod ({ cls := "FleetSettings$Change", name := "countGoodAt", desc := "(I[LFleetSettings$Person;)I" } : Jvm.MethodName)) ∈ Tw := Tw_of 748 (by decide +kernel) rfl
theorem tw_code_X0_countGoodAt : (Jvm.Cond.code ({ cls := "FleetSettings$Change", name := "countGoodAt", desc := "(I[LFleetSettings$Person;)I" } : Jvm.MethodName) prog_2_method_9_code (7 : Nat) (Option.some Jvm.ClassFile.FieldType.int)) ∈ Tw := Tw_of 749 (by decide +kernel) rfl
theorem tw_ml_X0_61 : (Jvm.Cond.methodLink "FleetSettings$Change" (61 : Nat) ({ cls := "FleetSettings$Person", name := "hasVoided", desc := "(I)Z" } : Jvm.MethodName)) ∈ Tw := Tw_of 750 (by decide +kernel) rfl
theorem tw_im_X4_hasVoided : (Jvm.Cond.instanceMethod ({ cls := "FleetSettings$Person", name := "hasVoided", desc := "(I)Z" } : Jvm.MethodName)) ∈ Tw := Tw_of 751 (by decide +kernel) rfl
theorem tw_sel_X4_hasVoided : (Jvm.Cond.selects "FleetSettings$Person" ({ cls := "FleetSettings$Person", name := "hasVoided", desc := "(I)Z" } : Jvm.MethodName) ({ cls := "FleetSettings$Person", name := "hasVoided", desc := "(I)Z" } : Jvm.MethodName)) ∈ Tw := Tw_of 752 (by decide +kernel) rfl
theorem tw_code_X4_hasVoided : (Jvm.Cond.code ({ cls := "FleetSettings$Person", name := "hasVoided", desc := "(I)Z" } : Jvm.MethodName) prog_6_method_2_code (2 : Nat) (Option.some Jvm.ClassFile.FieldType.boolean)) ∈ Tw := Tw_of 753 (by decide +kernel) rfl
theorem tw_ml_X5_301 : (Jvm.Cond.methodLink "FleetSettings" (301 : Nat) ({ cls := "FleetSettings$Change", name := "isHeldAnew", desc := "([LFleetSettings$Person;)Z" } : Jvm.MethodName)) ∈ Tw := Tw_of 754 (by decide +kernel) rfl
theorem tw_im_X0_isHeldAnew : (Jvm.Cond.instanceMethod ({ cls := "FleetSettings$Change", name := "isHeldAnew", desc := "([LFleetSettings$Person;)Z" } : Jvm.MethodName)) ∈ Tw := Tw_of 755 (by decide +kernel) rfl
theorem tw_sel_X0_isHeldAnew : (Jvm.Cond.selects "FleetSettings$Change" ({ cls := "FleetSettings$Change", name := "isHeldAnew", desc := "([LFleetSettings$Person;)Z" } : Jvm.MethodName) ({ cls := "FleetSettings$Change", name := "isHeldAnew", desc := "([LFleetSettings$Person;)Z" } : Jvm.MethodName)) ∈ Tw := Tw_of 756 (by decide +kernel) rfl
theorem tw_code_X0_isHeldAnew : (Jvm.Cond.code ({ cls := "FleetSettings$Change", name := "isHeldAnew", desc := "([LFleetSettings$Person;)Z" } : Jvm.MethodName) prog_2_method_7_code (4 : Nat) (Option.some Jvm.ClassFile.FieldType.boolean)) ∈ Tw := Tw_of 757 (by decide +kernel) rfl
theorem tw_ml_L_201 : (Jvm.Cond.methodLink "FleetSettingsLaw" (201 : Nat) ({ cls := "FleetSettingsLaw", name := "behind", desc := "(LFleetSettings;I[J)I" } : Jvm.MethodName)) ∈ Tw := Tw_of 758 (by decide +kernel) rfl
theorem tw_st_L_behind : (Jvm.Cond.static ({ cls := "FleetSettingsLaw", name := "behind", desc := "(LFleetSettings;I[J)I" } : Jvm.MethodName)) ∈ Tw := Tw_of 759 (by decide +kernel) rfl
theorem tw_code_L_behind : (Jvm.Cond.codeWith ({ cls := "FleetSettingsLaw", name := "behind", desc := "(LFleetSettings;I[J)I" } : Jvm.MethodName) method_27_code (4 : Nat) (Option.some Jvm.ClassFile.FieldType.int) [((0 : Nat), (9 : Nat), (12 : Nat), (19 : Nat))]) ∈ Tw := Tw_of 760 (by decide +kernel) rfl
theorem tw_ml_L_95 : (Jvm.Cond.methodLink "FleetSettingsLaw" (95 : Nat) ({ cls := "FleetSettings", name := "behind", desc := "(I)I" } : Jvm.MethodName)) ∈ Tw := Tw_of 761 (by decide +kernel) rfl
theorem tw_im_X5_behind : (Jvm.Cond.instanceMethod ({ cls := "FleetSettings", name := "behind", desc := "(I)I" } : Jvm.MethodName)) ∈ Tw := Tw_of 762 (by decide +kernel) rfl
theorem tw_sel_X5_behind : (Jvm.Cond.selects "FleetSettings" ({ cls := "FleetSettings", name := "behind", desc := "(I)I" } : Jvm.MethodName) ({ cls := "FleetSettings", name := "behind", desc := "(I)I" } : Jvm.MethodName)) ∈ Tw := Tw_of 763 (by decide +kernel) rfl
theorem tw_code_X5_behind : (Jvm.Cond.code ({ cls := "FleetSettings", name := "behind", desc := "(I)I" } : Jvm.MethodName) prog_1_method_28_code (5 : Nat) (Option.some Jvm.ClassFile.FieldType.int)) ∈ Tw := Tw_of 764 (by decide +kernel) rfl
theorem tw_ml_L_204 : (Jvm.Cond.methodLink "FleetSettingsLaw" (204 : Nat) ({ cls := "FleetSettingsLaw", name := "hidden", desc := "(LFleetSettings;I[J)I" } : Jvm.MethodName)) ∈ Tw := Tw_of 765 (by decide +kernel) rfl
theorem tw_st_L_hidden : (Jvm.Cond.static ({ cls := "FleetSettingsLaw", name := "hidden", desc := "(LFleetSettings;I[J)I" } : Jvm.MethodName)) ∈ Tw := Tw_of 766 (by decide +kernel) rfl
theorem tw_code_L_hidden : (Jvm.Cond.codeWith ({ cls := "FleetSettingsLaw", name := "hidden", desc := "(LFleetSettings;I[J)I" } : Jvm.MethodName) method_28_code (4 : Nat) (Option.some Jvm.ClassFile.FieldType.int) [((0 : Nat), (9 : Nat), (12 : Nat), (19 : Nat))]) ∈ Tw := Tw_of 767 (by decide +kernel) rfl
theorem tw_ml_L_98 : (Jvm.Cond.methodLink "FleetSettingsLaw" (98 : Nat) ({ cls := "FleetSettings", name := "hidden", desc := "(I)I" } : Jvm.MethodName)) ∈ Tw := Tw_of 768 (by decide +kernel) rfl
theorem tw_im_X5_hidden : (Jvm.Cond.instanceMethod ({ cls := "FleetSettings", name := "hidden", desc := "(I)I" } : Jvm.MethodName)) ∈ Tw := Tw_of 769 (by decide +kernel) rfl
theorem tw_sel_X5_hidden : (Jvm.Cond.selects "FleetSettings" ({ cls := "FleetSettings", name := "hidden", desc := "(I)I" } : Jvm.MethodName) ({ cls := "FleetSettings", name := "hidden", desc := "(I)I" } : Jvm.MethodName)) ∈ Tw := Tw_of 770 (by decide +kernel) rfl
theorem tw_code_X5_hidden : (Jvm.Cond.code ({ cls := "FleetSettings", name := "hidden", desc := "(I)I" } : Jvm.MethodName) prog_1_method_29_code (2 : Nat) (Option.some Jvm.ClassFile.FieldType.int)) ∈ Tw := Tw_of 771 (by decide +kernel) rfl
theorem tw_ml_L_207 : (Jvm.Cond.methodLink "FleetSettingsLaw" (207 : Nat) ({ cls := "FleetSettingsLaw", name := "spread", desc := "(LFleetSettings;I[J)I" } : Jvm.MethodName)) ∈ Tw := Tw_of 772 (by decide +kernel) rfl
theorem tw_st_L_spread : (Jvm.Cond.static ({ cls := "FleetSettingsLaw", name := "spread", desc := "(LFleetSettings;I[J)I" } : Jvm.MethodName)) ∈ Tw := Tw_of 773 (by decide +kernel) rfl
theorem tw_code_L_spread : (Jvm.Cond.codeWith ({ cls := "FleetSettingsLaw", name := "spread", desc := "(LFleetSettings;I[J)I" } : Jvm.MethodName) method_29_code (4 : Nat) (Option.some Jvm.ClassFile.FieldType.int) [((0 : Nat), (9 : Nat), (12 : Nat), (19 : Nat))]) ∈ Tw := Tw_of 774 (by decide +kernel) rfl
theorem tw_ml_L_101 : (Jvm.Cond.methodLink "FleetSettingsLaw" (101 : Nat) ({ cls := "FleetSettings", name := "spread", desc := "(I)I" } : Jvm.MethodName)) ∈ Tw := Tw_of 775 (by decide +kernel) rfl
theorem tw_im_X5_spread : (Jvm.Cond.instanceMethod ({ cls := "FleetSettings", name := "spread", desc := "(I)I" } : Jvm.MethodName)) ∈ Tw := Tw_of 776 (by decide +kernel) rfl
theorem tw_sel_X5_spread : (Jvm.Cond.selects "FleetSettings" ({ cls := "FleetSettings", name := "spread", desc := "(I)I" } : Jvm.MethodName) ({ cls := "FleetSettings", name := "spread", desc := "(I)I" } : Jvm.MethodName)) ∈ Tw := Tw_of 777 (by decide +kernel) rfl
theorem tw_code_X5_spread : (Jvm.Cond.code ({ cls := "FleetSettings", name := "spread", desc := "(I)I" } : Jvm.MethodName) prog_1_method_30_code (5 : Nat) (Option.some Jvm.ClassFile.FieldType.int)) ∈ Tw := Tw_of 778 (by decide +kernel) rfl
theorem tw_cl_L_105 : (Jvm.Cond.classLink "FleetSettingsLaw" (105 : Nat) "FleetSettingsModel") ∈ Tw := Tw_of 779 (by decide +kernel) rfl
theorem tw_ins_X6 : (Jvm.Cond.instantiable "FleetSettingsModel" (26 : Nat)) ∈ Tw := Tw_of 780 (by decide +kernel) rfl
theorem tw_ml_L_107 : (Jvm.Cond.methodLink "FleetSettingsLaw" (107 : Nat) ({ cls := "FleetSettingsModel", name := "<init>", desc := "()V" } : Jvm.MethodName)) ∈ Tw := Tw_of 781 (by decide +kernel) rfl
theorem tw_im_X6_init : (Jvm.Cond.instanceMethod ({ cls := "FleetSettingsModel", name := "<init>", desc := "()V" } : Jvm.MethodName)) ∈ Tw := Tw_of 782 (by decide +kernel) rfl
theorem tw_code_X6_init : (Jvm.Cond.code ({ cls := "FleetSettingsModel", name := "<init>", desc := "()V" } : Jvm.MethodName) prog_8_method_1_code (2 : Nat) (Option.none : Option Jvm.ClassFile.FieldType)) ∈ Tw := Tw_of 783 (by decide +kernel) rfl
theorem tw_ml_X6_1 : (Jvm.Cond.methodLink "FleetSettingsModel" (1 : Nat) ({ cls := "java/lang/Object", name := "<init>", desc := "()V" } : Jvm.MethodName)) ∈ Tw := Tw_of 784 (by decide +kernel) rfl
theorem tw_fl_X6_74 : (Jvm.Cond.fieldLink "FleetSettingsModel" (74 : Nat) "FleetSettingsModel" "thrown" "I") ∈ Tw := Tw_of 785 (by decide +kernel) rfl
theorem tw_fl_X6_109 : (Jvm.Cond.fieldLink "FleetSettingsModel" (109 : Nat) "FleetSettingsModel" "now" "I") ∈ Tw := Tw_of 786 (by decide +kernel) rfl
theorem tw_fl_X6_7 : (Jvm.Cond.fieldLink "FleetSettingsModel" (7 : Nat) "FleetSettingsModel" "duty" "[I") ∈ Tw := Tw_of 787 (by decide +kernel) rfl
theorem tw_fl_X6_13 : (Jvm.Cond.fieldLink "FleetSettingsModel" (13 : Nat) "FleetSettingsModel" "gone" "[I") ∈ Tw := Tw_of 788 (by decide +kernel) rfl
theorem tw_fl_X6_16 : (Jvm.Cond.fieldLink "FleetSettingsModel" (16 : Nat) "FleetSettingsModel" "groups" "I") ∈ Tw := Tw_of 789 (by decide +kernel) rfl
theorem tw_fl_X6_20 : (Jvm.Cond.fieldLink "FleetSettingsModel" (20 : Nat) "FleetSettingsModel" "parent" "[I") ∈ Tw := Tw_of 790 (by decide +kernel) rfl
theorem tw_fl_X6_81 : (Jvm.Cond.fieldLink "FleetSettingsModel" (81 : Nat) "FleetSettingsModel" "machines" "I") ∈ Tw := Tw_of 791 (by decide +kernel) rfl
theorem tw_fl_X6_23 : (Jvm.Cond.fieldLink "FleetSettingsModel" (23 : Nat) "FleetSettingsModel" "pace" "I") ∈ Tw := Tw_of 792 (by decide +kernel) rfl
theorem tw_fl_X6_26 : (Jvm.Cond.fieldLink "FleetSettingsModel" (26 : Nat) "FleetSettingsModel" "group" "[I") ∈ Tw := Tw_of 793 (by decide +kernel) rfl
theorem tw_fl_X6_29 : (Jvm.Cond.fieldLink "FleetSettingsModel" (29 : Nat) "FleetSettingsModel" "until" "[I") ∈ Tw := Tw_of 794 (by decide +kernel) rfl
theorem tw_fl_X6_32 : (Jvm.Cond.fieldLink "FleetSettingsModel" (32 : Nat) "FleetSettingsModel" "taken" "[I") ∈ Tw := Tw_of 795 (by decide +kernel) rfl
theorem tw_fl_X6_84 : (Jvm.Cond.fieldLink "FleetSettingsModel" (84 : Nat) "FleetSettingsModel" "changes" "I") ∈ Tw := Tw_of 796 (by decide +kernel) rfl
theorem tw_fl_X6_160 : (Jvm.Cond.fieldLink "FleetSettingsModel" (160 : Nat) "FleetSettingsModel" "ranks" "I") ∈ Tw := Tw_of 797 (by decide +kernel) rfl
theorem tw_fl_X6_35 : (Jvm.Cond.fieldLink "FleetSettingsModel" (35 : Nat) "FleetSettingsModel" "author" "[I") ∈ Tw := Tw_of 798 (by decide +kernel) rfl
theorem tw_fl_X6_38 : (Jvm.Cond.fieldLink "FleetSettingsModel" (38 : Nat) "FleetSettingsModel" "place" "[I") ∈ Tw := Tw_of 799 (by decide +kernel) rfl
theorem tw_fl_X6_41 : (Jvm.Cond.fieldLink "FleetSettingsModel" (41 : Nat) "FleetSettingsModel" "key" "[I") ∈ Tw := Tw_of 800 (by decide +kernel) rfl
theorem tw_fl_X6_44 : (Jvm.Cond.fieldLink "FleetSettingsModel" (44 : Nat) "FleetSettingsModel" "proposed" "[I") ∈ Tw := Tw_of 801 (by decide +kernel) rfl
theorem tw_fl_X6_47 : (Jvm.Cond.fieldLink "FleetSettingsModel" (47 : Nat) "FleetSettingsModel" "what" "[I") ∈ Tw := Tw_of 802 (by decide +kernel) rfl
theorem tw_fl_X6_50 : (Jvm.Cond.fieldLink "FleetSettingsModel" (50 : Nat) "FleetSettingsModel" "state" "[I") ∈ Tw := Tw_of 803 (by decide +kernel) rfl
theorem tw_fl_X6_53 : (Jvm.Cond.fieldLink "FleetSettingsModel" (53 : Nat) "FleetSettingsModel" "rank" "[I") ∈ Tw := Tw_of 804 (by decide +kernel) rfl
theorem tw_fl_X6_56 : (Jvm.Cond.fieldLink "FleetSettingsModel" (56 : Nat) "FleetSettingsModel" "given" "[I") ∈ Tw := Tw_of 805 (by decide +kernel) rfl
theorem tw_fl_X6_59 : (Jvm.Cond.fieldLink "FleetSettingsModel" (59 : Nat) "FleetSettingsModel" "givenOn" "[I") ∈ Tw := Tw_of 806 (by decide +kernel) rfl
theorem tw_fl_X6_62 : (Jvm.Cond.fieldLink "FleetSettingsModel" (62 : Nat) "FleetSettingsModel" "excludes" "[I") ∈ Tw := Tw_of 807 (by decide +kernel) rfl
theorem tw_fl_X6_65 : (Jvm.Cond.fieldLink "FleetSettingsModel" (65 : Nat) "FleetSettingsModel" "value" "[I") ∈ Tw := Tw_of 808 (by decide +kernel) rfl
theorem tw_fl_X6_68 : (Jvm.Cond.fieldLink "FleetSettingsModel" (68 : Nat) "FleetSettingsModel" "from" "[I") ∈ Tw := Tw_of 809 (by decide +kernel) rfl
theorem tw_fl_X6_71 : (Jvm.Cond.fieldLink "FleetSettingsModel" (71 : Nat) "FleetSettingsModel" "by" "[I") ∈ Tw := Tw_of 810 (by decide +kernel) rfl
theorem tw_ml_L_114 : (Jvm.Cond.methodLink "FleetSettingsLaw" (114 : Nat) ({ cls := "FleetSettingsModel", name := "thrown", desc := "()I" } : Jvm.MethodName)) ∈ Tw := Tw_of 864 (by decide +kernel) rfl
theorem tw_im_X6_thrown : (Jvm.Cond.instanceMethod ({ cls := "FleetSettingsModel", name := "thrown", desc := "()I" } : Jvm.MethodName)) ∈ Tw := Tw_of 865 (by decide +kernel) rfl
theorem tw_sel_X6_thrown : (Jvm.Cond.selects "FleetSettingsModel" ({ cls := "FleetSettingsModel", name := "thrown", desc := "()I" } : Jvm.MethodName) ({ cls := "FleetSettingsModel", name := "thrown", desc := "()I" } : Jvm.MethodName)) ∈ Tw := Tw_of 866 (by decide +kernel) rfl
theorem tw_code_X6_thrown : (Jvm.Cond.code ({ cls := "FleetSettingsModel", name := "thrown", desc := "()I" } : Jvm.MethodName) prog_8_method_2_code (1 : Nat) (Option.some Jvm.ClassFile.FieldType.int)) ∈ Tw := Tw_of 867 (by decide +kernel) rfl
theorem tw_ml_L_113 : (Jvm.Cond.methodLink "FleetSettingsLaw" (113 : Nat) ({ cls := "FleetSettingsModel", name := "setDuty", desc := "(II)I" } : Jvm.MethodName)) ∈ Tw := Tw_of 868 (by decide +kernel) rfl
theorem tw_im_X6_setDuty : (Jvm.Cond.instanceMethod ({ cls := "FleetSettingsModel", name := "setDuty", desc := "(II)I" } : Jvm.MethodName)) ∈ Tw := Tw_of 869 (by decide +kernel) rfl
theorem tw_sel_X6_setDuty : (Jvm.Cond.selects "FleetSettingsModel" ({ cls := "FleetSettingsModel", name := "setDuty", desc := "(II)I" } : Jvm.MethodName) ({ cls := "FleetSettingsModel", name := "setDuty", desc := "(II)I" } : Jvm.MethodName)) ∈ Tw := Tw_of 870 (by decide +kernel) rfl
theorem tw_code_X6_setDuty : (Jvm.Cond.code ({ cls := "FleetSettingsModel", name := "setDuty", desc := "(II)I" } : Jvm.MethodName) prog_8_method_20_code (4 : Nat) (Option.some Jvm.ClassFile.FieldType.int)) ∈ Tw := Tw_of 871 (by decide +kernel) rfl
theorem tw_ml_X6_77 : (Jvm.Cond.methodLink "FleetSettingsModel" (77 : Nat) ({ cls := "FleetSettingsModel", name := "in", desc := "(III)Z" } : Jvm.MethodName)) ∈ Tw := Tw_of 872 (by decide +kernel) rfl
theorem tw_st_X6_in : (Jvm.Cond.static ({ cls := "FleetSettingsModel", name := "in", desc := "(III)Z" } : Jvm.MethodName)) ∈ Tw := Tw_of 873 (by decide +kernel) rfl
theorem tw_code_X6_in : (Jvm.Cond.code ({ cls := "FleetSettingsModel", name := "in", desc := "(III)Z" } : Jvm.MethodName) prog_8_method_4_code (3 : Nat) (Option.some Jvm.ClassFile.FieldType.boolean)) ∈ Tw := Tw_of 874 (by decide +kernel) rfl
theorem tw_ml_X6_112 : (Jvm.Cond.methodLink "FleetSettingsModel" (112 : Nat) ({ cls := "FleetSettingsModel", name := "fails", desc := "(I)I" } : Jvm.MethodName)) ∈ Tw := Tw_of 875 (by decide +kernel) rfl
theorem tw_im_X6_fails : (Jvm.Cond.instanceMethod ({ cls := "FleetSettingsModel", name := "fails", desc := "(I)I" } : Jvm.MethodName)) ∈ Tw := Tw_of 877 (by decide +kernel) rfl
theorem tw_code_X6_fails : (Jvm.Cond.code ({ cls := "FleetSettingsModel", name := "fails", desc := "(I)I" } : Jvm.MethodName) prog_8_method_3_code (2 : Nat) (Option.some Jvm.ClassFile.FieldType.int)) ∈ Tw := Tw_of 878 (by decide +kernel) rfl
theorem tw_ml_L_121 : (Jvm.Cond.methodLink "FleetSettingsLaw" (121 : Nat) ({ cls := "FleetSettingsModel", name := "leave", desc := "(IZ)I" } : Jvm.MethodName)) ∈ Tw := Tw_of 879 (by decide +kernel) rfl
theorem tw_im_X6_leave : (Jvm.Cond.instanceMethod ({ cls := "FleetSettingsModel", name := "leave", desc := "(IZ)I" } : Jvm.MethodName)) ∈ Tw := Tw_of 880 (by decide +kernel) rfl
theorem tw_sel_X6_leave : (Jvm.Cond.selects "FleetSettingsModel" ({ cls := "FleetSettingsModel", name := "leave", desc := "(IZ)I" } : Jvm.MethodName) ({ cls := "FleetSettingsModel", name := "leave", desc := "(IZ)I" } : Jvm.MethodName)) ∈ Tw := Tw_of 881 (by decide +kernel) rfl
theorem tw_code_X6_leave : (Jvm.Cond.code ({ cls := "FleetSettingsModel", name := "leave", desc := "(IZ)I" } : Jvm.MethodName) prog_8_method_23_code (3 : Nat) (Option.some Jvm.ClassFile.FieldType.int)) ∈ Tw := Tw_of 882 (by decide +kernel) rfl
theorem tw_ml_X6_121 : (Jvm.Cond.methodLink "FleetSettingsModel" (121 : Nat) ({ cls := "FleetSettingsModel", name := "isPerson", desc := "(I)Z" } : Jvm.MethodName)) ∈ Tw := Tw_of 883 (by decide +kernel) rfl
theorem tw_st_X6_isPerson : (Jvm.Cond.static ({ cls := "FleetSettingsModel", name := "isPerson", desc := "(I)Z" } : Jvm.MethodName)) ∈ Tw := Tw_of 884 (by decide +kernel) rfl
theorem tw_code_X6_isPerson : (Jvm.Cond.code ({ cls := "FleetSettingsModel", name := "isPerson", desc := "(I)Z" } : Jvm.MethodName) prog_8_method_5_code (1 : Nat) (Option.some Jvm.ClassFile.FieldType.boolean)) ∈ Tw := Tw_of 885 (by decide +kernel) rfl
theorem tw_ml_X6_124 : (Jvm.Cond.methodLink "FleetSettingsModel" (124 : Nat) ({ cls := "FleetSettingsModel", name := "voids", desc := "(I)I" } : Jvm.MethodName)) ∈ Tw := Tw_of 886 (by decide +kernel) rfl
theorem tw_im_X6_voids : (Jvm.Cond.instanceMethod ({ cls := "FleetSettingsModel", name := "voids", desc := "(I)I" } : Jvm.MethodName)) ∈ Tw := Tw_of 888 (by decide +kernel) rfl
theorem tw_code_X6_voids : (Jvm.Cond.code ({ cls := "FleetSettingsModel", name := "voids", desc := "(I)I" } : Jvm.MethodName) prog_8_method_22_code (6 : Nat) (Option.some Jvm.ClassFile.FieldType.int)) ∈ Tw := Tw_of 889 (by decide +kernel) rfl
theorem tw_ml_X6_115 : (Jvm.Cond.methodLink "FleetSettingsModel" (115 : Nat) ({ cls := "FleetSettingsModel", name := "good", desc := "(I)I" } : Jvm.MethodName)) ∈ Tw := Tw_of 890 (by decide +kernel) rfl
theorem tw_im_X6_good : (Jvm.Cond.instanceMethod ({ cls := "FleetSettingsModel", name := "good", desc := "(I)I" } : Jvm.MethodName)) ∈ Tw := Tw_of 892 (by decide +kernel) rfl
theorem tw_code_X6_good : (Jvm.Cond.code ({ cls := "FleetSettingsModel", name := "good", desc := "(I)I" } : Jvm.MethodName) prog_8_method_21_code (4 : Nat) (Option.some Jvm.ClassFile.FieldType.int)) ∈ Tw := Tw_of 893 (by decide +kernel) rfl
theorem tw_ml_X6_118 : (Jvm.Cond.methodLink "FleetSettingsModel" (118 : Nat) ({ cls := "FleetSettingsModel", name := "isHalted", desc := "(I)Z" } : Jvm.MethodName)) ∈ Tw := Tw_of 894 (by decide +kernel) rfl
theorem tw_im_X6_isHalted : (Jvm.Cond.instanceMethod ({ cls := "FleetSettingsModel", name := "isHalted", desc := "(I)Z" } : Jvm.MethodName)) ∈ Tw := Tw_of 896 (by decide +kernel) rfl
theorem tw_code_X6_isHalted : (Jvm.Cond.code ({ cls := "FleetSettingsModel", name := "isHalted", desc := "(I)Z" } : Jvm.MethodName) prog_8_method_18_code (4 : Nat) (Option.some Jvm.ClassFile.FieldType.boolean)) ∈ Tw := Tw_of 897 (by decide +kernel) rfl
theorem tw_ml_X6_102 : (Jvm.Cond.methodLink "FleetSettingsModel" (102 : Nat) ({ cls := "FleetSettingsModel", name := "cells", desc := "(II)I" } : Jvm.MethodName)) ∈ Tw := Tw_of 898 (by decide +kernel) rfl
theorem tw_im_X6_cells : (Jvm.Cond.instanceMethod ({ cls := "FleetSettingsModel", name := "cells", desc := "(II)I" } : Jvm.MethodName)) ∈ Tw := Tw_of 900 (by decide +kernel) rfl
theorem tw_code_X6_cells : (Jvm.Cond.code ({ cls := "FleetSettingsModel", name := "cells", desc := "(II)I" } : Jvm.MethodName) prog_8_method_13_code (3 : Nat) (Option.some Jvm.ClassFile.FieldType.int)) ∈ Tw := Tw_of 901 (by decide +kernel) rfl
theorem tw_ml_L_125 : (Jvm.Cond.methodLink "FleetSettingsLaw" (125 : Nat) ({ cls := "FleetSettingsModel", name := "comeBack", desc := "(I)V" } : Jvm.MethodName)) ∈ Tw := Tw_of 902 (by decide +kernel) rfl
theorem tw_im_X6_comeBack : (Jvm.Cond.instanceMethod ({ cls := "FleetSettingsModel", name := "comeBack", desc := "(I)V" } : Jvm.MethodName)) ∈ Tw := Tw_of 903 (by decide +kernel) rfl
theorem tw_sel_X6_comeBack : (Jvm.Cond.selects "FleetSettingsModel" ({ cls := "FleetSettingsModel", name := "comeBack", desc := "(I)V" } : Jvm.MethodName) ({ cls := "FleetSettingsModel", name := "comeBack", desc := "(I)V" } : Jvm.MethodName)) ∈ Tw := Tw_of 904 (by decide +kernel) rfl
theorem tw_code_X6_comeBack : (Jvm.Cond.code ({ cls := "FleetSettingsModel", name := "comeBack", desc := "(I)V" } : Jvm.MethodName) prog_8_method_24_code (2 : Nat) (Option.none : Option Jvm.ClassFile.FieldType)) ∈ Tw := Tw_of 905 (by decide +kernel) rfl
theorem tw_ml_L_129 : (Jvm.Cond.methodLink "FleetSettingsLaw" (129 : Nat) ({ cls := "FleetSettingsModel", name := "pass", desc := "(I)I" } : Jvm.MethodName)) ∈ Tw := Tw_of 906 (by decide +kernel) rfl
theorem tw_im_X6_pass : (Jvm.Cond.instanceMethod ({ cls := "FleetSettingsModel", name := "pass", desc := "(I)I" } : Jvm.MethodName)) ∈ Tw := Tw_of 907 (by decide +kernel) rfl
theorem tw_sel_X6_pass : (Jvm.Cond.selects "FleetSettingsModel" ({ cls := "FleetSettingsModel", name := "pass", desc := "(I)I" } : Jvm.MethodName) ({ cls := "FleetSettingsModel", name := "pass", desc := "(I)I" } : Jvm.MethodName)) ∈ Tw := Tw_of 908 (by decide +kernel) rfl
theorem tw_code_X6_pass : (Jvm.Cond.code ({ cls := "FleetSettingsModel", name := "pass", desc := "(I)I" } : Jvm.MethodName) prog_8_method_29_code (4 : Nat) (Option.some Jvm.ClassFile.FieldType.int)) ∈ Tw := Tw_of 909 (by decide +kernel) rfl
theorem tw_ml_X6_141 : (Jvm.Cond.methodLink "FleetSettingsModel" (141 : Nat) ({ cls := "FleetSettingsModel", name := "passes", desc := "()I" } : Jvm.MethodName)) ∈ Tw := Tw_of 910 (by decide +kernel) rfl
theorem tw_im_X6_passes : (Jvm.Cond.instanceMethod ({ cls := "FleetSettingsModel", name := "passes", desc := "()I" } : Jvm.MethodName)) ∈ Tw := Tw_of 912 (by decide +kernel) rfl
theorem tw_code_X6_passes : (Jvm.Cond.code ({ cls := "FleetSettingsModel", name := "passes", desc := "()I" } : Jvm.MethodName) prog_8_method_28_code (4 : Nat) (Option.some Jvm.ClassFile.FieldType.int)) ∈ Tw := Tw_of 913 (by decide +kernel) rfl
theorem tw_ml_X6_131 : (Jvm.Cond.methodLink "FleetSettingsModel" (131 : Nat) ({ cls := "FleetSettingsModel", name := "goesBack", desc := "(I)V" } : Jvm.MethodName)) ∈ Tw := Tw_of 914 (by decide +kernel) rfl
theorem tw_im_X6_goesBack : (Jvm.Cond.instanceMethod ({ cls := "FleetSettingsModel", name := "goesBack", desc := "(I)V" } : Jvm.MethodName)) ∈ Tw := Tw_of 916 (by decide +kernel) rfl
theorem tw_code_X6_goesBack : (Jvm.Cond.code ({ cls := "FleetSettingsModel", name := "goesBack", desc := "(I)V" } : Jvm.MethodName) prog_8_method_25_code (7 : Nat) (Option.none : Option Jvm.ClassFile.FieldType)) ∈ Tw := Tw_of 917 (by decide +kernel) rfl
theorem tw_ml_X6_99 : (Jvm.Cond.methodLink "FleetSettingsModel" (99 : Nat) ({ cls := "FleetSettingsModel", name := "slot", desc := "(II)I" } : Jvm.MethodName)) ∈ Tw := Tw_of 918 (by decide +kernel) rfl
theorem tw_im_X6_slot : (Jvm.Cond.instanceMethod ({ cls := "FleetSettingsModel", name := "slot", desc := "(II)I" } : Jvm.MethodName)) ∈ Tw := Tw_of 920 (by decide +kernel) rfl
theorem tw_code_X6_slot : (Jvm.Cond.code ({ cls := "FleetSettingsModel", name := "slot", desc := "(II)I" } : Jvm.MethodName) prog_8_method_12_code (5 : Nat) (Option.some Jvm.ClassFile.FieldType.int)) ∈ Tw := Tw_of 921 (by decide +kernel) rfl
theorem tw_ml_X6_105 : (Jvm.Cond.methodLink "FleetSettingsModel" (105 : Nat) ({ cls := "FleetSettingsModel", name := "topOf", desc := "(III)I" } : Jvm.MethodName)) ∈ Tw := Tw_of 922 (by decide +kernel) rfl
theorem tw_im_X6_topOf : (Jvm.Cond.instanceMethod ({ cls := "FleetSettingsModel", name := "topOf", desc := "(III)I" } : Jvm.MethodName)) ∈ Tw := Tw_of 924 (by decide +kernel) rfl
theorem tw_code_X6_topOf : (Jvm.Cond.code ({ cls := "FleetSettingsModel", name := "topOf", desc := "(III)I" } : Jvm.MethodName) prog_8_method_15_code (4 : Nat) (Option.some Jvm.ClassFile.FieldType.int)) ∈ Tw := Tw_of 925 (by decide +kernel) rfl
theorem tw_ml_X6_91 : (Jvm.Cond.methodLink "FleetSettingsModel" (91 : Nat) ({ cls := "FleetSettingsModel", name := "top", desc := "(II)I" } : Jvm.MethodName)) ∈ Tw := Tw_of 926 (by decide +kernel) rfl
theorem tw_im_X6_top : (Jvm.Cond.instanceMethod ({ cls := "FleetSettingsModel", name := "top", desc := "(II)I" } : Jvm.MethodName)) ∈ Tw := Tw_of 928 (by decide +kernel) rfl
theorem tw_code_X6_top : (Jvm.Cond.code ({ cls := "FleetSettingsModel", name := "top", desc := "(II)I" } : Jvm.MethodName) prog_8_method_14_code (6 : Nat) (Option.some Jvm.ClassFile.FieldType.int)) ∈ Tw := Tw_of 929 (by decide +kernel) rfl
theorem tw_ml_X6_135 : (Jvm.Cond.methodLink "FleetSettingsModel" (135 : Nat) ({ cls := "FleetSettingsModel", name := "works", desc := "(I)Z" } : Jvm.MethodName)) ∈ Tw := Tw_of 930 (by decide +kernel) rfl
theorem tw_im_X6_works : (Jvm.Cond.instanceMethod ({ cls := "FleetSettingsModel", name := "works", desc := "(I)Z" } : Jvm.MethodName)) ∈ Tw := Tw_of 932 (by decide +kernel) rfl
theorem tw_code_X6_works : (Jvm.Cond.code ({ cls := "FleetSettingsModel", name := "works", desc := "(I)Z" } : Jvm.MethodName) prog_8_method_19_code (2 : Nat) (Option.some Jvm.ClassFile.FieldType.boolean)) ∈ Tw := Tw_of 933 (by decide +kernel) rfl
theorem tw_ml_X6_138 : (Jvm.Cond.methodLink "FleetSettingsModel" (138 : Nat) ({ cls := "FleetSettingsModel", name := "takes", desc := "(I)Z" } : Jvm.MethodName)) ∈ Tw := Tw_of 934 (by decide +kernel) rfl
theorem tw_im_X6_takes : (Jvm.Cond.instanceMethod ({ cls := "FleetSettingsModel", name := "takes", desc := "(I)Z" } : Jvm.MethodName)) ∈ Tw := Tw_of 936 (by decide +kernel) rfl
theorem tw_code_X6_takes : (Jvm.Cond.code ({ cls := "FleetSettingsModel", name := "takes", desc := "(I)Z" } : Jvm.MethodName) prog_8_method_27_code (5 : Nat) (Option.some Jvm.ClassFile.FieldType.boolean)) ∈ Tw := Tw_of 937 (by decide +kernel) rfl
theorem tw_ml_X6_95 : (Jvm.Cond.methodLink "FleetSettingsModel" (95 : Nat) ({ cls := "FleetSettingsModel", name := "layers", desc := "(I)I" } : Jvm.MethodName)) ∈ Tw := Tw_of 938 (by decide +kernel) rfl
theorem tw_im_X6_layers : (Jvm.Cond.instanceMethod ({ cls := "FleetSettingsModel", name := "layers", desc := "(I)I" } : Jvm.MethodName)) ∈ Tw := Tw_of 940 (by decide +kernel) rfl
theorem tw_code_X6_layers : (Jvm.Cond.code ({ cls := "FleetSettingsModel", name := "layers", desc := "(I)I" } : Jvm.MethodName) prog_8_method_11_code (4 : Nat) (Option.some Jvm.ClassFile.FieldType.int)) ∈ Tw := Tw_of 941 (by decide +kernel) rfl
theorem tw_ml_X6_127 : (Jvm.Cond.methodLink "FleetSettingsModel" (127 : Nat) ({ cls := "FleetSettingsModel", name := "lags", desc := "(II)Z" } : Jvm.MethodName)) ∈ Tw := Tw_of 942 (by decide +kernel) rfl
theorem tw_im_X6_lags : (Jvm.Cond.instanceMethod ({ cls := "FleetSettingsModel", name := "lags", desc := "(II)Z" } : Jvm.MethodName)) ∈ Tw := Tw_of 944 (by decide +kernel) rfl
theorem tw_code_X6_lags : (Jvm.Cond.code ({ cls := "FleetSettingsModel", name := "lags", desc := "(II)Z" } : Jvm.MethodName) prog_8_method_26_code (6 : Nat) (Option.some Jvm.ClassFile.FieldType.boolean)) ∈ Tw := Tw_of 945 (by decide +kernel) rfl
theorem tw_ml_L_133 : (Jvm.Cond.methodLink "FleetSettingsLaw" (133 : Nat) ({ cls := "FleetSettingsModel", name := "day", desc := "()I" } : Jvm.MethodName)) ∈ Tw := Tw_of 946 (by decide +kernel) rfl
theorem tw_im_X6_day : (Jvm.Cond.instanceMethod ({ cls := "FleetSettingsModel", name := "day", desc := "()I" } : Jvm.MethodName)) ∈ Tw := Tw_of 947 (by decide +kernel) rfl
theorem tw_sel_X6_day : (Jvm.Cond.selects "FleetSettingsModel" ({ cls := "FleetSettingsModel", name := "day", desc := "()I" } : Jvm.MethodName) ({ cls := "FleetSettingsModel", name := "day", desc := "()I" } : Jvm.MethodName)) ∈ Tw := Tw_of 948 (by decide +kernel) rfl
theorem tw_code_X6_day : (Jvm.Cond.code ({ cls := "FleetSettingsModel", name := "day", desc := "()I" } : Jvm.MethodName) prog_8_method_30_code (1 : Nat) (Option.some Jvm.ClassFile.FieldType.int)) ∈ Tw := Tw_of 949 (by decide +kernel) rfl
theorem tw_ml_L_136 : (Jvm.Cond.methodLink "FleetSettingsLaw" (136 : Nat) ({ cls := "FleetSettingsModel", name := "addGroup", desc := "(I)I" } : Jvm.MethodName)) ∈ Tw := Tw_of 950 (by decide +kernel) rfl
theorem tw_im_X6_addGroup : (Jvm.Cond.instanceMethod ({ cls := "FleetSettingsModel", name := "addGroup", desc := "(I)I" } : Jvm.MethodName)) ∈ Tw := Tw_of 951 (by decide +kernel) rfl
theorem tw_sel_X6_addGroup : (Jvm.Cond.selects "FleetSettingsModel" ({ cls := "FleetSettingsModel", name := "addGroup", desc := "(I)I" } : Jvm.MethodName) ({ cls := "FleetSettingsModel", name := "addGroup", desc := "(I)I" } : Jvm.MethodName)) ∈ Tw := Tw_of 952 (by decide +kernel) rfl
theorem tw_code_X6_addGroup : (Jvm.Cond.code ({ cls := "FleetSettingsModel", name := "addGroup", desc := "(I)I" } : Jvm.MethodName) prog_8_method_31_code (2 : Nat) (Option.some Jvm.ClassFile.FieldType.int)) ∈ Tw := Tw_of 953 (by decide +kernel) rfl
theorem tw_ml_X6_87 : (Jvm.Cond.methodLink "FleetSettingsModel" (87 : Nat) ({ cls := "FleetSettingsModel", name := "isGroup", desc := "(I)Z" } : Jvm.MethodName)) ∈ Tw := Tw_of 954 (by decide +kernel) rfl
theorem tw_im_X6_isGroup : (Jvm.Cond.instanceMethod ({ cls := "FleetSettingsModel", name := "isGroup", desc := "(I)Z" } : Jvm.MethodName)) ∈ Tw := Tw_of 956 (by decide +kernel) rfl
theorem tw_code_X6_isGroup : (Jvm.Cond.code ({ cls := "FleetSettingsModel", name := "isGroup", desc := "(I)Z" } : Jvm.MethodName) prog_8_method_7_code (2 : Nat) (Option.some Jvm.ClassFile.FieldType.boolean)) ∈ Tw := Tw_of 957 (by decide +kernel) rfl
theorem tw_ml_L_139 : (Jvm.Cond.methodLink "FleetSettingsLaw" (139 : Nat) ({ cls := "FleetSettingsModel", name := "addMachine", desc := "(I)I" } : Jvm.MethodName)) ∈ Tw := Tw_of 958 (by decide +kernel) rfl
theorem tw_im_X6_addMachine : (Jvm.Cond.instanceMethod ({ cls := "FleetSettingsModel", name := "addMachine", desc := "(I)I" } : Jvm.MethodName)) ∈ Tw := Tw_of 959 (by decide +kernel) rfl
theorem tw_sel_X6_addMachine : (Jvm.Cond.selects "FleetSettingsModel" ({ cls := "FleetSettingsModel", name := "addMachine", desc := "(I)I" } : Jvm.MethodName) ({ cls := "FleetSettingsModel", name := "addMachine", desc := "(I)I" } : Jvm.MethodName)) ∈ Tw := Tw_of 960 (by decide +kernel) rfl
theorem tw_code_X6_addMachine : (Jvm.Cond.code ({ cls := "FleetSettingsModel", name := "addMachine", desc := "(I)I" } : Jvm.MethodName) prog_8_method_32_code (2 : Nat) (Option.some Jvm.ClassFile.FieldType.int)) ∈ Tw := Tw_of 961 (by decide +kernel) rfl
theorem tw_ml_L_142 : (Jvm.Cond.methodLink "FleetSettingsLaw" (142 : Nat) ({ cls := "FleetSettingsModel", name := "moveMachine", desc := "(II)I" } : Jvm.MethodName)) ∈ Tw := Tw_of 962 (by decide +kernel) rfl
theorem tw_im_X6_moveMachine : (Jvm.Cond.instanceMethod ({ cls := "FleetSettingsModel", name := "moveMachine", desc := "(II)I" } : Jvm.MethodName)) ∈ Tw := Tw_of 963 (by decide +kernel) rfl
theorem tw_sel_X6_moveMachine : (Jvm.Cond.selects "FleetSettingsModel" ({ cls := "FleetSettingsModel", name := "moveMachine", desc := "(II)I" } : Jvm.MethodName) ({ cls := "FleetSettingsModel", name := "moveMachine", desc := "(II)I" } : Jvm.MethodName)) ∈ Tw := Tw_of 964 (by decide +kernel) rfl
theorem tw_code_X6_moveMachine : (Jvm.Cond.code ({ cls := "FleetSettingsModel", name := "moveMachine", desc := "(II)I" } : Jvm.MethodName) prog_8_method_34_code (6 : Nat) (Option.some Jvm.ClassFile.FieldType.int)) ∈ Tw := Tw_of 965 (by decide +kernel) rfl
theorem tw_ml_X6_145 : (Jvm.Cond.methodLink "FleetSettingsModel" (145 : Nat) ({ cls := "FleetSettingsModel", name := "isMachine", desc := "(I)Z" } : Jvm.MethodName)) ∈ Tw := Tw_of 966 (by decide +kernel) rfl
theorem tw_im_X6_isMachine : (Jvm.Cond.instanceMethod ({ cls := "FleetSettingsModel", name := "isMachine", desc := "(I)Z" } : Jvm.MethodName)) ∈ Tw := Tw_of 968 (by decide +kernel) rfl
theorem tw_code_X6_isMachine : (Jvm.Cond.code ({ cls := "FleetSettingsModel", name := "isMachine", desc := "(I)Z" } : Jvm.MethodName) prog_8_method_8_code (2 : Nat) (Option.some Jvm.ClassFile.FieldType.boolean)) ∈ Tw := Tw_of 969 (by decide +kernel) rfl
theorem tw_ml_X6_148 : (Jvm.Cond.methodLink "FleetSettingsModel" (148 : Nat) ({ cls := "FleetSettingsModel", name := "isOver", desc := "(II)Z" } : Jvm.MethodName)) ∈ Tw := Tw_of 970 (by decide +kernel) rfl
theorem tw_im_X6_isOver : (Jvm.Cond.instanceMethod ({ cls := "FleetSettingsModel", name := "isOver", desc := "(II)Z" } : Jvm.MethodName)) ∈ Tw := Tw_of 972 (by decide +kernel) rfl
theorem tw_code_X6_isOver : (Jvm.Cond.code ({ cls := "FleetSettingsModel", name := "isOver", desc := "(II)Z" } : Jvm.MethodName) prog_8_method_33_code (4 : Nat) (Option.some Jvm.ClassFile.FieldType.boolean)) ∈ Tw := Tw_of 973 (by decide +kernel) rfl
theorem tw_ml_L_145 : (Jvm.Cond.methodLink "FleetSettingsLaw" (145 : Nat) ({ cls := "FleetSettingsModel", name := "work", desc := "(II)I" } : Jvm.MethodName)) ∈ Tw := Tw_of 974 (by decide +kernel) rfl
theorem tw_im_X6_work : (Jvm.Cond.instanceMethod ({ cls := "FleetSettingsModel", name := "work", desc := "(II)I" } : Jvm.MethodName)) ∈ Tw := Tw_of 975 (by decide +kernel) rfl
theorem tw_sel_X6_work : (Jvm.Cond.selects "FleetSettingsModel" ({ cls := "FleetSettingsModel", name := "work", desc := "(II)I" } : Jvm.MethodName) ({ cls := "FleetSettingsModel", name := "work", desc := "(II)I" } : Jvm.MethodName)) ∈ Tw := Tw_of 976 (by decide +kernel) rfl
theorem tw_code_X6_work : (Jvm.Cond.code ({ cls := "FleetSettingsModel", name := "work", desc := "(II)I" } : Jvm.MethodName) prog_8_method_35_code (3 : Nat) (Option.some Jvm.ClassFile.FieldType.int)) ∈ Tw := Tw_of 977 (by decide +kernel) rfl
theorem tw_ml_L_148 : (Jvm.Cond.methodLink "FleetSettingsLaw" (148 : Nat) ({ cls := "FleetSettingsModel", name := "setPace", desc := "(I)I" } : Jvm.MethodName)) ∈ Tw := Tw_of 978 (by decide +kernel) rfl
theorem tw_im_X6_setPace : (Jvm.Cond.instanceMethod ({ cls := "FleetSettingsModel", name := "setPace", desc := "(I)I" } : Jvm.MethodName)) ∈ Tw := Tw_of 979 (by decide +kernel) rfl
theorem tw_sel_X6_setPace : (Jvm.Cond.selects "FleetSettingsModel" ({ cls := "FleetSettingsModel", name := "setPace", desc := "(I)I" } : Jvm.MethodName) ({ cls := "FleetSettingsModel", name := "setPace", desc := "(I)I" } : Jvm.MethodName)) ∈ Tw := Tw_of 980 (by decide +kernel) rfl
theorem tw_code_X6_setPace : (Jvm.Cond.code ({ cls := "FleetSettingsModel", name := "setPace", desc := "(I)I" } : Jvm.MethodName) prog_8_method_36_code (3 : Nat) (Option.some Jvm.ClassFile.FieldType.int)) ∈ Tw := Tw_of 981 (by decide +kernel) rfl
theorem tw_ml_L_151 : (Jvm.Cond.methodLink "FleetSettingsLaw" (151 : Nat) ({ cls := "FleetSettingsModel", name := "isBusy", desc := "(I)Z" } : Jvm.MethodName)) ∈ Tw := Tw_of 982 (by decide +kernel) rfl
theorem tw_im_X6_isBusy : (Jvm.Cond.instanceMethod ({ cls := "FleetSettingsModel", name := "isBusy", desc := "(I)Z" } : Jvm.MethodName)) ∈ Tw := Tw_of 983 (by decide +kernel) rfl
theorem tw_sel_X6_isBusy : (Jvm.Cond.selects "FleetSettingsModel" ({ cls := "FleetSettingsModel", name := "isBusy", desc := "(I)Z" } : Jvm.MethodName) ({ cls := "FleetSettingsModel", name := "isBusy", desc := "(I)Z" } : Jvm.MethodName)) ∈ Tw := Tw_of 984 (by decide +kernel) rfl
theorem tw_code_X6_isBusy : (Jvm.Cond.code ({ cls := "FleetSettingsModel", name := "isBusy", desc := "(I)Z" } : Jvm.MethodName) prog_8_method_37_code (2 : Nat) (Option.some Jvm.ClassFile.FieldType.boolean)) ∈ Tw := Tw_of 985 (by decide +kernel) rfl
theorem tw_ml_L_154 : (Jvm.Cond.methodLink "FleetSettingsLaw" (154 : Nat) ({ cls := "FleetSettingsModel", name := "isStopped", desc := "(I)Z" } : Jvm.MethodName)) ∈ Tw := Tw_of 986 (by decide +kernel) rfl
theorem tw_im_X6_isStopped : (Jvm.Cond.instanceMethod ({ cls := "FleetSettingsModel", name := "isStopped", desc := "(I)Z" } : Jvm.MethodName)) ∈ Tw := Tw_of 987 (by decide +kernel) rfl
theorem tw_sel_X6_isStopped : (Jvm.Cond.selects "FleetSettingsModel" ({ cls := "FleetSettingsModel", name := "isStopped", desc := "(I)Z" } : Jvm.MethodName) ({ cls := "FleetSettingsModel", name := "isStopped", desc := "(I)Z" } : Jvm.MethodName)) ∈ Tw := Tw_of 988 (by decide +kernel) rfl
theorem tw_code_X6_isStopped : (Jvm.Cond.code ({ cls := "FleetSettingsModel", name := "isStopped", desc := "(I)Z" } : Jvm.MethodName) prog_8_method_38_code (2 : Nat) (Option.some Jvm.ClassFile.FieldType.boolean)) ∈ Tw := Tw_of 989 (by decide +kernel) rfl
theorem tw_ml_L_158 : (Jvm.Cond.methodLink "FleetSettingsLaw" (158 : Nat) ({ cls := "FleetSettingsModel", name := "propose", desc := "(IIII)I" } : Jvm.MethodName)) ∈ Tw := Tw_of 990 (by decide +kernel) rfl
theorem tw_im_X6_propose : (Jvm.Cond.instanceMethod ({ cls := "FleetSettingsModel", name := "propose", desc := "(IIII)I" } : Jvm.MethodName)) ∈ Tw := Tw_of 991 (by decide +kernel) rfl
theorem tw_sel_X6_propose : (Jvm.Cond.selects "FleetSettingsModel" ({ cls := "FleetSettingsModel", name := "propose", desc := "(IIII)I" } : Jvm.MethodName) ({ cls := "FleetSettingsModel", name := "propose", desc := "(IIII)I" } : Jvm.MethodName)) ∈ Tw := Tw_of 992 (by decide +kernel) rfl
theorem tw_code_X6_propose : (Jvm.Cond.code ({ cls := "FleetSettingsModel", name := "propose", desc := "(IIII)I" } : Jvm.MethodName) prog_8_method_39_code (5 : Nat) (Option.some Jvm.ClassFile.FieldType.int)) ∈ Tw := Tw_of 993 (by decide +kernel) rfl
theorem tw_ml_X6_151 : (Jvm.Cond.methodLink "FleetSettingsModel" (151 : Nat) ({ cls := "FleetSettingsModel", name := "isPlace", desc := "(I)Z" } : Jvm.MethodName)) ∈ Tw := Tw_of 994 (by decide +kernel) rfl
theorem tw_im_X6_isPlace : (Jvm.Cond.instanceMethod ({ cls := "FleetSettingsModel", name := "isPlace", desc := "(I)Z" } : Jvm.MethodName)) ∈ Tw := Tw_of 996 (by decide +kernel) rfl
theorem tw_code_X6_isPlace : (Jvm.Cond.code ({ cls := "FleetSettingsModel", name := "isPlace", desc := "(I)Z" } : Jvm.MethodName) prog_8_method_10_code (2 : Nat) (Option.some Jvm.ClassFile.FieldType.boolean)) ∈ Tw := Tw_of 997 (by decide +kernel) rfl
theorem tw_ml_X6_154 : (Jvm.Cond.methodLink "FleetSettingsModel" (154 : Nat) ({ cls := "FleetSettingsModel", name := "isKey", desc := "(I)Z" } : Jvm.MethodName)) ∈ Tw := Tw_of 998 (by decide +kernel) rfl
theorem tw_st_X6_isKey : (Jvm.Cond.static ({ cls := "FleetSettingsModel", name := "isKey", desc := "(I)Z" } : Jvm.MethodName)) ∈ Tw := Tw_of 999 (by decide +kernel) rfl
theorem tw_code_X6_isKey : (Jvm.Cond.code ({ cls := "FleetSettingsModel", name := "isKey", desc := "(I)Z" } : Jvm.MethodName) prog_8_method_6_code (1 : Nat) (Option.some Jvm.ClassFile.FieldType.boolean)) ∈ Tw := Tw_of 1000 (by decide +kernel) rfl
theorem tw_ml_L_161 : (Jvm.Cond.methodLink "FleetSettingsLaw" (161 : Nat) ({ cls := "FleetSettingsModel", name := "approve", desc := "(II)I" } : Jvm.MethodName)) ∈ Tw := Tw_of 1001 (by decide +kernel) rfl
theorem tw_im_X6_approve : (Jvm.Cond.instanceMethod ({ cls := "FleetSettingsModel", name := "approve", desc := "(II)I" } : Jvm.MethodName)) ∈ Tw := Tw_of 1002 (by decide +kernel) rfl
theorem tw_sel_X6_approve : (Jvm.Cond.selects "FleetSettingsModel" ({ cls := "FleetSettingsModel", name := "approve", desc := "(II)I" } : Jvm.MethodName) ({ cls := "FleetSettingsModel", name := "approve", desc := "(II)I" } : Jvm.MethodName)) ∈ Tw := Tw_of 1003 (by decide +kernel) rfl
theorem tw_code_X6_approve : (Jvm.Cond.code ({ cls := "FleetSettingsModel", name := "approve", desc := "(II)I" } : Jvm.MethodName) prog_8_method_40_code (5 : Nat) (Option.some Jvm.ClassFile.FieldType.int)) ∈ Tw := Tw_of 1004 (by decide +kernel) rfl
theorem tw_ml_X6_157 : (Jvm.Cond.methodLink "FleetSettingsModel" (157 : Nat) ({ cls := "FleetSettingsModel", name := "isChange", desc := "(I)Z" } : Jvm.MethodName)) ∈ Tw := Tw_of 1005 (by decide +kernel) rfl
theorem tw_im_X6_isChange : (Jvm.Cond.instanceMethod ({ cls := "FleetSettingsModel", name := "isChange", desc := "(I)Z" } : Jvm.MethodName)) ∈ Tw := Tw_of 1007 (by decide +kernel) rfl
theorem tw_code_X6_isChange : (Jvm.Cond.code ({ cls := "FleetSettingsModel", name := "isChange", desc := "(I)Z" } : Jvm.MethodName) prog_8_method_9_code (2 : Nat) (Option.some Jvm.ClassFile.FieldType.boolean)) ∈ Tw := Tw_of 1008 (by decide +kernel) rfl
theorem tw_ml_L_164 : (Jvm.Cond.methodLink "FleetSettingsLaw" (164 : Nat) ({ cls := "FleetSettingsModel", name := "withdraw", desc := "(I)V" } : Jvm.MethodName)) ∈ Tw := Tw_of 1009 (by decide +kernel) rfl
theorem tw_im_X6_withdraw : (Jvm.Cond.instanceMethod ({ cls := "FleetSettingsModel", name := "withdraw", desc := "(I)V" } : Jvm.MethodName)) ∈ Tw := Tw_of 1010 (by decide +kernel) rfl
theorem tw_sel_X6_withdraw : (Jvm.Cond.selects "FleetSettingsModel" ({ cls := "FleetSettingsModel", name := "withdraw", desc := "(I)V" } : Jvm.MethodName) ({ cls := "FleetSettingsModel", name := "withdraw", desc := "(I)V" } : Jvm.MethodName)) ∈ Tw := Tw_of 1011 (by decide +kernel) rfl
theorem tw_code_X6_withdraw : (Jvm.Cond.code ({ cls := "FleetSettingsModel", name := "withdraw", desc := "(I)V" } : Jvm.MethodName) prog_8_method_41_code (2 : Nat) (Option.none : Option Jvm.ClassFile.FieldType)) ∈ Tw := Tw_of 1012 (by decide +kernel) rfl
theorem tw_ml_L_168 : (Jvm.Cond.methodLink "FleetSettingsLaw" (168 : Nat) ({ cls := "FleetSettingsModel", name := "exclude", desc := "(IIZ)Z" } : Jvm.MethodName)) ∈ Tw := Tw_of 1013 (by decide +kernel) rfl
theorem tw_im_X6_exclude : (Jvm.Cond.instanceMethod ({ cls := "FleetSettingsModel", name := "exclude", desc := "(IIZ)Z" } : Jvm.MethodName)) ∈ Tw := Tw_of 1014 (by decide +kernel) rfl
theorem tw_sel_X6_exclude : (Jvm.Cond.selects "FleetSettingsModel" ({ cls := "FleetSettingsModel", name := "exclude", desc := "(IIZ)Z" } : Jvm.MethodName) ({ cls := "FleetSettingsModel", name := "exclude", desc := "(IIZ)Z" } : Jvm.MethodName)) ∈ Tw := Tw_of 1015 (by decide +kernel) rfl
theorem tw_code_X6_exclude : (Jvm.Cond.code ({ cls := "FleetSettingsModel", name := "exclude", desc := "(IIZ)Z" } : Jvm.MethodName) prog_8_method_42_code (5 : Nat) (Option.some Jvm.ClassFile.FieldType.boolean)) ∈ Tw := Tw_of 1016 (by decide +kernel) rfl
theorem tw_ml_L_172 : (Jvm.Cond.methodLink "FleetSettingsLaw" (172 : Nat) ({ cls := "FleetSettingsModel", name := "changes", desc := "()I" } : Jvm.MethodName)) ∈ Tw := Tw_of 1017 (by decide +kernel) rfl
theorem tw_im_X6_changes : (Jvm.Cond.instanceMethod ({ cls := "FleetSettingsModel", name := "changes", desc := "()I" } : Jvm.MethodName)) ∈ Tw := Tw_of 1018 (by decide +kernel) rfl
theorem tw_sel_X6_changes : (Jvm.Cond.selects "FleetSettingsModel" ({ cls := "FleetSettingsModel", name := "changes", desc := "()I" } : Jvm.MethodName) ({ cls := "FleetSettingsModel", name := "changes", desc := "()I" } : Jvm.MethodName)) ∈ Tw := Tw_of 1019 (by decide +kernel) rfl
theorem tw_code_X6_changes : (Jvm.Cond.code ({ cls := "FleetSettingsModel", name := "changes", desc := "()I" } : Jvm.MethodName) prog_8_method_43_code (1 : Nat) (Option.some Jvm.ClassFile.FieldType.int)) ∈ Tw := Tw_of 1020 (by decide +kernel) rfl
theorem tw_ml_L_175 : (Jvm.Cond.methodLink "FleetSettingsLaw" (175 : Nat) ({ cls := "FleetSettingsModel", name := "state", desc := "(I)I" } : Jvm.MethodName)) ∈ Tw := Tw_of 1021 (by decide +kernel) rfl
theorem tw_im_X6_state : (Jvm.Cond.instanceMethod ({ cls := "FleetSettingsModel", name := "state", desc := "(I)I" } : Jvm.MethodName)) ∈ Tw := Tw_of 1022 (by decide +kernel) rfl
theorem tw_sel_X6_state : (Jvm.Cond.selects "FleetSettingsModel" ({ cls := "FleetSettingsModel", name := "state", desc := "(I)I" } : Jvm.MethodName) ({ cls := "FleetSettingsModel", name := "state", desc := "(I)I" } : Jvm.MethodName)) ∈ Tw := Tw_of 1023 (by decide +kernel) rfl
theorem tw_code_X6_state : (Jvm.Cond.code ({ cls := "FleetSettingsModel", name := "state", desc := "(I)I" } : Jvm.MethodName) prog_8_method_44_code (2 : Nat) (Option.some Jvm.ClassFile.FieldType.int)) ∈ Tw := Tw_of 1024 (by decide +kernel) rfl
theorem tw_ml_L_178 : (Jvm.Cond.methodLink "FleetSettingsLaw" (178 : Nat) ({ cls := "FleetSettingsModel", name := "rank", desc := "(I)I" } : Jvm.MethodName)) ∈ Tw := Tw_of 1025 (by decide +kernel) rfl
theorem tw_im_X6_rank : (Jvm.Cond.instanceMethod ({ cls := "FleetSettingsModel", name := "rank", desc := "(I)I" } : Jvm.MethodName)) ∈ Tw := Tw_of 1026 (by decide +kernel) rfl
theorem tw_sel_X6_rank : (Jvm.Cond.selects "FleetSettingsModel" ({ cls := "FleetSettingsModel", name := "rank", desc := "(I)I" } : Jvm.MethodName) ({ cls := "FleetSettingsModel", name := "rank", desc := "(I)I" } : Jvm.MethodName)) ∈ Tw := Tw_of 1027 (by decide +kernel) rfl
theorem tw_code_X6_rank : (Jvm.Cond.code ({ cls := "FleetSettingsModel", name := "rank", desc := "(I)I" } : Jvm.MethodName) prog_8_method_45_code (2 : Nat) (Option.some Jvm.ClassFile.FieldType.int)) ∈ Tw := Tw_of 1028 (by decide +kernel) rfl
theorem tw_ml_L_181 : (Jvm.Cond.methodLink "FleetSettingsLaw" (181 : Nat) ({ cls := "FleetSettingsModel", name := "approvals", desc := "(I)I" } : Jvm.MethodName)) ∈ Tw := Tw_of 1029 (by decide +kernel) rfl
theorem tw_im_X6_approvals : (Jvm.Cond.instanceMethod ({ cls := "FleetSettingsModel", name := "approvals", desc := "(I)I" } : Jvm.MethodName)) ∈ Tw := Tw_of 1030 (by decide +kernel) rfl
theorem tw_sel_X6_approvals : (Jvm.Cond.selects "FleetSettingsModel" ({ cls := "FleetSettingsModel", name := "approvals", desc := "(I)I" } : Jvm.MethodName) ({ cls := "FleetSettingsModel", name := "approvals", desc := "(I)I" } : Jvm.MethodName)) ∈ Tw := Tw_of 1031 (by decide +kernel) rfl
theorem tw_code_X6_approvals : (Jvm.Cond.code ({ cls := "FleetSettingsModel", name := "approvals", desc := "(I)I" } : Jvm.MethodName) prog_8_method_46_code (2 : Nat) (Option.some Jvm.ClassFile.FieldType.int)) ∈ Tw := Tw_of 1032 (by decide +kernel) rfl
theorem tw_ml_L_184 : (Jvm.Cond.methodLink "FleetSettingsLaw" (184 : Nat) ({ cls := "FleetSettingsModel", name := "told", desc := "(II)I" } : Jvm.MethodName)) ∈ Tw := Tw_of 1033 (by decide +kernel) rfl
theorem tw_im_X6_told : (Jvm.Cond.instanceMethod ({ cls := "FleetSettingsModel", name := "told", desc := "(II)I" } : Jvm.MethodName)) ∈ Tw := Tw_of 1034 (by decide +kernel) rfl
theorem tw_sel_X6_told : (Jvm.Cond.selects "FleetSettingsModel" ({ cls := "FleetSettingsModel", name := "told", desc := "(II)I" } : Jvm.MethodName) ({ cls := "FleetSettingsModel", name := "told", desc := "(II)I" } : Jvm.MethodName)) ∈ Tw := Tw_of 1035 (by decide +kernel) rfl
theorem tw_code_X6_told : (Jvm.Cond.code ({ cls := "FleetSettingsModel", name := "told", desc := "(II)I" } : Jvm.MethodName) prog_8_method_47_code (4 : Nat) (Option.some Jvm.ClassFile.FieldType.int)) ∈ Tw := Tw_of 1036 (by decide +kernel) rfl
theorem tw_ml_L_188 : (Jvm.Cond.methodLink "FleetSettingsLaw" (188 : Nat) ({ cls := "FleetSettingsModel", name := "taken", desc := "(III)I" } : Jvm.MethodName)) ∈ Tw := Tw_of 1037 (by decide +kernel) rfl
theorem tw_im_X6_taken : (Jvm.Cond.instanceMethod ({ cls := "FleetSettingsModel", name := "taken", desc := "(III)I" } : Jvm.MethodName)) ∈ Tw := Tw_of 1038 (by decide +kernel) rfl
theorem tw_sel_X6_taken : (Jvm.Cond.selects "FleetSettingsModel" ({ cls := "FleetSettingsModel", name := "taken", desc := "(III)I" } : Jvm.MethodName) ({ cls := "FleetSettingsModel", name := "taken", desc := "(III)I" } : Jvm.MethodName)) ∈ Tw := Tw_of 1039 (by decide +kernel) rfl
theorem tw_code_X6_taken : (Jvm.Cond.code ({ cls := "FleetSettingsModel", name := "taken", desc := "(III)I" } : Jvm.MethodName) prog_8_method_48_code (4 : Nat) (Option.some Jvm.ClassFile.FieldType.int)) ∈ Tw := Tw_of 1040 (by decide +kernel) rfl
theorem tw_ml_L_191 : (Jvm.Cond.methodLink "FleetSettingsLaw" (191 : Nat) ({ cls := "FleetSettingsModel", name := "runs", desc := "(II)I" } : Jvm.MethodName)) ∈ Tw := Tw_of 1041 (by decide +kernel) rfl
theorem tw_im_X6_runs : (Jvm.Cond.instanceMethod ({ cls := "FleetSettingsModel", name := "runs", desc := "(II)I" } : Jvm.MethodName)) ∈ Tw := Tw_of 1042 (by decide +kernel) rfl
theorem tw_sel_X6_runs : (Jvm.Cond.selects "FleetSettingsModel" ({ cls := "FleetSettingsModel", name := "runs", desc := "(II)I" } : Jvm.MethodName) ({ cls := "FleetSettingsModel", name := "runs", desc := "(II)I" } : Jvm.MethodName)) ∈ Tw := Tw_of 1043 (by decide +kernel) rfl
theorem tw_code_X6_runs : (Jvm.Cond.code ({ cls := "FleetSettingsModel", name := "runs", desc := "(II)I" } : Jvm.MethodName) prog_8_method_50_code (3 : Nat) (Option.some Jvm.ClassFile.FieldType.int)) ∈ Tw := Tw_of 1044 (by decide +kernel) rfl
theorem tw_ml_X6_167 : (Jvm.Cond.methodLink "FleetSettingsModel" (167 : Nat) ({ cls := "FleetSettingsModel", name := "isAsked", desc := "(IIZ)Z" } : Jvm.MethodName)) ∈ Tw := Tw_of 1045 (by decide +kernel) rfl
theorem tw_im_X6_isAsked : (Jvm.Cond.instanceMethod ({ cls := "FleetSettingsModel", name := "isAsked", desc := "(IIZ)Z" } : Jvm.MethodName)) ∈ Tw := Tw_of 1047 (by decide +kernel) rfl
theorem tw_code_X6_isAsked : (Jvm.Cond.code ({ cls := "FleetSettingsModel", name := "isAsked", desc := "(IIZ)Z" } : Jvm.MethodName) prog_8_method_49_code (4 : Nat) (Option.some Jvm.ClassFile.FieldType.boolean)) ∈ Tw := Tw_of 1048 (by decide +kernel) rfl
theorem tw_ml_X6_163 : (Jvm.Cond.methodLink "FleetSettingsModel" (163 : Nat) ({ cls := "FleetSettingsModel", name := "looks", desc := "(IZ)V" } : Jvm.MethodName)) ∈ Tw := Tw_of 1049 (by decide +kernel) rfl
theorem tw_im_X6_looks : (Jvm.Cond.instanceMethod ({ cls := "FleetSettingsModel", name := "looks", desc := "(IZ)V" } : Jvm.MethodName)) ∈ Tw := Tw_of 1051 (by decide +kernel) rfl
theorem tw_code_X6_looks : (Jvm.Cond.code ({ cls := "FleetSettingsModel", name := "looks", desc := "(IZ)V" } : Jvm.MethodName) prog_8_method_16_code (9 : Nat) (Option.none : Option Jvm.ClassFile.FieldType)) ∈ Tw := Tw_of 1052 (by decide +kernel) rfl
theorem tw_ml_X6_171 : (Jvm.Cond.methodLink "FleetSettingsModel" (171 : Nat) ({ cls := "FleetSettingsModel", name := "isHidden", desc := "(I)Z" } : Jvm.MethodName)) ∈ Tw := Tw_of 1053 (by decide +kernel) rfl
theorem tw_im_X6_isHidden : (Jvm.Cond.instanceMethod ({ cls := "FleetSettingsModel", name := "isHidden", desc := "(I)Z" } : Jvm.MethodName)) ∈ Tw := Tw_of 1055 (by decide +kernel) rfl
theorem tw_code_X6_isHidden : (Jvm.Cond.code ({ cls := "FleetSettingsModel", name := "isHidden", desc := "(I)Z" } : Jvm.MethodName) prog_8_method_17_code (5 : Nat) (Option.some Jvm.ClassFile.FieldType.boolean)) ∈ Tw := Tw_of 1056 (by decide +kernel) rfl
theorem tw_ml_L_194 : (Jvm.Cond.methodLink "FleetSettingsLaw" (194 : Nat) ({ cls := "FleetSettingsModel", name := "layerOf", desc := "(II)I" } : Jvm.MethodName)) ∈ Tw := Tw_of 1057 (by decide +kernel) rfl
theorem tw_im_X6_layerOf : (Jvm.Cond.instanceMethod ({ cls := "FleetSettingsModel", name := "layerOf", desc := "(II)I" } : Jvm.MethodName)) ∈ Tw := Tw_of 1058 (by decide +kernel) rfl
theorem tw_sel_X6_layerOf : (Jvm.Cond.selects "FleetSettingsModel" ({ cls := "FleetSettingsModel", name := "layerOf", desc := "(II)I" } : Jvm.MethodName) ({ cls := "FleetSettingsModel", name := "layerOf", desc := "(II)I" } : Jvm.MethodName)) ∈ Tw := Tw_of 1059 (by decide +kernel) rfl
theorem tw_code_X6_layerOf : (Jvm.Cond.code ({ cls := "FleetSettingsModel", name := "layerOf", desc := "(II)I" } : Jvm.MethodName) prog_8_method_51_code (3 : Nat) (Option.some Jvm.ClassFile.FieldType.int)) ∈ Tw := Tw_of 1060 (by decide +kernel) rfl
theorem tw_ml_L_197 : (Jvm.Cond.methodLink "FleetSettingsLaw" (197 : Nat) ({ cls := "FleetSettingsModel", name := "due", desc := "(II)I" } : Jvm.MethodName)) ∈ Tw := Tw_of 1061 (by decide +kernel) rfl
theorem tw_im_X6_due : (Jvm.Cond.instanceMethod ({ cls := "FleetSettingsModel", name := "due", desc := "(II)I" } : Jvm.MethodName)) ∈ Tw := Tw_of 1062 (by decide +kernel) rfl
theorem tw_sel_X6_due : (Jvm.Cond.selects "FleetSettingsModel" ({ cls := "FleetSettingsModel", name := "due", desc := "(II)I" } : Jvm.MethodName) ({ cls := "FleetSettingsModel", name := "due", desc := "(II)I" } : Jvm.MethodName)) ∈ Tw := Tw_of 1063 (by decide +kernel) rfl
theorem tw_code_X6_due : (Jvm.Cond.code ({ cls := "FleetSettingsModel", name := "due", desc := "(II)I" } : Jvm.MethodName) prog_8_method_53_code (3 : Nat) (Option.some Jvm.ClassFile.FieldType.int)) ∈ Tw := Tw_of 1064 (by decide +kernel) rfl
theorem tw_ml_X6_174 : (Jvm.Cond.methodLink "FleetSettingsModel" (174 : Nat) ({ cls := "FleetSettingsModel", name := "isDue", desc := "(II)I" } : Jvm.MethodName)) ∈ Tw := Tw_of 1065 (by decide +kernel) rfl
theorem tw_im_X6_isDue : (Jvm.Cond.instanceMethod ({ cls := "FleetSettingsModel", name := "isDue", desc := "(II)I" } : Jvm.MethodName)) ∈ Tw := Tw_of 1067 (by decide +kernel) rfl
theorem tw_code_X6_isDue : (Jvm.Cond.code ({ cls := "FleetSettingsModel", name := "isDue", desc := "(II)I" } : Jvm.MethodName) prog_8_method_52_code (3 : Nat) (Option.some Jvm.ClassFile.FieldType.int)) ∈ Tw := Tw_of 1068 (by decide +kernel) rfl
theorem tw_ml_L_200 : (Jvm.Cond.methodLink "FleetSettingsLaw" (200 : Nat) ({ cls := "FleetSettingsModel", name := "dueAnew", desc := "(II)I" } : Jvm.MethodName)) ∈ Tw := Tw_of 1069 (by decide +kernel) rfl
theorem tw_im_X6_dueAnew : (Jvm.Cond.instanceMethod ({ cls := "FleetSettingsModel", name := "dueAnew", desc := "(II)I" } : Jvm.MethodName)) ∈ Tw := Tw_of 1070 (by decide +kernel) rfl
theorem tw_sel_X6_dueAnew : (Jvm.Cond.selects "FleetSettingsModel" ({ cls := "FleetSettingsModel", name := "dueAnew", desc := "(II)I" } : Jvm.MethodName) ({ cls := "FleetSettingsModel", name := "dueAnew", desc := "(II)I" } : Jvm.MethodName)) ∈ Tw := Tw_of 1071 (by decide +kernel) rfl
theorem tw_code_X6_dueAnew : (Jvm.Cond.code ({ cls := "FleetSettingsModel", name := "dueAnew", desc := "(II)I" } : Jvm.MethodName) prog_8_method_54_code (3 : Nat) (Option.some Jvm.ClassFile.FieldType.int)) ∈ Tw := Tw_of 1072 (by decide +kernel) rfl
theorem tw_ml_L_203 : (Jvm.Cond.methodLink "FleetSettingsLaw" (203 : Nat) ({ cls := "FleetSettingsModel", name := "behind", desc := "(I)I" } : Jvm.MethodName)) ∈ Tw := Tw_of 1073 (by decide +kernel) rfl
theorem tw_im_X6_behind : (Jvm.Cond.instanceMethod ({ cls := "FleetSettingsModel", name := "behind", desc := "(I)I" } : Jvm.MethodName)) ∈ Tw := Tw_of 1074 (by decide +kernel) rfl
theorem tw_sel_X6_behind : (Jvm.Cond.selects "FleetSettingsModel" ({ cls := "FleetSettingsModel", name := "behind", desc := "(I)I" } : Jvm.MethodName) ({ cls := "FleetSettingsModel", name := "behind", desc := "(I)I" } : Jvm.MethodName)) ∈ Tw := Tw_of 1075 (by decide +kernel) rfl
theorem tw_code_X6_behind : (Jvm.Cond.code ({ cls := "FleetSettingsModel", name := "behind", desc := "(I)I" } : Jvm.MethodName) prog_8_method_55_code (4 : Nat) (Option.some Jvm.ClassFile.FieldType.int)) ∈ Tw := Tw_of 1076 (by decide +kernel) rfl
theorem tw_ml_L_206 : (Jvm.Cond.methodLink "FleetSettingsLaw" (206 : Nat) ({ cls := "FleetSettingsModel", name := "hidden", desc := "(I)I" } : Jvm.MethodName)) ∈ Tw := Tw_of 1077 (by decide +kernel) rfl
theorem tw_im_X6_hidden : (Jvm.Cond.instanceMethod ({ cls := "FleetSettingsModel", name := "hidden", desc := "(I)I" } : Jvm.MethodName)) ∈ Tw := Tw_of 1078 (by decide +kernel) rfl
theorem tw_sel_X6_hidden : (Jvm.Cond.selects "FleetSettingsModel" ({ cls := "FleetSettingsModel", name := "hidden", desc := "(I)I" } : Jvm.MethodName) ({ cls := "FleetSettingsModel", name := "hidden", desc := "(I)I" } : Jvm.MethodName)) ∈ Tw := Tw_of 1079 (by decide +kernel) rfl
theorem tw_code_X6_hidden : (Jvm.Cond.code ({ cls := "FleetSettingsModel", name := "hidden", desc := "(I)I" } : Jvm.MethodName) prog_8_method_56_code (4 : Nat) (Option.some Jvm.ClassFile.FieldType.int)) ∈ Tw := Tw_of 1080 (by decide +kernel) rfl
theorem tw_ml_L_209 : (Jvm.Cond.methodLink "FleetSettingsLaw" (209 : Nat) ({ cls := "FleetSettingsModel", name := "spread", desc := "(I)I" } : Jvm.MethodName)) ∈ Tw := Tw_of 1081 (by decide +kernel) rfl
theorem tw_im_X6_spread : (Jvm.Cond.instanceMethod ({ cls := "FleetSettingsModel", name := "spread", desc := "(I)I" } : Jvm.MethodName)) ∈ Tw := Tw_of 1082 (by decide +kernel) rfl
theorem tw_sel_X6_spread : (Jvm.Cond.selects "FleetSettingsModel" ({ cls := "FleetSettingsModel", name := "spread", desc := "(I)I" } : Jvm.MethodName) ({ cls := "FleetSettingsModel", name := "spread", desc := "(I)I" } : Jvm.MethodName)) ∈ Tw := Tw_of 1083 (by decide +kernel) rfl
theorem tw_code_X6_spread : (Jvm.Cond.code ({ cls := "FleetSettingsModel", name := "spread", desc := "(I)I" } : Jvm.MethodName) prog_8_method_57_code (6 : Nat) (Option.some Jvm.ClassFile.FieldType.int)) ∈ Tw := Tw_of 1084 (by decide +kernel) rfl
theorem tw_ac_long : (Jvm.Cond.arrayClass Jvm.ClassFile.FieldType.long) ∈ Tw := Tw_of 1085 (by decide +kernel) rfl
theorem tw_sel_X5_voidWhatIsNotOld : Cond.selects RX5 yX5_voidWhatIsNotOld yX5_voidWhatIsNotOld ∈ Tw := Tw_of 1 (by decide +kernel) rfl
theorem tw_sel_X5_findHeads : Cond.selects RX5 yX5_findHeads yX5_findHeads ∈ Tw := Tw_of 2 (by decide +kernel) rfl
theorem tw_sel_X5_nearestLayerNotHeld : Cond.selects RX5 yX5_nearestLayerNotHeld yX5_nearestLayerNotHeld ∈ Tw := Tw_of 3 (by decide +kernel) rfl
theorem tw_sel_X5_isTakenNotHeld : Cond.selects RX5 yX5_isTakenNotHeld yX5_isTakenNotHeld ∈ Tw := Tw_of 4 (by decide +kernel) rfl
theorem tw_sel_X5_isChange : Cond.selects RX5 yX5_isChange yX5_isChange ∈ Tw := Tw_of 5 (by decide +kernel) rfl
theorem tw_sel_X5_stepMachines : Cond.selects RX5 yX5_stepMachines yX5_stepMachines ∈ Tw := Tw_of 6 (by decide +kernel) rfl
theorem tw_sel_X5_goBack : Cond.selects RX5 yX5_goBack yX5_goBack ∈ Tw := Tw_of 7 (by decide +kernel) rfl
theorem tw_sel_X5_takeFarthestLayer : Cond.selects RX5 yX5_takeFarthestLayer yX5_takeFarthestLayer ∈ Tw := Tw_of 8 (by decide +kernel) rfl
theorem tw_sel_X5_isBehindIn : Cond.selects RX5 yX5_isBehindIn yX5_isBehindIn ∈ Tw := Tw_of 9 (by decide +kernel) rfl
theorem tw_sel_X5_takeLayer : Cond.selects RX5 yX5_takeLayer yX5_takeLayer ∈ Tw := Tw_of 10 (by decide +kernel) rfl
theorem tw_sel_X5_isAnyBusy : Cond.selects RX5 yX5_isAnyBusy yX5_isAnyBusy ∈ Tw := Tw_of 11 (by decide +kernel) rfl
theorem tw_sel_X5_requireGroup : Cond.selects RX5 yX5_requireGroup yX5_requireGroup ∈ Tw := Tw_of 12 (by decide +kernel) rfl
theorem tw_sel_X2_dropOtherGroups : Cond.selects RX2 yX2_dropOtherGroups yX2_dropOtherGroups ∈ Tw := Tw_of 13 (by decide +kernel) rfl
theorem tw_sel_X2_isLayer : Cond.selects RX2 yX2_isLayer yX2_isLayer ∈ Tw := Tw_of 14 (by decide +kernel) rfl
theorem tw_sel_X2_drop : Cond.selects RX2 yX2_drop yX2_drop ∈ Tw := Tw_of 15 (by decide +kernel) rfl
theorem tw_sel_X5_requireMachine : Cond.selects RX5 yX5_requireMachine yX5_requireMachine ∈ Tw := Tw_of 16 (by decide +kernel) rfl
theorem tw_sel_X5_requirePlace : Cond.selects RX5 yX5_requirePlace yX5_requirePlace ∈ Tw := Tw_of 17 (by decide +kernel) rfl
theorem tw_sel_X5_slotOf : Cond.selects RX5 yX5_slotOf yX5_slotOf ∈ Tw := Tw_of 18 (by decide +kernel) rfl
theorem tw_sel_X5_requireChange : Cond.selects RX5 yX5_requireChange yX5_requireChange ∈ Tw := Tw_of 19 (by decide +kernel) rfl
theorem tw_sel_X5_isOnDuty : Cond.selects RX5 yX5_isOnDuty yX5_isOnDuty ∈ Tw := Tw_of 20 (by decide +kernel) rfl
theorem tw_sel_X5_hold : Cond.selects RX5 yX5_hold yX5_hold ∈ Tw := Tw_of 21 (by decide +kernel) rfl
theorem tw_sel_X5_whatIsToldBy : Cond.selects RX5 yX5_whatIsToldBy yX5_whatIsToldBy ∈ Tw := Tw_of 22 (by decide +kernel) rfl
theorem tw_sel_X5_findRunning : Cond.selects RX5 yX5_findRunning yX5_findRunning ∈ Tw := Tw_of 23 (by decide +kernel) rfl
theorem tw_sel_X5_findOutcome : Cond.selects RX5 yX5_findOutcome yX5_findOutcome ∈ Tw := Tw_of 24 (by decide +kernel) rfl
theorem tw_sel_X5_decide : Cond.selects RX5 yX5_decide yX5_decide ∈ Tw := Tw_of 25 (by decide +kernel) rfl
theorem tw_sel_X3_yields : Cond.selects RX3 yX3_yields yX3_yields ∈ Tw := Tw_of 26 (by decide +kernel) rfl
theorem tw_sel_X5_findHeadsAnew : Cond.selects RX5 yX5_findHeadsAnew yX5_findHeadsAnew ∈ Tw := Tw_of 27 (by decide +kernel) rfl
theorem tw_sel_X0_countGoodAt : Cond.selects RX0 yX0_countGoodAt yX0_countGoodAt ∈ Tw := Tw_of 28 (by decide +kernel) rfl
theorem tw_sel_X6_fails : Cond.selects RX6 yX6_fails yX6_fails ∈ Tw := Tw_of 29 (by decide +kernel) rfl
theorem tw_sel_X6_voids : Cond.selects RX6 yX6_voids yX6_voids ∈ Tw := Tw_of 30 (by decide +kernel) rfl
theorem tw_sel_X6_good : Cond.selects RX6 yX6_good yX6_good ∈ Tw := Tw_of 31 (by decide +kernel) rfl
theorem tw_sel_X6_isHalted : Cond.selects RX6 yX6_isHalted yX6_isHalted ∈ Tw := Tw_of 32 (by decide +kernel) rfl
theorem tw_sel_X6_cells : Cond.selects RX6 yX6_cells yX6_cells ∈ Tw := Tw_of 33 (by decide +kernel) rfl
theorem tw_sel_X6_passes : Cond.selects RX6 yX6_passes yX6_passes ∈ Tw := Tw_of 34 (by decide +kernel) rfl
theorem tw_sel_X6_goesBack : Cond.selects RX6 yX6_goesBack yX6_goesBack ∈ Tw := Tw_of 35 (by decide +kernel) rfl
theorem tw_sel_X6_slot : Cond.selects RX6 yX6_slot yX6_slot ∈ Tw := Tw_of 36 (by decide +kernel) rfl
theorem tw_sel_X6_topOf : Cond.selects RX6 yX6_topOf yX6_topOf ∈ Tw := Tw_of 37 (by decide +kernel) rfl
theorem tw_sel_X6_top : Cond.selects RX6 yX6_top yX6_top ∈ Tw := Tw_of 38 (by decide +kernel) rfl
theorem tw_sel_X6_works : Cond.selects RX6 yX6_works yX6_works ∈ Tw := Tw_of 39 (by decide +kernel) rfl
theorem tw_sel_X6_takes : Cond.selects RX6 yX6_takes yX6_takes ∈ Tw := Tw_of 40 (by decide +kernel) rfl
theorem tw_sel_X6_layers : Cond.selects RX6 yX6_layers yX6_layers ∈ Tw := Tw_of 41 (by decide +kernel) rfl
theorem tw_sel_X6_lags : Cond.selects RX6 yX6_lags yX6_lags ∈ Tw := Tw_of 42 (by decide +kernel) rfl
theorem tw_sel_X6_isGroup : Cond.selects RX6 yX6_isGroup yX6_isGroup ∈ Tw := Tw_of 43 (by decide +kernel) rfl
theorem tw_sel_X6_isMachine : Cond.selects RX6 yX6_isMachine yX6_isMachine ∈ Tw := Tw_of 44 (by decide +kernel) rfl
theorem tw_sel_X6_isOver : Cond.selects RX6 yX6_isOver yX6_isOver ∈ Tw := Tw_of 45 (by decide +kernel) rfl
theorem tw_sel_X6_isPlace : Cond.selects RX6 yX6_isPlace yX6_isPlace ∈ Tw := Tw_of 46 (by decide +kernel) rfl
theorem tw_sel_X6_isChange : Cond.selects RX6 yX6_isChange yX6_isChange ∈ Tw := Tw_of 47 (by decide +kernel) rfl
theorem tw_sel_X6_isAsked : Cond.selects RX6 yX6_isAsked yX6_isAsked ∈ Tw := Tw_of 48 (by decide +kernel) rfl
theorem tw_sel_X6_looks : Cond.selects RX6 yX6_looks yX6_looks ∈ Tw := Tw_of 49 (by decide +kernel) rfl
theorem tw_sel_X6_isHidden : Cond.selects RX6 yX6_isHidden yX6_isHidden ∈ Tw := Tw_of 50 (by decide +kernel) rfl
theorem tw_sel_X6_isDue : Cond.selects RX6 yX6_isDue yX6_isDue ∈ Tw := Tw_of 51 (by decide +kernel) rfl
theorem in_X0 : ∀ w ∈ wsX00, w ∈ Tw := Tw_all (by decide +kernel) (by decide +kernel)
theorem in_X1 : ∀ w ∈ wsX10, w ∈ Tw := Tw_all (by decide +kernel) (by decide +kernel)
theorem in_X2 : ∀ w ∈ wsX20, w ∈ Tw := Tw_all (by decide +kernel) (by decide +kernel)
theorem in_X3 : ∀ w ∈ wsX30, w ∈ Tw := Tw_all (by decide +kernel) (by decide +kernel)
theorem in_X4 : ∀ w ∈ wsX40, w ∈ Tw := Tw_all (by decide +kernel) (by decide +kernel)
theorem in_X5 : ∀ w ∈ wsX50, w ∈ Tw := Tw_all (by decide +kernel) (by decide +kernel)
theorem in_X6 : ∀ w ∈ wsX60, w ∈ Tw := Tw_all (by decide +kernel) (by decide +kernel)
theorem k_X1_18 : GoodIn Tw (va_wsS RX1 18 yJ7_fill_53178 (WS yJ7_fill_53178 cJ7_fill_53178 4 none)) := goodS tw_ml_X1_18 tw_st_J7_fill_53178 tw_ini_J7 (WS_all tw_code_J7_fill_53178)
theorem k_X5_61 : GoodIn Tw (va_wsS RX5 61 yJ7_fill_53178 (WS yJ7_fill_53178 cJ7_fill_53178 4 none)) := goodS tw_ml_X5_61 tw_st_J7_fill_53178 tw_ini_J7 (WS_all tw_code_J7_fill_53178)
theorem k_X2_22 : GoodIn Tw (va_wsS RX2 22 yJ7_fill_53178 (WS yJ7_fill_53178 cJ7_fill_53178 4 none)) := goodS tw_ml_X2_22 tw_st_J7_fill_53178 tw_ini_J7 (WS_all tw_code_J7_fill_53178)
theorem k_X0_22 : GoodIn Tw (va_wsS RX0 22 yJ7_fill_53178 (WS yJ7_fill_53178 cJ7_fill_53178 4 none)) := goodS tw_ml_X0_22 tw_st_J7_fill_53178 tw_ini_J7 (WS_all tw_code_J7_fill_53178)
theorem k_L_130 : GoodIn Tw (wsV RL 130 RX5 yX5_day (WS yX5_day cX5_day 1 (some .int))) := goodV tw_ml_L_130 tw_im_X5_day tw_sel_X5_day tw_ini_X5 (WS_all tw_code_X5_day)
theorem k_L_169 : GoodIn Tw (wsV RL 169 RX5 yX5_changes (WS yX5_changes cX5_changes 1 (some .int))) := goodV tw_ml_L_169 tw_im_X5_changes tw_sel_X5_changes tw_ini_X5 (WS_all tw_code_X5_changes)
theorem k_L_108 : GoodIn Tw (va_wsS RL 108 yL_setDuty (WH yL_setDuty cL_setDuty 5 (some .int) [(0, 10, 13, 13)])) := goodS tw_ml_L_108 tw_st_L_setDuty tw_ini_L (WH_all tw_code_L_setDuty)
theorem k_L_7 : GoodIn Tw (wsV RL 7 RX5 yX5_setDuty (WS yX5_setDuty cX5_setDuty 4 (some .int))) := goodV tw_ml_L_7 tw_im_X5_setDuty tw_sel_X5_setDuty tw_ini_X5 (WS_all tw_code_X5_setDuty)
theorem k_L_118 : GoodIn Tw (va_wsS RL 118 yL_leave (WH yL_leave cL_leave 5 (some .int) [(0, 10, 13, 19), (0, 10, 17, 21)])) := goodS tw_ml_L_118 tw_st_L_leave tw_ini_L (WH_all tw_code_L_leave)
theorem k_L_15 : GoodIn Tw (wsV RL 15 RX5 yX5_leave (WS yX5_leave cX5_leave 4 (some .int))) := goodV tw_ml_L_15 tw_im_X5_leave tw_sel_X5_leave tw_ini_X5 (WS_all tw_code_X5_leave)
theorem k_X5_79 : GoodIn Tw (va_wsS RX5 79 yX5_requirePerson (WS yX5_requirePerson cX5_requirePerson 1 none)) := goodS tw_ml_X5_79 tw_st_X5_requirePerson tw_ini_X5 (WS_all tw_code_X5_requirePerson)
theorem k_X5_106 : GoodIn Tw (wsV RX5 106 RX5 yX5_voidWhatIsNotOld (WS yX5_voidWhatIsNotOld cX5_voidWhatIsNotOld 5 (some .int))) := goodV tw_ml_X5_106 tw_im_X5_voidWhatIsNotOld tw_sel_X5_voidWhatIsNotOld tw_ini_X5 (WS_all tw_code_X5_voidWhatIsNotOld)
theorem k_X5_287 : GoodIn Tw (wsV RX5 287 RX0 yX0_loseByLeaving (WS yX0_loseByLeaving cX0_loseByLeaving 4 (some .boolean))) := goodV tw_ml_X5_287 tw_im_X0_loseByLeaving tw_sel_X0_loseByLeaving tw_ini_X0 (WS_all tw_code_X0_loseByLeaving)
theorem k_X0_57 : GoodIn Tw (wsV RX0 57 RX0 yX0_countGood (WS yX0_countGood cX0_countGood 1 (some .int))) := goodV tw_ml_X0_57 tw_im_X0_countGood tw_sel_X0_countGood tw_ini_X0 (WS_all tw_code_X0_countGood)
theorem k_X0_51 : GoodIn Tw (va_wsS RX0 51 yJ6_bitCount_0f7a4 (WS yJ6_bitCount_0f7a4 cJ6_bitCount_0f7a4 1 (some .int))) := goodS tw_ml_X0_51 tw_st_J6_bitCount_0f7a4 tw_ini_J6 (WS_all tw_code_J6_bitCount_0f7a4)
theorem k_X5_284 : GoodIn Tw (wsV RX5 284 RX5 yX5_findHeads (WS yX5_findHeads cX5_findHeads 2 none)) := goodV tw_ml_X5_284 tw_im_X5_findHeads tw_sel_X5_findHeads tw_ini_X5 (WS_all tw_code_X5_findHeads)
theorem k_X5_290 : GoodIn Tw (wsV RX5 290 RX1 yX1_forgetChanges (WS yX1_forgetChanges cX1_forgetChanges 1 none)) := goodV tw_ml_X5_290 tw_im_X1_forgetChanges tw_sel_X1_forgetChanges tw_ini_X1 (WS_all tw_code_X1_forgetChanges)
theorem k_X5_293 : GoodIn Tw (wsV RX5 293 RX1 yX1_raise (WS yX1_raise cX1_raise 4 none)) := goodV tw_ml_X5_293 tw_im_X1_raise tw_sel_X1_raise tw_ini_X1 (WS_all tw_code_X1_raise)
theorem k_X5_147 : GoodIn Tw (wsV RX5 147 RX5 yX5_nearestLayerNotHeld (WS yX5_nearestLayerNotHeld cX5_nearestLayerNotHeld 4 (some .int))) := goodV tw_ml_X5_147 tw_im_X5_nearestLayerNotHeld tw_sel_X5_nearestLayerNotHeld tw_ini_X5 (WS_all tw_code_X5_nearestLayerNotHeld)
theorem k_X5_171 : GoodIn Tw (va_wsS RX5 171 yX5_cellOf (WS yX5_cellOf cX5_cellOf 2 (some .int))) := goodS tw_ml_X5_171 tw_st_X5_cellOf tw_ini_X5 (WS_all tw_code_X5_cellOf)
theorem k_X5_313 : GoodIn Tw (wsV RX5 313 RX5 yX5_isTakenNotHeld (WS yX5_isTakenNotHeld cX5_isTakenNotHeld 2 (some .boolean))) := goodV tw_ml_X5_313 tw_im_X5_isTakenNotHeld tw_sel_X5_isTakenNotHeld tw_ini_X5 (WS_all tw_code_X5_isTakenNotHeld)
theorem k_X5_276 : GoodIn Tw (wsV RX5 276 RX5 yX5_isChange (WS yX5_isChange cX5_isChange 2 (some .boolean))) := goodV tw_ml_X5_276 tw_im_X5_isChange tw_sel_X5_isChange tw_ini_X5 (WS_all tw_code_X5_isChange)
theorem k_L_122 : GoodIn Tw (va_wsS RL 122 yL_comeBack (WH yL_comeBack cL_comeBack 3 (some .int) [(0, 5, 8, 19), (0, 5, 11, 21)])) := goodS tw_ml_L_122 tw_st_L_comeBack tw_ini_L (WH_all tw_code_L_comeBack)
theorem k_L_23 : GoodIn Tw (wsV RL 23 RX5 yX5_comeBack (WS yX5_comeBack cX5_comeBack 3 none)) := goodV tw_ml_L_23 tw_im_X5_comeBack tw_sel_X5_comeBack tw_ini_X5 (WS_all tw_code_X5_comeBack)
theorem k_L_126 : GoodIn Tw (va_wsS RL 126 yL_pass (WH yL_pass cL_pass 4 (some .int) [(0, 9, 12, 13)])) := goodS tw_ml_L_126 tw_st_L_pass tw_ini_L (WH_all tw_code_L_pass)
theorem k_L_27 : GoodIn Tw (wsV RL 27 RX5 yX5_pass (WS yX5_pass cX5_pass 5 (some .int))) := goodV tw_ml_L_27 tw_im_X5_pass tw_sel_X5_pass tw_ini_X5 (WS_all tw_code_X5_pass)
theorem k_X5_114 : GoodIn Tw (wsV RX5 114 RX5 yX5_stepMachines (WS yX5_stepMachines cX5_stepMachines 6 (some .int))) := goodV tw_ml_X5_114 tw_im_X5_stepMachines tw_sel_X5_stepMachines tw_ini_X5 (WS_all tw_code_X5_stepMachines)
theorem k_X5_305 : GoodIn Tw (wsV RX5 305 RX5 yX5_goBack (WS yX5_goBack cX5_goBack 5 none)) := goodV tw_ml_X5_305 tw_im_X5_goBack tw_sel_X5_goBack tw_ini_X5 (WS_all tw_code_X5_goBack)
theorem k_X5_309 : GoodIn Tw (wsV RX5 309 RX5 yX5_takeFarthestLayer (WS yX5_takeFarthestLayer cX5_takeFarthestLayer 3 (some .boolean))) := goodV tw_ml_X5_309 tw_im_X5_takeFarthestLayer tw_sel_X5_takeFarthestLayer tw_ini_X5 (WS_all tw_code_X5_takeFarthestLayer)
theorem k_X5_256 : GoodIn Tw (wsV RX5 256 RX5 yX5_isBehindIn (WS yX5_isBehindIn cX5_isBehindIn 5 (some .boolean))) := goodV tw_ml_X5_256 tw_im_X5_isBehindIn tw_sel_X5_isBehindIn tw_ini_X5 (WS_all tw_code_X5_isBehindIn)
theorem k_X5_316 : GoodIn Tw (wsV RX5 316 RX5 yX5_takeLayer (WS yX5_takeLayer cX5_takeLayer 5 none)) := goodV tw_ml_X5_316 tw_im_X5_takeLayer tw_sel_X5_takeLayer tw_ini_X5 (WS_all tw_code_X5_takeLayer)
theorem k_X5_118 : GoodIn Tw (wsV RX5 118 RX5 yX5_isAnyBusy (WS yX5_isAnyBusy cX5_isAnyBusy 2 (some .boolean))) := goodV tw_ml_X5_118 tw_im_X5_isAnyBusy tw_sel_X5_isAnyBusy tw_ini_X5 (WS_all tw_code_X5_isAnyBusy)
theorem k_L_134 : GoodIn Tw (va_wsS RL 134 yL_addGroup (WH yL_addGroup cL_addGroup 4 (some .int) [(0, 9, 12, 19), (0, 9, 15, 21)])) := goodS tw_ml_L_134 tw_st_L_addGroup tw_ini_L (WH_all tw_code_L_addGroup)
theorem k_L_31 : GoodIn Tw (wsV RL 31 RX5 yX5_addGroup (WS yX5_addGroup cX5_addGroup 3 (some .int))) := goodV tw_ml_L_31 tw_im_X5_addGroup tw_sel_X5_addGroup tw_ini_X5 (WS_all tw_code_X5_addGroup)
theorem k_X5_122 : GoodIn Tw (wsV RX5 122 RX5 yX5_requireGroup (WS yX5_requireGroup cX5_requireGroup 2 none)) := goodV tw_ml_X5_122 tw_im_X5_requireGroup tw_sel_X5_requireGroup tw_ini_X5 (WS_all tw_code_X5_requireGroup)
theorem k_L_137 : GoodIn Tw (va_wsS RL 137 yL_addMachine (WH yL_addMachine cL_addMachine 4 (some .int) [(0, 9, 12, 19), (0, 9, 15, 21)])) := goodS tw_ml_L_137 tw_st_L_addMachine tw_ini_L (WH_all tw_code_L_addMachine)
theorem k_L_34 : GoodIn Tw (wsV RL 34 RX5 yX5_addMachine (WS yX5_addMachine cX5_addMachine 3 (some .int))) := goodV tw_ml_L_34 tw_im_X5_addMachine tw_sel_X5_addMachine tw_ini_X5 (WS_all tw_code_X5_addMachine)
theorem k_X5_132 : GoodIn Tw (wsV RX5 132 RX2 yX2_enterGroup (WS yX2_enterGroup cX2_enterGroup 4 none)) := goodV tw_ml_X5_132 tw_im_X2_enterGroup tw_sel_X2_enterGroup tw_ini_X2 (WS_all tw_code_X2_enterGroup)
theorem k_X2_34 : GoodIn Tw (wsV RX2 34 RX2 yX2_dropOtherGroups (WS yX2_dropOtherGroups cX2_dropOtherGroups 2 none)) := goodV tw_ml_X2_34 tw_im_X2_dropOtherGroups tw_sel_X2_dropOtherGroups tw_ini_X2 (WS_all tw_code_X2_dropOtherGroups)
theorem k_X2_37 : GoodIn Tw (wsV RX2 37 RX2 yX2_isLayer (WS yX2_isLayer cX2_isLayer 3 (some .boolean))) := goodV tw_ml_X2_37 tw_im_X2_isLayer tw_sel_X2_isLayer tw_ini_X2 (WS_all tw_code_X2_isLayer)
theorem k_X2_41 : GoodIn Tw (wsV RX2 41 RX2 yX2_drop (WS yX2_drop cX2_drop 3 none)) := goodV tw_ml_X2_41 tw_im_X2_drop tw_sel_X2_drop tw_ini_X2 (WS_all tw_code_X2_drop)
theorem k_L_140 : GoodIn Tw (va_wsS RL 140 yL_moveMachine (WH yL_moveMachine cL_moveMachine 5 (some .int) [(0, 10, 13, 19), (0, 10, 17, 21)])) := goodS tw_ml_L_140 tw_st_L_moveMachine tw_ini_L (WH_all tw_code_L_moveMachine)
theorem k_L_37 : GoodIn Tw (wsV RL 37 RX5 yX5_moveMachine (WS yX5_moveMachine cX5_moveMachine 5 (some .int))) := goodV tw_ml_L_37 tw_im_X5_moveMachine tw_sel_X5_moveMachine tw_ini_X5 (WS_all tw_code_X5_moveMachine)
theorem k_X5_136 : GoodIn Tw (wsV RX5 136 RX5 yX5_requireMachine (WS yX5_requireMachine cX5_requireMachine 2 none)) := goodV tw_ml_X5_136 tw_im_X5_requireMachine tw_sel_X5_requireMachine tw_ini_X5 (WS_all tw_code_X5_requireMachine)
theorem k_L_143 : GoodIn Tw (va_wsS RL 143 yL_work (WH yL_work cL_work 5 (some .int) [(0, 10, 13, 19), (0, 10, 17, 13), (0, 10, 21, 21)])) := goodS tw_ml_L_143 tw_st_L_work tw_ini_L (WH_all tw_code_L_work)
theorem k_L_40 : GoodIn Tw (wsV RL 40 RX5 yX5_work (WS yX5_work cX5_work 4 (some .int))) := goodV tw_ml_L_40 tw_im_X5_work tw_sel_X5_work tw_ini_X5 (WS_all tw_code_X5_work)
theorem k_L_146 : GoodIn Tw (va_wsS RL 146 yL_setPace (WH yL_setPace cL_setPace 4 (some .int) [(0, 9, 12, 13)])) := goodS tw_ml_L_146 tw_st_L_setPace tw_ini_L (WH_all tw_code_L_setPace)
theorem k_L_43 : GoodIn Tw (wsV RL 43 RX5 yX5_setPace (WS yX5_setPace cX5_setPace 3 (some .int))) := goodV tw_ml_L_43 tw_im_X5_setPace tw_sel_X5_setPace tw_ini_X5 (WS_all tw_code_X5_setPace)
theorem k_L_149 : GoodIn Tw (va_wsS RL 149 yL_isBusy (WH yL_isBusy cL_isBusy 4 (some .int) [(0, 16, 19, 19)])) := goodS tw_ml_L_149 tw_st_L_isBusy tw_ini_L (WH_all tw_code_L_isBusy)
theorem k_L_46 : GoodIn Tw (wsV RL 46 RX5 yX5_isBusy (WS yX5_isBusy cX5_isBusy 2 (some .boolean))) := goodV tw_ml_L_46 tw_im_X5_isBusy tw_sel_X5_isBusy tw_ini_X5 (WS_all tw_code_X5_isBusy)
theorem k_L_152 : GoodIn Tw (va_wsS RL 152 yL_isStopped (WH yL_isStopped cL_isStopped 4 (some .int) [(0, 16, 19, 19)])) := goodS tw_ml_L_152 tw_st_L_isStopped tw_ini_L (WH_all tw_code_L_isStopped)
theorem k_L_50 : GoodIn Tw (wsV RL 50 RX5 yX5_isStopped (WS yX5_isStopped cX5_isStopped 2 (some .boolean))) := goodV tw_ml_L_50 tw_im_X5_isStopped tw_sel_X5_isStopped tw_ini_X5 (WS_all tw_code_X5_isStopped)
theorem k_L_155 : GoodIn Tw (va_wsS RL 155 yL_propose (WH yL_propose cL_propose 7 (some .int) [(0, 14, 17, 19), (0, 14, 21, 13), (0, 14, 25, 21)])) := goodS tw_ml_L_155 tw_st_L_propose tw_ini_L (WH_all tw_code_L_propose)
theorem k_L_53 : GoodIn Tw (wsV RL 53 RX5 yX5_propose (WS yX5_propose cX5_propose 6 (some .int))) := goodV tw_ml_L_53 tw_im_X5_propose tw_sel_X5_propose tw_ini_X5 (WS_all tw_code_X5_propose)
theorem k_X5_155 : GoodIn Tw (wsV RX5 155 RX5 yX5_requirePlace (WS yX5_requirePlace cX5_requirePlace 2 none)) := goodV tw_ml_X5_155 tw_im_X5_requirePlace tw_sel_X5_requirePlace tw_ini_X5 (WS_all tw_code_X5_requirePlace)
theorem k_X5_168 : GoodIn Tw (wsV RX5 168 RX5 yX5_slotOf (WS yX5_slotOf cX5_slotOf 2 (some .int))) := goodV tw_ml_X5_168 tw_im_X5_slotOf tw_sel_X5_slotOf tw_ini_X5 (WS_all tw_code_X5_slotOf)
theorem k_X5_158 : GoodIn Tw (va_wsS RX5 158 yX5_requireKey (WS yX5_requireKey cX5_requireKey 1 none)) := goodS tw_ml_X5_158 tw_st_X5_requireKey tw_ini_X5 (WS_all tw_code_X5_requireKey)
theorem k_X5_175 : GoodIn Tw (wsV RX5 175 RX0 yX0_begin (WS yX0_begin cX0_begin 5 none)) := goodV tw_ml_X5_175 tw_im_X0_begin tw_sel_X0_begin tw_ini_X0 (WS_all tw_code_X0_begin)
theorem k_L_159 : GoodIn Tw (va_wsS RL 159 yL_approve (WH yL_approve cL_approve 5 (some .int) [(0, 10, 13, 19), (0, 10, 17, 21)])) := goodS tw_ml_L_159 tw_st_L_approve tw_ini_L (WH_all tw_code_L_approve)
theorem k_L_57 : GoodIn Tw (wsV RL 57 RX5 yX5_approve (WS yX5_approve cX5_approve 4 (some .int))) := goodV tw_ml_L_57 tw_im_X5_approve tw_sel_X5_approve tw_ini_X5 (WS_all tw_code_X5_approve)
theorem k_X5_179 : GoodIn Tw (wsV RX5 179 RX5 yX5_requireChange (WS yX5_requireChange cX5_requireChange 2 none)) := goodV tw_ml_X5_179 tw_im_X5_requireChange tw_sel_X5_requireChange tw_ini_X5 (WS_all tw_code_X5_requireChange)
theorem k_X5_182 : GoodIn Tw (wsV RX5 182 RX5 yX5_isOnDuty (WS yX5_isOnDuty cX5_isOnDuty 3 (some .boolean))) := goodV tw_ml_X5_182 tw_im_X5_isOnDuty tw_sel_X5_isOnDuty tw_ini_X5 (WS_all tw_code_X5_isOnDuty)
theorem k_X5_208 : GoodIn Tw (va_wsS RX5 208 yX5_contains (WS yX5_contains cX5_contains 2 (some .boolean))) := goodS tw_ml_X5_208 tw_st_X5_contains tw_ini_X5 (WS_all tw_code_X5_contains)
theorem k_X5_186 : GoodIn Tw (wsV RX5 186 RX0 yX0_canBeApprovedBy (WS yX0_canBeApprovedBy cX0_canBeApprovedBy 2 (some .boolean))) := goodV tw_ml_X5_186 tw_im_X0_canBeApprovedBy tw_sel_X0_canBeApprovedBy tw_ini_X0 (WS_all tw_code_X0_canBeApprovedBy)
theorem k_X5_191 : GoodIn Tw (wsV RX5 191 RX0 yX0_addApproval (WS yX0_addApproval cX0_addApproval 4 none)) := goodV tw_ml_X5_191 tw_im_X0_addApproval tw_sel_X0_addApproval tw_ini_X0 (WS_all tw_code_X0_addApproval)
theorem k_X5_198 : GoodIn Tw (wsV RX5 198 RX0 yX0_countGood (WS yX0_countGood cX0_countGood 1 (some .int))) := goodV tw_ml_X5_198 tw_im_X0_countGood tw_sel_X0_countGood tw_ini_X0 (WS_all tw_code_X0_countGood)
theorem k_X5_201 : GoodIn Tw (wsV RX5 201 RX5 yX5_hold (WS yX5_hold cX5_hold 2 none)) := goodV tw_ml_X5_201 tw_im_X5_hold tw_sel_X5_hold tw_ini_X5 (WS_all tw_code_X5_hold)
theorem k_L_162 : GoodIn Tw (va_wsS RL 162 yL_withdraw (WH yL_withdraw cL_withdraw 3 (some .int) [(0, 5, 8, 19), (0, 5, 11, 21)])) := goodS tw_ml_L_162 tw_st_L_withdraw tw_ini_L (WH_all tw_code_L_withdraw)
theorem k_L_60 : GoodIn Tw (wsV RL 60 RX5 yX5_withdraw (WS yX5_withdraw cX5_withdraw 3 none)) := goodV tw_ml_L_60 tw_im_X5_withdraw tw_sel_X5_withdraw tw_ini_X5 (WS_all tw_code_X5_withdraw)
theorem k_L_165 : GoodIn Tw (va_wsS RL 165 yL_exclude (WH yL_exclude cL_exclude 6 (some .int) [(0, 19, 22, 19), (0, 19, 26, 13)])) := goodS tw_ml_L_165 tw_st_L_exclude tw_ini_L (WH_all tw_code_L_exclude)
theorem k_L_63 : GoodIn Tw (wsV RL 63 RX5 yX5_exclude (WS yX5_exclude cX5_exclude 5 (some .boolean))) := goodV tw_ml_L_63 tw_im_X5_exclude tw_sel_X5_exclude tw_ini_X5 (WS_all tw_code_X5_exclude)
theorem k_X5_212 : GoodIn Tw (va_wsS RX5 212 yX5_with (WS yX5_with cX5_with 3 (some .int))) := goodS tw_ml_X5_212 tw_st_X5_with tw_ini_X5 (WS_all tw_code_X5_with)
theorem k_L_173 : GoodIn Tw (va_wsS RL 173 yL_state (WH yL_state cL_state 4 (some .int) [(0, 9, 12, 19)])) := goodS tw_ml_L_173 tw_st_L_state tw_ini_L (WH_all tw_code_L_state)
theorem k_L_67 : GoodIn Tw (wsV RL 67 RX5 yX5_state (WS yX5_state cX5_state 2 (some .int))) := goodV tw_ml_L_67 tw_im_X5_state tw_sel_X5_state tw_ini_X5 (WS_all tw_code_X5_state)
theorem k_L_176 : GoodIn Tw (va_wsS RL 176 yL_rank (WH yL_rank cL_rank 4 (some .int) [(0, 9, 12, 19)])) := goodS tw_ml_L_176 tw_st_L_rank tw_ini_L (WH_all tw_code_L_rank)
theorem k_L_70 : GoodIn Tw (wsV RL 70 RX5 yX5_rank (WS yX5_rank cX5_rank 2 (some .int))) := goodV tw_ml_L_70 tw_im_X5_rank tw_sel_X5_rank tw_ini_X5 (WS_all tw_code_X5_rank)
theorem k_L_179 : GoodIn Tw (va_wsS RL 179 yL_approvals (WH yL_approvals cL_approvals 4 (some .int) [(0, 9, 12, 19)])) := goodS tw_ml_L_179 tw_st_L_approvals tw_ini_L (WH_all tw_code_L_approvals)
theorem k_L_73 : GoodIn Tw (wsV RL 73 RX5 yX5_approvals (WS yX5_approvals cX5_approvals 2 (some .int))) := goodV tw_ml_L_73 tw_im_X5_approvals tw_sel_X5_approvals tw_ini_X5 (WS_all tw_code_X5_approvals)
theorem k_L_182 : GoodIn Tw (va_wsS RL 182 yL_told (WH yL_told cL_told 5 (some .int) [(0, 10, 13, 19)])) := goodS tw_ml_L_182 tw_st_L_told tw_ini_L (WH_all tw_code_L_told)
theorem k_L_76 : GoodIn Tw (wsV RL 76 RX5 yX5_told (WS yX5_told cX5_told 4 (some .int))) := goodV tw_ml_L_76 tw_im_X5_told tw_sel_X5_told tw_ini_X5 (WS_all tw_code_X5_told)
theorem k_X5_222 : GoodIn Tw (wsV RX5 222 RX5 yX5_whatIsToldBy (WS yX5_whatIsToldBy cX5_whatIsToldBy 2 (some .int))) := goodV tw_ml_X5_222 tw_im_X5_whatIsToldBy tw_sel_X5_whatIsToldBy tw_ini_X5 (WS_all tw_code_X5_whatIsToldBy)
theorem k_L_185 : GoodIn Tw (va_wsS RL 185 yL_taken (WH yL_taken cL_taken 6 (some .int) [(0, 12, 15, 19)])) := goodS tw_ml_L_185 tw_st_L_taken tw_ini_L (WH_all tw_code_L_taken)
theorem k_L_79 : GoodIn Tw (wsV RL 79 RX5 yX5_taken (WS yX5_taken cX5_taken 5 (some .int))) := goodV tw_ml_L_79 tw_im_X5_taken tw_sel_X5_taken tw_ini_X5 (WS_all tw_code_X5_taken)
theorem k_L_189 : GoodIn Tw (va_wsS RL 189 yL_runs (WH yL_runs cL_runs 5 (some .int) [(0, 10, 13, 19)])) := goodS tw_ml_L_189 tw_st_L_runs tw_ini_L (WH_all tw_code_L_runs)
theorem k_L_83 : GoodIn Tw (wsV RL 83 RX5 yX5_runs (WS yX5_runs cX5_runs 3 (some .int))) := goodV tw_ml_L_83 tw_im_X5_runs tw_sel_X5_runs tw_ini_X5 (WS_all tw_code_X5_runs)
theorem k_X5_239 : GoodIn Tw (wsV RX5 239 RX5 yX5_findRunning (WS yX5_findRunning cX5_findRunning 2 none)) := goodV tw_ml_X5_239 tw_im_X5_findRunning tw_sel_X5_findRunning tw_ini_X5 (WS_all tw_code_X5_findRunning)
theorem k_X5_319 : GoodIn Tw (wsV RX5 319 RX3 yX3_forget (WS yX3_forget cX3_forget 1 none)) := goodV tw_ml_X5_319 tw_im_X3_forget tw_sel_X3_forget tw_ini_X3 (WS_all tw_code_X3_forget)
theorem k_X3_21 : GoodIn Tw (va_wsS RX3 21 yJ7_fill_53178 (WS yJ7_fill_53178 cJ7_fill_53178 4 none)) := goodS tw_ml_X3_21 tw_st_J7_fill_53178 tw_ini_J7 (WS_all tw_code_J7_fill_53178)
theorem k_X5_249 : GoodIn Tw (wsV RX5 249 RX5 yX5_findOutcome (WS yX5_findOutcome cX5_findOutcome 5 none)) := goodV tw_ml_X5_249 tw_im_X5_findOutcome tw_sel_X5_findOutcome tw_ini_X5 (WS_all tw_code_X5_findOutcome)
theorem k_X5_322 : GoodIn Tw (wsV RX5 322 RX5 yX5_decide (WS yX5_decide cX5_decide 8 none)) := goodV tw_ml_X5_322 tw_im_X5_decide tw_sel_X5_decide tw_ini_X5 (WS_all tw_code_X5_decide)
theorem k_X5_330 : GoodIn Tw (wsV RX5 330 RX3 yX3_set (WS yX3_set cX3_set 5 none)) := goodV tw_ml_X5_330 tw_im_X3_set tw_sel_X3_set tw_ini_X3 (WS_all tw_code_X3_set)
theorem k_X5_326 : GoodIn Tw (wsV RX5 326 RX3 yX3_hideExcluded (WS yX3_hideExcluded cX3_hideExcluded 4 none)) := goodV tw_ml_X5_326 tw_im_X3_hideExcluded tw_sel_X3_hideExcluded tw_ini_X3 (WS_all tw_code_X3_hideExcluded)
theorem k_X3_35 : GoodIn Tw (wsV RX3 35 RX3 yX3_yields (WS yX3_yields cX3_yields 3 (some .boolean))) := goodV tw_ml_X3_35 tw_im_X3_yields tw_sel_X3_yields tw_ini_X3 (WS_all tw_code_X3_yields)
theorem k_X5_243 : GoodIn Tw (wsV RX5 243 RX3 yX3_valueIfShown (WS yX3_valueIfShown cX3_valueIfShown 2 (some .int))) := goodV tw_ml_X5_243 tw_im_X3_valueIfShown tw_sel_X3_valueIfShown tw_ini_X3 (WS_all tw_code_X3_valueIfShown)
theorem k_L_192 : GoodIn Tw (va_wsS RL 192 yL_layerOf (WH yL_layerOf cL_layerOf 5 (some .int) [(0, 10, 13, 19)])) := goodS tw_ml_L_192 tw_st_L_layerOf tw_ini_L (WH_all tw_code_L_layerOf)
theorem k_L_86 : GoodIn Tw (wsV RL 86 RX5 yX5_layerOf (WS yX5_layerOf cX5_layerOf 3 (some .int))) := goodV tw_ml_L_86 tw_im_X5_layerOf tw_sel_X5_layerOf tw_ini_X5 (WS_all tw_code_X5_layerOf)
theorem k_X5_246 : GoodIn Tw (wsV RX5 246 RX3 yX3_layerIfShown (WS yX3_layerIfShown cX3_layerIfShown 2 (some .int))) := goodV tw_ml_X5_246 tw_im_X3_layerIfShown tw_sel_X3_layerIfShown tw_ini_X3 (WS_all tw_code_X3_layerIfShown)
theorem k_X3_42 : GoodIn Tw (wsV RX3 42 RX3 yX3_valueIfShown (WS yX3_valueIfShown cX3_valueIfShown 2 (some .int))) := goodV tw_ml_X3_42 tw_im_X3_valueIfShown tw_sel_X3_valueIfShown tw_ini_X3 (WS_all tw_code_X3_valueIfShown)
theorem k_L_195 : GoodIn Tw (va_wsS RL 195 yL_due (WH yL_due cL_due 5 (some .int) [(0, 10, 13, 19)])) := goodS tw_ml_L_195 tw_st_L_due tw_ini_L (WH_all tw_code_L_due)
theorem k_L_89 : GoodIn Tw (wsV RL 89 RX5 yX5_due (WS yX5_due cX5_due 3 (some .int))) := goodV tw_ml_L_89 tw_im_X5_due tw_sel_X5_due tw_ini_X5 (WS_all tw_code_X5_due)
theorem k_L_198 : GoodIn Tw (va_wsS RL 198 yL_dueAnew (WH yL_dueAnew cL_dueAnew 5 (some .int) [(0, 10, 13, 19)])) := goodS tw_ml_L_198 tw_st_L_dueAnew tw_ini_L (WH_all tw_code_L_dueAnew)
theorem k_L_92 : GoodIn Tw (wsV RL 92 RX5 yX5_dueAnew (WS yX5_dueAnew cX5_dueAnew 3 (some .int))) := goodV tw_ml_L_92 tw_im_X5_dueAnew tw_sel_X5_dueAnew tw_ini_X5 (WS_all tw_code_X5_dueAnew)
theorem k_X5_253 : GoodIn Tw (wsV RX5 253 RX5 yX5_findHeadsAnew (WS yX5_findHeadsAnew cX5_findHeadsAnew 2 none)) := goodV tw_ml_X5_253 tw_im_X5_findHeadsAnew tw_sel_X5_findHeadsAnew tw_ini_X5 (WS_all tw_code_X5_findHeadsAnew)
theorem k_X5_297 : GoodIn Tw (wsV RX5 297 RX0 yX0_firstHeldMoment (WS yX0_firstHeldMoment cX0_firstHeldMoment 6 (some .int))) := goodV tw_ml_X5_297 tw_im_X0_firstHeldMoment tw_sel_X0_firstHeldMoment tw_ini_X0 (WS_all tw_code_X0_firstHeldMoment)
theorem k_X0_67 : GoodIn Tw (wsV RX0 67 RX0 yX0_countGoodAt (WS yX0_countGoodAt cX0_countGoodAt 7 (some .int))) := goodV tw_ml_X0_67 tw_im_X0_countGoodAt tw_sel_X0_countGoodAt tw_ini_X0 (WS_all tw_code_X0_countGoodAt)
theorem k_X0_61 : GoodIn Tw (wsV RX0 61 RX4 yX4_hasVoided (WS yX4_hasVoided cX4_hasVoided 2 (some .boolean))) := goodV tw_ml_X0_61 tw_im_X4_hasVoided tw_sel_X4_hasVoided tw_ini_X4 (WS_all tw_code_X4_hasVoided)
theorem k_X5_301 : GoodIn Tw (wsV RX5 301 RX0 yX0_isHeldAnew (WS yX0_isHeldAnew cX0_isHeldAnew 4 (some .boolean))) := goodV tw_ml_X5_301 tw_im_X0_isHeldAnew tw_sel_X0_isHeldAnew tw_ini_X0 (WS_all tw_code_X0_isHeldAnew)
theorem k_L_201 : GoodIn Tw (va_wsS RL 201 yL_behind (WH yL_behind cL_behind 4 (some .int) [(0, 9, 12, 19)])) := goodS tw_ml_L_201 tw_st_L_behind tw_ini_L (WH_all tw_code_L_behind)
theorem k_L_95 : GoodIn Tw (wsV RL 95 RX5 yX5_behind (WS yX5_behind cX5_behind 5 (some .int))) := goodV tw_ml_L_95 tw_im_X5_behind tw_sel_X5_behind tw_ini_X5 (WS_all tw_code_X5_behind)
theorem k_L_204 : GoodIn Tw (va_wsS RL 204 yL_hidden (WH yL_hidden cL_hidden 4 (some .int) [(0, 9, 12, 19)])) := goodS tw_ml_L_204 tw_st_L_hidden tw_ini_L (WH_all tw_code_L_hidden)
theorem k_L_98 : GoodIn Tw (wsV RL 98 RX5 yX5_hidden (WS yX5_hidden cX5_hidden 2 (some .int))) := goodV tw_ml_L_98 tw_im_X5_hidden tw_sel_X5_hidden tw_ini_X5 (WS_all tw_code_X5_hidden)
theorem k_L_207 : GoodIn Tw (va_wsS RL 207 yL_spread (WH yL_spread cL_spread 4 (some .int) [(0, 9, 12, 19)])) := goodS tw_ml_L_207 tw_st_L_spread tw_ini_L (WH_all tw_code_L_spread)
theorem k_L_101 : GoodIn Tw (wsV RL 101 RX5 yX5_spread (WS yX5_spread cX5_spread 5 (some .int))) := goodV tw_ml_L_101 tw_im_X5_spread tw_sel_X5_spread tw_ini_X5 (WS_all tw_code_X5_spread)
theorem k_L_114 : GoodIn Tw (wsV RL 114 RX6 yX6_thrown (WS yX6_thrown cX6_thrown 1 (some .int))) := goodV tw_ml_L_114 tw_im_X6_thrown tw_sel_X6_thrown tw_ini_X6 (WS_all tw_code_X6_thrown)
theorem k_L_113 : GoodIn Tw (wsV RL 113 RX6 yX6_setDuty (WS yX6_setDuty cX6_setDuty 4 (some .int))) := goodV tw_ml_L_113 tw_im_X6_setDuty tw_sel_X6_setDuty tw_ini_X6 (WS_all tw_code_X6_setDuty)
theorem k_X6_77 : GoodIn Tw (va_wsS RX6 77 yX6_in (WS yX6_in cX6_in 3 (some .boolean))) := goodS tw_ml_X6_77 tw_st_X6_in tw_ini_X6 (WS_all tw_code_X6_in)
theorem k_X6_112 : GoodIn Tw (wsV RX6 112 RX6 yX6_fails (WS yX6_fails cX6_fails 2 (some .int))) := goodV tw_ml_X6_112 tw_im_X6_fails tw_sel_X6_fails tw_ini_X6 (WS_all tw_code_X6_fails)
theorem k_L_121 : GoodIn Tw (wsV RL 121 RX6 yX6_leave (WS yX6_leave cX6_leave 3 (some .int))) := goodV tw_ml_L_121 tw_im_X6_leave tw_sel_X6_leave tw_ini_X6 (WS_all tw_code_X6_leave)
theorem k_X6_121 : GoodIn Tw (va_wsS RX6 121 yX6_isPerson (WS yX6_isPerson cX6_isPerson 1 (some .boolean))) := goodS tw_ml_X6_121 tw_st_X6_isPerson tw_ini_X6 (WS_all tw_code_X6_isPerson)
theorem k_X6_124 : GoodIn Tw (wsV RX6 124 RX6 yX6_voids (WS yX6_voids cX6_voids 6 (some .int))) := goodV tw_ml_X6_124 tw_im_X6_voids tw_sel_X6_voids tw_ini_X6 (WS_all tw_code_X6_voids)
theorem k_X6_115 : GoodIn Tw (wsV RX6 115 RX6 yX6_good (WS yX6_good cX6_good 4 (some .int))) := goodV tw_ml_X6_115 tw_im_X6_good tw_sel_X6_good tw_ini_X6 (WS_all tw_code_X6_good)
theorem k_X6_118 : GoodIn Tw (wsV RX6 118 RX6 yX6_isHalted (WS yX6_isHalted cX6_isHalted 4 (some .boolean))) := goodV tw_ml_X6_118 tw_im_X6_isHalted tw_sel_X6_isHalted tw_ini_X6 (WS_all tw_code_X6_isHalted)
theorem k_X6_102 : GoodIn Tw (wsV RX6 102 RX6 yX6_cells (WS yX6_cells cX6_cells 3 (some .int))) := goodV tw_ml_X6_102 tw_im_X6_cells tw_sel_X6_cells tw_ini_X6 (WS_all tw_code_X6_cells)
theorem k_L_125 : GoodIn Tw (wsV RL 125 RX6 yX6_comeBack (WS yX6_comeBack cX6_comeBack 2 none)) := goodV tw_ml_L_125 tw_im_X6_comeBack tw_sel_X6_comeBack tw_ini_X6 (WS_all tw_code_X6_comeBack)
theorem k_L_129 : GoodIn Tw (wsV RL 129 RX6 yX6_pass (WS yX6_pass cX6_pass 4 (some .int))) := goodV tw_ml_L_129 tw_im_X6_pass tw_sel_X6_pass tw_ini_X6 (WS_all tw_code_X6_pass)
theorem k_X6_141 : GoodIn Tw (wsV RX6 141 RX6 yX6_passes (WS yX6_passes cX6_passes 4 (some .int))) := goodV tw_ml_X6_141 tw_im_X6_passes tw_sel_X6_passes tw_ini_X6 (WS_all tw_code_X6_passes)
theorem k_X6_131 : GoodIn Tw (wsV RX6 131 RX6 yX6_goesBack (WS yX6_goesBack cX6_goesBack 7 none)) := goodV tw_ml_X6_131 tw_im_X6_goesBack tw_sel_X6_goesBack tw_ini_X6 (WS_all tw_code_X6_goesBack)
theorem k_X6_99 : GoodIn Tw (wsV RX6 99 RX6 yX6_slot (WS yX6_slot cX6_slot 5 (some .int))) := goodV tw_ml_X6_99 tw_im_X6_slot tw_sel_X6_slot tw_ini_X6 (WS_all tw_code_X6_slot)
theorem k_X6_105 : GoodIn Tw (wsV RX6 105 RX6 yX6_topOf (WS yX6_topOf cX6_topOf 4 (some .int))) := goodV tw_ml_X6_105 tw_im_X6_topOf tw_sel_X6_topOf tw_ini_X6 (WS_all tw_code_X6_topOf)
theorem k_X6_91 : GoodIn Tw (wsV RX6 91 RX6 yX6_top (WS yX6_top cX6_top 6 (some .int))) := goodV tw_ml_X6_91 tw_im_X6_top tw_sel_X6_top tw_ini_X6 (WS_all tw_code_X6_top)
theorem k_X6_135 : GoodIn Tw (wsV RX6 135 RX6 yX6_works (WS yX6_works cX6_works 2 (some .boolean))) := goodV tw_ml_X6_135 tw_im_X6_works tw_sel_X6_works tw_ini_X6 (WS_all tw_code_X6_works)
theorem k_X6_138 : GoodIn Tw (wsV RX6 138 RX6 yX6_takes (WS yX6_takes cX6_takes 5 (some .boolean))) := goodV tw_ml_X6_138 tw_im_X6_takes tw_sel_X6_takes tw_ini_X6 (WS_all tw_code_X6_takes)
theorem k_X6_95 : GoodIn Tw (wsV RX6 95 RX6 yX6_layers (WS yX6_layers cX6_layers 4 (some .int))) := goodV tw_ml_X6_95 tw_im_X6_layers tw_sel_X6_layers tw_ini_X6 (WS_all tw_code_X6_layers)
theorem k_X6_127 : GoodIn Tw (wsV RX6 127 RX6 yX6_lags (WS yX6_lags cX6_lags 6 (some .boolean))) := goodV tw_ml_X6_127 tw_im_X6_lags tw_sel_X6_lags tw_ini_X6 (WS_all tw_code_X6_lags)
theorem k_L_133 : GoodIn Tw (wsV RL 133 RX6 yX6_day (WS yX6_day cX6_day 1 (some .int))) := goodV tw_ml_L_133 tw_im_X6_day tw_sel_X6_day tw_ini_X6 (WS_all tw_code_X6_day)
theorem k_L_136 : GoodIn Tw (wsV RL 136 RX6 yX6_addGroup (WS yX6_addGroup cX6_addGroup 2 (some .int))) := goodV tw_ml_L_136 tw_im_X6_addGroup tw_sel_X6_addGroup tw_ini_X6 (WS_all tw_code_X6_addGroup)
theorem k_X6_87 : GoodIn Tw (wsV RX6 87 RX6 yX6_isGroup (WS yX6_isGroup cX6_isGroup 2 (some .boolean))) := goodV tw_ml_X6_87 tw_im_X6_isGroup tw_sel_X6_isGroup tw_ini_X6 (WS_all tw_code_X6_isGroup)
theorem k_L_139 : GoodIn Tw (wsV RL 139 RX6 yX6_addMachine (WS yX6_addMachine cX6_addMachine 2 (some .int))) := goodV tw_ml_L_139 tw_im_X6_addMachine tw_sel_X6_addMachine tw_ini_X6 (WS_all tw_code_X6_addMachine)
theorem k_L_142 : GoodIn Tw (wsV RL 142 RX6 yX6_moveMachine (WS yX6_moveMachine cX6_moveMachine 6 (some .int))) := goodV tw_ml_L_142 tw_im_X6_moveMachine tw_sel_X6_moveMachine tw_ini_X6 (WS_all tw_code_X6_moveMachine)
theorem k_X6_145 : GoodIn Tw (wsV RX6 145 RX6 yX6_isMachine (WS yX6_isMachine cX6_isMachine 2 (some .boolean))) := goodV tw_ml_X6_145 tw_im_X6_isMachine tw_sel_X6_isMachine tw_ini_X6 (WS_all tw_code_X6_isMachine)
theorem k_X6_148 : GoodIn Tw (wsV RX6 148 RX6 yX6_isOver (WS yX6_isOver cX6_isOver 4 (some .boolean))) := goodV tw_ml_X6_148 tw_im_X6_isOver tw_sel_X6_isOver tw_ini_X6 (WS_all tw_code_X6_isOver)
theorem k_L_145 : GoodIn Tw (wsV RL 145 RX6 yX6_work (WS yX6_work cX6_work 3 (some .int))) := goodV tw_ml_L_145 tw_im_X6_work tw_sel_X6_work tw_ini_X6 (WS_all tw_code_X6_work)
theorem k_L_148 : GoodIn Tw (wsV RL 148 RX6 yX6_setPace (WS yX6_setPace cX6_setPace 3 (some .int))) := goodV tw_ml_L_148 tw_im_X6_setPace tw_sel_X6_setPace tw_ini_X6 (WS_all tw_code_X6_setPace)
theorem k_L_151 : GoodIn Tw (wsV RL 151 RX6 yX6_isBusy (WS yX6_isBusy cX6_isBusy 2 (some .boolean))) := goodV tw_ml_L_151 tw_im_X6_isBusy tw_sel_X6_isBusy tw_ini_X6 (WS_all tw_code_X6_isBusy)
theorem k_L_154 : GoodIn Tw (wsV RL 154 RX6 yX6_isStopped (WS yX6_isStopped cX6_isStopped 2 (some .boolean))) := goodV tw_ml_L_154 tw_im_X6_isStopped tw_sel_X6_isStopped tw_ini_X6 (WS_all tw_code_X6_isStopped)
theorem k_L_158 : GoodIn Tw (wsV RL 158 RX6 yX6_propose (WS yX6_propose cX6_propose 5 (some .int))) := goodV tw_ml_L_158 tw_im_X6_propose tw_sel_X6_propose tw_ini_X6 (WS_all tw_code_X6_propose)
theorem k_X6_151 : GoodIn Tw (wsV RX6 151 RX6 yX6_isPlace (WS yX6_isPlace cX6_isPlace 2 (some .boolean))) := goodV tw_ml_X6_151 tw_im_X6_isPlace tw_sel_X6_isPlace tw_ini_X6 (WS_all tw_code_X6_isPlace)
theorem k_X6_154 : GoodIn Tw (va_wsS RX6 154 yX6_isKey (WS yX6_isKey cX6_isKey 1 (some .boolean))) := goodS tw_ml_X6_154 tw_st_X6_isKey tw_ini_X6 (WS_all tw_code_X6_isKey)
theorem k_L_161 : GoodIn Tw (wsV RL 161 RX6 yX6_approve (WS yX6_approve cX6_approve 5 (some .int))) := goodV tw_ml_L_161 tw_im_X6_approve tw_sel_X6_approve tw_ini_X6 (WS_all tw_code_X6_approve)
theorem k_X6_157 : GoodIn Tw (wsV RX6 157 RX6 yX6_isChange (WS yX6_isChange cX6_isChange 2 (some .boolean))) := goodV tw_ml_X6_157 tw_im_X6_isChange tw_sel_X6_isChange tw_ini_X6 (WS_all tw_code_X6_isChange)
theorem k_L_164 : GoodIn Tw (wsV RL 164 RX6 yX6_withdraw (WS yX6_withdraw cX6_withdraw 2 none)) := goodV tw_ml_L_164 tw_im_X6_withdraw tw_sel_X6_withdraw tw_ini_X6 (WS_all tw_code_X6_withdraw)
theorem k_L_168 : GoodIn Tw (wsV RL 168 RX6 yX6_exclude (WS yX6_exclude cX6_exclude 5 (some .boolean))) := goodV tw_ml_L_168 tw_im_X6_exclude tw_sel_X6_exclude tw_ini_X6 (WS_all tw_code_X6_exclude)
theorem k_L_172 : GoodIn Tw (wsV RL 172 RX6 yX6_changes (WS yX6_changes cX6_changes 1 (some .int))) := goodV tw_ml_L_172 tw_im_X6_changes tw_sel_X6_changes tw_ini_X6 (WS_all tw_code_X6_changes)
theorem k_L_175 : GoodIn Tw (wsV RL 175 RX6 yX6_state (WS yX6_state cX6_state 2 (some .int))) := goodV tw_ml_L_175 tw_im_X6_state tw_sel_X6_state tw_ini_X6 (WS_all tw_code_X6_state)
theorem k_L_178 : GoodIn Tw (wsV RL 178 RX6 yX6_rank (WS yX6_rank cX6_rank 2 (some .int))) := goodV tw_ml_L_178 tw_im_X6_rank tw_sel_X6_rank tw_ini_X6 (WS_all tw_code_X6_rank)
theorem k_L_181 : GoodIn Tw (wsV RL 181 RX6 yX6_approvals (WS yX6_approvals cX6_approvals 2 (some .int))) := goodV tw_ml_L_181 tw_im_X6_approvals tw_sel_X6_approvals tw_ini_X6 (WS_all tw_code_X6_approvals)
theorem k_L_184 : GoodIn Tw (wsV RL 184 RX6 yX6_told (WS yX6_told cX6_told 4 (some .int))) := goodV tw_ml_L_184 tw_im_X6_told tw_sel_X6_told tw_ini_X6 (WS_all tw_code_X6_told)
theorem k_L_188 : GoodIn Tw (wsV RL 188 RX6 yX6_taken (WS yX6_taken cX6_taken 4 (some .int))) := goodV tw_ml_L_188 tw_im_X6_taken tw_sel_X6_taken tw_ini_X6 (WS_all tw_code_X6_taken)
theorem k_L_191 : GoodIn Tw (wsV RL 191 RX6 yX6_runs (WS yX6_runs cX6_runs 3 (some .int))) := goodV tw_ml_L_191 tw_im_X6_runs tw_sel_X6_runs tw_ini_X6 (WS_all tw_code_X6_runs)
theorem k_X6_167 : GoodIn Tw (wsV RX6 167 RX6 yX6_isAsked (WS yX6_isAsked cX6_isAsked 4 (some .boolean))) := goodV tw_ml_X6_167 tw_im_X6_isAsked tw_sel_X6_isAsked tw_ini_X6 (WS_all tw_code_X6_isAsked)
theorem k_X6_163 : GoodIn Tw (wsV RX6 163 RX6 yX6_looks (WS yX6_looks cX6_looks 9 none)) := goodV tw_ml_X6_163 tw_im_X6_looks tw_sel_X6_looks tw_ini_X6 (WS_all tw_code_X6_looks)
theorem k_X6_171 : GoodIn Tw (wsV RX6 171 RX6 yX6_isHidden (WS yX6_isHidden cX6_isHidden 5 (some .boolean))) := goodV tw_ml_X6_171 tw_im_X6_isHidden tw_sel_X6_isHidden tw_ini_X6 (WS_all tw_code_X6_isHidden)
theorem k_L_194 : GoodIn Tw (wsV RL 194 RX6 yX6_layerOf (WS yX6_layerOf cX6_layerOf 3 (some .int))) := goodV tw_ml_L_194 tw_im_X6_layerOf tw_sel_X6_layerOf tw_ini_X6 (WS_all tw_code_X6_layerOf)
theorem k_L_197 : GoodIn Tw (wsV RL 197 RX6 yX6_due (WS yX6_due cX6_due 3 (some .int))) := goodV tw_ml_L_197 tw_im_X6_due tw_sel_X6_due tw_ini_X6 (WS_all tw_code_X6_due)
theorem k_X6_174 : GoodIn Tw (wsV RX6 174 RX6 yX6_isDue (WS yX6_isDue cX6_isDue 3 (some .int))) := goodV tw_ml_X6_174 tw_im_X6_isDue tw_sel_X6_isDue tw_ini_X6 (WS_all tw_code_X6_isDue)
theorem k_L_200 : GoodIn Tw (wsV RL 200 RX6 yX6_dueAnew (WS yX6_dueAnew cX6_dueAnew 3 (some .int))) := goodV tw_ml_L_200 tw_im_X6_dueAnew tw_sel_X6_dueAnew tw_ini_X6 (WS_all tw_code_X6_dueAnew)
theorem k_L_203 : GoodIn Tw (wsV RL 203 RX6 yX6_behind (WS yX6_behind cX6_behind 4 (some .int))) := goodV tw_ml_L_203 tw_im_X6_behind tw_sel_X6_behind tw_ini_X6 (WS_all tw_code_X6_behind)
theorem k_L_206 : GoodIn Tw (wsV RL 206 RX6 yX6_hidden (WS yX6_hidden cX6_hidden 4 (some .int))) := goodV tw_ml_L_206 tw_im_X6_hidden tw_sel_X6_hidden tw_ini_X6 (WS_all tw_code_X6_hidden)
theorem k_L_209 : GoodIn Tw (wsV RL 209 RX6 yX6_spread (WS yX6_spread cX6_spread 6 (some .int))) := goodV tw_ml_L_209 tw_im_X6_spread tw_sel_X6_spread tw_ini_X6 (WS_all tw_code_X6_spread)
end
section
/-! THE WORLD BY ROLES: a role (k, i) lies at ad k i; kind k has cn k roles; E says what each holds -/
abbrev vwCl : List vw_C := [(RX0, TX0, 8), (RX1, TX1, 2), (RX2, TX2, 6), (RX3, TX3, 4), (RX4, TX4, 4), (RX5, TX5, 16), (RX6, TX6, 26)]
abbrev Rl : Type := Nat → Nat → va_E
abbrev Mem : Type := Nat → Nat → Nat → Int32
def WW (D : va_G) (ad : Nat → Nat → Nat) (cn : Nat → Nat) (A : Nat → Prop) (E : Rl) (H : Heap) : Prop :=
  (∀ k i k' i', i < cn k → i' < cn k' → ad k i = ad k' i' → k = k' ∧ i = i') ∧ (∀ k i, i < cn k → A (ad k i)) ∧ ∀ k i, i < cn k → va_at D vwCl (ad k i, E k i) H
def uE (E : Rl) (k i : Nat) (e : va_E) : Rl := fun k' i' => if k' = k ∧ i' = i then e else E k' i'
theorem uE_s {E : Rl} {k i : Nat} {e : va_E} : uE E k i e k i = e := by simp [uE]
theorem uE_n {E : Rl} {k i k' i' : Nat} {e : va_E} (h : ¬ (k' = k ∧ i' = i)) : uE E k i e k' i' = E k' i' := if_neg h
theorem WW.put {D : va_G} {ad : Nat → Nat → Nat} {cn : Nat → Nat} {A : Nat → Prop} {E : Rl} {H H1 : Heap} {k i : Nat} {e : va_E} (h : WW D ad cn A E H) (hi : i < cn k) (he : va_at D vwCl (ad k i, e) H1) (oq : ∀ q : Nat, q ≠ ad k i → H1[q]? = H[q]?) : WW D ad cn A (uE E k i e) H1 := by
  refine ⟨h.1, h.2.1, fun k' i' hi' => ?_⟩
  by_cases hk : k' = k ∧ i' = i
  · obtain ⟨rfl, rfl⟩ := hk
    rw [uE_s]; exact he
  · rw [uE_n hk]
    exact (h.2.2 k' i' hi').kept (oq _ fun z => hk (h.1 _ _ _ _ hi' hi z))
theorem WW.wide {D : va_G} {ad : Nat → Nat → Nat} {cn : Nat → Nat} {A B : Nat → Prop} {E : Rl} {H : Heap} (h : WW D ad cn A E H) (hB : ∀ k i, i < cn k → B (ad k i)) : WW D ad cn B E H := ⟨h.1, hB, h.2.2⟩
/-- which cells a method may change: the roles, and what it makes -/
def AA (ad : Nat → Nat → Nat) (cn : Nat → Nat) (sz : Nat) : Nat → Prop := fun q => (∃ k i, i < cn k ∧ q = ad k i) ∨ sz ≤ q
def ZZ (A : Nat → Prop) (U : State) (H : Heap) : Prop := vx_Zq Bundle.tN "UNASSIGNED_STACK" Bundle.steD A U H ∧ vx_Zq Bundle.tN "SUPPRESSED_SENTINEL" Bundle.listD A U H
theorem ZZ.moved {A : Nat → Prop} {u U : State} {H : Heap} (hvm : u.vm.Alike U.vm) (h : ZZ A u H) : ZZ A U H := ⟨h.1.moved hvm, h.2.moved hvm⟩
theorem ZZ.kept {A : Nat → Prop} {U : State} {H H1 : Heap} (h : ZZ A U H) (hq : ∀ a : Nat, a < H.size → ¬ A a → H1[a]? = H[a]?) : ZZ A U H1 := ⟨h.1.kept hq, h.2.kept hq⟩
theorem ZZ.narrow {A B : Nat → Prop} {U : State} {H : Heap} (h : ZZ A U H) (hAB : ∀ q, B q → A q) : ZZ B U H := ⟨h.1.narrow hAB, h.2.narrow hAB⟩
/-! what the tables say beside the good words: classes and array classes, links to nest mates, texts, casts -/
def TYS (ca : Nat → ClassId) : List (ClassId × FieldType) := [(ca 0, .int), (ca 1, .object RX4), (ca 2, .object RX2), (ca 3, .object RX0), (ca 4, .long)]
def NWq : List (String × Nat × MethodName × String) := [(RX5, 56, yX3_init, RX5), (RX5, 67, yX4_init, RX5), (RX0, 43, yX5_contains, RX5), (RX0, 47, yX5_with, RX5), (RX2, 45, yX5_cellOf, RX5), (RX3, 31, yX5_contains, RX5), (RX3, 38, yX5_with, RX5)]
def xIO : String := "java/lang/IndexOutOfBoundsException"
def xIS : String := "java/lang/IllegalStateException"
def xIA : String := "java/lang/IllegalArgumentException"
def XCq : List String := [xIO, xIS, xIA]
def XNq : List (String × String) := [(xIO, xIS), (xIO, xIA), (xIS, xIO), (xIS, xIA), (xIA, xIO), (xIA, xIS)]
def AOq : List String := [RX4, RX2, RX0]
def KK (D : va_G) (ca : Nat → ClassId) (SR : List (String × Nat × String)) (U : State) : Prop :=
  va_K D vwCl (TYS ca) U ∧ (∀ q ∈ NWq, va_Nw (.methodLinkNest q.1 q.2.1 q.2.2.1 q.2.2.2) U) ∧ (∀ q ∈ SR, ∃ a, vk_R q.1 q.2.1 q.2.2 a U) ∧ (∀ q ∈ XCq, va_Nw (.castable q q) U) ∧ (∀ q ∈ XNq, va_Nc q.1 q.2 U) ∧ ∀ q ∈ AOq, va_AO q U
theorem KK.warm {D : va_G} {ca : Nat → ClassId} {SR : List (String × Nat × String)} {s U : State} (hW : s.WarmedH U.vm) (h : KK D ca SR s) : KK D ca SR U :=
  ⟨va_K.moved hW.alike h.1, fun q hq => (h.2.1 q hq).warmM hW, fun q hq => by obtain ⟨a, ha⟩ := h.2.2.1 q hq; exact ⟨a, ha.warm hW⟩, fun q hq => (h.2.2.2.1 q hq).warmC hW, fun q hq => (h.2.2.2.2.1 q hq).moved hW.alike, fun q hq => (h.2.2.2.2.2 q hq).moved hW.alike⟩
theorem KK.same {D : va_G} {ca : Nat → ClassId} {SR : List (String × Nat × String)} {u U : State} (hv : U.vm = u.vm) (h : KK D ca SR u) : KK D ca SR U := by
  have ha : u.vm.Alike U.vm := by rw [hv]; exact Vm.Alike.refl _
  exact ⟨va_K.moved ha h.1, fun q hq => (h.2.1 q hq).same rfl hv.symm, fun q hq => by obtain ⟨a, hq⟩ := h.2.2.1 q hq; exact ⟨a, vk_R.same hv hq⟩, fun q hq => (h.2.2.2.1 q hq).same rfl hv.symm, fun q hq => (h.2.2.2.2.1 q hq).moved ha, fun q hq => (h.2.2.2.2.2 q hq).moved ha⟩
/-- a method's start -/
def PP (D : va_G) (ad : Nat → Nat → Nat) (cn : Nat → Nat) (ca : Nat → ClassId) (SR : List (String × Nat × String)) (E : Rl) (sz : Nat) (U : State) : Prop :=
  U.heap.size = sz ∧ WW D ad cn (AA ad cn sz) E U.heap ∧ KK D ca SR U ∧ ZZ (AA ad cn sz) U U.heap
theorem PP.blind {D : va_G} {ad : Nat → Nat → Nat} {cn : Nat → Nat} {ca : Nat → ClassId} {SR : List (String × Nat × String)} {E : Rl} {sz : Nat} {av : List Value} : FrameBlind (va_Pc av (PP D ad cn ca SR E sz)) := by
  intro a U g mk h
  obtain ⟨h0, h1, h2, h3, h4⟩ := h
  exact ⟨h0, h1, h2, h3.same (u := U) rfl, h4.moved (u := U) (U := U.calling g mk a) (Vm.Alike.refl U.vm)⟩
/-! contracts -/
section CON
variable (l : Launch) (y : MethodName) (cc : ByteArray) (maxL : Nat) (ret : Option FieldType) (rm : Room) (D : va_G) (ad : Nat → Nat → Nat) (cn : Nat → Nat) (ca : Nat → ClassId) (SR : List (String × Nat × String)) (E : Rl) (av : List Value)
/-- returns an int; the world behind it -/
def CI (P : Int32 → Rl → Prop) : Prop := ∀ sz, Met l y (WS y cc maxL ret) rm (va_Pc av (PP D ad cn ca SR E sz)) (va_Qi P (fun E' t => WW D ad cn (AA ad cn sz) E' t.heap) (AA ad cn sz)) rm.cells rm.slots (AA ad cn sz)
def CV (P : Rl → Prop) : Prop := ∀ sz, Met l y (WS y cc maxL ret) rm (va_Pc av (PP D ad cn ca SR E sz)) (va_Qv P (fun E' t => WW D ad cn (AA ad cn sz) E' t.heap) (AA ad cn sz)) rm.cells rm.slots (AA ad cn sz)
/-- how a throw ends: nothing of the world has changed -/
def XB (PX : String → Prop) (sz : Nat) : String → State → State → Prop := vx_X (S := Unit) (fun _ => True) (fun X _ t => PX X ∧ WW D ad cn (AA ad cn sz) E t.heap) (AA ad cn sz)
def CXI (P : Int32 → Rl → Prop) (PX : String → Prop) : Prop := ∀ sz, vx_Met l y (WS y cc maxL ret) rm (va_Pc av (PP D ad cn ca SR E sz)) (va_Qi P (fun E' t => WW D ad cn (AA ad cn sz) E' t.heap) (AA ad cn sz)) (XB D ad cn E PX sz) rm.cells rm.slots (AA ad cn sz)
def CXV (P : Rl → Prop) (PX : String → Prop) : Prop := ∀ sz, vx_Met l y (WS y cc maxL ret) rm (va_Pc av (PP D ad cn ca SR E sz)) (va_Qv P (fun E' t => WW D ad cn (AA ad cn sz) E' t.heap) (AA ad cn sz)) (XB D ad cn E PX sz) rm.cells rm.slots (AA ad cn sz)
/-- a method with handlers, that throws nothing -/
def CHI (hh : List (Nat × Nat × Nat × Nat)) (P : Int32 → Rl → Prop) : Prop := ∀ sz, Met l y (WH y cc maxL ret hh) rm (va_Pc av (PP D ad cn ca SR E sz)) (va_Qi P (fun E' t => WW D ad cn (AA ad cn sz) E' t.heap) (AA ad cn sz)) rm.cells rm.slots (AA ad cn sz)
end CON
/-- what a method's body knows -/
def MB (p : Program) (s : State) (m : MethodId) (args : Array Value) (meth : Method) (c : Code) (cc : ByteArray) (own : String) (nL : Nat) (D : va_G) (ca : Nat → ClassId) (SR : List (String × Nat × String)) (A : Nat → Prop) : Prop :=
  p.tables.exec = Jvm.exec ∧ c.code = cc ∧ c.maxLocals = nL ∧ s.vm.findClass own = some m.cls ∧ (∀ w ∈ Tw, w.before args s = true) ∧ KK D ca SR s ∧ (∀ q, s.heap.size ≤ q → A q) ∧ ZZ A s s.heap ∧ meth.locks = false
/-- the machine at pc with these locals and this stack, over the world E -/
def G (p : Program) (l : Launch) (e : Env) (R : Room) (s : State) (m : MethodId) (args : Array Value) (below : List Frame) (meth : Method) (c : Code) (D : va_G) (ad : Nat → Nat → Nat) (A : Nat → Prop) (nL : Nat) (Q : State → Prop) (cells slots : Nat) (cn : Nat → Nat) (E : Rl) (pc : Nat) (lvs : List (Nat × Value)) (st : List Value) : Prop :=
  ∀ (H : Heap) (locs : List Loc) (ls : Array Slot), WW D ad cn A E H → va_S A s.heap H locs → lv_has ls nL lvs → W p l e R s m args below meth c H locs cells slots Q (F0 m pc ls st)
def lget : List (Nat × Value) → Nat → Option Value
  | [], _ => none
  | (j, v) :: t, i => bif Nat.beq j i then some v else lget t i
def lset (i : Nat) (v : Value) : List (Nat × Value) → List (Nat × Value)
  | [] => [(i, v)]
  | (j, w) :: t => bif Nat.beq j i || (Nat.beq (j + 1) i && Nat.beq w.category 2) then lset i v t else (j, w) :: lset i v t
theorem lget_in : ∀ {L : List (Nat × Value)} {i : Nat} {v : Value}, lget L i = some v → (i, v) ∈ L
  | [], _, _, h => by cases h
  | (j, w) :: t, i, v, h => by
    unfold lget at h
    by_cases hj : j = i
    · subst hj
      rw [show Nat.beq j j = true from Nat.beq_refl j] at h
      cases h
      exact List.mem_cons_self
    · have hb : Nat.beq j i = false := by
        cases hb : Nat.beq j i
        · rfl
        · exact absurd (Nat.eq_of_beq_eq_true hb) hj
      rw [hb] at h
      exact List.mem_cons_of_mem _ (lget_in h)
theorem lset_in {i : Nat} {v : Value} : ∀ {L : List (Nat × Value)} {q : Nat × Value}, q ∈ lset i v L → q = (i, v) ∨ (q ∈ L ∧ q.1 ≠ i ∧ ¬ (q.1 + 1 = i ∧ q.2.category = 2))
  | [], q, h => Or.inl (List.mem_singleton.mp h)
  | (j, w) :: t, q, h => by
    unfold lset at h
    cases hb : (Nat.beq j i || (Nat.beq (j + 1) i && Nat.beq w.category 2)) with
    | true =>
      rw [hb] at h
      rcases lset_in (L := t) h with h | ⟨h, h2⟩
      · exact Or.inl h
      · exact Or.inr ⟨List.mem_cons_of_mem _ h, h2⟩
    | false =>
      rw [hb] at h
      rcases List.mem_cons.mp h with h | h
      · subst h
        simp only [Bool.or_eq_false_iff, Bool.and_eq_false_iff] at hb
        refine Or.inr ⟨List.mem_cons_self, fun z => ?_, fun z => ?_⟩
        · have := Nat.ne_of_beq_eq_false hb.1; exact this z
        · rcases hb.2 with h3 | h3
          · exact Nat.ne_of_beq_eq_false h3 z.1
          · exact Nat.ne_of_beq_eq_false h3 z.2
      · rcases lset_in (L := t) h with h | ⟨h, h2⟩
        · exact Or.inl h
        · exact Or.inr ⟨List.mem_cons_of_mem _ h, h2⟩
theorem lget_at {ls : Array Slot} {nL : Nat} {L : List (Nat × Value)} (h : lv_has ls nL L) {i : Nat} {v : Value} (hk : lget L i = some v) : ls[i]? = some (.val v) := h.2.2 (i, v) (lget_in hk)
theorem lset_of {ls : Array Slot} {nL i : Nat} {v : Value} {L : List (Nat × Value)} (h : lv_has ls nL ((i, v) :: L.filter (fun q => !(q.1 == i) && !(q.1 + 1 == i && q.2.category == 2)))) : lv_has ls nL (lset i v L) := by
  refine ⟨h.1, h.2.1, fun q hq => ?_⟩
  rcases lset_in hq with rfl | ⟨h1, h2, h3⟩
  · exact h.2.2 _ List.mem_cons_self
  · refine h.2.2 q (List.mem_cons_of_mem _ (List.mem_filter.mpr ⟨h1, ?_⟩))
    simp only [Bool.and_eq_true, Bool.not_eq_true', beq_eq_false_iff_ne, ne_eq, Bool.and_eq_false_iff]
    refine ⟨h2, ?_⟩
    by_cases z : q.1 + 1 = i
    · exact Or.inr fun z2 => h3 ⟨z, z2⟩
    · exact Or.inl z
end
section
section GR
variable {p : Program} {l : Launch} {e : Env} {R : Room} {s : State} {m : MethodId} {args : Array Value} {below : List Frame} {meth : Method} {c : Code} {D : va_G} {ad : Nat → Nat → Nat} {A : Nat → Prop} {nL : Nat} {Q : State → Prop} {cells slots : Nat} {cn : Nat → Nat} {E : Rl} {lvs : List (Nat × Value)} {st : List Value} {cc : ByteArray} {own : String} {ca : Nat → ClassId} {SR : List (String × Nat × String)} {pc : Nat}
theorem g_iconst (hB : MB p s m args meth c cc own nL D ca SR A) {n : Int} (v : Int32) (hdg : decode cc pc = .ok (.iconst n, 1)) (hv : Int32.ofInt n = v) (k : G p l e R s m args below meth c D ad A nL Q cells slots cn E (pc + 1) lvs (.int v :: st)) : G p l e R s m args below meth c D ad A nL Q cells slots cn E pc lvs st :=
  fun H locs ls h1 h2 h3 => lv_iconst hB.1 hB.2.1 hdg hv (k H locs ls h1 h2 h3)
theorem g_bipush (hB : MB p s m args meth c cc own nL D ca SR A) {n : Int} (v : Int32) (hdg : decode cc pc = .ok (.bipush n, 2)) (hv : (Int8.ofInt n).toInt32 = v) (k : G p l e R s m args below meth c D ad A nL Q cells slots cn E (pc + 2) lvs (.int v :: st)) : G p l e R s m args below meth c D ad A nL Q cells slots cn E pc lvs st :=
  fun H locs ls h1 h2 h3 => lv_bipush hB.1 hB.2.1 hdg hv (k H locs ls h1 h2 h3)
theorem g_sipush (hB : MB p s m args meth c cc own nL D ca SR A) {n : Int} (v : Int32) (hdg : decode cc pc = .ok (.sipush n, 3)) (hv : (Int16.ofInt n).toInt32 = v) (k : G p l e R s m args below meth c D ad A nL Q cells slots cn E (pc + 3) lvs (.int v :: st)) : G p l e R s m args below meth c D ad A nL Q cells slots cn E pc lvs st :=
  fun H locs ls h1 h2 h3 => lv_sipush hB.1 hB.2.1 hdg hv (k H locs ls h1 h2 h3)
theorem g_ldc (hB : MB p s m args meth c cc own nL D ca SR A) {idx : Nat} (v : Int32) (hct : Cond.constant own idx v ∈ Tw) (hdg : decode cc pc = .ok (.ldc idx, 2)) (k : G p l e R s m args below meth c D ad A nL Q cells slots cn E (pc + 2) lvs (.int v :: st)) : G p l e R s m args below meth c D ad A nL Q cells slots cn E pc lvs st :=
  fun H locs ls h1 h2 h3 => lv_ldc hB.1 hB.2.1 hB.2.2.2.1 (hB.2.2.2.2.1 _ hct) hdg (k H locs ls h1 h2 h3)
theorem g_iload_n (hB : MB p s m args meth c cc own nL D ca SR A) {k0 : Fin 4} (i : Nat) {x : Int32} (hdg : decode cc pc = .ok (.iload_n k0, 1)) (hi : (k0 : Nat) = i) (hl : lget lvs i = some (.int x)) (k : G p l e R s m args below meth c D ad A nL Q cells slots cn E (pc + 1) lvs (.int x :: st)) : G p l e R s m args below meth c D ad A nL Q cells slots cn E pc lvs st :=
  fun H locs ls h1 h2 h3 => lv_iload_n hB.1 hB.2.1 hdg hi (lget_at h3 hl) (k H locs ls h1 h2 h3)
theorem g_aload_n (hB : MB p s m args meth c cc own nL D ca SR A) {k0 : Fin 4} (i : Nat) {x : Nat} (hdg : decode cc pc = .ok (.aload_n k0, 1)) (hi : (k0 : Nat) = i) (hl : lget lvs i = some (.ref x)) (k : G p l e R s m args below meth c D ad A nL Q cells slots cn E (pc + 1) lvs (.ref x :: st)) : G p l e R s m args below meth c D ad A nL Q cells slots cn E pc lvs st :=
  fun H locs ls h1 h2 h3 => lv_aload_n hB.1 hB.2.1 hdg hi (lget_at h3 hl) (k H locs ls h1 h2 h3)
theorem g_iload (hB : MB p s m args meth c cc own nL D ca SR A) (i : Nat) {x : Int32} (hdg : decode cc pc = .ok (.iload i, 2)) (hl : lget lvs i = some (.int x)) (k : G p l e R s m args below meth c D ad A nL Q cells slots cn E (pc + 2) lvs (.int x :: st)) : G p l e R s m args below meth c D ad A nL Q cells slots cn E pc lvs st :=
  fun H locs ls h1 h2 h3 => lv_iload hB.1 hB.2.1 hdg (lget_at h3 hl) (k H locs ls h1 h2 h3)
theorem g_aload (hB : MB p s m args meth c cc own nL D ca SR A) (i : Nat) {x : Nat} (hdg : decode cc pc = .ok (.aload i, 2)) (hl : lget lvs i = some (.ref x)) (k : G p l e R s m args below meth c D ad A nL Q cells slots cn E (pc + 2) lvs (.ref x :: st)) : G p l e R s m args below meth c D ad A nL Q cells slots cn E pc lvs st :=
  fun H locs ls h1 h2 h3 => lv_aload hB.1 hB.2.1 hdg (lget_at h3 hl) (k H locs ls h1 h2 h3)
theorem g_istore_n (hB : MB p s m args meth c cc own nL D ca SR A) {k0 : Fin 4} (i : Nat) {x : Int32} (hdg : decode cc pc = .ok (.istore_n k0, 1)) (hi : (k0 : Nat) = i) (hn : i < nL) (k : G p l e R s m args below meth c D ad A nL Q cells slots cn E (pc + 1) (lset i (.int x) lvs) st) : G p l e R s m args below meth c D ad A nL Q cells slots cn E pc lvs (.int x :: st) :=
  fun H locs ls h1 h2 h3 => lv_istore_n hB.1 hB.2.1 hdg hi h3 hn rfl fun ls' h4 => k H locs ls' h1 h2 (lset_of h4)
theorem g_astore_n (hB : MB p s m args meth c cc own nL D ca SR A) {k0 : Fin 4} (i : Nat) {x : Nat} (hdg : decode cc pc = .ok (.astore_n k0, 1)) (hi : (k0 : Nat) = i) (hn : i < nL) (k : G p l e R s m args below meth c D ad A nL Q cells slots cn E (pc + 1) (lset i (.ref x) lvs) st) : G p l e R s m args below meth c D ad A nL Q cells slots cn E pc lvs (.ref x :: st) :=
  fun H locs ls h1 h2 h3 => lv_astore_n hB.1 hB.2.1 hdg hi h3 hn rfl fun ls' h4 => k H locs ls' h1 h2 (lset_of h4)
theorem g_istore (hB : MB p s m args meth c cc own nL D ca SR A) (i : Nat) {x : Int32} (hdg : decode cc pc = .ok (.istore i, 2)) (hn : i < nL) (k : G p l e R s m args below meth c D ad A nL Q cells slots cn E (pc + 2) (lset i (.int x) lvs) st) : G p l e R s m args below meth c D ad A nL Q cells slots cn E pc lvs (.int x :: st) :=
  fun H locs ls h1 h2 h3 => lv_istore hB.1 hB.2.1 hdg h3 hn rfl fun ls' h4 => k H locs ls' h1 h2 (lset_of h4)
theorem g_astore (hB : MB p s m args meth c cc own nL D ca SR A) (i : Nat) {x : Nat} (hdg : decode cc pc = .ok (.astore i, 2)) (hn : i < nL) (k : G p l e R s m args below meth c D ad A nL Q cells slots cn E (pc + 2) (lset i (.ref x) lvs) st) : G p l e R s m args below meth c D ad A nL Q cells slots cn E pc lvs (.ref x :: st) :=
  fun H locs ls h1 h2 h3 => lv_astore hB.1 hB.2.1 hdg h3 hn rfl fun ls' h4 => k H locs ls' h1 h2 (lset_of h4)
theorem lget_ix {L : List (Nat × Value)} {i : Nat} {v : Value} (h : lget L i = some v) : ∃ k : Nat, L[k]? = some (i, v) := List.getElem?_of_mem (lget_in h)
theorem g_iinc (hB : MB p s m args meth c cc own nL D ca SR A) {i : Nat} {n : Int} {x : Int32} (v : Int32) (hdg : decode cc pc = .ok (.iinc i n, 3)) (hl : lget lvs i = some (.int x)) (hv : x + Int32.ofInt n = v) (hn : i < nL) (k : G p l e R s m args below meth c D ad A nL Q cells slots cn E (pc + 3) (lset i (.int v) lvs) st) : G p l e R s m args below meth c D ad A nL Q cells slots cn E pc lvs st := by
  intro H locs ls h1 h2 h3
  obtain ⟨k9, hk⟩ := lget_ix hl
  exact lv_iinc hB.1 hB.2.1 hdg h3 hk hv hn rfl fun ls' h4 => k H locs ls' h1 h2 (lset_of h4)
theorem g_iadd (hB : MB p s m args meth c cc own nL D ca SR A) {x y : Int32} (hdg : decode cc pc = .ok (.iadd, 1)) (k : G p l e R s m args below meth c D ad A nL Q cells slots cn E (pc + 1) lvs (.int (x + y) :: st)) : G p l e R s m args below meth c D ad A nL Q cells slots cn E pc lvs (.int y :: .int x :: st) :=
  fun H locs ls h1 h2 h3 => lv_iadd hB.1 hB.2.1 hdg (k H locs ls h1 h2 h3)
theorem g_isub (hB : MB p s m args meth c cc own nL D ca SR A) {x y : Int32} (hdg : decode cc pc = .ok (.isub, 1)) (k : G p l e R s m args below meth c D ad A nL Q cells slots cn E (pc + 1) lvs (.int (x - y) :: st)) : G p l e R s m args below meth c D ad A nL Q cells slots cn E pc lvs (.int y :: .int x :: st) :=
  fun H locs ls h1 h2 h3 => lv_isub hB.1 hB.2.1 hdg (k H locs ls h1 h2 h3)
theorem g_imul (hB : MB p s m args meth c cc own nL D ca SR A) {x y : Int32} (hdg : decode cc pc = .ok (.imul, 1)) (k : G p l e R s m args below meth c D ad A nL Q cells slots cn E (pc + 1) lvs (.int (x * y) :: st)) : G p l e R s m args below meth c D ad A nL Q cells slots cn E pc lvs (.int y :: .int x :: st) :=
  fun H locs ls h1 h2 h3 => lv_imul hB.1 hB.2.1 hdg (k H locs ls h1 h2 h3)
theorem g_iand (hB : MB p s m args meth c cc own nL D ca SR A) {x y : Int32} (hdg : decode cc pc = .ok (.iand, 1)) (k : G p l e R s m args below meth c D ad A nL Q cells slots cn E (pc + 1) lvs (.int (x &&& y) :: st)) : G p l e R s m args below meth c D ad A nL Q cells slots cn E pc lvs (.int y :: .int x :: st) :=
  fun H locs ls h1 h2 h3 => lv_iand hB.1 hB.2.1 hdg (k H locs ls h1 h2 h3)
theorem g_ior (hB : MB p s m args meth c cc own nL D ca SR A) {x y : Int32} (hdg : decode cc pc = .ok (.ior, 1)) (k : G p l e R s m args below meth c D ad A nL Q cells slots cn E (pc + 1) lvs (.int (x ||| y) :: st)) : G p l e R s m args below meth c D ad A nL Q cells slots cn E pc lvs (.int y :: .int x :: st) :=
  fun H locs ls h1 h2 h3 => lv_ior hB.1 hB.2.1 hdg (k H locs ls h1 h2 h3)
theorem g_ixor (hB : MB p s m args meth c cc own nL D ca SR A) {x y : Int32} (hdg : decode cc pc = .ok (.ixor, 1)) (k : G p l e R s m args below meth c D ad A nL Q cells slots cn E (pc + 1) lvs (.int (x ^^^ y) :: st)) : G p l e R s m args below meth c D ad A nL Q cells slots cn E pc lvs (.int y :: .int x :: st) :=
  fun H locs ls h1 h2 h3 => lv_ixor hB.1 hB.2.1 hdg (k H locs ls h1 h2 h3)
theorem g_idiv (hB : MB p s m args meth c cc own nL D ca SR A) {x y : Int32} (hne : ¬ y = 0) (hdg : decode cc pc = .ok (.idiv, 1)) (k : G p l e R s m args below meth c D ad A nL Q cells slots cn E (pc + 1) lvs (.int (x / y) :: st)) : G p l e R s m args below meth c D ad A nL Q cells slots cn E pc lvs (.int y :: .int x :: st) :=
  fun H locs ls h1 h2 h3 => lv_idiv hB.1 hB.2.1 hdg hne (k H locs ls h1 h2 h3)
theorem g_irem (hB : MB p s m args meth c cc own nL D ca SR A) {x y : Int32} (hne : ¬ y = 0) (hdg : decode cc pc = .ok (.irem, 1)) (k : G p l e R s m args below meth c D ad A nL Q cells slots cn E (pc + 1) lvs (.int (x - x / y * y) :: st)) : G p l e R s m args below meth c D ad A nL Q cells slots cn E pc lvs (.int y :: .int x :: st) :=
  fun H locs ls h1 h2 h3 => lv_irem hB.1 hB.2.1 hdg hne (k H locs ls h1 h2 h3)
theorem g_ishl (hB : MB p s m args meth c cc own nL D ca SR A) {x y : Int32} (hdg : decode cc pc = .ok (.ishl, 1)) (k : G p l e R s m args below meth c D ad A nL Q cells slots cn E (pc + 1) lvs (.int (x <<< (y &&& 31)) :: st)) : G p l e R s m args below meth c D ad A nL Q cells slots cn E pc lvs (.int y :: .int x :: st) :=
  fun H locs ls h1 h2 h3 => lv_ishl hB.1 hB.2.1 hdg (k H locs ls h1 h2 h3)
theorem g_ishr (hB : MB p s m args meth c cc own nL D ca SR A) {x y : Int32} (hdg : decode cc pc = .ok (.ishr, 1)) (k : G p l e R s m args below meth c D ad A nL Q cells slots cn E (pc + 1) lvs (.int (x >>> (y &&& 31)) :: st)) : G p l e R s m args below meth c D ad A nL Q cells slots cn E pc lvs (.int y :: .int x :: st) :=
  fun H locs ls h1 h2 h3 => lv_ishr hB.1 hB.2.1 hdg (k H locs ls h1 h2 h3)
theorem g_iushr (hB : MB p s m args meth c cc own nL D ca SR A) {x y : Int32} (hdg : decode cc pc = .ok (.iushr, 1)) (k : G p l e R s m args below meth c D ad A nL Q cells slots cn E (pc + 1) lvs (.int ((x.toUInt32 >>> (y.toUInt32 &&& Int32.toUInt32 31)).toInt32) :: st)) : G p l e R s m args below meth c D ad A nL Q cells slots cn E pc lvs (.int y :: .int x :: st) :=
  fun H locs ls h1 h2 h3 => lv_iushr hB.1 hB.2.1 hdg rfl (k H locs ls h1 h2 h3)
theorem g_i2l (hB : MB p s m args meth c cc own nL D ca SR A) {x : Int32} (hdg : decode cc pc = .ok (.i2l, 1)) (k : G p l e R s m args below meth c D ad A nL Q cells slots cn E (pc + 1) lvs (.long x.toInt64 :: st)) : G p l e R s m args below meth c D ad A nL Q cells slots cn E pc lvs (.int x :: st) :=
  fun H locs ls h1 h2 h3 => lv_i2l hB.1 hB.2.1 hdg rfl (k H locs ls h1 h2 h3)
theorem g_lcmp (hB : MB p s m args meth c cc own nL D ca SR A) {x y : Int64} (hdg : decode cc pc = .ok (.lcmp, 1)) (k : G p l e R s m args below meth c D ad A nL Q cells slots cn E (pc + 1) lvs (.int (lg_cmp x y) :: st)) : G p l e R s m args below meth c D ad A nL Q cells slots cn E pc lvs (.long y :: .long x :: st) :=
  fun H locs ls h1 h2 h3 => W.lcmp hB.1 hB.2.1 hdg (k H locs ls h1 h2 h3)
theorem g_dup (hB : MB p s m args meth c cc own nL D ca SR A) {va : Value} (hva : va.category = 1) (hdg : decode cc pc = .ok (.dup, 1)) (k : G p l e R s m args below meth c D ad A nL Q cells slots cn E (pc + 1) lvs (va :: va :: st)) : G p l e R s m args below meth c D ad A nL Q cells slots cn E pc lvs (va :: st) :=
  fun H locs ls h1 h2 h3 => lv_dup hB.1 hB.2.1 hdg hva (k H locs ls h1 h2 h3)
theorem g_dup2 (hB : MB p s m args meth c cc own nL D ca SR A) {va vb : Value} (hva : va.category = 1) (hvb : vb.category = 1) (hdg : decode cc pc = .ok (.dup2, 1)) (k : G p l e R s m args below meth c D ad A nL Q cells slots cn E (pc + 1) lvs (va :: vb :: va :: vb :: st)) : G p l e R s m args below meth c D ad A nL Q cells slots cn E pc lvs (va :: vb :: st) :=
  fun H locs ls h1 h2 h3 => lv_dup2_11 hB.1 hB.2.1 hdg hva hvb (k H locs ls h1 h2 h3)
theorem g_lconst2 (hB : MB p s m args meth c cc own nL D ca SR A) {n : Fin 2} (v : Int64) (hdg : decode cc pc = .ok (.lconst n, 1)) (hv : Int64.ofNat (n : Nat) = v) (k : G p l e R s m args below meth c D ad A nL Q cells slots cn E (pc + 1) lvs (.long v :: st)) : G p l e R s m args below meth c D ad A nL Q cells slots cn E pc lvs st :=
  fun H locs ls h1 h2 h3 => lv_lconst hB.1 hB.2.1 hdg hv (k H locs ls h1 h2 h3)
theorem g_if_eq (hB : MB p s m args meth c cc own nL D ca SR A) {x : Int32} {off : Int} (tgt : Nat) (hdg : decode cc pc = .ok (.ifCond .eq off, 3)) (ht : (pc : Int) + off = (tgt : Int)) (kt : x = 0 → G p l e R s m args below meth c D ad A nL Q cells slots cn E tgt lvs st) (kf : ¬ (x = 0) → G p l e R s m args below meth c D ad A nL Q cells slots cn E (pc + 3) lvs st) : G p l e R s m args below meth c D ad A nL Q cells slots cn E pc lvs (.int x :: st) :=
  fun H locs ls h1 h2 h3 => lv_if_eq hB.1 hB.2.1 hdg ht (fun c => kt c H locs ls h1 h2 h3) (fun c => kf c H locs ls h1 h2 h3)
theorem g_icmp_eq (hB : MB p s m args meth c cc own nL D ca SR A) {x y : Int32} {off : Int} (tgt : Nat) (hdg : decode cc pc = .ok (.if_icmp .eq off, 3)) (ht : (pc : Int) + off = (tgt : Int)) (kt : x = y → G p l e R s m args below meth c D ad A nL Q cells slots cn E tgt lvs st) (kf : ¬ (x = y) → G p l e R s m args below meth c D ad A nL Q cells slots cn E (pc + 3) lvs st) : G p l e R s m args below meth c D ad A nL Q cells slots cn E pc lvs (.int y :: .int x :: st) :=
  fun H locs ls h1 h2 h3 => lv_icmp_eq hB.1 hB.2.1 hdg ht (fun c => kt c H locs ls h1 h2 h3) (fun c => kf c H locs ls h1 h2 h3)
theorem g_if_ne (hB : MB p s m args meth c cc own nL D ca SR A) {x : Int32} {off : Int} (tgt : Nat) (hdg : decode cc pc = .ok (.ifCond .ne off, 3)) (ht : (pc : Int) + off = (tgt : Int)) (kt : x ≠ 0 → G p l e R s m args below meth c D ad A nL Q cells slots cn E tgt lvs st) (kf : x = 0 → G p l e R s m args below meth c D ad A nL Q cells slots cn E (pc + 3) lvs st) : G p l e R s m args below meth c D ad A nL Q cells slots cn E pc lvs (.int x :: st) :=
  fun H locs ls h1 h2 h3 => lv_if_ne hB.1 hB.2.1 hdg ht (fun c => kt c H locs ls h1 h2 h3) (fun c => kf c H locs ls h1 h2 h3)
theorem g_icmp_ne (hB : MB p s m args meth c cc own nL D ca SR A) {x y : Int32} {off : Int} (tgt : Nat) (hdg : decode cc pc = .ok (.if_icmp .ne off, 3)) (ht : (pc : Int) + off = (tgt : Int)) (kt : x ≠ y → G p l e R s m args below meth c D ad A nL Q cells slots cn E tgt lvs st) (kf : x = y → G p l e R s m args below meth c D ad A nL Q cells slots cn E (pc + 3) lvs st) : G p l e R s m args below meth c D ad A nL Q cells slots cn E pc lvs (.int y :: .int x :: st) :=
  fun H locs ls h1 h2 h3 => lv_icmp_ne hB.1 hB.2.1 hdg ht (fun c => kt c H locs ls h1 h2 h3) (fun c => kf c H locs ls h1 h2 h3)
theorem g_if_lt (hB : MB p s m args meth c cc own nL D ca SR A) {x : Int32} {off : Int} (tgt : Nat) (hdg : decode cc pc = .ok (.ifCond .lt off, 3)) (ht : (pc : Int) + off = (tgt : Int)) (kt : x < 0 → G p l e R s m args below meth c D ad A nL Q cells slots cn E tgt lvs st) (kf : ¬ (x < 0) → G p l e R s m args below meth c D ad A nL Q cells slots cn E (pc + 3) lvs st) : G p l e R s m args below meth c D ad A nL Q cells slots cn E pc lvs (.int x :: st) :=
  fun H locs ls h1 h2 h3 => lv_if_lt hB.1 hB.2.1 hdg ht (fun c => kt c H locs ls h1 h2 h3) (fun c => kf c H locs ls h1 h2 h3)
theorem g_icmp_lt (hB : MB p s m args meth c cc own nL D ca SR A) {x y : Int32} {off : Int} (tgt : Nat) (hdg : decode cc pc = .ok (.if_icmp .lt off, 3)) (ht : (pc : Int) + off = (tgt : Int)) (kt : x < y → G p l e R s m args below meth c D ad A nL Q cells slots cn E tgt lvs st) (kf : ¬ (x < y) → G p l e R s m args below meth c D ad A nL Q cells slots cn E (pc + 3) lvs st) : G p l e R s m args below meth c D ad A nL Q cells slots cn E pc lvs (.int y :: .int x :: st) :=
  fun H locs ls h1 h2 h3 => lv_icmp_lt hB.1 hB.2.1 hdg ht (fun c => kt c H locs ls h1 h2 h3) (fun c => kf c H locs ls h1 h2 h3)
theorem g_if_ge (hB : MB p s m args meth c cc own nL D ca SR A) {x : Int32} {off : Int} (tgt : Nat) (hdg : decode cc pc = .ok (.ifCond .ge off, 3)) (ht : (pc : Int) + off = (tgt : Int)) (kt : 0 ≤ x → G p l e R s m args below meth c D ad A nL Q cells slots cn E tgt lvs st) (kf : ¬ (0 ≤ x) → G p l e R s m args below meth c D ad A nL Q cells slots cn E (pc + 3) lvs st) : G p l e R s m args below meth c D ad A nL Q cells slots cn E pc lvs (.int x :: st) :=
  fun H locs ls h1 h2 h3 => lv_if_ge hB.1 hB.2.1 hdg ht (fun c => kt c H locs ls h1 h2 h3) (fun c => kf c H locs ls h1 h2 h3)
theorem g_icmp_ge (hB : MB p s m args meth c cc own nL D ca SR A) {x y : Int32} {off : Int} (tgt : Nat) (hdg : decode cc pc = .ok (.if_icmp .ge off, 3)) (ht : (pc : Int) + off = (tgt : Int)) (kt : y ≤ x → G p l e R s m args below meth c D ad A nL Q cells slots cn E tgt lvs st) (kf : ¬ (y ≤ x) → G p l e R s m args below meth c D ad A nL Q cells slots cn E (pc + 3) lvs st) : G p l e R s m args below meth c D ad A nL Q cells slots cn E pc lvs (.int y :: .int x :: st) :=
  fun H locs ls h1 h2 h3 => lv_icmp_ge hB.1 hB.2.1 hdg ht (fun c => kt c H locs ls h1 h2 h3) (fun c => kf c H locs ls h1 h2 h3)
theorem g_if_gt (hB : MB p s m args meth c cc own nL D ca SR A) {x : Int32} {off : Int} (tgt : Nat) (hdg : decode cc pc = .ok (.ifCond .gt off, 3)) (ht : (pc : Int) + off = (tgt : Int)) (kt : 0 < x → G p l e R s m args below meth c D ad A nL Q cells slots cn E tgt lvs st) (kf : ¬ (0 < x) → G p l e R s m args below meth c D ad A nL Q cells slots cn E (pc + 3) lvs st) : G p l e R s m args below meth c D ad A nL Q cells slots cn E pc lvs (.int x :: st) :=
  fun H locs ls h1 h2 h3 => lv_if_gt hB.1 hB.2.1 hdg ht (fun c => kt c H locs ls h1 h2 h3) (fun c => kf c H locs ls h1 h2 h3)
theorem g_icmp_gt (hB : MB p s m args meth c cc own nL D ca SR A) {x y : Int32} {off : Int} (tgt : Nat) (hdg : decode cc pc = .ok (.if_icmp .gt off, 3)) (ht : (pc : Int) + off = (tgt : Int)) (kt : y < x → G p l e R s m args below meth c D ad A nL Q cells slots cn E tgt lvs st) (kf : ¬ (y < x) → G p l e R s m args below meth c D ad A nL Q cells slots cn E (pc + 3) lvs st) : G p l e R s m args below meth c D ad A nL Q cells slots cn E pc lvs (.int y :: .int x :: st) :=
  fun H locs ls h1 h2 h3 => lv_icmp_gt hB.1 hB.2.1 hdg ht (fun c => kt c H locs ls h1 h2 h3) (fun c => kf c H locs ls h1 h2 h3)
theorem g_if_le (hB : MB p s m args meth c cc own nL D ca SR A) {x : Int32} {off : Int} (tgt : Nat) (hdg : decode cc pc = .ok (.ifCond .le off, 3)) (ht : (pc : Int) + off = (tgt : Int)) (kt : x ≤ 0 → G p l e R s m args below meth c D ad A nL Q cells slots cn E tgt lvs st) (kf : ¬ (x ≤ 0) → G p l e R s m args below meth c D ad A nL Q cells slots cn E (pc + 3) lvs st) : G p l e R s m args below meth c D ad A nL Q cells slots cn E pc lvs (.int x :: st) :=
  fun H locs ls h1 h2 h3 => lv_if_le hB.1 hB.2.1 hdg ht (fun c => kt c H locs ls h1 h2 h3) (fun c => kf c H locs ls h1 h2 h3)
theorem g_icmp_le (hB : MB p s m args meth c cc own nL D ca SR A) {x y : Int32} {off : Int} (tgt : Nat) (hdg : decode cc pc = .ok (.if_icmp .le off, 3)) (ht : (pc : Int) + off = (tgt : Int)) (kt : x ≤ y → G p l e R s m args below meth c D ad A nL Q cells slots cn E tgt lvs st) (kf : ¬ (x ≤ y) → G p l e R s m args below meth c D ad A nL Q cells slots cn E (pc + 3) lvs st) : G p l e R s m args below meth c D ad A nL Q cells slots cn E pc lvs (.int y :: .int x :: st) :=
  fun H locs ls h1 h2 h3 => lv_icmp_le hB.1 hB.2.1 hdg ht (fun c => kt c H locs ls h1 h2 h3) (fun c => kf c H locs ls h1 h2 h3)
theorem g_goto (hB : MB p s m args meth c cc own nL D ca SR A) {off : Int} (tgt : Nat) (hdg : decode cc pc = .ok (.goto off, 3)) (ht : (pc : Int) + off = (tgt : Int)) (k : G p l e R s m args below meth c D ad A nL Q cells slots cn E tgt lvs st) : G p l e R s m args below meth c D ad A nL Q cells slots cn E pc lvs st :=
  fun H locs ls h1 h2 h3 => lv_goto hB.1 hB.2.1 hdg ht (k H locs ls h1 h2 h3)
theorem g_sub (L : List (Nat × Value)) (hL : L.map (fun q => lget lvs q.1) = L.map (fun q => some q.2)) (k : G p l e R s m args below meth c D ad A nL Q cells slots cn E pc L st) : G p l e R s m args below meth c D ad A nL Q cells slots cn E pc lvs st := by
  intro H locs ls h1 h2 h3
  refine k H locs ls h1 h2 ⟨h3.1, h3.2.1, fun q hq => ?_⟩
  obtain ⟨j, hj⟩ := List.getElem?_of_mem hq
  have e := congrArg (fun x => x[j]?) hL
  simp only [List.getElem?_map, hj, Option.map_some, Option.some.injEq] at e
  exact lget_at h3 e
theorem g_E {E' : Rl} (h : ∀ k i, i < cn k → E k i = E' k i) (k : G p l e R s m args below meth c D ad A nL Q cells slots cn E' pc lvs st) : G p l e R s m args below meth c D ad A nL Q cells slots cn E pc lvs st := fun H locs ls h1 h2 h3 => k H locs ls ⟨h1.1, h1.2.1, fun k i hi => by rw [← h k i hi]; exact h1.2.2 k i hi⟩ h2 h3
theorem g_pc {pc' : Nat} (h : pc = pc') (k : G p l e R s m args below meth c D ad A nL Q cells slots cn E pc' lvs st) : G p l e R s m args below meth c D ad A nL Q cells slots cn E pc lvs st := by subst h; exact k
theorem g_top {x : Int32} (y : Int32) (h : x = y) (k : G p l e R s m args below meth c D ad A nL Q cells slots cn E pc lvs (.int y :: st)) : G p l e R s m args below meth c D ad A nL Q cells slots cn E pc lvs (.int x :: st) := by subst h; exact k
theorem g_wide (k n : Nat) (h1 : cells ≤ k) (h2 : slots ≤ n) (kk : G p l e R s m args below meth c D ad A nL Q k n cn E pc lvs st) : G p l e R s m args below meth c D ad A nL Q cells slots cn E pc lvs st := fun H locs ls a b c => W.widen h1 h2 (kk H locs ls a b c)
theorem wp1 {E0 : Rl} {H : Heap} {k i : Nat} {x : va_E} (h : WW D ad cn A E0 H) (hi : i < cn k) (hE : E0 k i = x) : va_P D vwCl [(ad k i, x)] H := by
  intro j q hq
  have hz : j < 1 := (List.getElem?_eq_some_iff.mp hq).1
  rw [show j = 0 by omega] at hq
  cases hq
  rw [← hE]; exact h.2.2 k i hi
theorem g_get (hB : MB p s m args meth c cc own nL D ca SR A) {C : String} {T : u_T} {N ci idx : Nat} (hin : ∀ w ∈ u_ws C T N, w ∈ Tw) (hc : vwCl[ci]? = some (C, T, N)) (k i j : Nat) {fs : List Value} {v : Value} (hi : i < cn k) (hj : j < N) (hE : E k i = .inr (ci, fs)) (hlink : Cond.fieldLink own idx (T j).1 (T j).2.1 (T j).2.2.1 ∈ Tw) (hv : fs[j]? = some v) (hdg : decode cc pc = .ok (.getfield idx, 3)) (kk : G p l e R s m args below meth c D ad A nL Q cells slots cn E (pc + 3) lvs (v :: st)) : G p l e R s m args below meth c D ad A nL Q cells slots cn E pc lvs (.ref (ad k i) :: st) := by
  intro H locs ls h1 h2 h3
  exact va_get (ci := ci) hB.1 hB.2.1 hB.2.2.2.2.1 hin hB.2.2.2.1 hB.2.2.2.2.2.1.1 (wp1 h1 hi hE) 0 rfl hc j hj (hB.2.2.2.2.1 _ hlink) (fun _ h => h) hv hdg (kk H locs ls h1 h2 h3)
theorem g_put (hB : MB p s m args meth c cc own nL D ca SR A) {C : String} {T : u_T} {N ci idx : Nat} (hin : ∀ w ∈ u_ws C T N, w ∈ Tw) (hc : vwCl[ci]? = some (C, T, N)) (ty0 : Nat → FieldType) (hty : ∀ k, k < N → parseFieldDescriptor (T k).2.2.1 = some (ty0 k)) (hnm : ∀ a, a < N → ∀ b, b < N → a ≠ b → (T a).2.1 ≠ (T b).2.1) (k i j : Nat) {fs : List Value} {v : Value} (hi : i < cn k) (hj : j < N) (hE : E k i = .inr (ci, fs)) (hlink : Cond.fieldLink own idx (T j).1 (T j).2.1 (T j).2.2.1 ∈ Tw) (hfin : (T j).2.2.2 = false) (hn : narrow (ty0 j) v = v) (hfit : fits (ty0 j) v = true) (hl : j < fs.length) (hdg : decode cc pc = .ok (.putfield idx, 3)) (kk : G p l e R s m args below meth c D ad A nL Q cells slots cn (uE E k i (.inr (ci, fs.set j v))) (pc + 3) lvs st) : G p l e R s m args below meth c D ad A nL Q cells slots cn E pc lvs (v :: .ref (ad k i) :: st) := by
  intro H locs ls h1 h2 h3
  have hap := va_apart (own := own) hB.2.2.2.2.1 hin ty0 hty hnm hB.2.2.2.2.2.1.1 hc
  have hat := h1.2.2 k i hi
  rw [hE] at hat
  obtain ⟨r, g1, cell, q1, q2, q3, q4⟩ := hat
  have hr : r = (C, T, N) := Option.some.inj (g1.symm.trans hc)
  subst hr
  obtain ⟨hS, hfc, kC, hkC, hkind⟩ := hB.2.2.2.2.2.1.1.1 ci _ hc
  obtain ⟨cf, kf, fi, f, hi', hsl⟩ := hS j hj
  have hlay := hB.2.2.2.2.1 _ (hin _ (u_in_lay hj))
  unfold u_lay at hlay
  rw [if_neg (by rw [hfin]; decide)] at hlay
  have hst := (u_facts hfc hkC (u_lays hB.2.2.2.2.1 hin hj) hi').1
  have h6 := u_store hfc hkC hkind hlay hi' (hty j hj) hn hfit
  refine W.putK hB.1 hB.2.1 (f := f) ⟨hB.2.2.2.1, hB.2.2.2.2.1 _ hlink, ⟨_, _, _, hi'⟩, hst⟩ (by rw [q2]; exact h6) q1 q3 (by rw [hsl]; exact k2_hasslot (q4 j hj)) rfl rfl hdg fun H' e1 e2 e3 => ?_
  rw [hsl] at e1 ⊢
  exact kk H' _ ls (h1.put hi ⟨_, hc, t_OB.to (V := updV (vp_V fs) j v) ⟨_, e1, q2, q3, t_set q4 hap hj v⟩ (fun x _ => vp_updV_set hl v x)⟩ e3) (h2.put e2 e3 (h1.2.1 k i hi)) h3
theorem g_putF (hB : MB p s m args meth c cc own nL D ca SR A) (hin2 : meth.name = "<init>") {C : String} {T : u_T} {N ci idx : Nat} (hin : ∀ w ∈ u_ws C T N, w ∈ Tw) (hc : vwCl[ci]? = some (C, T, N)) (ty0 : Nat → FieldType) (hty : ∀ k, k < N → parseFieldDescriptor (T k).2.2.1 = some (ty0 k)) (hnm : ∀ a, a < N → ∀ b, b < N → a ≠ b → (T a).2.1 ≠ (T b).2.1) (k i j : Nat) {fs : List Value} {v : Value} (hi : i < cn k) (hj : j < N) (hE : E k i = .inr (ci, fs)) (hlink : Cond.fieldLink own idx (T j).1 (T j).2.1 (T j).2.2.1 ∈ Tw) (hfin : (T j).2.2.2 = true) (hdecl : (T j).1 = own) (hn : narrow (ty0 j) v = v) (hfit : fits (ty0 j) v = true) (hl : j < fs.length) (hdg : decode cc pc = .ok (.putfield idx, 3)) (kk : G p l e R s m args below meth c D ad A nL Q cells slots cn (uE E k i (.inr (ci, fs.set j v))) (pc + 3) lvs st) : G p l e R s m args below meth c D ad A nL Q cells slots cn E pc lvs (v :: .ref (ad k i) :: st) := by
  intro H locs ls h1 h2 h3
  have hap := va_apart (own := own) hB.2.2.2.2.1 hin ty0 hty hnm hB.2.2.2.2.2.1.1 hc
  have hat := h1.2.2 k i hi
  rw [hE] at hat
  obtain ⟨r, g1, cell, q1, q2, q3, q4⟩ := hat
  have hr : r = (C, T, N) := Option.some.inj (g1.symm.trans hc)
  subst hr
  obtain ⟨hS, hfc, kC, hkC, hkind⟩ := hB.2.2.2.2.2.1.1.1 ci _ hc
  obtain ⟨cf, kf, fi, f, hi', hsl⟩ := hS j hj
  have hlay := hB.2.2.2.2.1 _ (hin _ (u_in_lay hj))
  unfold u_lay at hlay
  rw [if_pos hfin] at hlay
  have hst := (u_facts hfc hkC (u_lays hB.2.2.2.2.1 hin hj) hi').1
  have hcf : m.cls = cf := by
    obtain ⟨_, _, c', _, _, _, -, -, hf', -, -, -, hown2, -⟩ := Cond.laysFinal_spec hlay
    have e1 : c' = cf := by have := hi'.symm.trans hf'; simp at this; exact this.1.symm
    rw [hdecl] at hown2
    rw [← e1]; exact Option.some.inj (hB.2.2.2.1.symm.trans hown2)
  have h6 := u_fits hfc hkC hkind (Or.inr hlay) hi' (hty j hj) hn hfit
  refine W.putFinK hB.1 hB.2.1 hB.2.2.2.1 (hB.2.2.2.2.1 _ hlink) hi' hst hcf hin2 (by rw [q2]; exact h6) q1 q3 (by rw [hsl]; exact k2_hasslot (q4 j hj)) rfl rfl hdg fun H' e1 e2 e3 => ?_
  rw [hsl] at e1 ⊢
  exact kk H' _ ls (h1.put hi ⟨_, hc, t_OB.to (V := updV (vp_V fs) j v) ⟨_, e1, q2, q3, t_set q4 hap hj v⟩ (fun x _ => vp_updV_set hl v x)⟩ e3) (h2.put e2 e3 (h1.2.1 k i hi)) h3
theorem g_iald (hB : MB p s m args meth c cc own nL D ca SR A) (k i j : Nat) {n : Nat} {f : Nat → Int32} (hi : i < cn k) (hE : E k i = .inl (ca 0, n, .inl f)) (hj : j < n) (hn : n < 2 ^ 31) (hdg : decode cc pc = .ok (.iaload, 1)) (kk : G p l e R s m args below meth c D ad A nL Q cells slots cn E (pc + 1) lvs (.int (f j) :: st)) : G p l e R s m args below meth c D ad A nL Q cells slots cn E pc lvs (.int (nI j) :: .ref (ad k i) :: st) := by
  intro H locs ls h1 h2 h3
  refine va_iald (tys := TYS ca) hB.1 hB.2.1 hB.2.2.2.2.2.1.1 (wp1 h1 hi hE) 0 0 rfl rfl (vp_in_nI hj hn) hdg ?_
  rw [nI_clamp (Nat.lt_trans hj hn)]
  exact kk H locs ls h1 h2 h3
theorem g_laldE (hB : MB p s m args meth c cc own nL D ca SR A) (k i j : Nat) {n : Nat} {f : Nat → Int64} (hi : i < cn k) (hE : E k i = .inl (ca 4, n, .inr (.inl f))) (hj : j < n) (hn : n < 2 ^ 31) (hdg : decode cc pc = .ok (.laload, 1)) (kk : G p l e R s m args below meth c D ad A nL Q cells slots cn E (pc + 1) lvs (.long (f j) :: st)) : G p l e R s m args below meth c D ad A nL Q cells slots cn E pc lvs (.int (nI j) :: .ref (ad k i) :: st) := by
  intro H locs ls h1 h2 h3
  refine va_lald (tys := TYS ca) hB.1 hB.2.1 hB.2.2.2.2.2.1.1 (wp1 h1 hi hE) 0 4 rfl rfl (vp_in_nI hj hn) hdg ?_
  rw [nI_clamp (Nat.lt_trans hj hn)]
  exact kk H locs ls h1 h2 h3
theorem g_aald (hB : MB p s m args meth c cc own nL D ca SR A) (k i j t0 : Nat) {n a : Nat} {C : String} {f : Nat → Option Nat} (hi : i < cn k) (hE : E k i = .inl (ca t0, n, .inr (.inr (.inr (.inr f))))) (ht : (TYS ca)[t0]? = some (ca t0, .object C)) (hj : j < n) (hn : n < 2 ^ 31) (hf : f j = some a) (hdg : decode cc pc = .ok (.aaload, 1)) (kk : G p l e R s m args below meth c D ad A nL Q cells slots cn E (pc + 1) lvs (.ref a :: st)) : G p l e R s m args below meth c D ad A nL Q cells slots cn E pc lvs (.int (nI j) :: .ref (ad k i) :: st) := by
  intro H locs ls h1 h2 h3
  refine va_aldq (C := C) hB.1 hB.2.1 hB.2.2.2.2.2.1.1 (wp1 h1 hi hE) 0 t0 rfl ht (vp_in_nI hj hn) hdg ?_
  rw [nI_clamp (Nat.lt_trans hj hn), hf]
  exact kk H locs ls h1 h2 h3
theorem g_alen (hB : MB p s m args meth c cc own nL D ca SR A) (k i t0 : Nat) {x : vp_A} {ty : FieldType} (hi : i < cn k) (hE : E k i = .inl (ca t0, x)) (ht : (TYS ca)[t0]? = some (ca t0, ty)) (hdg : decode cc pc = .ok (.arraylength, 1)) (kk : G p l e R s m args below meth c D ad A nL Q cells slots cn E (pc + 1) lvs (.int (nI x.1) :: st)) : G p l e R s m args below meth c D ad A nL Q cells slots cn E pc lvs (.ref (ad k i) :: st) := by
  intro H locs ls h1 h2 h3
  exact va_alen (v := nI x.1) hB.1 hB.2.1 hB.2.2.2.2.2.1.1 (wp1 h1 hi hE) 0 t0 rfl ht rfl hdg (kk H locs ls h1 h2 h3)
theorem g_iast (hB : MB p s m args meth c cc own nL D ca SR A) (k i j : Nat) {n : Nat} {f : Nat → Int32} {x : Int32} (hi : i < cn k) (hE : E k i = .inl (ca 0, n, .inl f)) (hj : j < n) (hn : n < 2 ^ 31) (hdg : decode cc pc = .ok (.iastore, 1)) (kk : G p l e R s m args below meth c D ad A nL Q cells slots cn (uE E k i (.inl (ca 0, n, .inl (upd f j x)))) (pc + 1) lvs st) : G p l e R s m args below meth c D ad A nL Q cells slots cn E pc lvs (.int x :: .int (nI j) :: .ref (ad k i) :: st) := by
  intro H locs ls h1 h2 h3
  have hat : H[ad k i]? = some (vp_cell (ca 0) (n, .inl f)) := by
    have := h1.2.2 k i hi
    rw [hE] at this; exact this
  refine W.iast hB.1 hB.2.1 hat ((hB.2.2.2.2.2.1.1.2 0 (ca 0, .int) rfl).1 n (fun j => .int (f j))) (fun q => by cases q) (by show ¬ (_ ∨ (arrV _ _ _).slots.size ≤ _); rw [arrV_size]; exact vp_in_nI hj hn) rfl rfl hdg fun H1 e z oq => ?_
  refine kk H1 _ ls (h1.put hi ?_ oq) (h2.put z oq (h1.2.1 k i hi)) h3
  show H1[ad k i]? = some (vp_cell _ _)
  rw [e, vp_cell_i, vp_cell_i, arrV_store, nI_clamp (Nat.lt_trans hj hn)]
  congr 2
  funext q
  by_cases hq : q = j
  · subst hq
    simp [updV, upd]
  · simp [updV, upd, hq]
theorem g_lastE (hB : MB p s m args meth c cc own nL D ca SR A) (k i j : Nat) {n : Nat} {f : Nat → Int64} {x : Int64} (hi : i < cn k) (hE : E k i = .inl (ca 4, n, .inr (.inl f))) (hj : j < n) (hn : n < 2 ^ 31) (hdg : decode cc pc = .ok (.lastore, 1)) (kk : G p l e R s m args below meth c D ad A nL Q cells slots cn (uE E k i (.inl (ca 4, n, .inr (.inl (vp_updL f j x))))) (pc + 1) lvs st) : G p l e R s m args below meth c D ad A nL Q cells slots cn E pc lvs (.long x :: .int (nI j) :: .ref (ad k i) :: st) := by
  intro H locs ls h1 h2 h3
  have hat : H[ad k i]? = some (vp_cell (ca 4) (n, .inr (.inl f))) := by
    have := h1.2.2 k i hi
    rw [hE] at this; exact this
  refine W.last hB.1 hB.2.1 hat ((hB.2.2.2.2.2.1.1.2 4 (ca 4, .long) rfl).1 n (fun j => .long (f j))) (fun q => by cases q) (by show ¬ (_ ∨ (arrV _ _ _).slots.size ≤ _); rw [arrV_size]; exact vp_in_nI hj hn) rfl rfl hdg fun H1 e z oq => ?_
  refine kk H1 _ ls (h1.put hi ?_ oq) (h2.put z oq (h1.2.1 k i hi)) h3
  show H1[ad k i]? = some (vp_cell _ _)
  rw [e, vp_cell_l, vp_cell_l, arrV_store, nI_clamp (Nat.lt_trans hj hn)]
  congr 2
  funext q
  by_cases hq : q = j
  · subst hq
    simp [updV, vp_updL]
  · simp [updV, vp_updL, hq]
end GR
end
section
/-! entries, ends, calls -/
section GC
variable {p : Program} {l : Launch} {e : Env} {R : Room} {s : State} {m : MethodId} {args : Array Value} {below : List Frame} {meth : Method} {c : Code} {D : va_G} {ad : Nat → Nat → Nat} {A : Nat → Prop} {nL : Nat} {Q : State → Prop} {cells slots : Nat} {cn : Nat → Nat} {E : Rl} {lvs : List (Nat × Value)} {st rest As : List Value} {cc : ByteArray} {own : String} {ca : Nat → ClassId} {SR : List (String × Nat × String)} {pc : Nat}
variable {y : MethodName} {cy : ByteArray} {my : Nat} {ret : Option FieldType} {rm : Room} {P : Int32 → Rl → Prop} {PV : Rl → Prop} {PX : String → Prop} {C : String} {idx : Nat} {hh : List (Nat × Nat × Nat × Nat)}
theorem PP.AAin {sz : Nat} : ∀ k i, i < cn k → AA ad cn sz (ad k i) := fun k i h => Or.inl ⟨k, i, h, rfl⟩
theorem MB.of {av : List Value} {sz : Nat} {S : Spec} {s1 : State} {x : MethodName} (B : BodyLoose p l x S cc nL ret e s m args below meth c s1) (hw : ∀ w ∈ Tw, w.before args s = true) (hown : s.vm.findClass own = some m.cls) (hml : c.maxLocals = nL) (h : PP D ad cn ca SR E sz s) : MB p s m args meth c cc own nL D ca SR (AA ad cn s.heap.size) := by
  obtain ⟨h0, h1, h2, h3⟩ := h
  subst h0
  exact ⟨B.exec, B.bytes, hml, hown, hw, h2, fun q hq => Or.inr hq, h3, B.notSynchronized⟩
theorem CI.of (av : List Value) (own : String) (hy : plainName y.cls = true) (ho : y.cls = own) (hav : (lg_sl av).length ≤ my)
    (body : ∀ p e s m args below meth c A, MB p s m args meth c cy own my D ca SR A → meth.sig.returnType = ret → (meth.name = y.name) → G p l e rm s m args below meth c D ad A my (MQ below (va_Qi P (fun E' t => WW D ad cn A E' t.heap) A) args s rm.cells rm.slots A) 0 0 cn E 0 (lv_args 0 av) []) : CI l y cy my ret rm D ad cn ca SR E av P := by
  intro sz
  refine Met.ofW (cc := cy) (maxL := my) (ret := ret) hy rfl ?_
  intro p e s m args below meth c s1 B hml hv
  obtain ⟨rfl, hpp⟩ := hv
  have hts := atoms_spec (ws := WS y cy my ret) B.pre
  have hown : s.vm.findClass own = some m.cls := by rw [← ho]; exact findClass_of_methodNamed B.named
  have hB := MB.of (av := av) B (fun w hw => hts w (List.mem_cons_of_mem _ hw)) hown hml hpp
  obtain ⟨h0, h1, h2, h3⟩ := hpp
  subst h0
  rw [lg_entry_eq]
  exact body p e s m _ below meth c _ hB B.returns (name_of_methodNamed B.named B.method).1 s.heap [] _ h1 va_S.rf (lv_entry av hav)
theorem CV.of (av : List Value) (own : String) (hy : plainName y.cls = true) (ho : y.cls = own) (hav : (lg_sl av).length ≤ my)
    (body : ∀ p e s m args below meth c A, MB p s m args meth c cy own my D ca SR A → meth.sig.returnType = ret → (meth.name = y.name) → G p l e rm s m args below meth c D ad A my (MQ below (va_Qv PV (fun E' t => WW D ad cn A E' t.heap) A) args s rm.cells rm.slots A) 0 0 cn E 0 (lv_args 0 av) []) : CV l y cy my ret rm D ad cn ca SR E av PV := by
  intro sz
  refine Met.ofW (cc := cy) (maxL := my) (ret := ret) hy rfl ?_
  intro p e s m args below meth c s1 B hml hv
  obtain ⟨rfl, hpp⟩ := hv
  have hts := atoms_spec (ws := WS y cy my ret) B.pre
  have hown : s.vm.findClass own = some m.cls := by rw [← ho]; exact findClass_of_methodNamed B.named
  have hB := MB.of (av := av) B (fun w hw => hts w (List.mem_cons_of_mem _ hw)) hown hml hpp
  obtain ⟨h0, h1, h2, h3⟩ := hpp
  subst h0
  rw [lg_entry_eq]
  exact body p e s m _ below meth c _ hB B.returns (name_of_methodNamed B.named B.method).1 s.heap [] _ h1 va_S.rf (lv_entry av hav)
theorem CXI.of (av : List Value) (own : String) (hy : plainName y.cls = true) (ho : y.cls = own) (hav : (lg_sl av).length ≤ my)
    (body : ∀ p e s m args below meth c A, MB p s m args meth c cy own my D ca SR A → meth.sig.returnType = ret → (∀ x ∈ c.exceptionTable.toList, False) → G p l e rm s m args below meth c D ad A my (vx_MQ below (va_Qi P (fun E' t => WW D ad cn A E' t.heap) A) (vx_X (S := Unit) (fun _ => True) (fun X _ t => PX X ∧ WW D ad cn A E t.heap) A) args s rm.cells rm.slots A) 0 0 cn E 0 (lv_args 0 av) []) : CXI l y cy my ret rm D ad cn ca SR E av P PX := by
  intro sz
  refine vx_ofW (cc := cy) (maxL := my) (ret := ret) hy rfl ?_
  intro p e s m args below meth c s1 B hml hex hv
  obtain ⟨rfl, hpp⟩ := hv
  have hts := atoms_spec (ws := WS y cy my ret) B.pre
  have hown : s.vm.findClass own = some m.cls := by rw [← ho]; exact findClass_of_methodNamed B.named
  have hB := MB.of (av := av) B (fun w hw => hts w (List.mem_cons_of_mem _ hw)) hown hml hpp
  obtain ⟨h0, h1, h2, h3⟩ := hpp
  subst h0
  rw [lg_entry_eq]
  exact body p e s m _ below meth c _ hB B.returns hex s.heap [] _ h1 va_S.rf (lv_entry av hav)
theorem CXV.of (av : List Value) (own : String) (hy : plainName y.cls = true) (ho : y.cls = own) (hav : (lg_sl av).length ≤ my)
    (body : ∀ p e s m args below meth c A, MB p s m args meth c cy own my D ca SR A → meth.sig.returnType = ret → (∀ x ∈ c.exceptionTable.toList, False) → G p l e rm s m args below meth c D ad A my (vx_MQ below (va_Qv PV (fun E' t => WW D ad cn A E' t.heap) A) (vx_X (S := Unit) (fun _ => True) (fun X _ t => PX X ∧ WW D ad cn A E t.heap) A) args s rm.cells rm.slots A) 0 0 cn E 0 (lv_args 0 av) []) : CXV l y cy my ret rm D ad cn ca SR E av PV PX := by
  intro sz
  refine vx_ofW (cc := cy) (maxL := my) (ret := ret) hy rfl ?_
  intro p e s m args below meth c s1 B hml hex hv
  obtain ⟨rfl, hpp⟩ := hv
  have hts := atoms_spec (ws := WS y cy my ret) B.pre
  have hown : s.vm.findClass own = some m.cls := by rw [← ho]; exact findClass_of_methodNamed B.named
  have hB := MB.of (av := av) B (fun w hw => hts w (List.mem_cons_of_mem _ hw)) hown hml hpp
  obtain ⟨h0, h1, h2, h3⟩ := hpp
  subst h0
  rw [lg_entry_eq]
  exact body p e s m _ below meth c _ hB B.returns hex s.heap [] _ h1 va_S.rf (lv_entry av hav)
/-! ends -/
theorem g_iret (hB : MB p s m args meth c cc own nL D ca SR A) {ty : FieldType} {v : Int32} {mc ms : Nat} (hr : meth.sig.returnType = some ty) (hn : narrow ty (.int v) = .int v) (hc : cells ≤ mc) (hs : slots ≤ ms) (hP : P v E) (hdg : decode cc pc = .ok (.ireturn, 1)) :
    G p l e R s m args below meth c D ad A nL (MQ below (va_Qi P (fun E' t => WW D ad cn A E' t.heap) A) args s mc ms A) cells slots cn E pc lvs [.int v] := by
  intro H locs ls h1 h2 h3
  refine W.widen hc hs ?_
  exact W.zret hB.1 hB.2.1 hr hn (fun t ht hW => ⟨⟨v, E, rfl, hP, by show WW D ad cn A E t.heap; rw [ht]; exact h1⟩, h2.F ht⟩) h2.2.2 hdg hB.2.2.2.2.2.2.2.2
theorem g_vret (hB : MB p s m args meth c cc own nL D ca SR A) {mc ms : Nat} (hr : meth.sig.returnType = none) (hc : cells ≤ mc) (hs : slots ≤ ms) (hP : PV E) (hdg : decode cc pc = .ok (.return_, 1)) :
    G p l e R s m args below meth c D ad A nL (MQ below (va_Qv PV (fun E' t => WW D ad cn A E' t.heap) A) args s mc ms A) cells slots cn E pc lvs [] := by
  intro H locs ls h1 h2 h3
  refine W.widen hc hs ?_
  exact W.vret hB.1 hB.2.1 hr (fun t ht hW => ⟨⟨E, rfl, hP, by show WW D ad cn A E t.heap; rw [ht]; exact h1⟩, h2.F ht⟩) h2.2.2 hdg hB.2.2.2.2.2.2.2.2
theorem g_vx {Qc : Array Value → State → Outcome → State → Prop} {XC : String → State → State → Prop} {mc ms : Nat} (k : G p l e R s m args below meth c D ad A nL (MQ below Qc args s mc ms A) cells slots cn E pc lvs st) : G p l e R s m args below meth c D ad A nL (vx_MQ below Qc XC args s mc ms A) cells slots cn E pc lvs st := fun H locs ls h1 h2 h3 => vx_ret (k H locs ls h1 h2 h3)
theorem g_ixret (hB : MB p s m args meth c cc own nL D ca SR A) {ty : FieldType} {v : Int32} {mc ms : Nat} {XC : String → State → State → Prop} (hr : meth.sig.returnType = some ty) (hn : narrow ty (.int v) = .int v) (hc : cells ≤ mc) (hs : slots ≤ ms) (hP : P v E) (hdg : decode cc pc = .ok (.ireturn, 1)) :
    G p l e R s m args below meth c D ad A nL (vx_MQ below (va_Qi P (fun E' t => WW D ad cn A E' t.heap) A) XC args s mc ms A) cells slots cn E pc lvs [.int v] := by
  intro H locs ls h1 h2 h3
  refine W.widen hc hs ?_
  exact vx_ret (W.zret hB.1 hB.2.1 hr hn (fun t ht hW => ⟨⟨v, E, rfl, hP, by show WW D ad cn A E t.heap; rw [ht]; exact h1⟩, h2.F ht⟩) h2.2.2 hdg hB.2.2.2.2.2.2.2.2)
theorem g_vxret (hB : MB p s m args meth c cc own nL D ca SR A) {mc ms : Nat} {XC : String → State → State → Prop} (hr : meth.sig.returnType = none) (hc : cells ≤ mc) (hs : slots ≤ ms) (hP : PV E) (hdg : decode cc pc = .ok (.return_, 1)) :
    G p l e R s m args below meth c D ad A nL (vx_MQ below (va_Qv PV (fun E' t => WW D ad cn A E' t.heap) A) XC args s mc ms A) cells slots cn E pc lvs [] := by
  intro H locs ls h1 h2 h3
  refine W.widen hc hs ?_
  exact vx_ret (W.vret hB.1 hB.2.1 hr (fun t ht hW => ⟨⟨E, rfl, hP, by show WW D ad cn A E t.heap; rw [ht]; exact h1⟩, h2.F ht⟩) h2.2.2 hdg hB.2.2.2.2.2.2.2.2)
/-! calls: what the callee asks and gives -/
theorem AA_sub (hB : MB p s m args meth c cc own nL D ca SR A) {H : Heap} {locs : List Loc} (h1 : WW D ad cn A E H) (h2 : va_S A s.heap H locs) : ∀ q, AA ad cn H.size q → A q := by
  rintro q (⟨k, i, hi, rfl⟩ | h)
  · exact h1.2.1 k i hi
  · exact hB.2.2.2.2.2.2.1 q (Nat.le_trans h2.1 h)
theorem PP_at (hB : MB p s m args meth c cc own nL D ca SR A) {H : Heap} {locs : List Loc} (h1 : WW D ad cn A E H) (h2 : va_S A s.heap H locs) {U : State} (hU : U.heap = H) (hW : s.WarmedH U.vm) : PP D ad cn ca SR E H.size U := by
  refine ⟨by rw [hU], ?_, hB.2.2.2.2.2.1.warm hW, ?_⟩
  · rw [hU]; exact h1.wide PP.AAin
  · rw [hU]
    exact ((hB.2.2.2.2.2.2.2.1.kept h2.2.1).narrow (AA_sub hB h1 h2)).moved hW.alike
def recv (ad : Nat → Nat → Nat) (cn : Nat → Nat) (E : Rl) (C : String) (k i : Nat) : Prop := i < cn k ∧ ∃ (ci : Nat) (fs : List Value) (q : vw_C), E k i = .inr (ci, fs) ∧ vwCl[ci]? = some q ∧ q.1 = C
theorem recv_at (hB : MB p s m args meth c cc own nL D ca SR A) {H : Heap} (h1 : WW D ad cn A E H) {k i : Nat} (hr : recv ad cn E C k i) : ∃ cellB : Cell, H[ad k i]? = some cellB ∧ cellB.vm.isStatics = false ∧ s.vm.findClass C = some cellB.cls := by
  obtain ⟨hi, ci, fs, q, hE, hq, rfl⟩ := hr
  exact va_recv hB.2.2.2.2.2.1.1 (wp1 h1 hi hE) hq (q0 := 0) rfl
def yOK (y : MethodName) (n : Nat) : Prop := y.cls ≠ "java/lang/invoke/MethodHandle" ∧ y.cls ≠ "java/lang/invoke/VarHandle" ∧ (parseMethodDescriptor y.desc).map (fun d => d.parameters.length) = some n
theorem WW_back {H H1 : Heap} {A' : Nat → Prop} {t : State} {E' : Rl} (h1 : WW D ad cn A E H) (hb : WW D ad cn A' E' t.heap) (ht : t.heap = H1) : WW D ad cn A E' H1 := ⟨h1.1, h1.2.1, by rw [← ht]; exact hb.2.2⟩
theorem g_callVI (hB : MB p s m args meth c cc own nL D ca SR A) {k i : Nat} (hc : CI l y cy my ret rm D ad cn ca SR E (.ref (ad k i) :: As) P) (hG : GoodIn Tw (wsV own idx C y (WS y cy my ret))) (hyC : y.cls = C) (hy : yOK y As.length) (hR : rm.frames + 1 ≤ R.frames ∧ 8 + (my + 11) + rm.locals ≤ R.locals) (hrecv : recv ad cn E C k i) (hst : st = As.reverse ++ .ref (ad k i) :: rest) (hw : (rest.map fun v => v.category).sum ≤ 8) (hcs : cells + rm.cells ≤ R.cells ∧ slots + rm.slots ≤ R.slots) (hdg : decode cc pc = .ok (.invokevirtual idx, 3))
    (kk : ∀ r E', P r E' → G p l e R s m args below meth c D ad A nL Q (cells + rm.cells) (slots + rm.slots) cn E' (pc + 3) lvs (.int r :: rest)) : G p l e R s m args below meth c D ad A nL Q cells slots cn E pc lvs st := by
  intro H locs ls h1 h2 h3
  have hsub := AA_sub hB h1 h2
  exact va_calli (va_runV (As := As) (rest := rest) ⟨hB.1, hB.2.1, hB.2.2.1, hB.2.2.2.1, hB.2.2.2.2.1⟩ (hc H.size) (cwV As.length hB.2.2.2.2.1 hG rfl rfl rfl ⟨hyC, hy⟩ hR) ⟨PP.blind, recv_at hB h1 hrecv, fun U hU hW => ⟨rfl, PP_at hB h1 h2 hU hW⟩⟩ rfl rfl h3.1 hst (lv_room (pc := pc) (m := m) (ls := ls) (rest := st) hw) hdg hcs) h2 (fun q _ h => hsub q h) hsub
    (fun r u t H1 locs1 ht hvm hp hb hz hk hS1 => kk r u hp H1 locs1 ls (WW_back h1 hb ht) hS1 h3)
theorem g_callVV (hB : MB p s m args meth c cc own nL D ca SR A) {k i : Nat} (hc : CV l y cy my ret rm D ad cn ca SR E (.ref (ad k i) :: As) PV) (hG : GoodIn Tw (wsV own idx C y (WS y cy my ret))) (hyC : y.cls = C) (hy : yOK y As.length) (hR : rm.frames + 1 ≤ R.frames ∧ 8 + (my + 11) + rm.locals ≤ R.locals) (hrecv : recv ad cn E C k i) (hst : st = As.reverse ++ .ref (ad k i) :: rest) (hw : (rest.map fun v => v.category).sum ≤ 8) (hcs : cells + rm.cells ≤ R.cells ∧ slots + rm.slots ≤ R.slots) (hdg : decode cc pc = .ok (.invokevirtual idx, 3))
    (kk : ∀ E', PV E' → G p l e R s m args below meth c D ad A nL Q (cells + rm.cells) (slots + rm.slots) cn E' (pc + 3) lvs rest) : G p l e R s m args below meth c D ad A nL Q cells slots cn E pc lvs st := by
  intro H locs ls h1 h2 h3
  have hsub := AA_sub hB h1 h2
  exact va_callv (va_runV (As := As) (rest := rest) ⟨hB.1, hB.2.1, hB.2.2.1, hB.2.2.2.1, hB.2.2.2.2.1⟩ (hc H.size) (cwV As.length hB.2.2.2.2.1 hG rfl rfl rfl ⟨hyC, hy⟩ hR) ⟨PP.blind, recv_at hB h1 hrecv, fun U hU hW => ⟨rfl, PP_at hB h1 h2 hU hW⟩⟩ rfl rfl h3.1 hst (lv_room (pc := pc) (m := m) (ls := ls) (rest := st) hw) hdg hcs) h2 (fun q _ h => hsub q h) hsub
    (fun u t H1 locs1 ht hvm hp hb hz hk hS1 => kk u hp H1 locs1 ls (WW_back h1 hb ht) hS1 h3)
theorem g_callSI (hB : MB p s m args meth c cc own nL D ca SR A) (hc : CI l y cy my ret rm D ad cn ca SR E As P) (hG : GoodIn Tw (va_wsS own idx y (WS y cy my ret))) (hy : yOK y As.length) (hR : rm.frames + 1 ≤ R.frames ∧ 8 + (my + 11) + rm.locals ≤ R.locals) (hst : st = As.reverse ++ rest) (hw : (rest.map fun v => v.category).sum ≤ 8) (hcs : cells + rm.cells ≤ R.cells ∧ slots + rm.slots ≤ R.slots) (hdg : decode cc pc = .ok (.invokestatic idx, 3))
    (kk : ∀ r E', P r E' → G p l e R s m args below meth c D ad A nL Q (cells + rm.cells) (slots + rm.slots) cn E' (pc + 3) lvs (.int r :: rest)) : G p l e R s m args below meth c D ad A nL Q cells slots cn E pc lvs st := by
  intro H locs ls h1 h2 h3
  have hsub := AA_sub hB h1 h2
  exact va_calli (va_runS (As := As) (rest := rest) ⟨hB.1, hB.2.1, hB.2.2.1, hB.2.2.2.1, hB.2.2.2.2.1⟩ (hc H.size) (va_cwS As.length hB.2.2.2.2.1 hG rfl rfl rfl hy hR) ⟨PP.blind, fun U hU hW => ⟨rfl, PP_at hB h1 h2 hU hW⟩⟩ rfl rfl h3.1 hst (lv_room (pc := pc) (m := m) (ls := ls) (rest := st) hw) hdg hcs) h2 (fun q _ h => hsub q h) hsub
    (fun r u t H1 locs1 ht hvm hp hb hz hk hS1 => kk r u hp H1 locs1 ls (WW_back h1 hb ht) hS1 h3)
theorem g_callSV (hB : MB p s m args meth c cc own nL D ca SR A) (hc : CV l y cy my ret rm D ad cn ca SR E As PV) (hG : GoodIn Tw (va_wsS own idx y (WS y cy my ret))) (hy : yOK y As.length) (hR : rm.frames + 1 ≤ R.frames ∧ 8 + (my + 11) + rm.locals ≤ R.locals) (hst : st = As.reverse ++ rest) (hw : (rest.map fun v => v.category).sum ≤ 8) (hcs : cells + rm.cells ≤ R.cells ∧ slots + rm.slots ≤ R.slots) (hdg : decode cc pc = .ok (.invokestatic idx, 3))
    (kk : ∀ E', PV E' → G p l e R s m args below meth c D ad A nL Q (cells + rm.cells) (slots + rm.slots) cn E' (pc + 3) lvs rest) : G p l e R s m args below meth c D ad A nL Q cells slots cn E pc lvs st := by
  intro H locs ls h1 h2 h3
  have hsub := AA_sub hB h1 h2
  exact va_callv (va_runS (As := As) (rest := rest) ⟨hB.1, hB.2.1, hB.2.2.1, hB.2.2.2.1, hB.2.2.2.2.1⟩ (hc H.size) (va_cwS As.length hB.2.2.2.2.1 hG rfl rfl rfl hy hR) ⟨PP.blind, fun U hU hW => ⟨rfl, PP_at hB h1 h2 hU hW⟩⟩ rfl rfl h3.1 hst (lv_room (pc := pc) (m := m) (ls := ls) (rest := st) hw) hdg hcs) h2 (fun q _ h => hsub q h) hsub
    (fun u t H1 locs1 ht hvm hp hb hz hk hS1 => kk u hp H1 locs1 ls (WW_back h1 hb ht) hS1 h3)
theorem g_callNI (hB : MB p s m args meth c cc own nL D ca SR A) {host : String} (hc : CI l y cy my ret rm D ad cn ca SR E As P) (hG : Cond.code y cy my ret ∈ Tw) (hN : (own, idx, y, host) ∈ NWq) (hini : Cond.initialized y.cls ∈ Tw) (hstat : Cond.static y ∈ Tw) (hy : yOK y As.length) (hR : rm.frames + 1 ≤ R.frames ∧ 8 + (my + 11) + rm.locals ≤ R.locals) (hst : st = As.reverse ++ rest) (hw : (rest.map fun v => v.category).sum ≤ 8) (hcs : cells + rm.cells ≤ R.cells ∧ slots + rm.slots ≤ R.slots) (hdg : decode cc pc = .ok (.invokestatic idx, 3))
    (kk : ∀ r E', P r E' → G p l e R s m args below meth c D ad A nL Q (cells + rm.cells) (slots + rm.slots) cn E' (pc + 3) lvs (.int r :: rest)) : G p l e R s m args below meth c D ad A nL Q cells slots cn E pc lvs st := by
  intro H locs ls h1 h2 h3
  have hsub := AA_sub hB h1 h2
  exact va_calli (va_runSN (host := host) (As := As) (rest := rest) ⟨hB.1, hB.2.1, hB.2.2.1, hB.2.2.2.1, hB.2.2.2.2.1⟩ (hc H.size) ⟨va_cnB As.length hB.2.2.2.2.1 (Tw_good (WS_all hG)) rfl rfl rfl (hB.2.2.2.2.2.1.2.1 _ hN) (hB.2.2.2.2.1 _ hini) hy hR, hB.2.2.2.2.1 _ hstat, trivial⟩ ⟨PP.blind, fun U hU hW => ⟨rfl, PP_at hB h1 h2 hU hW⟩⟩ rfl rfl h3.1 hst (lv_room (pc := pc) (m := m) (ls := ls) (rest := st) hw) hdg hcs) h2 (fun q _ h => hsub q h) hsub
    (fun r u t H1 locs1 ht hvm hp hb hz hk hS1 => kk r u hp H1 locs1 ls (WW_back h1 hb ht) hS1 h3)
end GC
end
section
/-! the descriptors of the methods -/
theorem yk_J6_bitCount_0f7a4 : yOK yJ6_bitCount_0f7a4 1 := ⟨by decide +kernel, by decide +kernel, by decide +kernel⟩
theorem yk_J7_fill_53178 : yOK yJ7_fill_53178 2 := ⟨by decide +kernel, by decide +kernel, by decide +kernel⟩
theorem yk_L_addGroup : yOK yL_addGroup 3 := ⟨by decide +kernel, by decide +kernel, by decide +kernel⟩
theorem yk_L_addMachine : yOK yL_addMachine 3 := ⟨by decide +kernel, by decide +kernel, by decide +kernel⟩
theorem yk_L_approvals : yOK yL_approvals 3 := ⟨by decide +kernel, by decide +kernel, by decide +kernel⟩
theorem yk_L_approve : yOK yL_approve 4 := ⟨by decide +kernel, by decide +kernel, by decide +kernel⟩
theorem yk_L_behind : yOK yL_behind 3 := ⟨by decide +kernel, by decide +kernel, by decide +kernel⟩
theorem yk_L_comeBack : yOK yL_comeBack 2 := ⟨by decide +kernel, by decide +kernel, by decide +kernel⟩
theorem yk_L_due : yOK yL_due 4 := ⟨by decide +kernel, by decide +kernel, by decide +kernel⟩
theorem yk_L_dueAnew : yOK yL_dueAnew 4 := ⟨by decide +kernel, by decide +kernel, by decide +kernel⟩
theorem yk_L_exclude : yOK yL_exclude 5 := ⟨by decide +kernel, by decide +kernel, by decide +kernel⟩
theorem yk_L_hidden : yOK yL_hidden 3 := ⟨by decide +kernel, by decide +kernel, by decide +kernel⟩
theorem yk_L_isBusy : yOK yL_isBusy 3 := ⟨by decide +kernel, by decide +kernel, by decide +kernel⟩
theorem yk_L_isStopped : yOK yL_isStopped 3 := ⟨by decide +kernel, by decide +kernel, by decide +kernel⟩
theorem yk_L_layerOf : yOK yL_layerOf 4 := ⟨by decide +kernel, by decide +kernel, by decide +kernel⟩
theorem yk_L_leave : yOK yL_leave 4 := ⟨by decide +kernel, by decide +kernel, by decide +kernel⟩
theorem yk_L_moveMachine : yOK yL_moveMachine 4 := ⟨by decide +kernel, by decide +kernel, by decide +kernel⟩
theorem yk_L_pass : yOK yL_pass 3 := ⟨by decide +kernel, by decide +kernel, by decide +kernel⟩
theorem yk_L_propose : yOK yL_propose 6 := ⟨by decide +kernel, by decide +kernel, by decide +kernel⟩
theorem yk_L_rank : yOK yL_rank 3 := ⟨by decide +kernel, by decide +kernel, by decide +kernel⟩
theorem yk_L_runs : yOK yL_runs 4 := ⟨by decide +kernel, by decide +kernel, by decide +kernel⟩
theorem yk_L_setDuty : yOK yL_setDuty 4 := ⟨by decide +kernel, by decide +kernel, by decide +kernel⟩
theorem yk_L_setPace : yOK yL_setPace 3 := ⟨by decide +kernel, by decide +kernel, by decide +kernel⟩
theorem yk_L_spread : yOK yL_spread 3 := ⟨by decide +kernel, by decide +kernel, by decide +kernel⟩
theorem yk_L_state : yOK yL_state 3 := ⟨by decide +kernel, by decide +kernel, by decide +kernel⟩
theorem yk_L_taken : yOK yL_taken 5 := ⟨by decide +kernel, by decide +kernel, by decide +kernel⟩
theorem yk_L_told : yOK yL_told 4 := ⟨by decide +kernel, by decide +kernel, by decide +kernel⟩
theorem yk_L_withdraw : yOK yL_withdraw 2 := ⟨by decide +kernel, by decide +kernel, by decide +kernel⟩
theorem yk_L_work : yOK yL_work 4 := ⟨by decide +kernel, by decide +kernel, by decide +kernel⟩
theorem yk_X0_addApproval : yOK yX0_addApproval 3 := ⟨by decide +kernel, by decide +kernel, by decide +kernel⟩
theorem yk_X0_begin : yOK yX0_begin 4 := ⟨by decide +kernel, by decide +kernel, by decide +kernel⟩
theorem yk_X0_canBeApprovedBy : yOK yX0_canBeApprovedBy 1 := ⟨by decide +kernel, by decide +kernel, by decide +kernel⟩
theorem yk_X0_countGood : yOK yX0_countGood 0 := ⟨by decide +kernel, by decide +kernel, by decide +kernel⟩
theorem yk_X0_countGoodAt : yOK yX0_countGoodAt 2 := ⟨by decide +kernel, by decide +kernel, by decide +kernel⟩
theorem yk_X0_firstHeldMoment : yOK yX0_firstHeldMoment 1 := ⟨by decide +kernel, by decide +kernel, by decide +kernel⟩
theorem yk_X0_init : yOK yX0_init 0 := ⟨by decide +kernel, by decide +kernel, by decide +kernel⟩
theorem yk_X0_isHeldAnew : yOK yX0_isHeldAnew 1 := ⟨by decide +kernel, by decide +kernel, by decide +kernel⟩
theorem yk_X0_loseByLeaving : yOK yX0_loseByLeaving 2 := ⟨by decide +kernel, by decide +kernel, by decide +kernel⟩
theorem yk_X1_forgetChanges : yOK yX1_forgetChanges 0 := ⟨by decide +kernel, by decide +kernel, by decide +kernel⟩
theorem yk_X1_init : yOK yX1_init 0 := ⟨by decide +kernel, by decide +kernel, by decide +kernel⟩
theorem yk_X1_raise : yOK yX1_raise 2 := ⟨by decide +kernel, by decide +kernel, by decide +kernel⟩
theorem yk_X2_drop : yOK yX2_drop 1 := ⟨by decide +kernel, by decide +kernel, by decide +kernel⟩
theorem yk_X2_dropOtherGroups : yOK yX2_dropOtherGroups 0 := ⟨by decide +kernel, by decide +kernel, by decide +kernel⟩
theorem yk_X2_enterGroup : yOK yX2_enterGroup 2 := ⟨by decide +kernel, by decide +kernel, by decide +kernel⟩
theorem yk_X2_init : yOK yX2_init 1 := ⟨by decide +kernel, by decide +kernel, by decide +kernel⟩
theorem yk_X2_isLayer : yOK yX2_isLayer 1 := ⟨by decide +kernel, by decide +kernel, by decide +kernel⟩
theorem yk_X3_forget : yOK yX3_forget 0 := ⟨by decide +kernel, by decide +kernel, by decide +kernel⟩
theorem yk_X3_hideExcluded : yOK yX3_hideExcluded 1 := ⟨by decide +kernel, by decide +kernel, by decide +kernel⟩
theorem yk_X3_init : yOK yX3_init 0 := ⟨by decide +kernel, by decide +kernel, by decide +kernel⟩
theorem yk_X3_layerIfShown : yOK yX3_layerIfShown 1 := ⟨by decide +kernel, by decide +kernel, by decide +kernel⟩
theorem yk_X3_set : yOK yX3_set 4 := ⟨by decide +kernel, by decide +kernel, by decide +kernel⟩
theorem yk_X3_valueIfShown : yOK yX3_valueIfShown 1 := ⟨by decide +kernel, by decide +kernel, by decide +kernel⟩
theorem yk_X3_yields : yOK yX3_yields 2 := ⟨by decide +kernel, by decide +kernel, by decide +kernel⟩
theorem yk_X4_hasVoided : yOK yX4_hasVoided 1 := ⟨by decide +kernel, by decide +kernel, by decide +kernel⟩
theorem yk_X4_init : yOK yX4_init 0 := ⟨by decide +kernel, by decide +kernel, by decide +kernel⟩
theorem yk_X5_addGroup : yOK yX5_addGroup 1 := ⟨by decide +kernel, by decide +kernel, by decide +kernel⟩
theorem yk_X5_addMachine : yOK yX5_addMachine 1 := ⟨by decide +kernel, by decide +kernel, by decide +kernel⟩
theorem yk_X5_approvals : yOK yX5_approvals 1 := ⟨by decide +kernel, by decide +kernel, by decide +kernel⟩
theorem yk_X5_approve : yOK yX5_approve 2 := ⟨by decide +kernel, by decide +kernel, by decide +kernel⟩
theorem yk_X5_behind : yOK yX5_behind 1 := ⟨by decide +kernel, by decide +kernel, by decide +kernel⟩
theorem yk_X5_cellOf : yOK yX5_cellOf 2 := ⟨by decide +kernel, by decide +kernel, by decide +kernel⟩
theorem yk_X5_changes : yOK yX5_changes 0 := ⟨by decide +kernel, by decide +kernel, by decide +kernel⟩
theorem yk_X5_comeBack : yOK yX5_comeBack 1 := ⟨by decide +kernel, by decide +kernel, by decide +kernel⟩
theorem yk_X5_contains : yOK yX5_contains 2 := ⟨by decide +kernel, by decide +kernel, by decide +kernel⟩
theorem yk_X5_day : yOK yX5_day 0 := ⟨by decide +kernel, by decide +kernel, by decide +kernel⟩
theorem yk_X5_decide : yOK yX5_decide 4 := ⟨by decide +kernel, by decide +kernel, by decide +kernel⟩
theorem yk_X5_due : yOK yX5_due 2 := ⟨by decide +kernel, by decide +kernel, by decide +kernel⟩
theorem yk_X5_dueAnew : yOK yX5_dueAnew 2 := ⟨by decide +kernel, by decide +kernel, by decide +kernel⟩
theorem yk_X5_exclude : yOK yX5_exclude 3 := ⟨by decide +kernel, by decide +kernel, by decide +kernel⟩
theorem yk_X5_findHeads : yOK yX5_findHeads 0 := ⟨by decide +kernel, by decide +kernel, by decide +kernel⟩
theorem yk_X5_findHeadsAnew : yOK yX5_findHeadsAnew 0 := ⟨by decide +kernel, by decide +kernel, by decide +kernel⟩
theorem yk_X5_findOutcome : yOK yX5_findOutcome 3 := ⟨by decide +kernel, by decide +kernel, by decide +kernel⟩
theorem yk_X5_findRunning : yOK yX5_findRunning 1 := ⟨by decide +kernel, by decide +kernel, by decide +kernel⟩
theorem yk_X5_goBack : yOK yX5_goBack 2 := ⟨by decide +kernel, by decide +kernel, by decide +kernel⟩
theorem yk_X5_hidden : yOK yX5_hidden 1 := ⟨by decide +kernel, by decide +kernel, by decide +kernel⟩
theorem yk_X5_hold : yOK yX5_hold 1 := ⟨by decide +kernel, by decide +kernel, by decide +kernel⟩
theorem yk_X5_init : yOK yX5_init 0 := ⟨by decide +kernel, by decide +kernel, by decide +kernel⟩
theorem yk_X5_isAnyBusy : yOK yX5_isAnyBusy 0 := ⟨by decide +kernel, by decide +kernel, by decide +kernel⟩
theorem yk_X5_isBehindIn : yOK yX5_isBehindIn 2 := ⟨by decide +kernel, by decide +kernel, by decide +kernel⟩
theorem yk_X5_isBusy : yOK yX5_isBusy 1 := ⟨by decide +kernel, by decide +kernel, by decide +kernel⟩
theorem yk_X5_isChange : yOK yX5_isChange 1 := ⟨by decide +kernel, by decide +kernel, by decide +kernel⟩
theorem yk_X5_isOnDuty : yOK yX5_isOnDuty 1 := ⟨by decide +kernel, by decide +kernel, by decide +kernel⟩
theorem yk_X5_isStopped : yOK yX5_isStopped 1 := ⟨by decide +kernel, by decide +kernel, by decide +kernel⟩
theorem yk_X5_isTakenNotHeld : yOK yX5_isTakenNotHeld 1 := ⟨by decide +kernel, by decide +kernel, by decide +kernel⟩
theorem yk_X5_layerOf : yOK yX5_layerOf 2 := ⟨by decide +kernel, by decide +kernel, by decide +kernel⟩
theorem yk_X5_leave : yOK yX5_leave 2 := ⟨by decide +kernel, by decide +kernel, by decide +kernel⟩
theorem yk_X5_moveMachine : yOK yX5_moveMachine 2 := ⟨by decide +kernel, by decide +kernel, by decide +kernel⟩
theorem yk_X5_nearestLayerNotHeld : yOK yX5_nearestLayerNotHeld 1 := ⟨by decide +kernel, by decide +kernel, by decide +kernel⟩
theorem yk_X5_pass : yOK yX5_pass 1 := ⟨by decide +kernel, by decide +kernel, by decide +kernel⟩
theorem yk_X5_propose : yOK yX5_propose 4 := ⟨by decide +kernel, by decide +kernel, by decide +kernel⟩
theorem yk_X5_rank : yOK yX5_rank 1 := ⟨by decide +kernel, by decide +kernel, by decide +kernel⟩
theorem yk_X5_requireChange : yOK yX5_requireChange 1 := ⟨by decide +kernel, by decide +kernel, by decide +kernel⟩
theorem yk_X5_requireGroup : yOK yX5_requireGroup 1 := ⟨by decide +kernel, by decide +kernel, by decide +kernel⟩
theorem yk_X5_requireKey : yOK yX5_requireKey 1 := ⟨by decide +kernel, by decide +kernel, by decide +kernel⟩
theorem yk_X5_requireMachine : yOK yX5_requireMachine 1 := ⟨by decide +kernel, by decide +kernel, by decide +kernel⟩
theorem yk_X5_requirePerson : yOK yX5_requirePerson 1 := ⟨by decide +kernel, by decide +kernel, by decide +kernel⟩
theorem yk_X5_requirePlace : yOK yX5_requirePlace 1 := ⟨by decide +kernel, by decide +kernel, by decide +kernel⟩
theorem yk_X5_runs : yOK yX5_runs 2 := ⟨by decide +kernel, by decide +kernel, by decide +kernel⟩
theorem yk_X5_setDuty : yOK yX5_setDuty 2 := ⟨by decide +kernel, by decide +kernel, by decide +kernel⟩
theorem yk_X5_setPace : yOK yX5_setPace 1 := ⟨by decide +kernel, by decide +kernel, by decide +kernel⟩
theorem yk_X5_slotOf : yOK yX5_slotOf 1 := ⟨by decide +kernel, by decide +kernel, by decide +kernel⟩
theorem yk_X5_spread : yOK yX5_spread 1 := ⟨by decide +kernel, by decide +kernel, by decide +kernel⟩
theorem yk_X5_state : yOK yX5_state 1 := ⟨by decide +kernel, by decide +kernel, by decide +kernel⟩
theorem yk_X5_stepMachines : yOK yX5_stepMachines 0 := ⟨by decide +kernel, by decide +kernel, by decide +kernel⟩
theorem yk_X5_takeFarthestLayer : yOK yX5_takeFarthestLayer 1 := ⟨by decide +kernel, by decide +kernel, by decide +kernel⟩
theorem yk_X5_takeLayer : yOK yX5_takeLayer 2 := ⟨by decide +kernel, by decide +kernel, by decide +kernel⟩
theorem yk_X5_taken : yOK yX5_taken 3 := ⟨by decide +kernel, by decide +kernel, by decide +kernel⟩
theorem yk_X5_told : yOK yX5_told 2 := ⟨by decide +kernel, by decide +kernel, by decide +kernel⟩
theorem yk_X5_voidWhatIsNotOld : yOK yX5_voidWhatIsNotOld 1 := ⟨by decide +kernel, by decide +kernel, by decide +kernel⟩
theorem yk_X5_whatIsToldBy : yOK yX5_whatIsToldBy 1 := ⟨by decide +kernel, by decide +kernel, by decide +kernel⟩
theorem yk_X5_with : yOK yX5_with 3 := ⟨by decide +kernel, by decide +kernel, by decide +kernel⟩
theorem yk_X5_withdraw : yOK yX5_withdraw 1 := ⟨by decide +kernel, by decide +kernel, by decide +kernel⟩
theorem yk_X5_work : yOK yX5_work 2 := ⟨by decide +kernel, by decide +kernel, by decide +kernel⟩
theorem yk_X6_addGroup : yOK yX6_addGroup 1 := ⟨by decide +kernel, by decide +kernel, by decide +kernel⟩
theorem yk_X6_addMachine : yOK yX6_addMachine 1 := ⟨by decide +kernel, by decide +kernel, by decide +kernel⟩
theorem yk_X6_approvals : yOK yX6_approvals 1 := ⟨by decide +kernel, by decide +kernel, by decide +kernel⟩
theorem yk_X6_approve : yOK yX6_approve 2 := ⟨by decide +kernel, by decide +kernel, by decide +kernel⟩
theorem yk_X6_behind : yOK yX6_behind 1 := ⟨by decide +kernel, by decide +kernel, by decide +kernel⟩
theorem yk_X6_cells : yOK yX6_cells 2 := ⟨by decide +kernel, by decide +kernel, by decide +kernel⟩
theorem yk_X6_changes : yOK yX6_changes 0 := ⟨by decide +kernel, by decide +kernel, by decide +kernel⟩
theorem yk_X6_comeBack : yOK yX6_comeBack 1 := ⟨by decide +kernel, by decide +kernel, by decide +kernel⟩
theorem yk_X6_day : yOK yX6_day 0 := ⟨by decide +kernel, by decide +kernel, by decide +kernel⟩
theorem yk_X6_due : yOK yX6_due 2 := ⟨by decide +kernel, by decide +kernel, by decide +kernel⟩
theorem yk_X6_dueAnew : yOK yX6_dueAnew 2 := ⟨by decide +kernel, by decide +kernel, by decide +kernel⟩
theorem yk_X6_exclude : yOK yX6_exclude 3 := ⟨by decide +kernel, by decide +kernel, by decide +kernel⟩
theorem yk_X6_fails : yOK yX6_fails 1 := ⟨by decide +kernel, by decide +kernel, by decide +kernel⟩
theorem yk_X6_goesBack : yOK yX6_goesBack 1 := ⟨by decide +kernel, by decide +kernel, by decide +kernel⟩
theorem yk_X6_good : yOK yX6_good 1 := ⟨by decide +kernel, by decide +kernel, by decide +kernel⟩
theorem yk_X6_hidden : yOK yX6_hidden 1 := ⟨by decide +kernel, by decide +kernel, by decide +kernel⟩
theorem yk_X6_in : yOK yX6_in 3 := ⟨by decide +kernel, by decide +kernel, by decide +kernel⟩
theorem yk_X6_init : yOK yX6_init 0 := ⟨by decide +kernel, by decide +kernel, by decide +kernel⟩
theorem yk_X6_isAsked : yOK yX6_isAsked 3 := ⟨by decide +kernel, by decide +kernel, by decide +kernel⟩
theorem yk_X6_isBusy : yOK yX6_isBusy 1 := ⟨by decide +kernel, by decide +kernel, by decide +kernel⟩
theorem yk_X6_isChange : yOK yX6_isChange 1 := ⟨by decide +kernel, by decide +kernel, by decide +kernel⟩
theorem yk_X6_isDue : yOK yX6_isDue 2 := ⟨by decide +kernel, by decide +kernel, by decide +kernel⟩
theorem yk_X6_isGroup : yOK yX6_isGroup 1 := ⟨by decide +kernel, by decide +kernel, by decide +kernel⟩
theorem yk_X6_isHalted : yOK yX6_isHalted 1 := ⟨by decide +kernel, by decide +kernel, by decide +kernel⟩
theorem yk_X6_isHidden : yOK yX6_isHidden 1 := ⟨by decide +kernel, by decide +kernel, by decide +kernel⟩
theorem yk_X6_isKey : yOK yX6_isKey 1 := ⟨by decide +kernel, by decide +kernel, by decide +kernel⟩
theorem yk_X6_isMachine : yOK yX6_isMachine 1 := ⟨by decide +kernel, by decide +kernel, by decide +kernel⟩
theorem yk_X6_isOver : yOK yX6_isOver 2 := ⟨by decide +kernel, by decide +kernel, by decide +kernel⟩
theorem yk_X6_isPerson : yOK yX6_isPerson 1 := ⟨by decide +kernel, by decide +kernel, by decide +kernel⟩
theorem yk_X6_isPlace : yOK yX6_isPlace 1 := ⟨by decide +kernel, by decide +kernel, by decide +kernel⟩
theorem yk_X6_isStopped : yOK yX6_isStopped 1 := ⟨by decide +kernel, by decide +kernel, by decide +kernel⟩
theorem yk_X6_lags : yOK yX6_lags 2 := ⟨by decide +kernel, by decide +kernel, by decide +kernel⟩
theorem yk_X6_layerOf : yOK yX6_layerOf 2 := ⟨by decide +kernel, by decide +kernel, by decide +kernel⟩
theorem yk_X6_layers : yOK yX6_layers 1 := ⟨by decide +kernel, by decide +kernel, by decide +kernel⟩
theorem yk_X6_leave : yOK yX6_leave 2 := ⟨by decide +kernel, by decide +kernel, by decide +kernel⟩
theorem yk_X6_looks : yOK yX6_looks 2 := ⟨by decide +kernel, by decide +kernel, by decide +kernel⟩
theorem yk_X6_moveMachine : yOK yX6_moveMachine 2 := ⟨by decide +kernel, by decide +kernel, by decide +kernel⟩
theorem yk_X6_pass : yOK yX6_pass 1 := ⟨by decide +kernel, by decide +kernel, by decide +kernel⟩
theorem yk_X6_passes : yOK yX6_passes 0 := ⟨by decide +kernel, by decide +kernel, by decide +kernel⟩
theorem yk_X6_propose : yOK yX6_propose 4 := ⟨by decide +kernel, by decide +kernel, by decide +kernel⟩
theorem yk_X6_rank : yOK yX6_rank 1 := ⟨by decide +kernel, by decide +kernel, by decide +kernel⟩
theorem yk_X6_runs : yOK yX6_runs 2 := ⟨by decide +kernel, by decide +kernel, by decide +kernel⟩
theorem yk_X6_setDuty : yOK yX6_setDuty 2 := ⟨by decide +kernel, by decide +kernel, by decide +kernel⟩
theorem yk_X6_setPace : yOK yX6_setPace 1 := ⟨by decide +kernel, by decide +kernel, by decide +kernel⟩
theorem yk_X6_slot : yOK yX6_slot 2 := ⟨by decide +kernel, by decide +kernel, by decide +kernel⟩
theorem yk_X6_spread : yOK yX6_spread 1 := ⟨by decide +kernel, by decide +kernel, by decide +kernel⟩
theorem yk_X6_state : yOK yX6_state 1 := ⟨by decide +kernel, by decide +kernel, by decide +kernel⟩
theorem yk_X6_taken : yOK yX6_taken 3 := ⟨by decide +kernel, by decide +kernel, by decide +kernel⟩
theorem yk_X6_takes : yOK yX6_takes 1 := ⟨by decide +kernel, by decide +kernel, by decide +kernel⟩
theorem yk_X6_thrown : yOK yX6_thrown 0 := ⟨by decide +kernel, by decide +kernel, by decide +kernel⟩
theorem yk_X6_told : yOK yX6_told 2 := ⟨by decide +kernel, by decide +kernel, by decide +kernel⟩
theorem yk_X6_top : yOK yX6_top 2 := ⟨by decide +kernel, by decide +kernel, by decide +kernel⟩
theorem yk_X6_topOf : yOK yX6_topOf 3 := ⟨by decide +kernel, by decide +kernel, by decide +kernel⟩
theorem yk_X6_voids : yOK yX6_voids 1 := ⟨by decide +kernel, by decide +kernel, by decide +kernel⟩
theorem yk_X6_withdraw : yOK yX6_withdraw 1 := ⟨by decide +kernel, by decide +kernel, by decide +kernel⟩
theorem yk_X6_work : yOK yX6_work 2 := ⟨by decide +kernel, by decide +kernel, by decide +kernel⟩
theorem yk_X6_works : yOK yX6_works 1 := ⟨by decide +kernel, by decide +kernel, by decide +kernel⟩
end
section
/-! THE STATE: one memory of ints by role and place; what each role's cell is -/
def mlen (i : Nat) : Nat := match i with
  | 0 => 4 | 1 => 8 | 2 => 10 | 3 => 12 | 4 => 12 | 5 => 792 | 6 => 40 | 7 => 40 | 8 => 40 | 9 => 40 | 10 => 40 | 11 => 40 | 12 => 40 | 13 => 320 | 14 => 320 | 15 => 6 | 16 => 6 | 17 => 6 | _ => 6
def xlen (i : Nat) : Nat := match i with
  | 0 => 4 | 1 => 10 | _ => 6
def CNT (k : Nat) : Nat := match k with
  | 0 => 1 | 1 => 3 | 2 => 1 | 3 => 1 | 4 => 1 | 5 => 8 | 6 => 12 | 7 => 12 | 8 => 12 | 9 => 40 | 10 => 40 | 11 => 40 | 12 => 2 | 13 => 2 | 14 => 2 | 15 => 1 | 16 => 3 | 17 => 1 | 18 => 19 | 19 => 1 | _ => 0
def cellOf (ad : Nat → Nat → Nat) (ca : Nat → ClassId) (k i : Nat) (f : Nat → Int32) : va_E := match k with
  | 0 => .inr (5, [.int (f 0), .int (f 1), .ref (ad 1 0), .ref (ad 2 0), .ref (ad 1 1), .int (f 5), .ref (ad 3 0), .int (f 7), .ref (ad 4 0), .int (f 9), .int (f 10), .int (f 11), .ref (ad 1 2), .ref (ad 12 0), .ref (ad 12 1), .ref (ad 15 0)])
  | 1 => .inl (ca 0, xlen i, .inl f)
  | 2 => .inl (ca 1, 8, .inr (.inr (.inr (.inr (fun j => some (ad 5 j))))))
  | 3 => .inl (ca 2, 12, .inr (.inr (.inr (.inr (fun j => some (ad 6 j))))))
  | 4 => .inl (ca 3, 40, .inr (.inr (.inr (.inr (fun j => some (ad 9 j))))))
  | 5 => .inr (4, [.int (f 0), .int (f 1), .int (f 2), .int (f 3)])
  | 6 => .inr (2, [.int (f 0), .int (f 1), .int (f 2), .int (f 3), .ref (ad 7 i), .ref (ad 8 i)])
  | 7 => .inl (ca 0, 11, .inl f)
  | 8 => .inl (ca 0, 132, .inl f)
  | 9 => .inr (0, [.int (f 0), .int (f 1), .int (f 2), .int (f 3), .int (f 4), .int (f 5), .ref (ad 10 i), .ref (ad 11 i)])
  | 10 => .inl (ca 0, 8, .inl f)
  | 11 => .inl (ca 0, 8, .inl f)
  | 12 => .inr (1, [.ref (ad 13 i), .ref (ad 14 i)])
  | 13 => .inl (ca 0, 132, .inl f)
  | 14 => .inl (ca 0, 40, .inl f)
  | 15 => .inr (3, [.ref (ad 16 0), .ref (ad 16 1), .ref (ad 16 2), .int (f 3)])
  | 16 => .inl (ca 0, 6, .inl f)
  | 17 => .inr (6, [.int (f 0), .int (f 1), .ref (ad 18 0), .ref (ad 18 1), .int (f 4), .ref (ad 18 2), .int (f 6), .int (f 7), .ref (ad 18 3), .ref (ad 18 4), .ref (ad 18 5), .int (f 11), .int (f 12), .ref (ad 18 6), .ref (ad 18 7), .ref (ad 18 8), .ref (ad 18 9), .ref (ad 18 10), .ref (ad 18 11), .ref (ad 18 12), .ref (ad 18 13), .ref (ad 18 14), .ref (ad 18 15), .ref (ad 18 16), .ref (ad 18 17), .ref (ad 18 18)])
  | 18 => .inl (ca 0, mlen i, .inl f)
  | 19 => .inl (ca 4, 1, .inr (.inl (fun j => (f j).toInt64)))
  | _ => .inl (ca 0, 0, .inl f)
def SH (ad : Nat → Nat → Nat) (ca : Nat → ClassId) (S : Mem) : Rl := fun k i => cellOf ad ca k i (S k i)
def uS (S : Mem) (k i : Nat) (f : Nat → Int32) : Mem := fun k' i' => if k' = k ∧ i' = i then f else S k' i'
def uM (S : Mem) (k i j : Nat) (x : Int32) : Mem := uS S k i (upd (S k i) j x)
theorem uS_s {S : Mem} {k i : Nat} {f : Nat → Int32} : uS S k i f k i = f := by simp [uS]
theorem uS_n {S : Mem} {k i k' i' : Nat} {f : Nat → Int32} (h : ¬ (k' = k ∧ i' = i)) : uS S k i f k' i' = S k' i' := if_neg h
theorem uM_ap {S : Mem} {k i j : Nat} {x : Int32} {k' i' j' : Nat} : uM S k i j x k' i' j' = if k' = k ∧ i' = i ∧ j' = j then x else S k' i' j' := by
  unfold uM uS
  by_cases h : k' = k ∧ i' = i
  · obtain ⟨rfl, rfl⟩ := h
    simp [upd]
  · rw [if_neg h, if_neg (fun z => h ⟨z.1, z.2.1⟩)]
theorem uM_s {S : Mem} {k i j : Nat} {x : Int32} : uM S k i j x k i j = x := by simp [uM_ap]
theorem uM_n {S : Mem} {k i j k' i' j' : Nat} {x : Int32} (h : ¬ (k' = k ∧ i' = i ∧ j' = j)) : uM S k i j x k' i' j' = S k' i' j' := by rw [uM_ap, if_neg h]
theorem SH_put {ad : Nat → Nat → Nat} {ca : Nat → ClassId} {S : Mem} {k i : Nat} {f : Nat → Int32} : uE (SH ad ca S) k i (cellOf ad ca k i f) = SH ad ca (uS S k i f) := by
  funext k' i'
  unfold SH uS uE
  by_cases h : k' = k ∧ i' = i
  · obtain ⟨rfl, rfl⟩ := h
    simp
  · rw [if_neg h, if_neg h]
/-- what a method answers, and the memory behind it -/
def PR (ad : Nat → Nat → Nat) (ca : Nat → ClassId) (r : Int32) (S : Mem) : Int32 → Rl → Prop := fun r' E' => r' = r ∧ E' = SH ad ca S
def PM (ad : Nat → Nat → Nat) (ca : Nat → ClassId) (S : Mem) : Rl → Prop := fun E' => E' = SH ad ca S
def bI (b : Bool) : Int32 := if b then nI 1 else nI 0
theorem bI_t : bI true = nI 1 := rfl
theorem bI_f : bI false = nI 0 := rfl
theorem nar_b (b : Bool) : narrow .boolean (.int (bI b)) = .int (bI b) := by cases b <;> rfl
theorem nar_1 : narrow .boolean (.int (nI 1)) = .int (nI 1) := rfl
theorem nar_0 : narrow .boolean (.int (nI 0)) = .int (nI 0) := rfl
theorem bI_0 {b : Bool} : bI b = 0 ↔ b = false := by cases b <;> simp [bI, nI]
theorem bI_n0 {b : Bool} : bI b ≠ 0 ↔ b = true := by cases b <;> simp [bI, nI]
theorem bI_1 {b : Bool} : bI b = nI 1 ↔ b = true := by cases b <;> simp [bI, nI]
section GS
variable {p : Program} {l : Launch} {e : Env} {R : Room} {s : State} {m : MethodId} {args : Array Value} {below : List Frame} {meth : Method} {c : Code} {D : va_G} {ad : Nat → Nat → Nat} {A : Nat → Prop} {nL : Nat} {Q : State → Prop} {cells slots : Nat} {cn : Nat → Nat} {E : Rl} {S : Mem} {lvs : List (Nat × Value)} {st : List Value} {cc : ByteArray} {own : String} {ca : Nat → ClassId} {SR : List (String × Nat × String)} {pc : Nat}
theorem s_eq (S' : Mem) (h : S = S') (k : G p l e R s m args below meth c D ad A nL Q cells slots cn (SH ad ca S') pc lvs st) : G p l e R s m args below meth c D ad A nL Q cells slots cn (SH ad ca S) pc lvs st := by subst h; exact k
theorem s_put (hB : MB p s m args meth c cc own nL D ca SR A) {C : String} {T : u_T} {N ci idx : Nat} (hin : ∀ w ∈ u_ws C T N, w ∈ Tw) (hc : vwCl[ci]? = some (C, T, N)) (ty0 : Nat → FieldType) (hty : ∀ k, k < N → parseFieldDescriptor (T k).2.2.1 = some (ty0 k)) (hnm : ∀ a, a < N → ∀ b, b < N → a ≠ b → (T a).2.1 ≠ (T b).2.1) (k i j : Nat) {fs : List Value} {x : Int32} (hi : i < cn k) (hj : j < N) (hE : cellOf ad ca k i (S k i) = .inr (ci, fs)) (hE' : cellOf ad ca k i (upd (S k i) j x) = .inr (ci, fs.set j (.int x))) (hlink : Cond.fieldLink own idx (T j).1 (T j).2.1 (T j).2.2.1 ∈ Tw) (hfin : (T j).2.2.2 = false) (hn : narrow (ty0 j) (.int x) = .int x) (hfit : fits (ty0 j) (.int x) = true) (hl : j < fs.length) (hdg : decode cc pc = .ok (.putfield idx, 3))
    (kk : G p l e R s m args below meth c D ad A nL Q cells slots cn (SH ad ca (uM S k i j x)) (pc + 3) lvs st) : G p l e R s m args below meth c D ad A nL Q cells slots cn (SH ad ca S) pc lvs (.int x :: .ref (ad k i) :: st) := by
  refine g_put hB hin hc ty0 hty hnm k i j hi hj hE hlink hfin hn hfit hl hdg ?_
  rw [← hE', SH_put]
  exact kk
theorem s_iast (hB : MB p s m args meth c cc own nL D ca SR A) (k i j : Nat) {n : Nat} {x : Int32} (hi : i < cn k) (hE : ∀ f, cellOf ad ca k i f = .inl (ca 0, n, .inl f)) (hj : j < n) (hn : n < 2 ^ 31) (hdg : decode cc pc = .ok (.iastore, 1))
    (kk : G p l e R s m args below meth c D ad A nL Q cells slots cn (SH ad ca (uM S k i j x)) (pc + 1) lvs st) : G p l e R s m args below meth c D ad A nL Q cells slots cn (SH ad ca S) pc lvs (.int x :: .int (nI j) :: .ref (ad k i) :: st) := by
  refine g_iast hB k i j hi (hE (S k i)) hj hn hdg ?_
  rw [← hE, SH_put]
  exact kk
/-! compares of numbers nI -/
theorem n_icmp_lt (hB : MB p s m args meth c cc own nL D ca SR A) (a b : Nat) {off : Int} (tgt : Nat) (hdg : decode cc pc = .ok (.if_icmp .lt off, 3)) (ht : (pc : Int) + off = (tgt : Int)) (ha : a < 2 ^ 31) (hb : b < 2 ^ 31) (kt : a < b → G p l e R s m args below meth c D ad A nL Q cells slots cn E tgt lvs st) (kf : b ≤ a → G p l e R s m args below meth c D ad A nL Q cells slots cn E (pc + 3) lvs st) : G p l e R s m args below meth c D ad A nL Q cells slots cn E pc lvs (.int (nI b) :: .int (nI a) :: st) :=
  g_icmp_lt hB tgt hdg ht (fun z => kt ((nI_ltI ha hb).mp z)) (fun z => kf (Nat.le_of_not_lt fun y => z ((nI_ltI ha hb).mpr y)))
theorem n_icmp_ge (hB : MB p s m args meth c cc own nL D ca SR A) (a b : Nat) {off : Int} (tgt : Nat) (hdg : decode cc pc = .ok (.if_icmp .ge off, 3)) (ht : (pc : Int) + off = (tgt : Int)) (ha : a < 2 ^ 31) (hb : b < 2 ^ 31) (kt : b ≤ a → G p l e R s m args below meth c D ad A nL Q cells slots cn E tgt lvs st) (kf : a < b → G p l e R s m args below meth c D ad A nL Q cells slots cn E (pc + 3) lvs st) : G p l e R s m args below meth c D ad A nL Q cells slots cn E pc lvs (.int (nI b) :: .int (nI a) :: st) :=
  g_icmp_ge hB tgt hdg ht (fun z => kt ((nI_leI hb ha).mp z)) (fun z => kf (Nat.lt_of_not_le fun y => z ((nI_leI hb ha).mpr y)))
theorem n_icmp_gt (hB : MB p s m args meth c cc own nL D ca SR A) (a b : Nat) {off : Int} (tgt : Nat) (hdg : decode cc pc = .ok (.if_icmp .gt off, 3)) (ht : (pc : Int) + off = (tgt : Int)) (ha : a < 2 ^ 31) (hb : b < 2 ^ 31) (kt : b < a → G p l e R s m args below meth c D ad A nL Q cells slots cn E tgt lvs st) (kf : a ≤ b → G p l e R s m args below meth c D ad A nL Q cells slots cn E (pc + 3) lvs st) : G p l e R s m args below meth c D ad A nL Q cells slots cn E pc lvs (.int (nI b) :: .int (nI a) :: st) :=
  g_icmp_gt hB tgt hdg ht (fun z => kt ((nI_ltI hb ha).mp z)) (fun z => kf (Nat.le_of_not_lt fun y => z ((nI_ltI hb ha).mpr y)))
theorem n_icmp_le (hB : MB p s m args meth c cc own nL D ca SR A) (a b : Nat) {off : Int} (tgt : Nat) (hdg : decode cc pc = .ok (.if_icmp .le off, 3)) (ht : (pc : Int) + off = (tgt : Int)) (ha : a < 2 ^ 31) (hb : b < 2 ^ 31) (kt : a ≤ b → G p l e R s m args below meth c D ad A nL Q cells slots cn E tgt lvs st) (kf : b < a → G p l e R s m args below meth c D ad A nL Q cells slots cn E (pc + 3) lvs st) : G p l e R s m args below meth c D ad A nL Q cells slots cn E pc lvs (.int (nI b) :: .int (nI a) :: st) :=
  g_icmp_le hB tgt hdg ht (fun z => kt ((nI_leI ha hb).mp z)) (fun z => kf (Nat.lt_of_not_le fun y => z ((nI_leI ha hb).mpr y)))
theorem n_icmp_eq (hB : MB p s m args meth c cc own nL D ca SR A) (a b : Nat) {off : Int} (tgt : Nat) (hdg : decode cc pc = .ok (.if_icmp .eq off, 3)) (ht : (pc : Int) + off = (tgt : Int)) (ha : a < 2 ^ 31) (hb : b < 2 ^ 31) (kt : a = b → G p l e R s m args below meth c D ad A nL Q cells slots cn E tgt lvs st) (kf : a ≠ b → G p l e R s m args below meth c D ad A nL Q cells slots cn E (pc + 3) lvs st) : G p l e R s m args below meth c D ad A nL Q cells slots cn E pc lvs (.int (nI b) :: .int (nI a) :: st) :=
  g_icmp_eq hB tgt hdg ht (fun z => kt ((nI_eq ha hb).mp z)) (fun z => kf fun y => z ((nI_eq ha hb).mpr y))
theorem n_icmp_ne (hB : MB p s m args meth c cc own nL D ca SR A) (a b : Nat) {off : Int} (tgt : Nat) (hdg : decode cc pc = .ok (.if_icmp .ne off, 3)) (ht : (pc : Int) + off = (tgt : Int)) (ha : a < 2 ^ 31) (hb : b < 2 ^ 31) (kt : a ≠ b → G p l e R s m args below meth c D ad A nL Q cells slots cn E tgt lvs st) (kf : a = b → G p l e R s m args below meth c D ad A nL Q cells slots cn E (pc + 3) lvs st) : G p l e R s m args below meth c D ad A nL Q cells slots cn E pc lvs (.int (nI b) :: .int (nI a) :: st) :=
  g_icmp_ne hB tgt hdg ht (fun z => kt fun y => z ((nI_eq ha hb).mpr y)) (fun z => kf ((nI_eq ha hb).mp z))
theorem b_if_eq (hB : MB p s m args meth c cc own nL D ca SR A) (b : Bool) {off : Int} (tgt : Nat) (hdg : decode cc pc = .ok (.ifCond .eq off, 3)) (ht : (pc : Int) + off = (tgt : Int)) (kt : b = false → G p l e R s m args below meth c D ad A nL Q cells slots cn E tgt lvs st) (kf : b = true → G p l e R s m args below meth c D ad A nL Q cells slots cn E (pc + 3) lvs st) : G p l e R s m args below meth c D ad A nL Q cells slots cn E pc lvs (.int (bI b) :: st) :=
  g_if_eq hB tgt hdg ht (fun z => kt (bI_0.mp z)) (fun z => kf (bI_n0.mp z))
theorem b_if_ne (hB : MB p s m args meth c cc own nL D ca SR A) (b : Bool) {off : Int} (tgt : Nat) (hdg : decode cc pc = .ok (.ifCond .ne off, 3)) (ht : (pc : Int) + off = (tgt : Int)) (kt : b = true → G p l e R s m args below meth c D ad A nL Q cells slots cn E tgt lvs st) (kf : b = false → G p l e R s m args below meth c D ad A nL Q cells slots cn E (pc + 3) lvs st) : G p l e R s m args below meth c D ad A nL Q cells slots cn E pc lvs (.int (bI b) :: st) :=
  g_if_ne hB tgt hdg ht (fun z => kt (bI_n0.mp z)) (fun z => kf (bI_0.mp z))
theorem n_if_lt (hB : MB p s m args meth c cc own nL D ca SR A) (a : Nat) {off : Int} {tgt : Nat} (hdg : decode cc pc = .ok (.ifCond .lt off, 3)) (ht : (pc : Int) + off = (tgt : Int)) (ha : a < 2 ^ 31) (kf : G p l e R s m args below meth c D ad A nL Q cells slots cn E (pc + 3) lvs st) : G p l e R s m args below meth c D ad A nL Q cells slots cn E pc lvs (.int (nI a) :: st) :=
  g_if_lt hB tgt hdg ht (fun z => absurd z (nI_pos ha)) (fun _ => kf)
end GS
end
section
/-! numbers and small functions that both sides are told by -/
theorem toInt_nI {n : Nat} (h : n < 2 ^ 31) : (nI n).toInt = n := nI_toInt h
theorem i32_le {x y : Int32} : x ≤ y ↔ x.toInt ≤ y.toInt := Int32.le_iff_toInt_le
theorem i32_lt {x y : Int32} : x < y ↔ x.toInt < y.toInt := Int32.lt_iff_toInt_lt
theorem i32_eq {x y : Int32} : x = y ↔ x.toInt = y.toInt := Int32.toInt_inj.symm
def rgB (x : Int32) (n : Nat) : Bool := decide (0 ≤ x.toInt ∧ x.toInt < n)
theorem rgB_t {x : Int32} {n : Nat} (h : rgB x n = true) : ∃ j, j < n ∧ x = nI j := by
  have h := of_decide_eq_true h
  have hr := x.toInt_lt
  refine ⟨x.toInt.toNat, by omega, ?_⟩
  rw [i32_eq, toInt_nI (by omega)]
  omega
theorem rgB_nI {j n : Nat} (hj : j < 2 ^ 31) : rgB (nI j) n = decide (j < n) := by
  unfold rgB
  rw [toInt_nI hj]
  simp
def inR (v lo hi : Int32) : Bool := decide (lo ≤ v) && decide (v ≤ hi)
theorem inR_f1 {x lo hi : Int32} (h : x < lo) : inR x lo hi = false := by
  unfold inR
  rw [decide_eq_false (Int32.not_le.mpr h)]; rfl
theorem inR_f2 {x lo hi : Int32} (h : hi < x) : inR x lo hi = false := by
  unfold inR
  rw [decide_eq_false (p := x ≤ hi) (Int32.not_le.mpr h), Bool.and_false]
theorem inR_t {x lo hi : Int32} (h : ¬ x < lo) (h2 : ¬ hi < x) : inR x lo hi = true := by
  unfold inR
  rw [decide_eq_true (Int32.not_lt.mp h), decide_eq_true (Int32.not_lt.mp h2)]; rfl
theorem inR_0 {x : Int32} {n : Nat} (h : n < 2 ^ 30) : inR x (nI 0) (nI n - nI 1) = rgB x n := by
  unfold inR rgB
  rw [Bool.eq_iff_iff]
  simp only [Bool.and_eq_true, decide_eq_true_eq, i32_le, toInt_nI (show 0 < 2 ^ 31 by omega), pk_sub_toInt h (show 1 < 2 ^ 30 by omega)]
  omega
theorem inR_n {x : Int32} (a b : Nat) (ha : a < 2 ^ 31) (hb : b < 2 ^ 31) : inR x (nI a) (nI b) = decide ((a : Int) ≤ x.toInt ∧ x.toInt ≤ b) := by
  unfold inR
  rw [Bool.eq_iff_iff]
  simp only [Bool.and_eq_true, decide_eq_true_eq, i32_le, toInt_nI ha, toInt_nI hb]
theorem inR_rg {x : Int32} (b : Nat) (hb : b < 2 ^ 30) : inR x (nI 0) (nI b) = rgB x (b + 1) := by
  rw [inR_n 0 b (by omega) (by omega)]
  unfold rgB
  congr 1
  apply propext
  constructor
  · intro hh; omega
  · intro hh; omega
def cntB (f : Nat → Bool) : Nat → Nat
  | 0 => 0
  | n + 1 => cntB f n + (if f n then 1 else 0)
theorem cntB_le (f : Nat → Bool) : ∀ n, cntB f n ≤ n
  | 0 => Nat.le_refl 0
  | n + 1 => by have := cntB_le f n; unfold cntB; split <;> omega
theorem cntB_cong {f g : Nat → Bool} : ∀ {n : Nat}, (∀ k, k < n → f k = g k) → cntB f n = cntB g n
  | 0, _ => rfl
  | n + 1, h => by
    unfold cntB
    rw [cntB_cong (fun k hk => h k (Nat.lt_succ_of_lt hk)), h n (Nat.lt_succ_self n)]
def anyB (f : Nat → Bool) : Nat → Bool
  | 0 => false
  | n + 1 => anyB f n || f n
theorem anyB_t {f : Nat → Bool} : ∀ {n : Nat}, anyB f n = true ↔ ∃ k, k < n ∧ f k = true
  | 0 => by simp [anyB]
  | n + 1 => by
    unfold anyB
    rw [Bool.or_eq_true, anyB_t]
    constructor
    · rintro (⟨k, h1, h2⟩ | h)
      · exact ⟨k, Nat.lt_succ_of_lt h1, h2⟩
      · exact ⟨n, Nat.lt_succ_self n, h⟩
    · rintro ⟨k, h1, h2⟩
      rcases Nat.lt_or_ge k n with q | q
      · exact Or.inl ⟨k, q, h2⟩
      · rw [show n = k by omega]; exact Or.inr h2
theorem anyB_cong {f g : Nat → Bool} : ∀ {n : Nat}, (∀ k, k < n → f k = g k) → anyB f n = anyB g n
  | 0, _ => rfl
  | n + 1, h => by
    unfold anyB
    rw [anyB_cong (fun k hk => h k (Nat.lt_succ_of_lt hk)), h n (Nat.lt_succ_self n)]
def oI : Option Nat → Int32
  | none => -1
  | some c => nI c
theorem m1_ne {n : Nat} (h : n < 2 ^ 31) : nI n ≠ -1 := by
  intro z
  have := congrArg Int32.toInt z
  rw [toInt_nI h] at this
  have h2 : (-1 : Int32).toInt = -1 := rfl
  omega
theorem oI_m1 {o : Option Nat} (h : ∀ c, o = some c → c < 2 ^ 31) : oI o = -1 ↔ o = none := by
  cases o with
  | none => simp [oI]
  | some c => simp [oI, m1_ne (h c rfl)]
/-- the best of those that are ok: the greatest by rk, the earliest of equals -/
def bstep (ok : Nat → Bool) (rk : Nat → Int32) (n : Nat) (b : Option Nat) : Option Nat :=
  bif ok n && (match b with | none => true | some c => decide (rk c < rk n)) then some n else b
def bestN (ok : Nat → Bool) (rk : Nat → Int32) : Nat → Option Nat
  | 0 => none
  | n + 1 => bstep ok rk n (bestN ok rk n)
theorem bestN_lt {ok : Nat → Bool} {rk : Nat → Int32} : ∀ {n c : Nat}, bestN ok rk n = some c → c < n ∧ ok c = true
  | 0, c, h => by cases h
  | n + 1, c, h => by
    unfold bestN bstep at h
    cases hb : (ok n && (match bestN ok rk n with | none => true | some c => decide (rk c < rk n))) with
    | true =>
      rw [hb] at h
      cases h
      exact ⟨Nat.lt_succ_self _, (Bool.and_eq_true_iff.mp hb).1⟩
    | false =>
      rw [hb] at h
      have := bestN_lt (n := n) h
      exact ⟨Nat.lt_succ_of_lt this.1, this.2⟩
theorem bestN_cong {ok ok' : Nat → Bool} {rk rk' : Nat → Int32} : ∀ {n : Nat}, (∀ c, c < n → ok c = ok' c) → (∀ c, c < n → rk c = rk' c) → bestN ok rk n = bestN ok' rk' n
  | 0, _, _ => rfl
  | n + 1, h1, h2 => by
    unfold bestN
    rw [bestN_cong (fun c hc => h1 c (Nat.lt_succ_of_lt hc)) (fun c hc => h2 c (Nat.lt_succ_of_lt hc))]
    unfold bstep
    rw [h1 n (Nat.lt_succ_self n), h2 n (Nat.lt_succ_self n)]
    cases hb : bestN ok' rk' n with
    | none => rfl
    | some c => simp only [h2 c (Nat.lt_succ_of_lt (bestN_lt hb).1)]
theorem fit_b (b : Bool) : fits .boolean (.int (bI b)) = true := by cases b <;> rfl
end
section
/-! the reference: its small methods -/
section M1
variable {l : Launch} {D : va_G} {ad : Nat → Nat → Nat} {ca : Nat → ClassId} {SR : List (String × Nat × String)}
theorem c_X6_thrown (S : Mem) : CI l yX6_thrown cX6_thrown 1 (some .int) { frames := 0, cells := 0, slots := 0, locals := 0 } D ad CNT ca SR (SH ad ca S) [.ref (ad 17 0)] (PR ad ca (S 17 0 0) S) := by
  refine CI.of _ RX6 (by decide +kernel) rfl (Nat.le_of_ble_eq_true rfl) ?_
  intro p9 e9 s9 m9 a9 b9 me9 c9 A9 hB hr hnm9
  refine g_aload_n hB 0 dX6_thrown_0 rfl rfl ?_
  refine g_get (ci := 6) (T := TX6) (N := 26) hB in_X6 rfl 17 0 0 (by decide) (by decide) rfl tw_fl_X6_74 rfl dX6_thrown_1 ?_
  exact g_iret hB hr rfl (Nat.le_of_ble_eq_true rfl) (Nat.le_of_ble_eq_true rfl) (⟨rfl, rfl⟩) dX6_thrown_4
theorem c_X6_fails (S : Mem) (x : Int32) : CI l yX6_fails cX6_fails 2 (some .int) { frames := 0, cells := 0, slots := 0, locals := 0 } D ad CNT ca SR (SH ad ca S) [.ref (ad 17 0), .int (x)] (PR ad ca (nI 0) (uM S 17 0 0 x)) := by
  refine CI.of _ RX6 (by decide +kernel) rfl (Nat.le_of_ble_eq_true rfl) ?_
  intro p9 e9 s9 m9 a9 b9 me9 c9 A9 hB hr hnm9
  refine g_aload_n hB 0 dX6_fails_0 rfl rfl ?_
  refine g_iload_n hB 1 dX6_fails_1 rfl rfl ?_
  refine s_put (ci := 6) (T := TX6) (N := 26) hB in_X6 rfl tyX6 tyX6_ok nmX6 17 0 0 (by decide) (by decide) rfl rfl tw_fl_X6_74 rfl rfl rfl (Nat.le_of_ble_eq_true rfl) dX6_fails_2 ?_
  refine g_iconst hB (nI 0) dX6_fails_5 rfl ?_
  exact g_iret hB hr rfl (Nat.le_of_ble_eq_true rfl) (Nat.le_of_ble_eq_true rfl) (⟨rfl, rfl⟩) dX6_fails_6
theorem c_X6_in (S : Mem) (x lo hi : Int32) : CI l yX6_in cX6_in 3 (some .boolean) { frames := 0, cells := 0, slots := 0, locals := 0 } D ad CNT ca SR (SH ad ca S) [.int (x), .int (lo), .int (hi)] (PR ad ca (bI (inR x lo hi)) S) := by
  refine CI.of _ RX6 (by decide +kernel) rfl (Nat.le_of_ble_eq_true rfl) ?_
  intro p9 e9 s9 m9 a9 b9 me9 c9 A9 hB hr hnm9
  refine g_iload_n hB 0 dX6_in_0 rfl rfl ?_
  refine g_iload_n hB 1 dX6_in_1 rfl rfl ?_
  refine g_icmp_lt hB 14 dX6_in_2 (by decide) (fun c_2 => ?_) (fun c_2 => ?_)
  · refine g_iconst hB (nI 0) dX6_in_14 rfl ?_
    exact g_iret hB hr rfl (Nat.le_of_ble_eq_true rfl) (Nat.le_of_ble_eq_true rfl) (⟨by first | (rw [inR_f1 c_2]; rfl) | (rw [inR_f2 c_7]; rfl) | (rw [inR_t c_2 c_7]; rfl), rfl⟩) dX6_in_15
  · refine g_iload_n hB 0 dX6_in_5 rfl rfl ?_
    refine g_iload_n hB 2 dX6_in_6 rfl rfl ?_
    refine g_icmp_gt hB 14 dX6_in_7 (by decide) (fun c_7 => ?_) (fun c_7 => ?_)
    · refine g_iconst hB (nI 0) dX6_in_14 rfl ?_
      exact g_iret hB hr rfl (Nat.le_of_ble_eq_true rfl) (Nat.le_of_ble_eq_true rfl) (⟨by first | (rw [inR_f1 c_2]; rfl) | (rw [inR_f2 c_7]; rfl) | (rw [inR_t c_2 c_7]; rfl), rfl⟩) dX6_in_15
    · refine g_iconst hB (nI 1) dX6_in_10 rfl ?_
      refine g_goto hB 15 dX6_in_11 (by decide) ?_
      exact g_iret hB hr rfl (Nat.le_of_ble_eq_true rfl) (Nat.le_of_ble_eq_true rfl) (⟨by first | (rw [inR_f1 c_2]; rfl) | (rw [inR_f2 c_7]; rfl) | (rw [inR_t c_2 c_7]; rfl), rfl⟩) dX6_in_15
theorem c_X6_isPerson (S : Mem) (x : Int32) : CI l yX6_isPerson cX6_isPerson 1 (some .boolean) { frames := 1, cells := 0, slots := 0, locals := 22 } D ad CNT ca SR (SH ad ca S) [.int (x)] (PR ad ca (bI (rgB x 8)) S) := by
  refine CI.of _ RX6 (by decide +kernel) rfl (Nat.le_of_ble_eq_true rfl) ?_
  intro p9 e9 s9 m9 a9 b9 me9 c9 A9 hB hr hnm9
  refine g_iload_n hB 0 dX6_isPerson_0 rfl rfl ?_
  refine g_iconst hB (nI 0) dX6_isPerson_1 rfl ?_
  refine g_bipush hB (nI 7) dX6_isPerson_2 rfl ?_
  refine g_callSI hB (c_X6_in S _ _ _) k_X6_77 yk_X6_in ⟨Nat.le_of_ble_eq_true rfl, Nat.le_of_ble_eq_true rfl⟩ rfl (Nat.le_of_ble_eq_true rfl) ⟨Nat.le_of_ble_eq_true rfl, Nat.le_of_ble_eq_true rfl⟩ dX6_isPerson_4 ?_
  rintro _ _ ⟨rfl, rfl⟩
  exact g_iret hB hr (nar_b _) (Nat.le_of_ble_eq_true rfl) (Nat.le_of_ble_eq_true rfl) (⟨by rw [inR_rg 7 (by omega)], rfl⟩) dX6_isPerson_7
theorem c_X6_isKey (S : Mem) (x : Int32) : CI l yX6_isKey cX6_isKey 1 (some .boolean) { frames := 1, cells := 0, slots := 0, locals := 22 } D ad CNT ca SR (SH ad ca S) [.int (x)] (PR ad ca (bI (rgB x 6)) S) := by
  refine CI.of _ RX6 (by decide +kernel) rfl (Nat.le_of_ble_eq_true rfl) ?_
  intro p9 e9 s9 m9 a9 b9 me9 c9 A9 hB hr hnm9
  refine g_iload_n hB 0 dX6_isKey_0 rfl rfl ?_
  refine g_iconst hB (nI 0) dX6_isKey_1 rfl ?_
  refine g_iconst hB (nI 5) dX6_isKey_2 rfl ?_
  refine g_callSI hB (c_X6_in S _ _ _) k_X6_77 yk_X6_in ⟨Nat.le_of_ble_eq_true rfl, Nat.le_of_ble_eq_true rfl⟩ rfl (Nat.le_of_ble_eq_true rfl) ⟨Nat.le_of_ble_eq_true rfl, Nat.le_of_ble_eq_true rfl⟩ dX6_isKey_3 ?_
  rintro _ _ ⟨rfl, rfl⟩
  exact g_iret hB hr (nar_b _) (Nat.le_of_ble_eq_true rfl) (Nat.le_of_ble_eq_true rfl) (⟨by rw [inR_rg 5 (by omega)], rfl⟩) dX6_isKey_6
theorem c_X6_isGroup (S : Mem) (x : Int32) (n : Nat) (h : S 17 0 4 = nI n) (hn : n ≤ 10) : CI l yX6_isGroup cX6_isGroup 2 (some .boolean) { frames := 1, cells := 0, slots := 0, locals := 22 } D ad CNT ca SR (SH ad ca S) [.ref (ad 17 0), .int (x)] (PR ad ca (bI (rgB x n)) S) := by
  refine CI.of _ RX6 (by decide +kernel) rfl (Nat.le_of_ble_eq_true rfl) ?_
  intro p9 e9 s9 m9 a9 b9 me9 c9 A9 hB hr hnm9
  refine g_iload_n hB 1 dX6_isGroup_0 rfl rfl ?_
  refine g_iconst hB (nI 0) dX6_isGroup_1 rfl ?_
  refine g_aload_n hB 0 dX6_isGroup_2 rfl rfl ?_
  refine g_get (ci := 6) (T := TX6) (N := 26) hB in_X6 rfl 17 0 4 (by decide) (by decide) rfl tw_fl_X6_16 rfl dX6_isGroup_3 ?_
  refine g_top (nI n) (h) ?_
  refine g_iconst hB (nI 1) dX6_isGroup_6 rfl ?_
  refine g_isub hB dX6_isGroup_7 ?_
  refine g_callSI hB (c_X6_in S _ _ _) k_X6_77 yk_X6_in ⟨Nat.le_of_ble_eq_true rfl, Nat.le_of_ble_eq_true rfl⟩ rfl (Nat.le_of_ble_eq_true rfl) ⟨Nat.le_of_ble_eq_true rfl, Nat.le_of_ble_eq_true rfl⟩ dX6_isGroup_8 ?_
  rintro _ _ ⟨rfl, rfl⟩
  exact g_iret hB hr (nar_b _) (Nat.le_of_ble_eq_true rfl) (Nat.le_of_ble_eq_true rfl) (⟨by rw [inR_0 (by omega)], rfl⟩) dX6_isGroup_11
theorem c_X6_isMachine (S : Mem) (x : Int32) (n : Nat) (h : S 17 0 6 = nI n) (hn : n ≤ 12) : CI l yX6_isMachine cX6_isMachine 2 (some .boolean) { frames := 1, cells := 0, slots := 0, locals := 22 } D ad CNT ca SR (SH ad ca S) [.ref (ad 17 0), .int (x)] (PR ad ca (bI (rgB x n)) S) := by
  refine CI.of _ RX6 (by decide +kernel) rfl (Nat.le_of_ble_eq_true rfl) ?_
  intro p9 e9 s9 m9 a9 b9 me9 c9 A9 hB hr hnm9
  refine g_iload_n hB 1 dX6_isMachine_0 rfl rfl ?_
  refine g_iconst hB (nI 0) dX6_isMachine_1 rfl ?_
  refine g_aload_n hB 0 dX6_isMachine_2 rfl rfl ?_
  refine g_get (ci := 6) (T := TX6) (N := 26) hB in_X6 rfl 17 0 6 (by decide) (by decide) rfl tw_fl_X6_81 rfl dX6_isMachine_3 ?_
  refine g_top (nI n) (h) ?_
  refine g_iconst hB (nI 1) dX6_isMachine_6 rfl ?_
  refine g_isub hB dX6_isMachine_7 ?_
  refine g_callSI hB (c_X6_in S _ _ _) k_X6_77 yk_X6_in ⟨Nat.le_of_ble_eq_true rfl, Nat.le_of_ble_eq_true rfl⟩ rfl (Nat.le_of_ble_eq_true rfl) ⟨Nat.le_of_ble_eq_true rfl, Nat.le_of_ble_eq_true rfl⟩ dX6_isMachine_8 ?_
  rintro _ _ ⟨rfl, rfl⟩
  exact g_iret hB hr (nar_b _) (Nat.le_of_ble_eq_true rfl) (Nat.le_of_ble_eq_true rfl) (⟨by rw [inR_0 (by omega)], rfl⟩) dX6_isMachine_11
theorem c_X6_isChange (S : Mem) (x : Int32) (n : Nat) (h : S 17 0 11 = nI n) (hn : n ≤ 40) : CI l yX6_isChange cX6_isChange 2 (some .boolean) { frames := 1, cells := 0, slots := 0, locals := 22 } D ad CNT ca SR (SH ad ca S) [.ref (ad 17 0), .int (x)] (PR ad ca (bI (rgB x n)) S) := by
  refine CI.of _ RX6 (by decide +kernel) rfl (Nat.le_of_ble_eq_true rfl) ?_
  intro p9 e9 s9 m9 a9 b9 me9 c9 A9 hB hr hnm9
  refine g_iload_n hB 1 dX6_isChange_0 rfl rfl ?_
  refine g_iconst hB (nI 0) dX6_isChange_1 rfl ?_
  refine g_aload_n hB 0 dX6_isChange_2 rfl rfl ?_
  refine g_get (ci := 6) (T := TX6) (N := 26) hB in_X6 rfl 17 0 11 (by decide) (by decide) rfl tw_fl_X6_84 rfl dX6_isChange_3 ?_
  refine g_top (nI n) (h) ?_
  refine g_iconst hB (nI 1) dX6_isChange_6 rfl ?_
  refine g_isub hB dX6_isChange_7 ?_
  refine g_callSI hB (c_X6_in S _ _ _) k_X6_77 yk_X6_in ⟨Nat.le_of_ble_eq_true rfl, Nat.le_of_ble_eq_true rfl⟩ rfl (Nat.le_of_ble_eq_true rfl) ⟨Nat.le_of_ble_eq_true rfl, Nat.le_of_ble_eq_true rfl⟩ dX6_isChange_8 ?_
  rintro _ _ ⟨rfl, rfl⟩
  exact g_iret hB hr (nar_b _) (Nat.le_of_ble_eq_true rfl) (Nat.le_of_ble_eq_true rfl) (⟨by rw [inR_0 (by omega)], rfl⟩) dX6_isChange_11
theorem c_X6_cells (S : Mem) (m k : Nat) : CI l yX6_cells cX6_cells 3 (some .int) { frames := 0, cells := 0, slots := 0, locals := 0 } D ad CNT ca SR (SH ad ca S) [.ref (ad 17 0), .int (nI m), .int (nI k)] (PR ad ca (nI (6 * (11 * m + k))) S) := by
  refine CI.of _ RX6 (by decide +kernel) rfl (Nat.le_of_ble_eq_true rfl) ?_
  intro p9 e9 s9 m9 a9 b9 me9 c9 A9 hB hr hnm9
  refine g_bipush hB (nI 6) dX6_cells_0 rfl ?_
  refine g_bipush hB (nI 11) dX6_cells_2 rfl ?_
  refine g_iload_n hB 1 dX6_cells_4 rfl rfl ?_
  refine g_imul hB dX6_cells_5 ?_
  refine g_top (nI (11 * m)) (pk_mul _ _) ?_
  refine g_iload_n hB 2 dX6_cells_6 rfl rfl ?_
  refine g_iadd hB dX6_cells_7 ?_
  refine g_top (nI (11 * m + k)) (nI_add _ _) ?_
  refine g_imul hB dX6_cells_8 ?_
  refine g_top (nI (6 * (11 * m + k))) (pk_mul _ _) ?_
  exact g_iret hB hr rfl (Nat.le_of_ble_eq_true rfl) (Nat.le_of_ble_eq_true rfl) (⟨rfl, rfl⟩) dX6_cells_9
def mGood (S : Mem) (c : Nat) : Nat := cntB (fun p => decide (S 18 13 (8 * c + p) = nI 1)) 8
theorem c_X6_good (S : Mem) (c : Nat) (hc : c < 40) : CI l yX6_good cX6_good 4 (some .int) { frames := 0, cells := 0, slots := 0, locals := 0 } D ad CNT ca SR (SH ad ca S) [.ref (ad 17 0), .int (nI c)] (PR ad ca (nI (mGood S c)) S) := by
  refine CI.of _ RX6 (by decide +kernel) rfl (Nat.le_of_ble_eq_true rfl) ?_
  intro p9 e9 s9 m9 a9 b9 me9 c9 A9 hB hr hnm9
  have loop : ∀ (n k a : Nat), 8 - k < n → k ≤ 8 → a = cntB (fun p => decide (S 18 13 (8 * c + p) = nI 1)) k → G p9 l e9 { frames := 0, cells := 0, slots := 0, locals := 0 } s9 m9 a9 b9 me9 c9 D ad A9 4 (MQ b9 (va_Qi (PR ad ca (nI (mGood S c)) S) (fun E' t => WW D ad CNT A9 E' t.heap) A9) a9 s9 0 0 A9) 0 0 CNT (SH ad ca (S)) 4 [(0, .ref (ad 17 0)), (1, .int (nI c)), (2, .int (nI a)), (3, .int (nI k))] [] := by
    intro n
    induction n with
    | zero => intro k a h1 h2; omega
    | succ n ih =>
      intro k a h1 h2 ha
      refine g_iload_n hB 3 dX6_good_4 rfl rfl ?_
      refine g_bipush hB (nI 8) dX6_good_5 rfl ?_
      refine n_icmp_ge hB k 8 39 dX6_good_7 (by decide) (by omega) (by omega) (fun c_7 => ?_) (fun c_7 => ?_)
      · have hk : k = 8 := by omega
        subst hk
        refine g_iload_n hB 2 dX6_good_39 rfl rfl ?_
        exact g_iret hB hr rfl (Nat.le_of_ble_eq_true rfl) (Nat.le_of_ble_eq_true rfl) (⟨by rw [ha]; rfl, rfl⟩) dX6_good_40
      · refine g_iload_n hB 2 dX6_good_10 rfl rfl ?_
        refine g_aload_n hB 0 dX6_good_11 rfl rfl ?_
        refine g_get (ci := 6) (T := TX6) (N := 26) hB in_X6 rfl 17 0 20 (by decide) (by decide) rfl tw_fl_X6_56 rfl dX6_good_12 ?_
        refine g_bipush hB (nI 8) dX6_good_15 rfl ?_
        refine g_iload_n hB 1 dX6_good_17 rfl rfl ?_
        refine g_imul hB dX6_good_18 ?_
        refine g_top (nI (8 * c)) (pk_mul _ _) ?_
        refine g_iload_n hB 3 dX6_good_19 rfl rfl ?_
        refine g_iadd hB dX6_good_20 ?_
        refine g_top (nI (8 * c + k)) (nI_add _ _) ?_
        refine g_iald hB 18 13 (8 * c + k) (n := 320) (by decide) rfl (by first | assumption | omega) (Nat.le_of_ble_eq_true rfl) dX6_good_21 ?_
        refine g_iconst hB (nI 1) dX6_good_22 rfl ?_
        refine g_icmp_ne hB 30 dX6_good_23 (by decide) (fun c_23 => ?_) (fun c_23 => ?_)
        · refine g_iconst hB (nI 0) dX6_good_30 rfl ?_
          refine g_iadd hB dX6_good_31 ?_
          refine g_top (nI (a + 0)) (nI_add _ _) ?_
          refine g_istore_n hB 2 dX6_good_32 rfl (by decide) ?_
          refine g_iinc hB (nI (k + 1)) dX6_good_33 rfl (nI_1 _) (by decide) ?_
          refine g_goto hB 4 dX6_good_36 (by decide) ?_
          exact g_sub _ rfl (ih (k + 1) _ (by omega) (by omega) (by simp [cntB, c_23, ha]))
        · refine g_iconst hB (nI 1) dX6_good_26 rfl ?_
          refine g_goto hB 31 dX6_good_27 (by decide) ?_
          refine g_iadd hB dX6_good_31 ?_
          refine g_top (nI (a + 1)) (nI_add _ _) ?_
          refine g_istore_n hB 2 dX6_good_32 rfl (by decide) ?_
          refine g_iinc hB (nI (k + 1)) dX6_good_33 rfl (nI_1 _) (by decide) ?_
          refine g_goto hB 4 dX6_good_36 (by decide) ?_
          exact g_sub _ rfl (ih (k + 1) _ (by omega) (by omega) (by simp [cntB, c_23, ha]))
  refine g_iconst hB (nI 0) dX6_good_0 rfl ?_
  refine g_istore_n hB 2 dX6_good_1 rfl (by decide) ?_
  refine g_iconst hB (nI 0) dX6_good_2 rfl ?_
  refine g_istore_n hB 3 dX6_good_3 rfl (by decide) ?_
  exact g_sub _ rfl (loop 9 0 0 (by omega) (by omega) rfl)
end M1
end
