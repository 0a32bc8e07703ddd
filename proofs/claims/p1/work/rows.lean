section
-- ===== PART A: goes FIRST, ahead of the names: the tables' words, and 'selects' of the private methods out of them =====
/-- a private method of a class that the tables say can be made, by its rows of tables_1 -/
def lw_okq (q : MethodName × Nat) : Prop := (q.1.cls ≠ "java/lang/invoke/MethodHandle" ∧ q.1.cls ≠ "java/lang/invoke/VarHandle") ∧ Cond.instantiable q.1.cls q.2 ∈ tables_1 ∧ Cond.privateMethod q.1 ∈ tables_1 ∧ Cond.instanceMethod q.1 ∈ tables_1
theorem lw_p0 : lw_okq (⟨"PortWarden$Port", "makeDueChanges", "()V"⟩, 15) := ⟨⟨by decide +kernel, by decide +kernel⟩, List.mem_of_getElem? (i := 37) (by decide +kernel), List.mem_of_getElem? (i := 272) (by decide +kernel), List.mem_of_getElem? (i := 273) (by decide +kernel)⟩
theorem lw_p1 : lw_okq (⟨"PortWarden$Port", "relax", "()V"⟩, 15) := ⟨⟨by decide +kernel, by decide +kernel⟩, List.mem_of_getElem? (i := 37) (by decide +kernel), List.mem_of_getElem? (i := 292) (by decide +kernel), List.mem_of_getElem? (i := 293) (by decide +kernel)⟩
theorem lw_p2 : lw_okq (⟨"PortWarden$Port", "releaseIfEnough", "()V"⟩, 15) := ⟨⟨by decide +kernel, by decide +kernel⟩, List.mem_of_getElem? (i := 37) (by decide +kernel), List.mem_of_getElem? (i := 310) (by decide +kernel), List.mem_of_getElem? (i := 311) (by decide +kernel)⟩
theorem lw_p3 : lw_okq (⟨"PortWarden$Port", "draftNewline", "()V"⟩, 15) := ⟨⟨by decide +kernel, by decide +kernel⟩, List.mem_of_getElem? (i := 37) (by decide +kernel), List.mem_of_getElem? (i := 400) (by decide +kernel), List.mem_of_getElem? (i := 401) (by decide +kernel)⟩
theorem lw_p4 : lw_okq (⟨"PortWarden$Output", "columnBehind", "(I)I"⟩, 5) := ⟨⟨by decide +kernel, by decide +kernel⟩, List.mem_of_getElem? (i := 93) (by decide +kernel), List.mem_of_getElem? (i := 416) (by decide +kernel), List.mem_of_getElem? (i := 417) (by decide +kernel)⟩
theorem lw_p5 : lw_okq (⟨"PortWarden$Port", "takeFlagged", "(Z)V"⟩, 15) := ⟨⟨by decide +kernel, by decide +kernel⟩, List.mem_of_getElem? (i := 37) (by decide +kernel), List.mem_of_getElem? (i := 429) (by decide +kernel), List.mem_of_getElem? (i := 430) (by decide +kernel)⟩
theorem lw_p6 : lw_okq (⟨"PortWarden$Port", "signal", "(II)V"⟩, 15) := ⟨⟨by decide +kernel, by decide +kernel⟩, List.mem_of_getElem? (i := 37) (by decide +kernel), List.mem_of_getElem? (i := 433) (by decide +kernel), List.mem_of_getElem? (i := 434) (by decide +kernel)⟩
theorem lw_p7 : lw_okq (⟨"PortWarden$Port", "draftForm", "(I)V"⟩, 15) := ⟨⟨by decide +kernel, by decide +kernel⟩, List.mem_of_getElem? (i := 37) (by decide +kernel), List.mem_of_getElem? (i := 437) (by decide +kernel), List.mem_of_getElem? (i := 438) (by decide +kernel)⟩
theorem lw_p8 : lw_okq (⟨"PortWarden$Port", "addForm", "(I)V"⟩, 15) := ⟨⟨by decide +kernel, by decide +kernel⟩, List.mem_of_getElem? (i := 37) (by decide +kernel), List.mem_of_getElem? (i := 441) (by decide +kernel), List.mem_of_getElem? (i := 442) (by decide +kernel)⟩
theorem lw_p9 : lw_okq (⟨"PortWarden$Port", "echo", "()V"⟩, 15) := ⟨⟨by decide +kernel, by decide +kernel⟩, List.mem_of_getElem? (i := 37) (by decide +kernel), List.mem_of_getElem? (i := 448) (by decide +kernel), List.mem_of_getElem? (i := 449) (by decide +kernel)⟩
theorem lw_p10 : lw_okq (⟨"PortWarden$Port", "keepAndEcho", "(I)V"⟩, 15) := ⟨⟨by decide +kernel, by decide +kernel⟩, List.mem_of_getElem? (i := 37) (by decide +kernel), List.mem_of_getElem? (i := 453) (by decide +kernel), List.mem_of_getElem? (i := 454) (by decide +kernel)⟩
theorem lw_p11 : lw_okq (⟨"PortWarden$Port", "keep", "(I)Z"⟩, 15) := ⟨⟨by decide +kernel, by decide +kernel⟩, List.mem_of_getElem? (i := 37) (by decide +kernel), List.mem_of_getElem? (i := 457) (by decide +kernel), List.mem_of_getElem? (i := 458) (by decide +kernel)⟩
theorem lw_p12 : lw_okq (⟨"PortWarden$Port", "settledAsFlow", "(I)Z"⟩, 15) := ⟨⟨by decide +kernel, by decide +kernel⟩, List.mem_of_getElem? (i := 37) (by decide +kernel), List.mem_of_getElem? (i := 466) (by decide +kernel), List.mem_of_getElem? (i := 467) (by decide +kernel)⟩
theorem lw_p13 : lw_okq (⟨"PortWarden$Port", "settledAsSignal", "(I)Z"⟩, 15) := ⟨⟨by decide +kernel, by decide +kernel⟩, List.mem_of_getElem? (i := 37) (by decide +kernel), List.mem_of_getElem? (i := 470) (by decide +kernel), List.mem_of_getElem? (i := 471) (by decide +kernel)⟩
theorem lw_p14 : lw_okq (⟨"PortWarden$Port", "edit", "(I)V"⟩, 15) := ⟨⟨by decide +kernel, by decide +kernel⟩, List.mem_of_getElem? (i := 37) (by decide +kernel), List.mem_of_getElem? (i := 474) (by decide +kernel), List.mem_of_getElem? (i := 475) (by decide +kernel)⟩
theorem lw_p15 : lw_okq (⟨"PortWarden$Port", "takeAway", "(I)V"⟩, 15) := ⟨⟨by decide +kernel, by decide +kernel⟩, List.mem_of_getElem? (i := 37) (by decide +kernel), List.mem_of_getElem? (i := 483) (by decide +kernel), List.mem_of_getElem? (i := 484) (by decide +kernel)⟩
def lw_privs_1 : List (MethodName × Nat) := [(⟨"PortWarden$Port", "makeDueChanges", "()V"⟩, 15), (⟨"PortWarden$Port", "relax", "()V"⟩, 15), (⟨"PortWarden$Port", "releaseIfEnough", "()V"⟩, 15), (⟨"PortWarden$Port", "draftNewline", "()V"⟩, 15), (⟨"PortWarden$Output", "columnBehind", "(I)I"⟩, 5), (⟨"PortWarden$Port", "takeFlagged", "(Z)V"⟩, 15), (⟨"PortWarden$Port", "signal", "(II)V"⟩, 15), (⟨"PortWarden$Port", "draftForm", "(I)V"⟩, 15), (⟨"PortWarden$Port", "addForm", "(I)V"⟩, 15), (⟨"PortWarden$Port", "echo", "()V"⟩, 15), (⟨"PortWarden$Port", "keepAndEcho", "(I)V"⟩, 15), (⟨"PortWarden$Port", "keep", "(I)Z"⟩, 15), (⟨"PortWarden$Port", "settledAsFlow", "(I)Z"⟩, 15), (⟨"PortWarden$Port", "settledAsSignal", "(I)Z"⟩, 15), (⟨"PortWarden$Port", "edit", "(I)V"⟩, 15), (⟨"PortWarden$Port", "takeAway", "(I)V"⟩, 15)]
theorem lw_r1 : ∀ q ∈ lw_privs_1, lw_okq q := List.forall_mem_cons.mpr ⟨lw_p0, List.forall_mem_cons.mpr ⟨lw_p1, List.forall_mem_cons.mpr ⟨lw_p2, List.forall_mem_cons.mpr ⟨lw_p3, List.forall_mem_cons.mpr ⟨lw_p4, List.forall_mem_cons.mpr ⟨lw_p5, List.forall_mem_cons.mpr ⟨lw_p6, List.forall_mem_cons.mpr ⟨lw_p7, List.forall_mem_cons.mpr ⟨lw_p8, List.forall_mem_cons.mpr ⟨lw_p9, List.forall_mem_cons.mpr ⟨lw_p10, List.forall_mem_cons.mpr ⟨lw_p11, List.forall_mem_cons.mpr ⟨lw_p12, List.forall_mem_cons.mpr ⟨lw_p13, List.forall_mem_cons.mpr ⟨lw_p14, List.forall_mem_cons.mpr ⟨lw_p15, fun _ h => absurd h List.not_mem_nil⟩⟩⟩⟩⟩⟩⟩⟩⟩⟩⟩⟩⟩⟩⟩⟩
theorem lw_p16 : lw_okq (⟨"PortWarden$Port", "reprint", "(I)V"⟩, 15) := ⟨⟨by decide +kernel, by decide +kernel⟩, List.mem_of_getElem? (i := 37) (by decide +kernel), List.mem_of_getElem? (i := 501) (by decide +kernel), List.mem_of_getElem? (i := 502) (by decide +kernel)⟩
theorem lw_p17 : lw_okq (⟨"PortWarden$Port", "endLine", "(I)Z"⟩, 15) := ⟨⟨by decide +kernel, by decide +kernel⟩, List.mem_of_getElem? (i := 37) (by decide +kernel), List.mem_of_getElem? (i := 506) (by decide +kernel), List.mem_of_getElem? (i := 507) (by decide +kernel)⟩
theorem lw_p18 : lw_okq (⟨"PortWardenModel", "push", "(I)V"⟩, 34) := ⟨⟨by decide +kernel, by decide +kernel⟩, List.mem_of_getElem? (i := 582) (by decide +kernel), List.mem_of_getElem? (i := 705) (by decide +kernel), List.mem_of_getElem? (i := 706) (by decide +kernel)⟩
theorem lw_p19 : lw_okq (⟨"PortWardenModel", "flowByte", "(I)I"⟩, 34) := ⟨⟨by decide +kernel, by decide +kernel⟩, List.mem_of_getElem? (i := 582) (by decide +kernel), List.mem_of_getElem? (i := 709) (by decide +kernel), List.mem_of_getElem? (i := 710) (by decide +kernel)⟩
theorem lw_p20 : lw_okq (⟨"PortWardenModel", "mode1", "(II)I"⟩, 34) := ⟨⟨by decide +kernel, by decide +kernel⟩, List.mem_of_getElem? (i := 582) (by decide +kernel), List.mem_of_getElem? (i := 713) (by decide +kernel), List.mem_of_getElem? (i := 714) (by decide +kernel)⟩
theorem lw_p21 : lw_okq (⟨"PortWardenModel", "settle", "(I)V"⟩, 34) := ⟨⟨by decide +kernel, by decide +kernel⟩, List.mem_of_getElem? (i := 582) (by decide +kernel), List.mem_of_getElem? (i := 717) (by decide +kernel), List.mem_of_getElem? (i := 718) (by decide +kernel)⟩
theorem lw_p22 : lw_okq (⟨"PortWardenModel", "emptyStore", "(I)V"⟩, 34) := ⟨⟨by decide +kernel, by decide +kernel⟩, List.mem_of_getElem? (i := 582) (by decide +kernel), List.mem_of_getElem? (i := 721) (by decide +kernel), List.mem_of_getElem? (i := 722) (by decide +kernel)⟩
theorem lw_p23 : lw_okq (⟨"PortWardenModel", "flowDown", "(I)V"⟩, 34) := ⟨⟨by decide +kernel, by decide +kernel⟩, List.mem_of_getElem? (i := 582) (by decide +kernel), List.mem_of_getElem? (i := 725) (by decide +kernel), List.mem_of_getElem? (i := 726) (by decide +kernel)⟩
theorem lw_p24 : lw_okq (⟨"PortWardenModel", "sets", "(III)V"⟩, 34) := ⟨⟨by decide +kernel, by decide +kernel⟩, List.mem_of_getElem? (i := 582) (by decide +kernel), List.mem_of_getElem? (i := 729) (by decide +kernel), List.mem_of_getElem? (i := 730) (by decide +kernel)⟩
theorem lw_p25 : lw_okq (⟨"PortWardenModel", "raise", "(II)V"⟩, 34) := ⟨⟨by decide +kernel, by decide +kernel⟩, List.mem_of_getElem? (i := 582) (by decide +kernel), List.mem_of_getElem? (i := 741) (by decide +kernel), List.mem_of_getElem? (i := 742) (by decide +kernel)⟩
theorem lw_p26 : lw_okq (⟨"PortWardenModel", "emptyAll", "(I)V"⟩, 34) := ⟨⟨by decide +kernel, by decide +kernel⟩, List.mem_of_getElem? (i := 582) (by decide +kernel), List.mem_of_getElem? (i := 745) (by decide +kernel), List.mem_of_getElem? (i := 746) (by decide +kernel)⟩
theorem lw_p27 : lw_okq (⟨"PortWardenModel", "isBehind", "(II)Z"⟩, 34) := ⟨⟨by decide +kernel, by decide +kernel⟩, List.mem_of_getElem? (i := 582) (by decide +kernel), List.mem_of_getElem? (i := 776) (by decide +kernel), List.mem_of_getElem? (i := 777) (by decide +kernel)⟩
theorem lw_p28 : lw_okq (⟨"PortWardenModel", "on", "(II)Z"⟩, 34) := ⟨⟨by decide +kernel, by decide +kernel⟩, List.mem_of_getElem? (i := 582) (by decide +kernel), List.mem_of_getElem? (i := 780) (by decide +kernel), List.mem_of_getElem? (i := 781) (by decide +kernel)⟩
theorem lw_p29 : lw_okq (⟨"PortWardenModel", "give", "(II)V"⟩, 34) := ⟨⟨by decide +kernel, by decide +kernel⟩, List.mem_of_getElem? (i := 582) (by decide +kernel), List.mem_of_getElem? (i := 784) (by decide +kernel), List.mem_of_getElem? (i := 785) (by decide +kernel)⟩
theorem lw_p30 : lw_okq (⟨"PortWardenModel", "column1", "(II)I"⟩, 34) := ⟨⟨by decide +kernel, by decide +kernel⟩, List.mem_of_getElem? (i := 582) (by decide +kernel), List.mem_of_getElem? (i := 788) (by decide +kernel), List.mem_of_getElem? (i := 789) (by decide +kernel)⟩
theorem lw_p31 : lw_okq (⟨"PortWardenModel", "pass", "(I)V"⟩, 34) := ⟨⟨by decide +kernel, by decide +kernel⟩, List.mem_of_getElem? (i := 582) (by decide +kernel), List.mem_of_getElem? (i := 796) (by decide +kernel), List.mem_of_getElem? (i := 797) (by decide +kernel)⟩
def lw_privs_2 : List (MethodName × Nat) := [(⟨"PortWarden$Port", "reprint", "(I)V"⟩, 15), (⟨"PortWarden$Port", "endLine", "(I)Z"⟩, 15), (⟨"PortWardenModel", "push", "(I)V"⟩, 34), (⟨"PortWardenModel", "flowByte", "(I)I"⟩, 34), (⟨"PortWardenModel", "mode1", "(II)I"⟩, 34), (⟨"PortWardenModel", "settle", "(I)V"⟩, 34), (⟨"PortWardenModel", "emptyStore", "(I)V"⟩, 34), (⟨"PortWardenModel", "flowDown", "(I)V"⟩, 34), (⟨"PortWardenModel", "sets", "(III)V"⟩, 34), (⟨"PortWardenModel", "raise", "(II)V"⟩, 34), (⟨"PortWardenModel", "emptyAll", "(I)V"⟩, 34), (⟨"PortWardenModel", "isBehind", "(II)Z"⟩, 34), (⟨"PortWardenModel", "on", "(II)Z"⟩, 34), (⟨"PortWardenModel", "give", "(II)V"⟩, 34), (⟨"PortWardenModel", "column1", "(II)I"⟩, 34), (⟨"PortWardenModel", "pass", "(I)V"⟩, 34)]
theorem lw_r2 : ∀ q ∈ lw_privs_2, lw_okq q := List.forall_mem_cons.mpr ⟨lw_p16, List.forall_mem_cons.mpr ⟨lw_p17, List.forall_mem_cons.mpr ⟨lw_p18, List.forall_mem_cons.mpr ⟨lw_p19, List.forall_mem_cons.mpr ⟨lw_p20, List.forall_mem_cons.mpr ⟨lw_p21, List.forall_mem_cons.mpr ⟨lw_p22, List.forall_mem_cons.mpr ⟨lw_p23, List.forall_mem_cons.mpr ⟨lw_p24, List.forall_mem_cons.mpr ⟨lw_p25, List.forall_mem_cons.mpr ⟨lw_p26, List.forall_mem_cons.mpr ⟨lw_p27, List.forall_mem_cons.mpr ⟨lw_p28, List.forall_mem_cons.mpr ⟨lw_p29, List.forall_mem_cons.mpr ⟨lw_p30, List.forall_mem_cons.mpr ⟨lw_p31, fun _ h => absurd h List.not_mem_nil⟩⟩⟩⟩⟩⟩⟩⟩⟩⟩⟩⟩⟩⟩⟩⟩
theorem lw_p32 : lw_okq (⟨"PortWardenModel", "takes", "(III)V"⟩, 34) := ⟨⟨by decide +kernel, by decide +kernel⟩, List.mem_of_getElem? (i := 582) (by decide +kernel), List.mem_of_getElem? (i := 800) (by decide +kernel), List.mem_of_getElem? (i := 801) (by decide +kernel)⟩
theorem lw_p33 : lw_okq (⟨"PortWardenModel", "signal", "(III)V"⟩, 34) := ⟨⟨by decide +kernel, by decide +kernel⟩, List.mem_of_getElem? (i := 582) (by decide +kernel), List.mem_of_getElem? (i := 804) (by decide +kernel), List.mem_of_getElem? (i := 805) (by decide +kernel)⟩
theorem lw_p34 : lw_okq (⟨"PortWardenModel", "emptyOut", "(I)V"⟩, 34) := ⟨⟨by decide +kernel, by decide +kernel⟩, List.mem_of_getElem? (i := 582) (by decide +kernel), List.mem_of_getElem? (i := 808) (by decide +kernel), List.mem_of_getElem? (i := 809) (by decide +kernel)⟩
theorem lw_p35 : lw_okq (⟨"PortWardenModel", "echoForm", "(II)V"⟩, 34) := ⟨⟨by decide +kernel, by decide +kernel⟩, List.mem_of_getElem? (i := 582) (by decide +kernel), List.mem_of_getElem? (i := 812) (by decide +kernel), List.mem_of_getElem? (i := 813) (by decide +kernel)⟩
theorem lw_p36 : lw_okq (⟨"PortWardenModel", "addForm", "(I)V"⟩, 34) := ⟨⟨by decide +kernel, by decide +kernel⟩, List.mem_of_getElem? (i := 582) (by decide +kernel), List.mem_of_getElem? (i := 816) (by decide +kernel), List.mem_of_getElem? (i := 817) (by decide +kernel)⟩
theorem lw_p37 : lw_okq (⟨"PortWardenModel", "add", "(I)V"⟩, 34) := ⟨⟨by decide +kernel, by decide +kernel⟩, List.mem_of_getElem? (i := 582) (by decide +kernel), List.mem_of_getElem? (i := 823) (by decide +kernel), List.mem_of_getElem? (i := 824) (by decide +kernel)⟩
theorem lw_p38 : lw_okq (⟨"PortWardenModel", "echo", "(I)V"⟩, 34) := ⟨⟨by decide +kernel, by decide +kernel⟩, List.mem_of_getElem? (i := 582) (by decide +kernel), List.mem_of_getElem? (i := 827) (by decide +kernel), List.mem_of_getElem? (i := 828) (by decide +kernel)⟩
theorem lw_p39 : lw_okq (⟨"PortWardenModel", "asItIs", "(II)V"⟩, 34) := ⟨⟨by decide +kernel, by decide +kernel⟩, List.mem_of_getElem? (i := 582) (by decide +kernel), List.mem_of_getElem? (i := 831) (by decide +kernel), List.mem_of_getElem? (i := 832) (by decide +kernel)⟩
theorem lw_p40 : lw_okq (⟨"PortWardenModel", "comesIn", "(IIZ)Z"⟩, 34) := ⟨⟨by decide +kernel, by decide +kernel⟩, List.mem_of_getElem? (i := 582) (by decide +kernel), List.mem_of_getElem? (i := 835) (by decide +kernel), List.mem_of_getElem? (i := 836) (by decide +kernel)⟩
theorem lw_p41 : lw_okq (⟨"PortWardenModel", "isCanon", "(I)Z"⟩, 34) := ⟨⟨by decide +kernel, by decide +kernel⟩, List.mem_of_getElem? (i := 582) (by decide +kernel), List.mem_of_getElem? (i := 839) (by decide +kernel), List.mem_of_getElem? (i := 840) (by decide +kernel)⟩
theorem lw_p42 : lw_okq (⟨"PortWardenModel", "release", "(I)V"⟩, 34) := ⟨⟨by decide +kernel, by decide +kernel⟩, List.mem_of_getElem? (i := 582) (by decide +kernel), List.mem_of_getElem? (i := 843) (by decide +kernel), List.mem_of_getElem? (i := 844) (by decide +kernel)⟩
theorem lw_p43 : lw_okq (⟨"PortWardenModel", "flowUp", "(I)V"⟩, 34) := ⟨⟨by decide +kernel, by decide +kernel⟩, List.mem_of_getElem? (i := 582) (by decide +kernel), List.mem_of_getElem? (i := 847) (by decide +kernel), List.mem_of_getElem? (i := 848) (by decide +kernel)⟩
theorem lw_p44 : lw_okq (⟨"PortWardenModel", "editing", "(II)V"⟩, 34) := ⟨⟨by decide +kernel, by decide +kernel⟩, List.mem_of_getElem? (i := 582) (by decide +kernel), List.mem_of_getElem? (i := 851) (by decide +kernel), List.mem_of_getElem? (i := 852) (by decide +kernel)⟩
theorem lw_p45 : lw_okq (⟨"PortWardenModel", "openLine", "(I)Z"⟩, 34) := ⟨⟨by decide +kernel, by decide +kernel⟩, List.mem_of_getElem? (i := 582) (by decide +kernel), List.mem_of_getElem? (i := 855) (by decide +kernel), List.mem_of_getElem? (i := 856) (by decide +kernel)⟩
theorem lw_p46 : lw_okq (⟨"PortWardenModel", "erase", "(I)V"⟩, 34) := ⟨⟨by decide +kernel, by decide +kernel⟩, List.mem_of_getElem? (i := 582) (by decide +kernel), List.mem_of_getElem? (i := 859) (by decide +kernel), List.mem_of_getElem? (i := 860) (by decide +kernel)⟩
theorem lw_p47 : lw_okq (⟨"PortWardenModel", "lastBlank", "(I)Z"⟩, 34) := ⟨⟨by decide +kernel, by decide +kernel⟩, List.mem_of_getElem? (i := 582) (by decide +kernel), List.mem_of_getElem? (i := 863) (by decide +kernel), List.mem_of_getElem? (i := 864) (by decide +kernel)⟩
def lw_privs_3 : List (MethodName × Nat) := [(⟨"PortWardenModel", "takes", "(III)V"⟩, 34), (⟨"PortWardenModel", "signal", "(III)V"⟩, 34), (⟨"PortWardenModel", "emptyOut", "(I)V"⟩, 34), (⟨"PortWardenModel", "echoForm", "(II)V"⟩, 34), (⟨"PortWardenModel", "addForm", "(I)V"⟩, 34), (⟨"PortWardenModel", "add", "(I)V"⟩, 34), (⟨"PortWardenModel", "echo", "(I)V"⟩, 34), (⟨"PortWardenModel", "asItIs", "(II)V"⟩, 34), (⟨"PortWardenModel", "comesIn", "(IIZ)Z"⟩, 34), (⟨"PortWardenModel", "isCanon", "(I)Z"⟩, 34), (⟨"PortWardenModel", "release", "(I)V"⟩, 34), (⟨"PortWardenModel", "flowUp", "(I)V"⟩, 34), (⟨"PortWardenModel", "editing", "(II)V"⟩, 34), (⟨"PortWardenModel", "openLine", "(I)Z"⟩, 34), (⟨"PortWardenModel", "erase", "(I)V"⟩, 34), (⟨"PortWardenModel", "lastBlank", "(I)Z"⟩, 34)]
theorem lw_r3 : ∀ q ∈ lw_privs_3, lw_okq q := List.forall_mem_cons.mpr ⟨lw_p32, List.forall_mem_cons.mpr ⟨lw_p33, List.forall_mem_cons.mpr ⟨lw_p34, List.forall_mem_cons.mpr ⟨lw_p35, List.forall_mem_cons.mpr ⟨lw_p36, List.forall_mem_cons.mpr ⟨lw_p37, List.forall_mem_cons.mpr ⟨lw_p38, List.forall_mem_cons.mpr ⟨lw_p39, List.forall_mem_cons.mpr ⟨lw_p40, List.forall_mem_cons.mpr ⟨lw_p41, List.forall_mem_cons.mpr ⟨lw_p42, List.forall_mem_cons.mpr ⟨lw_p43, List.forall_mem_cons.mpr ⟨lw_p44, List.forall_mem_cons.mpr ⟨lw_p45, List.forall_mem_cons.mpr ⟨lw_p46, List.forall_mem_cons.mpr ⟨lw_p47, fun _ h => absurd h List.not_mem_nil⟩⟩⟩⟩⟩⟩⟩⟩⟩⟩⟩⟩⟩⟩⟩⟩
theorem lw_p48 : lw_okq (⟨"PortWardenModel", "lastEntry", "(I)I"⟩, 34) := ⟨⟨by decide +kernel, by decide +kernel⟩, List.mem_of_getElem? (i := 582) (by decide +kernel), List.mem_of_getElem? (i := 867) (by decide +kernel), List.mem_of_getElem? (i := 868) (by decide +kernel)⟩
theorem lw_p49 : lw_okq (⟨"PortWardenModel", "reprint", "(II)V"⟩, 34) := ⟨⟨by decide +kernel, by decide +kernel⟩, List.mem_of_getElem? (i := 582) (by decide +kernel), List.mem_of_getElem? (i := 871) (by decide +kernel), List.mem_of_getElem? (i := 872) (by decide +kernel)⟩
def lw_privs_4 : List (MethodName × Nat) := [(⟨"PortWardenModel", "lastEntry", "(I)I"⟩, 34), (⟨"PortWardenModel", "reprint", "(II)V"⟩, 34)]
theorem lw_r4 : ∀ q ∈ lw_privs_4, lw_okq q := List.forall_mem_cons.mpr ⟨lw_p48, List.forall_mem_cons.mpr ⟨lw_p49, fun _ h => absurd h List.not_mem_nil⟩⟩
def lw_privs : List (MethodName × Nat) := lw_privs_1 ++ (lw_privs_2 ++ (lw_privs_3 ++ (lw_privs_4)))
def lw_tbl : List Cond := k2_sels lw_privs ++ tables_1
theorem lw_privs_ok : ∀ q ∈ lw_privs, lw_okq q := by
  show ∀ q ∈ lw_privs_1 ++ (lw_privs_2 ++ (lw_privs_3 ++ (lw_privs_4))), lw_okq q
  exact List.forall_mem_append.mpr ⟨lw_r1, List.forall_mem_append.mpr ⟨lw_r2, List.forall_mem_append.mpr ⟨lw_r3, lw_r4⟩⟩⟩
end
section
/-! ===== BEGIN words of one list among another's, by their places ===== -/
theorem goodIn_r {big : List Cond} (ws : List Cond) (ps : List Nat) (hp : ws = ps.filterMap (fun i => big[i]?)) (h : ws.all goodWord = true) : GoodIn big ws := by
  intro w hw
  have h1 := List.all_eq_true.mp h w hw
  rw [hp] at hw
  obtain ⟨i, -, hi⟩ := List.mem_filterMap.mp hw
  have hm : w ∈ big := by first | exact List.mem_of_getElem? hi | exact List.getElem?_mem hi
  exact ⟨hm, good_of_word h1⟩
theorem goodIn_app {big a b : List Cond} (ha : GoodIn big a) (hb : GoodIn big b) : GoodIn big (a ++ b) := fun w h => (List.mem_append.mp h).elim (ha w) (hb w)
theorem goodIn_ca {big a b : List Cond} {c : Cond} (ha : GoodIn big (c :: a)) (hb : GoodIn big b) : GoodIn big (c :: (a ++ b)) := fun w h => (List.mem_cons.mp h).elim (fun e => ha w (List.mem_cons.mpr (Or.inl e))) (fun h => (List.mem_append.mp h).elim (fun h => ha w (List.mem_cons.mpr (Or.inr h))) (hb w))
theorem goodIn_sub {big ws : List Cond} (hm : ∀ w ∈ ws, w ∈ big) (h : ws.all goodWord = true) : GoodIn big ws := fun w hw => ⟨hm w hw, good_of_word (List.all_eq_true.mp h w hw)⟩
/-! ===== END ===== -/

/-! ===== BEGIN printed: names, fields, word lists, decode rows ===== -/
def RX0 : String := "PortWarden$Crew"
def TX0 : u_T := fun k => match k with
  | 0 => ("PortWarden$Crew", "groupOf", "[I", true)
  | _ => ("PortWarden$Crew", "raised", "[I", true)
def tyX0 : Nat → FieldType := fun k => match k with
  | 0 => .array .int
  | _ => .array .int
abbrev wsX00 : List Cond := u_ws RX0 TX0 2
theorem nmX0 : ∀ a, a < 2 → ∀ b, b < 2 → a ≠ b → (TX0 a).2.1 ≠ (TX0 b).2.1 := by decide +kernel
theorem tyX0_ok : ∀ k, k < 2 → parseFieldDescriptor (TX0 k).2.2.1 = some (tyX0 k) := by decide +kernel
abbrev cX0_init : ByteArray := prog_2_method_1_code
def yX0_init : MethodName := ⟨RX0, "<init>", "()V"⟩
abbrev cX0_raise : ByteArray := prog_2_method_2_code
def yX0_raise : MethodName := ⟨RX0, "raise", "(II)V"⟩
def RX1 : String := "PortWarden$Output"
def TX1 : u_T := fun k => match k with
  | 0 => ("PortWarden$Output", "stored", "LPortWarden$Row;", true)
  | 1 => ("PortWarden$Output", "sender", "LPortWarden$Row;", true)
  | 2 => ("PortWarden$Output", "columnNow", "I", false)
  | 3 => ("PortWarden$Output", "heldBack", "Z", false)
  | _ => ("PortWarden$Output", "clearToSend", "Z", false)
def tyX1 : Nat → FieldType := fun k => match k with
  | 0 => .object "PortWarden$Row"
  | 1 => .object "PortWarden$Row"
  | 2 => .int
  | 3 => .boolean
  | _ => .boolean
abbrev wsX10 : List Cond := u_ws RX1 TX1 5
theorem nmX1 : ∀ a, a < 5 → ∀ b, b < 5 → a ≠ b → (TX1 a).2.1 ≠ (TX1 b).2.1 := by decide +kernel
theorem tyX1_ok : ∀ k, k < 5 → parseFieldDescriptor (TX1 k).2.2.1 = some (tyX1 k) := by decide +kernel
abbrev cX1_init : ByteArray := prog_3_method_1_code
def yX1_init : MethodName := ⟨RX1, "<init>", "()V"⟩
abbrev cX1_size : ByteArray := prog_3_method_2_code
def yX1_size : MethodName := ⟨RX1, "size", "()I"⟩
abbrev cX1_accept : ByteArray := prog_3_method_3_code
def yX1_accept : MethodName := ⟨RX1, "accept", "(LPortWarden$Row;)Z"⟩
abbrev cX1_columnBehind : ByteArray := prog_3_method_4_code
def yX1_columnBehind : MethodName := ⟨RX1, "columnBehind", "(I)I"⟩
abbrev cX1_blanksOfTab : ByteArray := prog_3_method_5_code
def yX1_blanksOfTab : MethodName := ⟨RX1, "blanksOfTab", "()I"⟩
abbrev cX1_push : ByteArray := prog_3_method_6_code
def yX1_push : MethodName := ⟨RX1, "push", "()V"⟩
abbrev cX1_takeFromSender : ByteArray := prog_3_method_7_code
def yX1_takeFromSender : MethodName := ⟨RX1, "takeFromSender", "()I"⟩
def RX2 : String := "PortWarden$Port"
def TX2 : u_T := fun k => match k with
  | 0 => ("PortWarden$Port", "crew", "LPortWarden$Crew;", true)
  | 1 => ("PortWarden$Port", "modes", "[I", true)
  | 2 => ("PortWarden$Port", "receiver", "LPortWarden$Row;", true)
  | 3 => ("PortWarden$Port", "store", "LPortWarden$Store;", true)
  | 4 => ("PortWarden$Port", "output", "LPortWarden$Output;", true)
  | 5 => ("PortWarden$Port", "waiting", "LPortWarden$Waiting;", true)
  | 6 => ("PortWarden$Port", "draft", "LPortWarden$Row;", true)
  | 7 => ("PortWarden$Port", "opened", "[Z", true)
  | 8 => ("PortWarden$Port", "counts", "[I", true)
  | 9 => ("PortWarden$Port", "literalNext", "Z", false)
  | 10 => ("PortWarden$Port", "carrierOn", "Z", false)
  | 11 => ("PortWarden$Port", "hungUp", "Z", false)
  | 12 => ("PortWarden$Port", "foregroundGroup", "I", false)
  | 13 => ("PortWarden$Port", "crowded", "Z", false)
  | _ => ("PortWarden$Port", "urgent", "I", false)
def tyX2 : Nat → FieldType := fun k => match k with
  | 0 => .object "PortWarden$Crew"
  | 1 => .array .int
  | 2 => .object "PortWarden$Row"
  | 3 => .object "PortWarden$Store"
  | 4 => .object "PortWarden$Output"
  | 5 => .object "PortWarden$Waiting"
  | 6 => .object "PortWarden$Row"
  | 7 => .array .boolean
  | 8 => .array .int
  | 9 => .boolean
  | 10 => .boolean
  | 11 => .boolean
  | 12 => .int
  | 13 => .boolean
  | _ => .int
abbrev wsX20 : List Cond := u_ws RX2 TX2 15
theorem nmX2 : ∀ a, a < 15 → ∀ b, b < 15 → a ≠ b → (TX2 a).2.1 ≠ (TX2 b).2.1 := by decide +kernel
theorem tyX2_ok : ∀ k, k < 15 → parseFieldDescriptor (TX2 k).2.2.1 = some (tyX2 k) := by decide +kernel
abbrev cX2_init : ByteArray := prog_4_method_1_code
def yX2_init : MethodName := ⟨RX2, "<init>", "(LPortWarden$Crew;)V"⟩
abbrev cX2_isOn : ByteArray := prog_4_method_2_code
def yX2_isOn : MethodName := ⟨RX2, "isOn", "(I)Z"⟩
abbrev cX2_takeFromLine : ByteArray := prog_4_method_3_code
def yX2_takeFromLine : MethodName := ⟨RX2, "takeFromLine", "(II)Z"⟩
abbrev cX2_urgentByte : ByteArray := prog_4_method_4_code
def yX2_urgentByte : MethodName := ⟨RX2, "urgentByte", "()I"⟩
abbrev cX2_giveToLine : ByteArray := prog_4_method_5_code
def yX2_giveToLine : MethodName := ⟨RX2, "giveToLine", "()I"⟩
abbrev cX2_settle : ByteArray := prog_4_method_6_code
def yX2_settle : MethodName := ⟨RX2, "settle", "()V"⟩
abbrev cX2_hangUp : ByteArray := prog_4_method_7_code
def yX2_hangUp : MethodName := ⟨RX2, "hangUp", "()V"⟩
abbrev cX2_openFor : ByteArray := prog_4_method_8_code
def yX2_openFor : MethodName := ⟨RX2, "openFor", "(I)Z"⟩
abbrev cX2_isBackground : ByteArray := prog_4_method_9_code
def yX2_isBackground : MethodName := ⟨RX2, "isBackground", "(I)Z"⟩
abbrev cX2_readingWaits : ByteArray := prog_4_method_10_code
def yX2_readingWaits : MethodName := ⟨RX2, "readingWaits", "(I)Z"⟩
abbrev cX2_takeEntry : ByteArray := prog_4_method_11_code
def yX2_takeEntry : MethodName := ⟨RX2, "takeEntry", "()I"⟩
abbrev cX2_emptyStore : ByteArray := prog_4_method_12_code
def yX2_emptyStore : MethodName := ⟨RX2, "emptyStore", "()V"⟩
abbrev cX2_emptyOutput : ByteArray := prog_4_method_13_code
def yX2_emptyOutput : MethodName := ⟨RX2, "emptyOutput", "()V"⟩
abbrev cX2_relax : ByteArray := prog_4_method_14_code
def yX2_relax : MethodName := ⟨RX2, "relax", "()V"⟩
abbrev cX2_changeLater : ByteArray := prog_4_method_15_code
def yX2_changeLater : MethodName := ⟨RX2, "changeLater", "(IIZ)Z"⟩
abbrev cX2_makeDueChanges : ByteArray := prog_4_method_16_code
def yX2_makeDueChanges : MethodName := ⟨RX2, "makeDueChanges", "()V"⟩
abbrev cX2_setMode : ByteArray := prog_4_method_17_code
def yX2_setMode : MethodName := ⟨RX2, "setMode", "(II)V"⟩
abbrev cX2_releaseIfEnough : ByteArray := prog_4_method_18_code
def yX2_releaseIfEnough : MethodName := ⟨RX2, "releaseIfEnough", "()V"⟩
abbrev cX2_letTimePass : ByteArray := prog_4_method_19_code
def yX2_letTimePass : MethodName := ⟨RX2, "letTimePass", "()V"⟩
abbrev cX2_expand : ByteArray := prog_4_method_20_code
def yX2_expand : MethodName := ⟨RX2, "expand", "(I)V"⟩
abbrev cX2_pass : ByteArray := prog_4_method_21_code
def yX2_pass : MethodName := ⟨RX2, "pass", "()V"⟩
abbrev cX2_takeFlagged : ByteArray := prog_4_method_22_code
def yX2_takeFlagged : MethodName := ⟨RX2, "takeFlagged", "(Z)V"⟩
abbrev cX2_settledAsFlow : ByteArray := prog_4_method_23_code
def yX2_settledAsFlow : MethodName := ⟨RX2, "settledAsFlow", "(I)Z"⟩
abbrev cX2_settledAsSignal : ByteArray := prog_4_method_24_code
def yX2_settledAsSignal : MethodName := ⟨RX2, "settledAsSignal", "(I)Z"⟩
abbrev cX2_signal : ByteArray := prog_4_method_25_code
def yX2_signal : MethodName := ⟨RX2, "signal", "(II)V"⟩
abbrev cX2_edit : ByteArray := prog_4_method_26_code
def yX2_edit : MethodName := ⟨RX2, "edit", "(I)V"⟩
abbrev cX2_keepAndEcho : ByteArray := prog_4_method_27_code
def yX2_keepAndEcho : MethodName := ⟨RX2, "keepAndEcho", "(I)V"⟩
abbrev cX2_endLine : ByteArray := prog_4_method_28_code
def yX2_endLine : MethodName := ⟨RX2, "endLine", "(I)Z"⟩
abbrev cX2_keep : ByteArray := prog_4_method_29_code
def yX2_keep : MethodName := ⟨RX2, "keep", "(I)Z"⟩
abbrev cX2_takeAway : ByteArray := prog_4_method_30_code
def yX2_takeAway : MethodName := ⟨RX2, "takeAway", "(I)V"⟩
abbrev cX2_reprint : ByteArray := prog_4_method_31_code
def yX2_reprint : MethodName := ⟨RX2, "reprint", "(I)V"⟩
abbrev cX2_draftForm : ByteArray := prog_4_method_32_code
def yX2_draftForm : MethodName := ⟨RX2, "draftForm", "(I)V"⟩
abbrev cX2_draftNewline : ByteArray := prog_4_method_33_code
def yX2_draftNewline : MethodName := ⟨RX2, "draftNewline", "()V"⟩
abbrev cX2_addForm : ByteArray := prog_4_method_34_code
def yX2_addForm : MethodName := ⟨RX2, "addForm", "(I)V"⟩
abbrev cX2_isPlain : ByteArray := prog_4_method_35_code
def yX2_isPlain : MethodName := ⟨RX2, "isPlain", "(I)Z"⟩
abbrev cX2_echo : ByteArray := prog_4_method_36_code
def yX2_echo : MethodName := ⟨RX2, "echo", "()V"⟩
def RX3 : String := "PortWarden$Row"
def TX3 : u_T := fun k => match k with
  | 0 => ("PortWarden$Row", "cells", "[I", true)
  | 1 => ("PortWarden$Row", "first", "I", false)
  | _ => ("PortWarden$Row", "size", "I", false)
def tyX3 : Nat → FieldType := fun k => match k with
  | 0 => .array .int
  | 1 => .int
  | _ => .int
abbrev wsX30 : List Cond := u_ws RX3 TX3 3
theorem nmX3 : ∀ a, a < 3 → ∀ b, b < 3 → a ≠ b → (TX3 a).2.1 ≠ (TX3 b).2.1 := by decide +kernel
theorem tyX3_ok : ∀ k, k < 3 → parseFieldDescriptor (TX3 k).2.2.1 = some (tyX3 k) := by decide +kernel
abbrev cX3_init : ByteArray := prog_5_method_1_code
def yX3_init : MethodName := ⟨RX3, "<init>", "(I)V"⟩
abbrev cX3_fits : ByteArray := prog_5_method_2_code
def yX3_fits : MethodName := ⟨RX3, "fits", "(I)Z"⟩
abbrev cX3_add : ByteArray := prog_5_method_3_code
def yX3_add : MethodName := ⟨RX3, "add", "(I)V"⟩
abbrev cX3_at : ByteArray := prog_5_method_4_code
def yX3_at : MethodName := ⟨RX3, "at", "(I)I"⟩
abbrev cX3_takeFirst : ByteArray := prog_5_method_5_code
def yX3_takeFirst : MethodName := ⟨RX3, "takeFirst", "()I"⟩
abbrev cX3_takeLast : ByteArray := prog_5_method_6_code
def yX3_takeLast : MethodName := ⟨RX3, "takeLast", "()I"⟩
abbrev cX3_empty : ByteArray := prog_5_method_7_code
def yX3_empty : MethodName := ⟨RX3, "empty", "()V"⟩
def RX4 : String := "PortWarden$Store"
def TX4 : u_T := fun k => match k with
  | 0 => ("PortWarden$Store", "entries", "LPortWarden$Row;", true)
  | 1 => ("PortWarden$Store", "released", "I", false)
  | _ => ("PortWarden$Store", "idleTicks", "I", false)
def tyX4 : Nat → FieldType := fun k => match k with
  | 0 => .object "PortWarden$Row"
  | 1 => .int
  | _ => .int
abbrev wsX40 : List Cond := u_ws RX4 TX4 3
theorem nmX4 : ∀ a, a < 3 → ∀ b, b < 3 → a ≠ b → (TX4 a).2.1 ≠ (TX4 b).2.1 := by decide +kernel
theorem tyX4_ok : ∀ k, k < 3 → parseFieldDescriptor (TX4 k).2.2.1 = some (tyX4 k) := by decide +kernel
abbrev cX4_init : ByteArray := prog_6_method_1_code
def yX4_init : MethodName := ⟨RX4, "<init>", "()V"⟩
abbrev cX4_add : ByteArray := prog_6_method_2_code
def yX4_add : MethodName := ⟨RX4, "add", "(IZ)Z"⟩
abbrev cX4_openLine : ByteArray := prog_6_method_3_code
def yX4_openLine : MethodName := ⟨RX4, "openLine", "()I"⟩
abbrev cX4_releaseAll : ByteArray := prog_6_method_4_code
def yX4_releaseAll : MethodName := ⟨RX4, "releaseAll", "()V"⟩
abbrev cX4_takeReleased : ByteArray := prog_6_method_5_code
def yX4_takeReleased : MethodName := ⟨RX4, "takeReleased", "()I"⟩
abbrev cX4_empty : ByteArray := prog_6_method_6_code
def yX4_empty : MethodName := ⟨RX4, "empty", "()V"⟩
abbrev cX4_dropEndMarks : ByteArray := prog_6_method_7_code
def yX4_dropEndMarks : MethodName := ⟨RX4, "dropEndMarks", "()V"⟩
abbrev cX4_lastWord : ByteArray := prog_6_method_8_code
def yX4_lastWord : MethodName := ⟨RX4, "lastWord", "()I"⟩
abbrev cX4_isBlank : ByteArray := prog_6_method_9_code
def yX4_isBlank : MethodName := ⟨RX4, "isBlank", "(I)Z"⟩
def RX5 : String := "PortWarden$Waiting"
def TX5 : u_T := fun k => match k with
  | 0 => ("PortWarden$Waiting", "which", "[I", true)
  | 1 => ("PortWarden$Waiting", "value", "[I", true)
  | 2 => ("PortWarden$Waiting", "takesStore", "[Z", true)
  | 3 => ("PortWarden$Waiting", "behind", "[I", true)
  | _ => ("PortWarden$Waiting", "size", "I", false)
def tyX5 : Nat → FieldType := fun k => match k with
  | 0 => .array .int
  | 1 => .array .int
  | 2 => .array .boolean
  | 3 => .array .int
  | _ => .int
abbrev wsX50 : List Cond := u_ws RX5 TX5 5
theorem nmX5 : ∀ a, a < 5 → ∀ b, b < 5 → a ≠ b → (TX5 a).2.1 ≠ (TX5 b).2.1 := by decide +kernel
theorem tyX5_ok : ∀ k, k < 5 → parseFieldDescriptor (TX5 k).2.2.1 = some (tyX5 k) := by decide +kernel
abbrev cX5_init : ByteArray := prog_7_method_1_code
def yX5_init : MethodName := ⟨RX5, "<init>", "()V"⟩
abbrev cX5_add : ByteArray := prog_7_method_2_code
def yX5_add : MethodName := ⟨RX5, "add", "(IIZI)Z"⟩
abbrev cX5_isFirstDue : ByteArray := prog_7_method_3_code
def yX5_isFirstDue : MethodName := ⟨RX5, "isFirstDue", "()Z"⟩
abbrev cX5_removeFirst : ByteArray := prog_7_method_4_code
def yX5_removeFirst : MethodName := ⟨RX5, "removeFirst", "()V"⟩
abbrev cX5_byteHasGone : ByteArray := prog_7_method_5_code
def yX5_byteHasGone : MethodName := ⟨RX5, "byteHasGone", "()V"⟩
abbrev cX5_onlyLeft : ByteArray := prog_7_method_6_code
def yX5_onlyLeft : MethodName := ⟨RX5, "onlyLeft", "(I)V"⟩
def RX6 : String := "PortWarden"
def TX6 : u_T := fun k => match k with
  | 0 => ("PortWarden", "crew", "LPortWarden$Crew;", true)
  | _ => ("PortWarden", "ports", "[LPortWarden$Port;", true)
def tyX6 : Nat → FieldType := fun k => match k with
  | 0 => .object "PortWarden$Crew"
  | _ => .array (.object "PortWarden$Port")
abbrev wsX60 : List Cond := u_ws RX6 TX6 2
theorem nmX6 : ∀ a, a < 2 → ∀ b, b < 2 → a ≠ b → (TX6 a).2.1 ≠ (TX6 b).2.1 := by decide +kernel
theorem tyX6_ok : ∀ k, k < 2 → parseFieldDescriptor (TX6 k).2.2.1 = some (tyX6 k) := by decide +kernel
abbrev cX6_init : ByteArray := prog_1_method_1_code
def yX6_init : MethodName := ⟨RX6, "<init>", "()V"⟩
abbrev cX6_receive : ByteArray := prog_1_method_2_code
def yX6_receive : MethodName := ⟨RX6, "receive", "(III)Z"⟩
abbrev cX6_transmit : ByteArray := prog_1_method_3_code
def yX6_transmit : MethodName := ⟨RX6, "transmit", "(I)I"⟩
abbrev cX6_held : ByteArray := prog_1_method_4_code
def yX6_held : MethodName := ⟨RX6, "held", "(I)I"⟩
abbrev cX6_carrier : ByteArray := prog_1_method_5_code
def yX6_carrier : MethodName := ⟨RX6, "carrier", "(IZ)Z"⟩
abbrev cX6_clear : ByteArray := prog_1_method_6_code
def yX6_clear : MethodName := ⟨RX6, "clear", "(IZ)Z"⟩
abbrev cX6_open : ByteArray := prog_1_method_7_code
def yX6_open : MethodName := ⟨RX6, "open", "(II)Z"⟩
abbrev cX6_close : ByteArray := prog_1_method_8_code
def yX6_close : MethodName := ⟨RX6, "close", "(II)Z"⟩
abbrev cX6_join : ByteArray := prog_1_method_9_code
def yX6_join : MethodName := ⟨RX6, "join", "(II)Z"⟩
abbrev cX6_foreground : ByteArray := prog_1_method_10_code
def yX6_foreground : MethodName := ⟨RX6, "foreground", "(II)Z"⟩
abbrev cX6_write : ByteArray := prog_1_method_11_code
def yX6_write : MethodName := ⟨RX6, "write", "(III)I"⟩
abbrev cX6_read : ByteArray := prog_1_method_12_code
def yX6_read : MethodName := ⟨RX6, "read", "(II)I"⟩
abbrev cX6_mode : ByteArray := prog_1_method_13_code
def yX6_mode : MethodName := ⟨RX6, "mode", "(IIII)Z"⟩
abbrev cX6_modeOf : ByteArray := prog_1_method_14_code
def yX6_modeOf : MethodName := ⟨RX6, "modeOf", "(II)I"⟩
abbrev cX6_poll : ByteArray := prog_1_method_15_code
def yX6_poll : MethodName := ⟨RX6, "poll", "(II)I"⟩
abbrev cX6_signals : ByteArray := prog_1_method_16_code
def yX6_signals : MethodName := ⟨RX6, "signals", "(I)I"⟩
abbrev cX6_count : ByteArray := prog_1_method_17_code
def yX6_count : MethodName := ⟨RX6, "count", "(II)I"⟩
abbrev cX6_column : ByteArray := prog_1_method_18_code
def yX6_column : MethodName := ⟨RX6, "column", "(I)I"⟩
abbrev cX6_flush : ByteArray := prog_1_method_19_code
def yX6_flush : MethodName := ⟨RX6, "flush", "(II)Z"⟩
abbrev cX6_ready : ByteArray := prog_1_method_20_code
def yX6_ready : MethodName := ⟨RX6, "ready", "(I)I"⟩
abbrev cX6_tick : ByteArray := prog_1_method_21_code
def yX6_tick : MethodName := ⟨RX6, "tick", "()V"⟩
abbrev cX6_isPort : ByteArray := prog_1_method_22_code
def yX6_isPort : MethodName := ⟨RX6, "isPort", "(I)Z"⟩
abbrev cX6_isProcess : ByteArray := prog_1_method_23_code
def yX6_isProcess : MethodName := ⟨RX6, "isProcess", "(I)Z"⟩
abbrev cX6_isGroup : ByteArray := prog_1_method_24_code
def yX6_isGroup : MethodName := ⟨RX6, "isGroup", "(I)Z"⟩
abbrev cX6_isMode : ByteArray := prog_1_method_25_code
def yX6_isMode : MethodName := ⟨RX6, "isMode", "(I)Z"⟩
abbrev cX6_isByte : ByteArray := prog_1_method_26_code
def yX6_isByte : MethodName := ⟨RX6, "isByte", "(I)Z"⟩
abbrev cX6_mostOf : ByteArray := prog_1_method_27_code
def yX6_mostOf : MethodName := ⟨RX6, "mostOf", "(I)I"⟩
def RX7 : String := "PortWardenModel"
def TX7 : u_T := fun k => match k with
  | 0 => ("PortWardenModel", "thrownCode", "I", false)
  | 1 => ("PortWardenModel", "modes", "[I", true)
  | 2 => ("PortWardenModel", "comes", "[I", true)
  | 3 => ("PortWardenModel", "comesFlag", "[I", true)
  | 4 => ("PortWardenModel", "coming", "[I", true)
  | 5 => ("PortWardenModel", "store", "[I", true)
  | 6 => ("PortWardenModel", "plain", "[Z", true)
  | 7 => ("PortWardenModel", "stored", "[I", true)
  | 8 => ("PortWardenModel", "released", "[I", true)
  | 9 => ("PortWardenModel", "ticks", "[I", true)
  | 10 => ("PortWardenModel", "out", "[I", true)
  | 11 => ("PortWardenModel", "outs", "[I", true)
  | 12 => ("PortWardenModel", "sends", "[I", true)
  | 13 => ("PortWardenModel", "sending", "[I", true)
  | 14 => ("PortWardenModel", "outHeld", "[Z", true)
  | 15 => ("PortWardenModel", "literal", "[Z", true)
  | 16 => ("PortWardenModel", "columns", "[I", true)
  | 17 => ("PortWardenModel", "full", "[Z", true)
  | 18 => ("PortWardenModel", "flow", "[I", true)
  | 19 => ("PortWardenModel", "carriers", "[Z", true)
  | 20 => ("PortWardenModel", "clears", "[Z", true)
  | 21 => ("PortWardenModel", "hung", "[Z", true)
  | 22 => ("PortWardenModel", "front", "[I", true)
  | 23 => ("PortWardenModel", "waits", "[I", true)
  | 24 => ("PortWardenModel", "waitMode", "[I", true)
  | 25 => ("PortWardenModel", "waitValue", "[I", true)
  | 26 => ("PortWardenModel", "waitTakes", "[Z", true)
  | 27 => ("PortWardenModel", "ahead", "[I", true)
  | 28 => ("PortWardenModel", "opened", "[Z", true)
  | 29 => ("PortWardenModel", "groups", "[I", true)
  | 30 => ("PortWardenModel", "raised", "[I", true)
  | 31 => ("PortWardenModel", "counts", "[I", true)
  | 32 => ("PortWardenModel", "row", "[I", true)
  | _ => ("PortWardenModel", "rowSize", "I", false)
def tyX7 : Nat → FieldType := fun k => match k with
  | 0 => .int
  | 1 => .array .int
  | 2 => .array .int
  | 3 => .array .int
  | 4 => .array .int
  | 5 => .array .int
  | 6 => .array .boolean
  | 7 => .array .int
  | 8 => .array .int
  | 9 => .array .int
  | 10 => .array .int
  | 11 => .array .int
  | 12 => .array .int
  | 13 => .array .int
  | 14 => .array .boolean
  | 15 => .array .boolean
  | 16 => .array .int
  | 17 => .array .boolean
  | 18 => .array .int
  | 19 => .array .boolean
  | 20 => .array .boolean
  | 21 => .array .boolean
  | 22 => .array .int
  | 23 => .array .int
  | 24 => .array .int
  | 25 => .array .int
  | 26 => .array .boolean
  | 27 => .array .int
  | 28 => .array .boolean
  | 29 => .array .int
  | 30 => .array .int
  | 31 => .array .int
  | 32 => .array .int
  | _ => .int
abbrev wsX70 : List Cond := u_ws RX7 TX7 34
theorem nmX7 : ∀ a, a < 34 → ∀ b, b < 34 → a ≠ b → (TX7 a).2.1 ≠ (TX7 b).2.1 := by decide +kernel
theorem tyX7_ok : ∀ k, k < 34 → parseFieldDescriptor (TX7 k).2.2.1 = some (tyX7 k) := by decide +kernel
abbrev cX7_init : ByteArray := prog_9_method_1_code
def yX7_init : MethodName := ⟨RX7, "<init>", "()V"⟩
abbrev cX7_first : ByteArray := prog_9_method_2_code
def yX7_first : MethodName := ⟨RX7, "first", "(I)I"⟩
abbrev cX7_most : ByteArray := prog_9_method_3_code
def yX7_most : MethodName := ⟨RX7, "most", "(I)I"⟩
abbrev cX7_isPort : ByteArray := prog_9_method_5_code
def yX7_isPort : MethodName := ⟨RX7, "isPort", "(I)Z"⟩
abbrev cX7_isProcess : ByteArray := prog_9_method_6_code
def yX7_isProcess : MethodName := ⟨RX7, "isProcess", "(I)Z"⟩
abbrev cX7_mode1 : ByteArray := prog_9_method_7_code
def yX7_mode1 : MethodName := ⟨RX7, "mode1", "(II)I"⟩
abbrev cX7_on : ByteArray := prog_9_method_8_code
def yX7_on : MethodName := ⟨RX7, "on", "(II)Z"⟩
abbrev cX7_raise : ByteArray := prog_9_method_9_code
def yX7_raise : MethodName := ⟨RX7, "raise", "(II)V"⟩
abbrev cX7_column1 : ByteArray := prog_9_method_10_code
def yX7_column1 : MethodName := ⟨RX7, "column1", "(II)I"⟩
abbrev cX7_give : ByteArray := prog_9_method_11_code
def yX7_give : MethodName := ⟨RX7, "give", "(II)V"⟩
abbrev cX7_push : ByteArray := prog_9_method_12_code
def yX7_push : MethodName := ⟨RX7, "push", "(I)V"⟩
abbrev cX7_add : ByteArray := prog_9_method_13_code
def yX7_add : MethodName := ⟨RX7, "add", "(I)V"⟩
abbrev cX7_isPlain : ByteArray := prog_9_method_14_code
def yX7_isPlain : MethodName := ⟨RX7, "isPlain", "(I)Z"⟩
abbrev cX7_addForm : ByteArray := prog_9_method_15_code
def yX7_addForm : MethodName := ⟨RX7, "addForm", "(I)V"⟩
abbrev cX7_echo : ByteArray := prog_9_method_16_code
def yX7_echo : MethodName := ⟨RX7, "echo", "(I)V"⟩
abbrev cX7_echoForm : ByteArray := prog_9_method_17_code
def yX7_echoForm : MethodName := ⟨RX7, "echoForm", "(II)V"⟩
abbrev cX7_flowUp : ByteArray := prog_9_method_18_code
def yX7_flowUp : MethodName := ⟨RX7, "flowUp", "(I)V"⟩
abbrev cX7_flowDown : ByteArray := prog_9_method_19_code
def yX7_flowDown : MethodName := ⟨RX7, "flowDown", "(I)V"⟩
abbrev cX7_isCanon : ByteArray := prog_9_method_20_code
def yX7_isCanon : MethodName := ⟨RX7, "isCanon", "(I)Z"⟩
abbrev cX7_release : ByteArray := prog_9_method_21_code
def yX7_release : MethodName := ⟨RX7, "release", "(I)V"⟩
abbrev cX7_comesIn : ByteArray := prog_9_method_22_code
def yX7_comesIn : MethodName := ⟨RX7, "comesIn", "(IIZ)Z"⟩
abbrev cX7_emptyStore : ByteArray := prog_9_method_23_code
def yX7_emptyStore : MethodName := ⟨RX7, "emptyStore", "(I)V"⟩
abbrev cX7_emptyOut : ByteArray := prog_9_method_24_code
def yX7_emptyOut : MethodName := ⟨RX7, "emptyOut", "(I)V"⟩
abbrev cX7_erase : ByteArray := prog_9_method_25_code
def yX7_erase : MethodName := ⟨RX7, "erase", "(I)V"⟩
abbrev cX7_openLine : ByteArray := prog_9_method_26_code
def yX7_openLine : MethodName := ⟨RX7, "openLine", "(I)Z"⟩
abbrev cX7_lastEntry : ByteArray := prog_9_method_27_code
def yX7_lastEntry : MethodName := ⟨RX7, "lastEntry", "(I)I"⟩
abbrev cX7_lastBlank : ByteArray := prog_9_method_28_code
def yX7_lastBlank : MethodName := ⟨RX7, "lastBlank", "(I)Z"⟩
abbrev cX7_editing : ByteArray := prog_9_method_29_code
def yX7_editing : MethodName := ⟨RX7, "editing", "(II)V"⟩
abbrev cX7_reprint : ByteArray := prog_9_method_30_code
def yX7_reprint : MethodName := ⟨RX7, "reprint", "(II)V"⟩
abbrev cX7_signal : ByteArray := prog_9_method_31_code
def yX7_signal : MethodName := ⟨RX7, "signal", "(III)V"⟩
abbrev cX7_asItIs : ByteArray := prog_9_method_32_code
def yX7_asItIs : MethodName := ⟨RX7, "asItIs", "(II)V"⟩
abbrev cX7_takes : ByteArray := prog_9_method_33_code
def yX7_takes : MethodName := ⟨RX7, "takes", "(III)V"⟩
abbrev cX7_pass : ByteArray := prog_9_method_34_code
def yX7_pass : MethodName := ⟨RX7, "pass", "(I)V"⟩
abbrev cX7_sets : ByteArray := prog_9_method_35_code
def yX7_sets : MethodName := ⟨RX7, "sets", "(III)V"⟩
abbrev cX7_settle : ByteArray := prog_9_method_36_code
def yX7_settle : MethodName := ⟨RX7, "settle", "(I)V"⟩
abbrev cX7_emptyAll : ByteArray := prog_9_method_37_code
def yX7_emptyAll : MethodName := ⟨RX7, "emptyAll", "(I)V"⟩
abbrev cX7_receive : ByteArray := prog_9_method_38_code
def yX7_receive : MethodName := ⟨RX7, "receive", "(III)Z"⟩
abbrev cX7_flowByte : ByteArray := prog_9_method_39_code
def yX7_flowByte : MethodName := ⟨RX7, "flowByte", "(I)I"⟩
abbrev cX7_transmit : ByteArray := prog_9_method_40_code
def yX7_transmit : MethodName := ⟨RX7, "transmit", "(I)I"⟩
abbrev cX7_held : ByteArray := prog_9_method_41_code
def yX7_held : MethodName := ⟨RX7, "held", "(I)I"⟩
abbrev cX7_carrier : ByteArray := prog_9_method_42_code
def yX7_carrier : MethodName := ⟨RX7, "carrier", "(IZ)Z"⟩
abbrev cX7_clear : ByteArray := prog_9_method_43_code
def yX7_clear : MethodName := ⟨RX7, "clear", "(IZ)Z"⟩
abbrev cX7_open : ByteArray := prog_9_method_44_code
def yX7_open : MethodName := ⟨RX7, "open", "(II)Z"⟩
abbrev cX7_close : ByteArray := prog_9_method_45_code
def yX7_close : MethodName := ⟨RX7, "close", "(II)Z"⟩
abbrev cX7_join : ByteArray := prog_9_method_46_code
def yX7_join : MethodName := ⟨RX7, "join", "(II)Z"⟩
abbrev cX7_foreground : ByteArray := prog_9_method_47_code
def yX7_foreground : MethodName := ⟨RX7, "foreground", "(II)Z"⟩
abbrev cX7_isBehind : ByteArray := prog_9_method_48_code
def yX7_isBehind : MethodName := ⟨RX7, "isBehind", "(II)Z"⟩
abbrev cX7_write : ByteArray := prog_9_method_49_code
def yX7_write : MethodName := ⟨RX7, "write", "(III)I"⟩
abbrev cX7_read : ByteArray := prog_9_method_50_code
def yX7_read : MethodName := ⟨RX7, "read", "(II)I"⟩
abbrev cX7_mode : ByteArray := prog_9_method_51_code
def yX7_mode : MethodName := ⟨RX7, "mode", "(IIII)Z"⟩
abbrev cX7_modeOf : ByteArray := prog_9_method_52_code
def yX7_modeOf : MethodName := ⟨RX7, "modeOf", "(II)I"⟩
abbrev cX7_poll : ByteArray := prog_9_method_53_code
def yX7_poll : MethodName := ⟨RX7, "poll", "(II)I"⟩
abbrev cX7_signals : ByteArray := prog_9_method_54_code
def yX7_signals : MethodName := ⟨RX7, "signals", "(I)I"⟩
abbrev cX7_count : ByteArray := prog_9_method_55_code
def yX7_count : MethodName := ⟨RX7, "count", "(II)I"⟩
abbrev cX7_column : ByteArray := prog_9_method_56_code
def yX7_column : MethodName := ⟨RX7, "column", "(I)I"⟩
abbrev cX7_flush : ByteArray := prog_9_method_57_code
def yX7_flush : MethodName := ⟨RX7, "flush", "(II)Z"⟩
abbrev cX7_ready : ByteArray := prog_9_method_58_code
def yX7_ready : MethodName := ⟨RX7, "ready", "(I)I"⟩
abbrev cX7_tick : ByteArray := prog_9_method_59_code
def yX7_tick : MethodName := ⟨RX7, "tick", "()V"⟩
def RJx8e188 : String := "java/lang/Cloneable"
def TJx8e188 : u_T := fun k => match k with
  | _ => ("", "", "", false)
def tyJx8e188 : Nat → FieldType := fun k => match k with
  | _ => .int
abbrev wsJx8e1880 : List Cond := u_ws RJx8e188 TJx8e188 0
theorem nmJx8e188 : ∀ a, a < 0 → ∀ b, b < 0 → a ≠ b → (TJx8e188 a).2.1 ≠ (TJx8e188 b).2.1 := by decide +kernel
theorem tyJx8e188_ok : ∀ k, k < 0 → parseFieldDescriptor (TJx8e188 k).2.2.1 = some (tyJx8e188 k) := by decide +kernel
def RJ9 : String := "java/lang/Math"
def TJ9 : u_T := fun k => match k with
  | _ => ("", "", "", false)
def tyJ9 : Nat → FieldType := fun k => match k with
  | _ => .int
abbrev wsJ90 : List Cond := u_ws RJ9 TJ9 0
theorem nmJ9 : ∀ a, a < 0 → ∀ b, b < 0 → a ≠ b → (TJ9 a).2.1 ≠ (TJ9 b).2.1 := by decide +kernel
theorem tyJ9_ok : ∀ k, k < 0 → parseFieldDescriptor (TJ9 k).2.2.1 = some (tyJ9 k) := by decide +kernel
abbrev cJ9_max_7cf53 : ByteArray := prog_11_method_65_code
def yJ9_max_7cf53 : MethodName := ⟨RJ9, "max", "(II)I"⟩
abbrev cJ9_min_7cf53 : ByteArray := prog_11_method_69_code
def yJ9_min_7cf53 : MethodName := ⟨RJ9, "min", "(II)I"⟩
def RL : String := "PortWardenLaw"
abbrev cL_law : ByteArray := code
def yL_law : MethodName := ⟨RL, "law", "([I)Z"⟩
def wsX0_init : List Cond := .code yX0_init cX0_init 2 none :: ([.methodLink RX0 3 objectInit, .instanceMethod objectInit, .code objectInit ⟨#[0xb1]⟩ 1 none, .arrayClass .int, .fieldLink RX0 9 "PortWarden$Crew" "groupOf" "[I", .fieldLink RX0 15 "PortWarden$Crew" "raised" "[I"] ++ wsX00)
def wsX0_raise : List Cond := .code yX0_raise cX0_raise 4 none :: ([.fieldLink RX0 9 "PortWarden$Crew" "groupOf" "[I", .fieldLink RX0 15 "PortWarden$Crew" "raised" "[I"] ++ wsX00)
def wsX3_init : List Cond := .code yX3_init cX3_init 2 none :: ([.methodLink RX3 3 objectInit, .instanceMethod objectInit, .code objectInit ⟨#[0xb1]⟩ 1 none, .arrayClass .int, .fieldLink RX3 9 "PortWarden$Row" "cells" "[I"] ++ wsX30)
def wsX1_init : List Cond := .code yX1_init cX1_init 1 none :: ([.methodLink RX1 3 objectInit, .instanceMethod objectInit, .code objectInit ⟨#[0xb1]⟩ 1 none, .classLink RX1 9 RX3, .instantiable RX3 3, .initialized RX3, .fieldLink RX1 14 "PortWarden$Output" "stored" "LPortWarden$Row;", .fieldLink RX1 20 "PortWarden$Output" "sender" "LPortWarden$Row;", .fieldLink RX1 23 "PortWarden$Output" "clearToSend" "Z", .methodLink RX1 11 yX3_init, .instanceMethod yX3_init, .code yX3_init cX3_init 2 none, .methodLink RX3 3 objectInit, .arrayClass .int, .fieldLink RX3 9 "PortWarden$Row" "cells" "[I"] ++ wsX30 ++ wsX10)
def wsX1_size : List Cond := .code yX1_size cX1_size 1 (some .int) :: ([.fieldLink RX1 14 "PortWarden$Output" "stored" "LPortWarden$Row;", .fieldLink RX1 20 "PortWarden$Output" "sender" "LPortWarden$Row;"] ++ wsX10 ++ wsX30)
def wsX3_fits : List Cond := .code yX3_fits cX3_fits 2 (some .boolean) :: ([.fieldLink RX3 9 "PortWarden$Row" "cells" "[I", .fieldLink RX3 15 "PortWarden$Row" "size" "I"] ++ wsX30)
def wsX3_at : List Cond := .code yX3_at cX3_at 3 (some .int) :: ([.fieldLink RX3 15 "PortWarden$Row" "size" "I", .fieldLink RX3 19 "PortWarden$Row" "first" "I", .fieldLink RX3 9 "PortWarden$Row" "cells" "[I"] ++ wsX30)
def wsX3_add : List Cond := .code yX3_add cX3_add 3 none :: ([.fieldLink RX3 15 "PortWarden$Row" "size" "I", .fieldLink RX3 9 "PortWarden$Row" "cells" "[I", .fieldLink RX3 19 "PortWarden$Row" "first" "I"] ++ wsX30)
def wsX1_columnBehind : List Cond := .code yX1_columnBehind cX1_columnBehind 2 (some .int) :: ([.fieldLink RX1 45 "PortWarden$Output" "columnNow" "I"] ++ wsX10)
def wsX1_accept : List Cond := .code yX1_accept cX1_accept 4 (some .boolean) :: ([.fieldLink RX1 14 "PortWarden$Output" "stored" "LPortWarden$Row;", .fieldLink RX1 45 "PortWarden$Output" "columnNow" "I", .methodLink RX1 31 yX3_fits, .instanceMethod yX3_fits, .selects RX3 yX3_fits yX3_fits, .initialized RX3, .code yX3_fits cX3_fits 2 (some .boolean), .fieldLink RX3 9 "PortWarden$Row" "cells" "[I", .fieldLink RX3 15 "PortWarden$Row" "size" "I", .methodLink RX1 35 yX3_at, .instanceMethod yX3_at, .selects RX3 yX3_at yX3_at, .code yX3_at cX3_at 3 (some .int), .fieldLink RX3 19 "PortWarden$Row" "first" "I", .methodLink RX1 39 yX3_add, .instanceMethod yX3_add, .selects RX3 yX3_add yX3_add, .code yX3_add cX3_add 3 none, .methodLink RX1 42 yX1_columnBehind, .instanceMethod yX1_columnBehind, .selects RX1 yX1_columnBehind yX1_columnBehind, .initialized RX1, .code yX1_columnBehind cX1_columnBehind 2 (some .int)] ++ wsX10 ++ wsX30)
def wsX1_blanksOfTab : List Cond := .code yX1_blanksOfTab cX1_blanksOfTab 1 (some .int) :: ([.fieldLink RX1 45 "PortWarden$Output" "columnNow" "I"] ++ wsX10)
def wsX3_takeFirst : List Cond := .code yX3_takeFirst cX3_takeFirst 2 (some .int) :: ([.fieldLink RX3 15 "PortWarden$Row" "size" "I", .fieldLink RX3 9 "PortWarden$Row" "cells" "[I", .fieldLink RX3 19 "PortWarden$Row" "first" "I"] ++ wsX30)
def wsX1_push : List Cond := .code yX1_push cX1_push 2 none :: ([.fieldLink RX1 20 "PortWarden$Output" "sender" "LPortWarden$Row;", .fieldLink RX1 14 "PortWarden$Output" "stored" "LPortWarden$Row;", .methodLink RX1 31 yX3_fits, .instanceMethod yX3_fits, .selects RX3 yX3_fits yX3_fits, .initialized RX3, .code yX3_fits cX3_fits 2 (some .boolean), .fieldLink RX3 9 "PortWarden$Row" "cells" "[I", .fieldLink RX3 15 "PortWarden$Row" "size" "I", .methodLink RX1 48 yX3_takeFirst, .instanceMethod yX3_takeFirst, .selects RX3 yX3_takeFirst yX3_takeFirst, .code yX3_takeFirst cX3_takeFirst 2 (some .int), .fieldLink RX3 19 "PortWarden$Row" "first" "I", .methodLink RX1 39 yX3_add, .instanceMethod yX3_add, .selects RX3 yX3_add yX3_add, .code yX3_add cX3_add 3 none] ++ wsX10 ++ wsX30)
def wsX1_takeFromSender : List Cond := .code yX1_takeFromSender cX1_takeFromSender 1 (some .int) :: ([.fieldLink RX1 52 "PortWarden$Output" "heldBack" "Z", .fieldLink RX1 23 "PortWarden$Output" "clearToSend" "Z", .fieldLink RX1 20 "PortWarden$Output" "sender" "LPortWarden$Row;", .methodLink RX1 48 yX3_takeFirst, .instanceMethod yX3_takeFirst, .selects RX3 yX3_takeFirst yX3_takeFirst, .initialized RX3, .code yX3_takeFirst cX3_takeFirst 2 (some .int), .fieldLink RX3 15 "PortWarden$Row" "size" "I", .fieldLink RX3 9 "PortWarden$Row" "cells" "[I", .fieldLink RX3 19 "PortWarden$Row" "first" "I"] ++ wsX10 ++ wsX30)
def wsX4_init : List Cond := .code yX4_init cX4_init 1 none :: ([.methodLink RX4 3 objectInit, .instanceMethod objectInit, .code objectInit ⟨#[0xb1]⟩ 1 none, .classLink RX4 9 RX3, .instantiable RX3 3, .initialized RX3, .fieldLink RX4 14 "PortWarden$Store" "entries" "LPortWarden$Row;", .methodLink RX4 11 yX3_init, .instanceMethod yX3_init, .code yX3_init cX3_init 2 none, .methodLink RX3 3 objectInit, .arrayClass .int, .fieldLink RX3 9 "PortWarden$Row" "cells" "[I"] ++ wsX30 ++ wsX40)
def wsX5_init : List Cond := .code yX5_init cX5_init 1 none :: ([.methodLink RX5 3 objectInit, .instanceMethod objectInit, .code objectInit ⟨#[0xb1]⟩ 1 none, .arrayClass .int, .fieldLink RX5 9 "PortWarden$Waiting" "which" "[I", .fieldLink RX5 15 "PortWarden$Waiting" "value" "[I", .arrayClass .boolean, .fieldLink RX5 18 "PortWarden$Waiting" "takesStore" "[Z", .fieldLink RX5 22 "PortWarden$Waiting" "behind" "[I"] ++ wsX50)
def wsX2_init_r1 : List Cond := [Cond.methodLink RX2 3 objectInit, Cond.instanceMethod objectInit, Cond.code objectInit ⟨#[0xb1]⟩ 1 none, Cond.methodLink RX2 13 ⟨"[I", "clone", "()Ljava/lang/Object;"⟩, Cond.sameMethod "[I" "java/lang/Object" "clone" "()Ljava/lang/Object;", Cond.native ⟨"java/lang/Object", "clone", "()Ljava/lang/Object;"⟩, Cond.instanceMethod ⟨"java/lang/Object", "clone", "()Ljava/lang/Object;"⟩, Cond.selects "[I" ⟨"[I", "clone", "()Ljava/lang/Object;"⟩ ⟨"java/lang/Object", "clone", "()Ljava/lang/Object;"⟩, Cond.classLink RX2 14 "[I", Cond.fieldLink RX2 18 "PortWarden$Port" "modes" "[I", Cond.classLink RX2 23 RX3, Cond.instantiable RX3 3, Cond.initialized RX3, Cond.fieldLink RX2 28 "PortWarden$Port" "receiver" "LPortWarden$Row;", Cond.classLink RX2 32 RX4, Cond.instantiable RX4 3, Cond.initialized RX4, Cond.fieldLink RX2 35 "PortWarden$Port" "store" "LPortWarden$Store;", Cond.classLink RX2 39 RX1, Cond.instantiable RX1 5, Cond.initialized RX1, Cond.fieldLink RX2 42 "PortWarden$Port" "output" "LPortWarden$Output;", Cond.classLink RX2 46 RX5, Cond.instantiable RX5 5]
def wsX2_init_r2 : List Cond := [Cond.initialized RX5, Cond.fieldLink RX2 49 "PortWarden$Port" "waiting" "LPortWarden$Waiting;", Cond.fieldLink RX2 53 "PortWarden$Port" "draft" "LPortWarden$Row;", Cond.arrayClass .boolean, Cond.fieldLink RX2 56 "PortWarden$Port" "opened" "[Z", Cond.arrayClass .int, Cond.fieldLink RX2 60 "PortWarden$Port" "counts" "[I", Cond.fieldLink RX2 63 "PortWarden$Port" "carrierOn" "Z", Cond.fieldLink RX2 67 "PortWarden$Port" "foregroundGroup" "I", Cond.fieldLink RX2 71 "PortWarden$Port" "urgent" "I", Cond.fieldLink RX2 74 "PortWarden$Port" "crew" "LPortWarden$Crew;", Cond.methodLink RX2 25 yX3_init, Cond.instanceMethod yX3_init, Cond.code yX3_init cX3_init 2 none, Cond.methodLink RX3 3 objectInit, Cond.fieldLink RX3 9 "PortWarden$Row" "cells" "[I", Cond.instanceMethod yX4_init, Cond.code yX4_init cX4_init 1 none, Cond.methodLink RX4 3 objectInit, Cond.classLink RX4 9 RX3, Cond.fieldLink RX4 14 "PortWarden$Store" "entries" "LPortWarden$Row;", Cond.methodLink RX4 11 yX3_init, Cond.instanceMethod yX1_init, Cond.code yX1_init cX1_init 1 none]
def wsX2_init_r3 : List Cond := [Cond.methodLink RX1 3 objectInit, Cond.classLink RX1 9 RX3, Cond.fieldLink RX1 14 "PortWarden$Output" "stored" "LPortWarden$Row;", Cond.fieldLink RX1 20 "PortWarden$Output" "sender" "LPortWarden$Row;", Cond.fieldLink RX1 23 "PortWarden$Output" "clearToSend" "Z", Cond.methodLink RX1 11 yX3_init, Cond.instanceMethod yX5_init, Cond.code yX5_init cX5_init 1 none, Cond.methodLink RX5 3 objectInit, Cond.fieldLink RX5 9 "PortWarden$Waiting" "which" "[I", Cond.fieldLink RX5 15 "PortWarden$Waiting" "value" "[I", Cond.fieldLink RX5 18 "PortWarden$Waiting" "takesStore" "[Z", Cond.fieldLink RX5 22 "PortWarden$Waiting" "behind" "[I"]
def wsX2_init : List Cond := .code yX2_init cX2_init 2 none :: ((wsX2_init_r1 ++ (wsX2_init_r2 ++ wsX2_init_r3)) ++ wsX20 ++ wsX30 ++ wsX40 ++ wsX10 ++ wsX50)
def wsX2_isOn : List Cond := .code yX2_isOn cX2_isOn 2 (some .boolean) :: ([.fieldLink RX2 18 "PortWarden$Port" "modes" "[I"] ++ wsX20)
def wsX2_takeFromLine : List Cond := .code yX2_takeFromLine cX2_takeFromLine 3 (some .boolean) :: ([.fieldLink RX2 28 "PortWarden$Port" "receiver" "LPortWarden$Row;", .fieldLink RX2 60 "PortWarden$Port" "counts" "[I", .methodLink RX2 78 yX3_fits, .instanceMethod yX3_fits, .selects RX3 yX3_fits yX3_fits, .initialized RX3, .code yX3_fits cX3_fits 2 (some .boolean), .fieldLink RX3 9 "PortWarden$Row" "cells" "[I", .fieldLink RX3 15 "PortWarden$Row" "size" "I", .methodLink RX2 82 yX3_add, .instanceMethod yX3_add, .selects RX3 yX3_add yX3_add, .code yX3_add cX3_add 3 none, .fieldLink RX3 19 "PortWarden$Row" "first" "I"] ++ wsX20 ++ wsX30)
def wsX2_urgentByte : List Cond := .code yX2_urgentByte cX2_urgentByte 1 (some .int) :: ([.fieldLink RX2 71 "PortWarden$Port" "urgent" "I", .fieldLink RX2 18 "PortWarden$Port" "modes" "[I"] ++ wsX20)
def wsX5_byteHasGone : List Cond := .code yX5_byteHasGone cX5_byteHasGone 2 none :: ([.fieldLink RX5 25 "PortWarden$Waiting" "size" "I", .fieldLink RX5 22 "PortWarden$Waiting" "behind" "[I", .methodLink RX5 29 Lib.Math.max.name, .static Lib.Math.max.name, .initialized "java/lang/Math", .code Lib.Math.max.name Lib.Math.max.code 2 (some .int)] ++ wsX50)
def wsX2_giveToLine_r1 : List Cond := [Cond.fieldLink RX2 71 "PortWarden$Port" "urgent" "I", Cond.fieldLink RX2 42 "PortWarden$Port" "output" "LPortWarden$Output;", Cond.fieldLink RX2 49 "PortWarden$Port" "waiting" "LPortWarden$Waiting;", Cond.fieldLink RX2 60 "PortWarden$Port" "counts" "[I", Cond.methodLink RX2 85 yX2_urgentByte, Cond.instanceMethod yX2_urgentByte, Cond.selects RX2 yX2_urgentByte yX2_urgentByte, Cond.initialized RX2, Cond.code yX2_urgentByte cX2_urgentByte 1 (some .int), Cond.fieldLink RX2 18 "PortWarden$Port" "modes" "[I", Cond.methodLink RX2 89 yX1_takeFromSender, Cond.instanceMethod yX1_takeFromSender, Cond.selects RX1 yX1_takeFromSender yX1_takeFromSender, Cond.initialized RX1, Cond.code yX1_takeFromSender cX1_takeFromSender 1 (some .int), Cond.fieldLink RX1 52 "PortWarden$Output" "heldBack" "Z", Cond.fieldLink RX1 23 "PortWarden$Output" "clearToSend" "Z", Cond.fieldLink RX1 20 "PortWarden$Output" "sender" "LPortWarden$Row;", Cond.methodLink RX1 48 yX3_takeFirst, Cond.instanceMethod yX3_takeFirst, Cond.selects RX3 yX3_takeFirst yX3_takeFirst, Cond.initialized RX3, Cond.code yX3_takeFirst cX3_takeFirst 2 (some .int), Cond.fieldLink RX3 15 "PortWarden$Row" "size" "I"]
def wsX2_giveToLine_r2 : List Cond := [Cond.fieldLink RX3 9 "PortWarden$Row" "cells" "[I", Cond.fieldLink RX3 19 "PortWarden$Row" "first" "I", Cond.methodLink RX2 92 yX5_byteHasGone, Cond.instanceMethod yX5_byteHasGone, Cond.selects RX5 yX5_byteHasGone yX5_byteHasGone, Cond.initialized RX5, Cond.code yX5_byteHasGone cX5_byteHasGone 2 none, Cond.fieldLink RX5 25 "PortWarden$Waiting" "size" "I", Cond.fieldLink RX5 22 "PortWarden$Waiting" "behind" "[I", Cond.methodLink RX5 29 Lib.Math.max.name, Cond.static Lib.Math.max.name, Cond.initialized "java/lang/Math", Cond.code Lib.Math.max.name Lib.Math.max.code 2 (some .int)]
def wsX2_giveToLine : List Cond := .code yX2_giveToLine cX2_giveToLine 2 (some .int) :: ((wsX2_giveToLine_r1 ++ wsX2_giveToLine_r2) ++ wsX20 ++ wsX10 ++ wsX30 ++ wsX50)
def wsX5_isFirstDue : List Cond := .code yX5_isFirstDue cX5_isFirstDue 1 (some .boolean) :: ([.fieldLink RX5 25 "PortWarden$Waiting" "size" "I", .fieldLink RX5 22 "PortWarden$Waiting" "behind" "[I"] ++ wsX50)
def wsX3_empty : List Cond := .code yX3_empty cX3_empty 1 none :: ([.fieldLink RX3 15 "PortWarden$Row" "size" "I"] ++ wsX30)
def wsX4_empty : List Cond := .code yX4_empty cX4_empty 1 none :: ([.fieldLink RX4 14 "PortWarden$Store" "entries" "LPortWarden$Row;", .fieldLink RX4 34 "PortWarden$Store" "released" "I", .methodLink RX4 41 yX3_empty, .instanceMethod yX3_empty, .selects RX3 yX3_empty yX3_empty, .initialized RX3, .code yX3_empty cX3_empty 1 none, .fieldLink RX3 15 "PortWarden$Row" "size" "I"] ++ wsX40 ++ wsX30)
def wsX2_relax : List Cond := .code yX2_relax cX2_relax 1 none :: ([.fieldLink RX2 141 "PortWarden$Port" "crowded" "Z", .fieldLink RX2 35 "PortWarden$Port" "store" "LPortWarden$Store;", .fieldLink RX2 71 "PortWarden$Port" "urgent" "I"] ++ wsX20 ++ wsX40 ++ wsX30)
def wsX2_emptyStore : List Cond := .code yX2_emptyStore cX2_emptyStore 1 none :: ([.fieldLink RX2 35 "PortWarden$Port" "store" "LPortWarden$Store;", .methodLink RX2 128 yX4_empty, .instanceMethod yX4_empty, .selects RX4 yX4_empty yX4_empty, .initialized RX4, .code yX4_empty cX4_empty 1 none, .fieldLink RX4 14 "PortWarden$Store" "entries" "LPortWarden$Row;", .fieldLink RX4 34 "PortWarden$Store" "released" "I", .methodLink RX4 41 yX3_empty, .instanceMethod yX3_empty, .selects RX3 yX3_empty yX3_empty, .initialized RX3, .code yX3_empty cX3_empty 1 none, .fieldLink RX3 15 "PortWarden$Row" "size" "I", .methodLink RX2 125 yX2_relax, .instanceMethod yX2_relax, .selects RX2 yX2_relax yX2_relax, .initialized RX2, .code yX2_relax cX2_relax 1 none, .fieldLink RX2 141 "PortWarden$Port" "crowded" "Z", .fieldLink RX2 71 "PortWarden$Port" "urgent" "I"] ++ wsX20 ++ wsX40 ++ wsX30)
def wsX4_dropEndMarks : List Cond := .code yX4_dropEndMarks cX4_dropEndMarks 4 none :: ([.fieldLink RX4 14 "PortWarden$Store" "entries" "LPortWarden$Row;", .methodLink RX4 37 yX3_takeFirst, .instanceMethod yX3_takeFirst, .selects RX3 yX3_takeFirst yX3_takeFirst, .initialized RX3, .code yX3_takeFirst cX3_takeFirst 2 (some .int), .fieldLink RX3 15 "PortWarden$Row" "size" "I", .fieldLink RX3 9 "PortWarden$Row" "cells" "[I", .fieldLink RX3 19 "PortWarden$Row" "first" "I", .methodLink RX4 28 yX3_add, .instanceMethod yX3_add, .selects RX3 yX3_add yX3_add, .code yX3_add cX3_add 3 none] ++ wsX40 ++ wsX30)
def wsX4_releaseAll : List Cond := .code yX4_releaseAll cX4_releaseAll 1 none :: ([.fieldLink RX4 14 "PortWarden$Store" "entries" "LPortWarden$Row;", .fieldLink RX4 34 "PortWarden$Store" "released" "I"] ++ wsX40 ++ wsX30)
def wsX2_releaseIfEnough : List Cond := .code yX2_releaseIfEnough cX2_releaseIfEnough 1 none :: ([.fieldLink RX2 35 "PortWarden$Port" "store" "LPortWarden$Store;", .fieldLink RX2 18 "PortWarden$Port" "modes" "[I", .methodLink RX2 189 Lib.Math.max.name, .static Lib.Math.max.name, .initialized "java/lang/Math", .code Lib.Math.max.name Lib.Math.max.code 2 (some .int), .methodLink RX2 186 yX2_isOn, .instanceMethod yX2_isOn, .selects RX2 yX2_isOn yX2_isOn, .initialized RX2, .code yX2_isOn cX2_isOn 2 (some .boolean), .methodLink RX2 180 yX4_releaseAll, .instanceMethod yX4_releaseAll, .selects RX4 yX4_releaseAll yX4_releaseAll, .initialized RX4, .code yX4_releaseAll cX4_releaseAll 1 none, .fieldLink RX4 14 "PortWarden$Store" "entries" "LPortWarden$Row;", .fieldLink RX4 34 "PortWarden$Store" "released" "I"] ++ wsX20 ++ wsX40 ++ wsX30)
def wsX2_setMode_r1 : List Cond := [Cond.fieldLink RX2 18 "PortWarden$Port" "modes" "[I", Cond.fieldLink RX2 35 "PortWarden$Port" "store" "LPortWarden$Store;", Cond.methodLink RX2 177 yX4_dropEndMarks, Cond.instanceMethod yX4_dropEndMarks, Cond.selects RX4 yX4_dropEndMarks yX4_dropEndMarks, Cond.initialized RX4, Cond.code yX4_dropEndMarks cX4_dropEndMarks 4 none, Cond.fieldLink RX4 14 "PortWarden$Store" "entries" "LPortWarden$Row;", Cond.methodLink RX4 37 yX3_takeFirst, Cond.instanceMethod yX3_takeFirst, Cond.selects RX3 yX3_takeFirst yX3_takeFirst, Cond.initialized RX3, Cond.code yX3_takeFirst cX3_takeFirst 2 (some .int), Cond.fieldLink RX3 15 "PortWarden$Row" "size" "I", Cond.fieldLink RX3 9 "PortWarden$Row" "cells" "[I", Cond.fieldLink RX3 19 "PortWarden$Row" "first" "I", Cond.methodLink RX4 28 yX3_add, Cond.instanceMethod yX3_add, Cond.selects RX3 yX3_add yX3_add, Cond.code yX3_add cX3_add 3 none, Cond.methodLink RX2 180 yX4_releaseAll, Cond.instanceMethod yX4_releaseAll, Cond.selects RX4 yX4_releaseAll yX4_releaseAll, Cond.code yX4_releaseAll cX4_releaseAll 1 none]
def wsX2_setMode_r2 : List Cond := [Cond.fieldLink RX4 34 "PortWarden$Store" "released" "I", Cond.methodLink RX2 125 yX2_relax, Cond.instanceMethod yX2_relax, Cond.selects RX2 yX2_relax yX2_relax, Cond.initialized RX2, Cond.code yX2_relax cX2_relax 1 none, Cond.fieldLink RX2 141 "PortWarden$Port" "crowded" "Z", Cond.fieldLink RX2 71 "PortWarden$Port" "urgent" "I", Cond.methodLink RX2 183 yX2_releaseIfEnough, Cond.instanceMethod yX2_releaseIfEnough, Cond.selects RX2 yX2_releaseIfEnough yX2_releaseIfEnough, Cond.code yX2_releaseIfEnough cX2_releaseIfEnough 1 none, Cond.methodLink RX2 189 Lib.Math.max.name, Cond.static Lib.Math.max.name, Cond.initialized "java/lang/Math", Cond.code Lib.Math.max.name Lib.Math.max.code 2 (some .int), Cond.methodLink RX2 186 yX2_isOn, Cond.instanceMethod yX2_isOn, Cond.selects RX2 yX2_isOn yX2_isOn, Cond.code yX2_isOn cX2_isOn 2 (some .boolean)]
def wsX2_setMode : List Cond := .code yX2_setMode cX2_setMode 3 none :: ((wsX2_setMode_r1 ++ wsX2_setMode_r2) ++ wsX20 ++ wsX40 ++ wsX30)
def wsX5_removeFirst : List Cond := .code yX5_removeFirst cX5_removeFirst 2 none :: ([.fieldLink RX5 25 "PortWarden$Waiting" "size" "I", .fieldLink RX5 9 "PortWarden$Waiting" "which" "[I", .fieldLink RX5 15 "PortWarden$Waiting" "value" "[I", .fieldLink RX5 18 "PortWarden$Waiting" "takesStore" "[Z", .fieldLink RX5 22 "PortWarden$Waiting" "behind" "[I", .methodLink RX5 29 Lib.Math.max.name, .static Lib.Math.max.name, .initialized "java/lang/Math", .code Lib.Math.max.name Lib.Math.max.code 2 (some .int)] ++ wsX50)
def wsX2_makeDueChanges_r1 : List Cond := [Cond.fieldLink RX2 49 "PortWarden$Port" "waiting" "LPortWarden$Waiting;", Cond.methodLink RX2 155 yX5_isFirstDue, Cond.instanceMethod yX5_isFirstDue, Cond.selects RX5 yX5_isFirstDue yX5_isFirstDue, Cond.initialized RX5, Cond.code yX5_isFirstDue cX5_isFirstDue 1 (some .boolean), Cond.fieldLink RX5 25 "PortWarden$Waiting" "size" "I", Cond.fieldLink RX5 22 "PortWarden$Waiting" "behind" "[I", Cond.methodLink RX2 162 yX2_emptyStore, Cond.instanceMethod yX2_emptyStore, Cond.selects RX2 yX2_emptyStore yX2_emptyStore, Cond.initialized RX2, Cond.code yX2_emptyStore cX2_emptyStore 1 none, Cond.fieldLink RX2 35 "PortWarden$Port" "store" "LPortWarden$Store;", Cond.methodLink RX2 128 yX4_empty, Cond.instanceMethod yX4_empty, Cond.selects RX4 yX4_empty yX4_empty, Cond.initialized RX4, Cond.code yX4_empty cX4_empty 1 none, Cond.fieldLink RX4 14 "PortWarden$Store" "entries" "LPortWarden$Row;", Cond.fieldLink RX4 34 "PortWarden$Store" "released" "I", Cond.methodLink RX4 41 yX3_empty, Cond.instanceMethod yX3_empty, Cond.selects RX3 yX3_empty yX3_empty]
def wsX2_makeDueChanges_r2 : List Cond := [Cond.initialized RX3, Cond.code yX3_empty cX3_empty 1 none, Cond.fieldLink RX3 15 "PortWarden$Row" "size" "I", Cond.methodLink RX2 125 yX2_relax, Cond.instanceMethod yX2_relax, Cond.selects RX2 yX2_relax yX2_relax, Cond.code yX2_relax cX2_relax 1 none, Cond.fieldLink RX2 141 "PortWarden$Port" "crowded" "Z", Cond.fieldLink RX2 71 "PortWarden$Port" "urgent" "I", Cond.methodLink RX2 171 yX2_setMode, Cond.instanceMethod yX2_setMode, Cond.selects RX2 yX2_setMode yX2_setMode, Cond.code yX2_setMode cX2_setMode 3 none, Cond.fieldLink RX2 18 "PortWarden$Port" "modes" "[I", Cond.methodLink RX2 177 yX4_dropEndMarks, Cond.instanceMethod yX4_dropEndMarks, Cond.selects RX4 yX4_dropEndMarks yX4_dropEndMarks, Cond.code yX4_dropEndMarks cX4_dropEndMarks 4 none, Cond.methodLink RX4 37 yX3_takeFirst, Cond.instanceMethod yX3_takeFirst, Cond.selects RX3 yX3_takeFirst yX3_takeFirst, Cond.code yX3_takeFirst cX3_takeFirst 2 (some .int), Cond.fieldLink RX3 9 "PortWarden$Row" "cells" "[I", Cond.fieldLink RX3 19 "PortWarden$Row" "first" "I"]
def wsX2_makeDueChanges_r3 : List Cond := [Cond.methodLink RX4 28 yX3_add, Cond.instanceMethod yX3_add, Cond.selects RX3 yX3_add yX3_add, Cond.code yX3_add cX3_add 3 none, Cond.methodLink RX2 180 yX4_releaseAll, Cond.instanceMethod yX4_releaseAll, Cond.selects RX4 yX4_releaseAll yX4_releaseAll, Cond.code yX4_releaseAll cX4_releaseAll 1 none, Cond.methodLink RX2 183 yX2_releaseIfEnough, Cond.instanceMethod yX2_releaseIfEnough, Cond.selects RX2 yX2_releaseIfEnough yX2_releaseIfEnough, Cond.code yX2_releaseIfEnough cX2_releaseIfEnough 1 none, Cond.methodLink RX2 189 Lib.Math.max.name, Cond.static Lib.Math.max.name, Cond.initialized "java/lang/Math", Cond.code Lib.Math.max.name Lib.Math.max.code 2 (some .int), Cond.methodLink RX2 186 yX2_isOn, Cond.instanceMethod yX2_isOn, Cond.selects RX2 yX2_isOn yX2_isOn, Cond.code yX2_isOn cX2_isOn 2 (some .boolean), Cond.methodLink RX2 174 yX5_removeFirst, Cond.instanceMethod yX5_removeFirst, Cond.selects RX5 yX5_removeFirst yX5_removeFirst, Cond.code yX5_removeFirst cX5_removeFirst 2 none]
def wsX2_makeDueChanges_r4 : List Cond := [Cond.fieldLink RX5 9 "PortWarden$Waiting" "which" "[I", Cond.fieldLink RX5 15 "PortWarden$Waiting" "value" "[I", Cond.fieldLink RX5 18 "PortWarden$Waiting" "takesStore" "[Z", Cond.methodLink RX5 29 Lib.Math.max.name]
def wsX2_makeDueChanges : List Cond := .code yX2_makeDueChanges cX2_makeDueChanges 2 none :: ((wsX2_makeDueChanges_r1 ++ (wsX2_makeDueChanges_r2 ++ (wsX2_makeDueChanges_r3 ++ wsX2_makeDueChanges_r4))) ++ wsX20 ++ wsX50 ++ wsX40 ++ wsX30)
def wsX2_settle_r1 : List Cond := [Cond.fieldLink RX2 42 "PortWarden$Port" "output" "LPortWarden$Output;", Cond.methodLink RX2 95 yX1_push, Cond.instanceMethod yX1_push, Cond.selects RX1 yX1_push yX1_push, Cond.initialized RX1, Cond.code yX1_push cX1_push 2 none, Cond.fieldLink RX1 20 "PortWarden$Output" "sender" "LPortWarden$Row;", Cond.fieldLink RX1 14 "PortWarden$Output" "stored" "LPortWarden$Row;", Cond.methodLink RX1 31 yX3_fits, Cond.instanceMethod yX3_fits, Cond.selects RX3 yX3_fits yX3_fits, Cond.initialized RX3, Cond.code yX3_fits cX3_fits 2 (some .boolean), Cond.fieldLink RX3 9 "PortWarden$Row" "cells" "[I", Cond.fieldLink RX3 15 "PortWarden$Row" "size" "I", Cond.methodLink RX1 48 yX3_takeFirst, Cond.instanceMethod yX3_takeFirst, Cond.selects RX3 yX3_takeFirst yX3_takeFirst, Cond.code yX3_takeFirst cX3_takeFirst 2 (some .int), Cond.fieldLink RX3 19 "PortWarden$Row" "first" "I", Cond.methodLink RX1 39 yX3_add, Cond.instanceMethod yX3_add, Cond.selects RX3 yX3_add yX3_add, Cond.code yX3_add cX3_add 3 none]
def wsX2_settle_r2 : List Cond := [Cond.methodLink RX2 98 yX2_makeDueChanges, Cond.instanceMethod yX2_makeDueChanges, Cond.selects RX2 yX2_makeDueChanges yX2_makeDueChanges, Cond.initialized RX2, Cond.code yX2_makeDueChanges cX2_makeDueChanges 2 none, Cond.fieldLink RX2 49 "PortWarden$Port" "waiting" "LPortWarden$Waiting;", Cond.methodLink RX2 155 yX5_isFirstDue, Cond.instanceMethod yX5_isFirstDue, Cond.selects RX5 yX5_isFirstDue yX5_isFirstDue, Cond.initialized RX5, Cond.code yX5_isFirstDue cX5_isFirstDue 1 (some .boolean), Cond.fieldLink RX5 25 "PortWarden$Waiting" "size" "I", Cond.fieldLink RX5 22 "PortWarden$Waiting" "behind" "[I", Cond.methodLink RX2 162 yX2_emptyStore, Cond.instanceMethod yX2_emptyStore, Cond.selects RX2 yX2_emptyStore yX2_emptyStore, Cond.code yX2_emptyStore cX2_emptyStore 1 none, Cond.fieldLink RX2 35 "PortWarden$Port" "store" "LPortWarden$Store;", Cond.methodLink RX2 128 yX4_empty, Cond.instanceMethod yX4_empty, Cond.selects RX4 yX4_empty yX4_empty, Cond.initialized RX4, Cond.code yX4_empty cX4_empty 1 none, Cond.fieldLink RX4 14 "PortWarden$Store" "entries" "LPortWarden$Row;"]
def wsX2_settle_r3 : List Cond := [Cond.fieldLink RX4 34 "PortWarden$Store" "released" "I", Cond.methodLink RX4 41 yX3_empty, Cond.instanceMethod yX3_empty, Cond.selects RX3 yX3_empty yX3_empty, Cond.code yX3_empty cX3_empty 1 none, Cond.methodLink RX2 125 yX2_relax, Cond.instanceMethod yX2_relax, Cond.selects RX2 yX2_relax yX2_relax, Cond.code yX2_relax cX2_relax 1 none, Cond.fieldLink RX2 141 "PortWarden$Port" "crowded" "Z", Cond.fieldLink RX2 71 "PortWarden$Port" "urgent" "I", Cond.methodLink RX2 171 yX2_setMode, Cond.instanceMethod yX2_setMode, Cond.selects RX2 yX2_setMode yX2_setMode, Cond.code yX2_setMode cX2_setMode 3 none, Cond.fieldLink RX2 18 "PortWarden$Port" "modes" "[I", Cond.methodLink RX2 177 yX4_dropEndMarks, Cond.instanceMethod yX4_dropEndMarks, Cond.selects RX4 yX4_dropEndMarks yX4_dropEndMarks, Cond.code yX4_dropEndMarks cX4_dropEndMarks 4 none, Cond.methodLink RX4 37 yX3_takeFirst, Cond.methodLink RX4 28 yX3_add, Cond.methodLink RX2 180 yX4_releaseAll, Cond.instanceMethod yX4_releaseAll]
def wsX2_settle_r4 : List Cond := [Cond.selects RX4 yX4_releaseAll yX4_releaseAll, Cond.code yX4_releaseAll cX4_releaseAll 1 none, Cond.methodLink RX2 183 yX2_releaseIfEnough, Cond.instanceMethod yX2_releaseIfEnough, Cond.selects RX2 yX2_releaseIfEnough yX2_releaseIfEnough, Cond.code yX2_releaseIfEnough cX2_releaseIfEnough 1 none, Cond.methodLink RX2 189 Lib.Math.max.name, Cond.static Lib.Math.max.name, Cond.initialized "java/lang/Math", Cond.code Lib.Math.max.name Lib.Math.max.code 2 (some .int), Cond.methodLink RX2 186 yX2_isOn, Cond.instanceMethod yX2_isOn, Cond.selects RX2 yX2_isOn yX2_isOn, Cond.code yX2_isOn cX2_isOn 2 (some .boolean), Cond.methodLink RX2 174 yX5_removeFirst, Cond.instanceMethod yX5_removeFirst, Cond.selects RX5 yX5_removeFirst yX5_removeFirst, Cond.code yX5_removeFirst cX5_removeFirst 2 none, Cond.fieldLink RX5 9 "PortWarden$Waiting" "which" "[I", Cond.fieldLink RX5 15 "PortWarden$Waiting" "value" "[I", Cond.fieldLink RX5 18 "PortWarden$Waiting" "takesStore" "[Z", Cond.methodLink RX5 29 Lib.Math.max.name]
def wsX2_settle : List Cond := .code yX2_settle cX2_settle 1 none :: ((wsX2_settle_r1 ++ (wsX2_settle_r2 ++ (wsX2_settle_r3 ++ wsX2_settle_r4))) ++ wsX20 ++ wsX10 ++ wsX30 ++ wsX50 ++ wsX40)
def wsX5_onlyLeft : List Cond := .code yX5_onlyLeft cX5_onlyLeft 3 none :: ([.fieldLink RX5 25 "PortWarden$Waiting" "size" "I", .fieldLink RX5 22 "PortWarden$Waiting" "behind" "[I", .methodLink RX5 35 Lib.Math.min.name, .static Lib.Math.min.name, .initialized "java/lang/Math", .code Lib.Math.min.name Lib.Math.min.code 2 (some .int)] ++ wsX50)
def wsX2_emptyOutput_r1 : List Cond := [Cond.fieldLink RX2 42 "PortWarden$Port" "output" "LPortWarden$Output;", Cond.fieldLink RX2 49 "PortWarden$Port" "waiting" "LPortWarden$Waiting;", Cond.methodLink RX2 134 yX3_empty, Cond.instanceMethod yX3_empty, Cond.selects RX3 yX3_empty yX3_empty, Cond.initialized RX3, Cond.code yX3_empty cX3_empty 1 none, Cond.fieldLink RX3 15 "PortWarden$Row" "size" "I", Cond.methodLink RX2 138 yX5_onlyLeft, Cond.instanceMethod yX5_onlyLeft, Cond.selects RX5 yX5_onlyLeft yX5_onlyLeft, Cond.initialized RX5, Cond.code yX5_onlyLeft cX5_onlyLeft 3 none, Cond.fieldLink RX5 25 "PortWarden$Waiting" "size" "I", Cond.fieldLink RX5 22 "PortWarden$Waiting" "behind" "[I", Cond.methodLink RX5 35 Lib.Math.min.name, Cond.static Lib.Math.min.name, Cond.initialized "java/lang/Math", Cond.code Lib.Math.min.name Lib.Math.min.code 2 (some .int), Cond.methodLink RX2 98 yX2_makeDueChanges, Cond.instanceMethod yX2_makeDueChanges, Cond.selects RX2 yX2_makeDueChanges yX2_makeDueChanges, Cond.initialized RX2, Cond.code yX2_makeDueChanges cX2_makeDueChanges 2 none]
def wsX2_emptyOutput_r2 : List Cond := [Cond.methodLink RX2 155 yX5_isFirstDue, Cond.instanceMethod yX5_isFirstDue, Cond.selects RX5 yX5_isFirstDue yX5_isFirstDue, Cond.code yX5_isFirstDue cX5_isFirstDue 1 (some .boolean), Cond.methodLink RX2 162 yX2_emptyStore, Cond.instanceMethod yX2_emptyStore, Cond.selects RX2 yX2_emptyStore yX2_emptyStore, Cond.code yX2_emptyStore cX2_emptyStore 1 none, Cond.fieldLink RX2 35 "PortWarden$Port" "store" "LPortWarden$Store;", Cond.methodLink RX2 128 yX4_empty, Cond.instanceMethod yX4_empty, Cond.selects RX4 yX4_empty yX4_empty, Cond.initialized RX4, Cond.code yX4_empty cX4_empty 1 none, Cond.fieldLink RX4 14 "PortWarden$Store" "entries" "LPortWarden$Row;", Cond.fieldLink RX4 34 "PortWarden$Store" "released" "I", Cond.methodLink RX4 41 yX3_empty, Cond.methodLink RX2 125 yX2_relax, Cond.instanceMethod yX2_relax, Cond.selects RX2 yX2_relax yX2_relax, Cond.code yX2_relax cX2_relax 1 none, Cond.fieldLink RX2 141 "PortWarden$Port" "crowded" "Z", Cond.fieldLink RX2 71 "PortWarden$Port" "urgent" "I", Cond.methodLink RX2 171 yX2_setMode]
def wsX2_emptyOutput_r3 : List Cond := [Cond.instanceMethod yX2_setMode, Cond.selects RX2 yX2_setMode yX2_setMode, Cond.code yX2_setMode cX2_setMode 3 none, Cond.fieldLink RX2 18 "PortWarden$Port" "modes" "[I", Cond.methodLink RX2 177 yX4_dropEndMarks, Cond.instanceMethod yX4_dropEndMarks, Cond.selects RX4 yX4_dropEndMarks yX4_dropEndMarks, Cond.code yX4_dropEndMarks cX4_dropEndMarks 4 none, Cond.methodLink RX4 37 yX3_takeFirst, Cond.instanceMethod yX3_takeFirst, Cond.selects RX3 yX3_takeFirst yX3_takeFirst, Cond.code yX3_takeFirst cX3_takeFirst 2 (some .int), Cond.fieldLink RX3 9 "PortWarden$Row" "cells" "[I", Cond.fieldLink RX3 19 "PortWarden$Row" "first" "I", Cond.methodLink RX4 28 yX3_add, Cond.instanceMethod yX3_add, Cond.selects RX3 yX3_add yX3_add, Cond.code yX3_add cX3_add 3 none, Cond.methodLink RX2 180 yX4_releaseAll, Cond.instanceMethod yX4_releaseAll, Cond.selects RX4 yX4_releaseAll yX4_releaseAll, Cond.code yX4_releaseAll cX4_releaseAll 1 none, Cond.methodLink RX2 183 yX2_releaseIfEnough, Cond.instanceMethod yX2_releaseIfEnough]
def wsX2_emptyOutput_r4 : List Cond := [Cond.selects RX2 yX2_releaseIfEnough yX2_releaseIfEnough, Cond.code yX2_releaseIfEnough cX2_releaseIfEnough 1 none, Cond.methodLink RX2 189 Lib.Math.max.name, Cond.static Lib.Math.max.name, Cond.code Lib.Math.max.name Lib.Math.max.code 2 (some .int), Cond.methodLink RX2 186 yX2_isOn, Cond.instanceMethod yX2_isOn, Cond.selects RX2 yX2_isOn yX2_isOn, Cond.code yX2_isOn cX2_isOn 2 (some .boolean), Cond.methodLink RX2 174 yX5_removeFirst, Cond.instanceMethod yX5_removeFirst, Cond.selects RX5 yX5_removeFirst yX5_removeFirst, Cond.code yX5_removeFirst cX5_removeFirst 2 none, Cond.fieldLink RX5 9 "PortWarden$Waiting" "which" "[I", Cond.fieldLink RX5 15 "PortWarden$Waiting" "value" "[I", Cond.fieldLink RX5 18 "PortWarden$Waiting" "takesStore" "[Z", Cond.methodLink RX5 29 Lib.Math.max.name]
def wsX2_emptyOutput : List Cond := .code yX2_emptyOutput cX2_emptyOutput 1 none :: ((wsX2_emptyOutput_r1 ++ (wsX2_emptyOutput_r2 ++ (wsX2_emptyOutput_r3 ++ wsX2_emptyOutput_r4))) ++ wsX20 ++ wsX10 ++ wsX30 ++ wsX50 ++ wsX40)
def wsX2_hangUp_r1 : List Cond := [Cond.fieldLink RX2 101 "PortWarden$Port" "hungUp" "Z", Cond.fieldLink RX2 74 "PortWarden$Port" "crew" "LPortWarden$Crew;", Cond.fieldLink RX2 67 "PortWarden$Port" "foregroundGroup" "I", Cond.methodLink RX2 104 yX0_raise, Cond.instanceMethod yX0_raise, Cond.selects RX0 yX0_raise yX0_raise, Cond.initialized RX0, Cond.code yX0_raise cX0_raise 4 none, Cond.fieldLink RX0 9 "PortWarden$Crew" "groupOf" "[I", Cond.fieldLink RX0 15 "PortWarden$Crew" "raised" "[I", Cond.methodLink RX2 110 yX2_emptyOutput, Cond.instanceMethod yX2_emptyOutput, Cond.selects RX2 yX2_emptyOutput yX2_emptyOutput, Cond.initialized RX2, Cond.code yX2_emptyOutput cX2_emptyOutput 1 none, Cond.fieldLink RX2 42 "PortWarden$Port" "output" "LPortWarden$Output;", Cond.fieldLink RX2 49 "PortWarden$Port" "waiting" "LPortWarden$Waiting;", Cond.methodLink RX2 134 yX3_empty, Cond.instanceMethod yX3_empty, Cond.selects RX3 yX3_empty yX3_empty, Cond.initialized RX3, Cond.code yX3_empty cX3_empty 1 none, Cond.fieldLink RX3 15 "PortWarden$Row" "size" "I", Cond.methodLink RX2 138 yX5_onlyLeft]
def wsX2_hangUp_r2 : List Cond := [Cond.instanceMethod yX5_onlyLeft, Cond.selects RX5 yX5_onlyLeft yX5_onlyLeft, Cond.initialized RX5, Cond.code yX5_onlyLeft cX5_onlyLeft 3 none, Cond.fieldLink RX5 25 "PortWarden$Waiting" "size" "I", Cond.fieldLink RX5 22 "PortWarden$Waiting" "behind" "[I", Cond.methodLink RX5 35 Lib.Math.min.name, Cond.static Lib.Math.min.name, Cond.initialized "java/lang/Math", Cond.code Lib.Math.min.name Lib.Math.min.code 2 (some .int), Cond.methodLink RX2 98 yX2_makeDueChanges, Cond.instanceMethod yX2_makeDueChanges, Cond.selects RX2 yX2_makeDueChanges yX2_makeDueChanges, Cond.code yX2_makeDueChanges cX2_makeDueChanges 2 none, Cond.methodLink RX2 155 yX5_isFirstDue, Cond.instanceMethod yX5_isFirstDue, Cond.selects RX5 yX5_isFirstDue yX5_isFirstDue, Cond.code yX5_isFirstDue cX5_isFirstDue 1 (some .boolean), Cond.methodLink RX2 162 yX2_emptyStore, Cond.instanceMethod yX2_emptyStore, Cond.selects RX2 yX2_emptyStore yX2_emptyStore, Cond.code yX2_emptyStore cX2_emptyStore 1 none, Cond.fieldLink RX2 35 "PortWarden$Port" "store" "LPortWarden$Store;", Cond.methodLink RX2 128 yX4_empty]
def wsX2_hangUp_r3 : List Cond := [Cond.instanceMethod yX4_empty, Cond.selects RX4 yX4_empty yX4_empty, Cond.initialized RX4, Cond.code yX4_empty cX4_empty 1 none, Cond.fieldLink RX4 14 "PortWarden$Store" "entries" "LPortWarden$Row;", Cond.fieldLink RX4 34 "PortWarden$Store" "released" "I", Cond.methodLink RX4 41 yX3_empty, Cond.methodLink RX2 125 yX2_relax, Cond.instanceMethod yX2_relax, Cond.selects RX2 yX2_relax yX2_relax, Cond.code yX2_relax cX2_relax 1 none, Cond.fieldLink RX2 141 "PortWarden$Port" "crowded" "Z", Cond.fieldLink RX2 71 "PortWarden$Port" "urgent" "I", Cond.methodLink RX2 171 yX2_setMode, Cond.instanceMethod yX2_setMode, Cond.selects RX2 yX2_setMode yX2_setMode, Cond.code yX2_setMode cX2_setMode 3 none, Cond.fieldLink RX2 18 "PortWarden$Port" "modes" "[I", Cond.methodLink RX2 177 yX4_dropEndMarks, Cond.instanceMethod yX4_dropEndMarks, Cond.selects RX4 yX4_dropEndMarks yX4_dropEndMarks, Cond.code yX4_dropEndMarks cX4_dropEndMarks 4 none, Cond.methodLink RX4 37 yX3_takeFirst, Cond.instanceMethod yX3_takeFirst]
def wsX2_hangUp_r4 : List Cond := [Cond.selects RX3 yX3_takeFirst yX3_takeFirst, Cond.code yX3_takeFirst cX3_takeFirst 2 (some .int), Cond.fieldLink RX3 9 "PortWarden$Row" "cells" "[I", Cond.fieldLink RX3 19 "PortWarden$Row" "first" "I", Cond.methodLink RX4 28 yX3_add, Cond.instanceMethod yX3_add, Cond.selects RX3 yX3_add yX3_add, Cond.code yX3_add cX3_add 3 none, Cond.methodLink RX2 180 yX4_releaseAll, Cond.instanceMethod yX4_releaseAll, Cond.selects RX4 yX4_releaseAll yX4_releaseAll, Cond.code yX4_releaseAll cX4_releaseAll 1 none, Cond.methodLink RX2 183 yX2_releaseIfEnough, Cond.instanceMethod yX2_releaseIfEnough, Cond.selects RX2 yX2_releaseIfEnough yX2_releaseIfEnough, Cond.code yX2_releaseIfEnough cX2_releaseIfEnough 1 none, Cond.methodLink RX2 189 Lib.Math.max.name, Cond.static Lib.Math.max.name, Cond.code Lib.Math.max.name Lib.Math.max.code 2 (some .int), Cond.methodLink RX2 186 yX2_isOn, Cond.instanceMethod yX2_isOn, Cond.selects RX2 yX2_isOn yX2_isOn, Cond.code yX2_isOn cX2_isOn 2 (some .boolean), Cond.methodLink RX2 174 yX5_removeFirst]
def wsX2_hangUp_r5 : List Cond := [Cond.instanceMethod yX5_removeFirst, Cond.selects RX5 yX5_removeFirst yX5_removeFirst, Cond.code yX5_removeFirst cX5_removeFirst 2 none, Cond.fieldLink RX5 9 "PortWarden$Waiting" "which" "[I", Cond.fieldLink RX5 15 "PortWarden$Waiting" "value" "[I", Cond.fieldLink RX5 18 "PortWarden$Waiting" "takesStore" "[Z", Cond.methodLink RX5 29 Lib.Math.max.name]
def wsX2_hangUp : List Cond := .code yX2_hangUp cX2_hangUp 1 none :: ((wsX2_hangUp_r1 ++ (wsX2_hangUp_r2 ++ (wsX2_hangUp_r3 ++ (wsX2_hangUp_r4 ++ wsX2_hangUp_r5)))) ++ wsX20 ++ wsX00 ++ wsX10 ++ wsX30 ++ wsX50 ++ wsX40)
def wsX2_openFor : List Cond := .code yX2_openFor cX2_openFor 3 (some .boolean) :: ([.fieldLink RX2 63 "PortWarden$Port" "carrierOn" "Z", .fieldLink RX2 56 "PortWarden$Port" "opened" "[Z", .fieldLink RX2 101 "PortWarden$Port" "hungUp" "Z"] ++ wsX20)
def wsX2_isBackground : List Cond := .code yX2_isBackground cX2_isBackground 2 (some .boolean) :: ([.fieldLink RX2 67 "PortWarden$Port" "foregroundGroup" "I", .fieldLink RX2 74 "PortWarden$Port" "crew" "LPortWarden$Crew;"] ++ wsX20 ++ wsX00)
def wsX2_readingWaits : List Cond := .code yX2_readingWaits cX2_readingWaits 2 (some .boolean) :: ([.fieldLink RX2 56 "PortWarden$Port" "opened" "[Z", .fieldLink RX2 35 "PortWarden$Port" "store" "LPortWarden$Store;", .fieldLink RX2 101 "PortWarden$Port" "hungUp" "Z", .methodLink RX2 116 yX2_isBackground, .instanceMethod yX2_isBackground, .selects RX2 yX2_isBackground yX2_isBackground, .initialized RX2, .code yX2_isBackground cX2_isBackground 2 (some .boolean), .fieldLink RX2 67 "PortWarden$Port" "foregroundGroup" "I", .fieldLink RX2 74 "PortWarden$Port" "crew" "LPortWarden$Crew;"] ++ wsX20 ++ wsX40 ++ wsX00)
def wsX4_takeReleased : List Cond := .code yX4_takeReleased cX4_takeReleased 1 (some .int) :: ([.fieldLink RX4 34 "PortWarden$Store" "released" "I", .fieldLink RX4 14 "PortWarden$Store" "entries" "LPortWarden$Row;", .methodLink RX4 37 yX3_takeFirst, .instanceMethod yX3_takeFirst, .selects RX3 yX3_takeFirst yX3_takeFirst, .initialized RX3, .code yX3_takeFirst cX3_takeFirst 2 (some .int), .fieldLink RX3 15 "PortWarden$Row" "size" "I", .fieldLink RX3 9 "PortWarden$Row" "cells" "[I", .fieldLink RX3 19 "PortWarden$Row" "first" "I"] ++ wsX40 ++ wsX30)
def wsX2_takeEntry : List Cond := .code yX2_takeEntry cX2_takeEntry 2 (some .int) :: ([.fieldLink RX2 35 "PortWarden$Port" "store" "LPortWarden$Store;", .methodLink RX2 122 yX4_takeReleased, .instanceMethod yX4_takeReleased, .selects RX4 yX4_takeReleased yX4_takeReleased, .initialized RX4, .code yX4_takeReleased cX4_takeReleased 1 (some .int), .fieldLink RX4 34 "PortWarden$Store" "released" "I", .fieldLink RX4 14 "PortWarden$Store" "entries" "LPortWarden$Row;", .methodLink RX4 37 yX3_takeFirst, .instanceMethod yX3_takeFirst, .selects RX3 yX3_takeFirst yX3_takeFirst, .initialized RX3, .code yX3_takeFirst cX3_takeFirst 2 (some .int), .fieldLink RX3 15 "PortWarden$Row" "size" "I", .fieldLink RX3 9 "PortWarden$Row" "cells" "[I", .fieldLink RX3 19 "PortWarden$Row" "first" "I", .methodLink RX2 125 yX2_relax, .instanceMethod yX2_relax, .selects RX2 yX2_relax yX2_relax, .initialized RX2, .code yX2_relax cX2_relax 1 none, .fieldLink RX2 141 "PortWarden$Port" "crowded" "Z", .fieldLink RX2 71 "PortWarden$Port" "urgent" "I"] ++ wsX20 ++ wsX40 ++ wsX30)
def wsX5_add : List Cond := .code yX5_add cX5_add 5 (some .boolean) :: ([.fieldLink RX5 25 "PortWarden$Waiting" "size" "I", .fieldLink RX5 9 "PortWarden$Waiting" "which" "[I", .fieldLink RX5 15 "PortWarden$Waiting" "value" "[I", .fieldLink RX5 18 "PortWarden$Waiting" "takesStore" "[Z", .fieldLink RX5 22 "PortWarden$Waiting" "behind" "[I"] ++ wsX50)
def wsX2_changeLater_r1 : List Cond := [Cond.fieldLink RX2 49 "PortWarden$Port" "waiting" "LPortWarden$Waiting;", Cond.fieldLink RX2 42 "PortWarden$Port" "output" "LPortWarden$Output;", Cond.methodLink RX2 150 yX1_size, Cond.instanceMethod yX1_size, Cond.selects RX1 yX1_size yX1_size, Cond.initialized RX1, Cond.code yX1_size cX1_size 1 (some .int), Cond.fieldLink RX1 14 "PortWarden$Output" "stored" "LPortWarden$Row;", Cond.fieldLink RX1 20 "PortWarden$Output" "sender" "LPortWarden$Row;", Cond.methodLink RX2 152 yX5_add, Cond.instanceMethod yX5_add, Cond.selects RX5 yX5_add yX5_add, Cond.initialized RX5, Cond.code yX5_add cX5_add 5 (some .boolean), Cond.fieldLink RX5 25 "PortWarden$Waiting" "size" "I", Cond.fieldLink RX5 9 "PortWarden$Waiting" "which" "[I", Cond.fieldLink RX5 15 "PortWarden$Waiting" "value" "[I", Cond.fieldLink RX5 18 "PortWarden$Waiting" "takesStore" "[Z", Cond.fieldLink RX5 22 "PortWarden$Waiting" "behind" "[I", Cond.methodLink RX2 98 yX2_makeDueChanges, Cond.instanceMethod yX2_makeDueChanges, Cond.selects RX2 yX2_makeDueChanges yX2_makeDueChanges, Cond.initialized RX2, Cond.code yX2_makeDueChanges cX2_makeDueChanges 2 none]
def wsX2_changeLater_r2 : List Cond := [Cond.methodLink RX2 155 yX5_isFirstDue, Cond.instanceMethod yX5_isFirstDue, Cond.selects RX5 yX5_isFirstDue yX5_isFirstDue, Cond.code yX5_isFirstDue cX5_isFirstDue 1 (some .boolean), Cond.methodLink RX2 162 yX2_emptyStore, Cond.instanceMethod yX2_emptyStore, Cond.selects RX2 yX2_emptyStore yX2_emptyStore, Cond.code yX2_emptyStore cX2_emptyStore 1 none, Cond.fieldLink RX2 35 "PortWarden$Port" "store" "LPortWarden$Store;", Cond.methodLink RX2 128 yX4_empty, Cond.instanceMethod yX4_empty, Cond.selects RX4 yX4_empty yX4_empty, Cond.initialized RX4, Cond.code yX4_empty cX4_empty 1 none, Cond.fieldLink RX4 14 "PortWarden$Store" "entries" "LPortWarden$Row;", Cond.fieldLink RX4 34 "PortWarden$Store" "released" "I", Cond.methodLink RX4 41 yX3_empty, Cond.instanceMethod yX3_empty, Cond.selects RX3 yX3_empty yX3_empty, Cond.initialized RX3, Cond.code yX3_empty cX3_empty 1 none, Cond.fieldLink RX3 15 "PortWarden$Row" "size" "I", Cond.methodLink RX2 125 yX2_relax, Cond.instanceMethod yX2_relax]
def wsX2_changeLater_r3 : List Cond := [Cond.selects RX2 yX2_relax yX2_relax, Cond.code yX2_relax cX2_relax 1 none, Cond.fieldLink RX2 141 "PortWarden$Port" "crowded" "Z", Cond.fieldLink RX2 71 "PortWarden$Port" "urgent" "I", Cond.methodLink RX2 171 yX2_setMode, Cond.instanceMethod yX2_setMode, Cond.selects RX2 yX2_setMode yX2_setMode, Cond.code yX2_setMode cX2_setMode 3 none, Cond.fieldLink RX2 18 "PortWarden$Port" "modes" "[I", Cond.methodLink RX2 177 yX4_dropEndMarks, Cond.instanceMethod yX4_dropEndMarks, Cond.selects RX4 yX4_dropEndMarks yX4_dropEndMarks, Cond.code yX4_dropEndMarks cX4_dropEndMarks 4 none, Cond.methodLink RX4 37 yX3_takeFirst, Cond.instanceMethod yX3_takeFirst, Cond.selects RX3 yX3_takeFirst yX3_takeFirst, Cond.code yX3_takeFirst cX3_takeFirst 2 (some .int), Cond.fieldLink RX3 9 "PortWarden$Row" "cells" "[I", Cond.fieldLink RX3 19 "PortWarden$Row" "first" "I", Cond.methodLink RX4 28 yX3_add, Cond.instanceMethod yX3_add, Cond.selects RX3 yX3_add yX3_add, Cond.code yX3_add cX3_add 3 none, Cond.methodLink RX2 180 yX4_releaseAll]
def wsX2_changeLater_r4 : List Cond := [Cond.instanceMethod yX4_releaseAll, Cond.selects RX4 yX4_releaseAll yX4_releaseAll, Cond.code yX4_releaseAll cX4_releaseAll 1 none, Cond.methodLink RX2 183 yX2_releaseIfEnough, Cond.instanceMethod yX2_releaseIfEnough, Cond.selects RX2 yX2_releaseIfEnough yX2_releaseIfEnough, Cond.code yX2_releaseIfEnough cX2_releaseIfEnough 1 none, Cond.methodLink RX2 189 Lib.Math.max.name, Cond.static Lib.Math.max.name, Cond.initialized "java/lang/Math", Cond.code Lib.Math.max.name Lib.Math.max.code 2 (some .int), Cond.methodLink RX2 186 yX2_isOn, Cond.instanceMethod yX2_isOn, Cond.selects RX2 yX2_isOn yX2_isOn, Cond.code yX2_isOn cX2_isOn 2 (some .boolean), Cond.methodLink RX2 174 yX5_removeFirst, Cond.instanceMethod yX5_removeFirst, Cond.selects RX5 yX5_removeFirst yX5_removeFirst, Cond.code yX5_removeFirst cX5_removeFirst 2 none, Cond.methodLink RX5 29 Lib.Math.max.name]
def wsX2_changeLater : List Cond := .code yX2_changeLater cX2_changeLater 4 (some .boolean) :: ((wsX2_changeLater_r1 ++ (wsX2_changeLater_r2 ++ (wsX2_changeLater_r3 ++ wsX2_changeLater_r4))) ++ wsX20 ++ wsX10 ++ wsX30 ++ wsX50 ++ wsX40)
def wsX2_letTimePass : List Cond := .code yX2_letTimePass cX2_letTimePass 1 none :: ([.fieldLink RX2 35 "PortWarden$Port" "store" "LPortWarden$Store;", .fieldLink RX2 18 "PortWarden$Port" "modes" "[I", .methodLink RX2 186 yX2_isOn, .instanceMethod yX2_isOn, .selects RX2 yX2_isOn yX2_isOn, .initialized RX2, .code yX2_isOn cX2_isOn 2 (some .boolean), .methodLink RX2 180 yX4_releaseAll, .instanceMethod yX4_releaseAll, .selects RX4 yX4_releaseAll yX4_releaseAll, .initialized RX4, .code yX4_releaseAll cX4_releaseAll 1 none, .fieldLink RX4 14 "PortWarden$Store" "entries" "LPortWarden$Row;", .fieldLink RX4 34 "PortWarden$Store" "released" "I"] ++ wsX20 ++ wsX40 ++ wsX30)
def wsX2_draftNewline : List Cond := .code yX2_draftNewline cX2_draftNewline 1 none :: ([.fieldLink RX2 53 "PortWarden$Port" "draft" "LPortWarden$Row;", .methodLink RX2 134 yX3_empty, .instanceMethod yX3_empty, .selects RX3 yX3_empty yX3_empty, .initialized RX3, .code yX3_empty cX3_empty 1 none, .fieldLink RX3 15 "PortWarden$Row" "size" "I", .methodLink RX2 82 yX3_add, .instanceMethod yX3_add, .selects RX3 yX3_add yX3_add, .code yX3_add cX3_add 3 none, .fieldLink RX3 9 "PortWarden$Row" "cells" "[I", .fieldLink RX3 19 "PortWarden$Row" "first" "I"] ++ wsX20 ++ wsX30)
def wsX2_expand_r1 : List Cond := [Cond.fieldLink RX2 42 "PortWarden$Port" "output" "LPortWarden$Output;", Cond.fieldLink RX2 53 "PortWarden$Port" "draft" "LPortWarden$Row;", Cond.methodLink RX2 186 yX2_isOn, Cond.instanceMethod yX2_isOn, Cond.selects RX2 yX2_isOn yX2_isOn, Cond.initialized RX2, Cond.code yX2_isOn cX2_isOn 2 (some .boolean), Cond.fieldLink RX2 18 "PortWarden$Port" "modes" "[I", Cond.methodLink RX2 198 yX2_draftNewline, Cond.instanceMethod yX2_draftNewline, Cond.selects RX2 yX2_draftNewline yX2_draftNewline, Cond.code yX2_draftNewline cX2_draftNewline 1 none, Cond.methodLink RX2 134 yX3_empty, Cond.instanceMethod yX3_empty, Cond.selects RX3 yX3_empty yX3_empty, Cond.initialized RX3, Cond.code yX3_empty cX3_empty 1 none, Cond.fieldLink RX3 15 "PortWarden$Row" "size" "I", Cond.methodLink RX2 82 yX3_add, Cond.instanceMethod yX3_add, Cond.selects RX3 yX3_add yX3_add, Cond.code yX3_add cX3_add 3 none, Cond.fieldLink RX3 9 "PortWarden$Row" "cells" "[I", Cond.fieldLink RX3 19 "PortWarden$Row" "first" "I"]
def wsX2_expand_r2 : List Cond := [Cond.methodLink RX2 201 yX1_blanksOfTab, Cond.instanceMethod yX1_blanksOfTab, Cond.selects RX1 yX1_blanksOfTab yX1_blanksOfTab, Cond.initialized RX1, Cond.code yX1_blanksOfTab cX1_blanksOfTab 1 (some .int), Cond.fieldLink RX1 45 "PortWarden$Output" "columnNow" "I"]
def wsX2_expand : List Cond := .code yX2_expand cX2_expand 5 none :: ((wsX2_expand_r1 ++ wsX2_expand_r2) ++ wsX20 ++ wsX30 ++ wsX10)
def wsX2_isPlain : List Cond := .code yX2_isPlain cX2_isPlain 1 (some .boolean) :: ([])
def wsX2_addForm : List Cond := .code yX2_addForm cX2_addForm 2 none :: ([.fieldLink RX2 53 "PortWarden$Port" "draft" "LPortWarden$Row;", .methodLink RX2 265 yX2_isPlain, .static yX2_isPlain, .initialized RX2, .code yX2_isPlain cX2_isPlain 1 (some .boolean), .methodLink RX2 82 yX3_add, .instanceMethod yX3_add, .selects RX3 yX3_add yX3_add, .initialized RX3, .code yX3_add cX3_add 3 none, .fieldLink RX3 15 "PortWarden$Row" "size" "I", .fieldLink RX3 9 "PortWarden$Row" "cells" "[I", .fieldLink RX3 19 "PortWarden$Row" "first" "I"] ++ wsX20 ++ wsX30)
def wsX2_draftForm : List Cond := .code yX2_draftForm cX2_draftForm 2 none :: ([.fieldLink RX2 53 "PortWarden$Port" "draft" "LPortWarden$Row;", .methodLink RX2 134 yX3_empty, .instanceMethod yX3_empty, .selects RX3 yX3_empty yX3_empty, .initialized RX3, .code yX3_empty cX3_empty 1 none, .fieldLink RX3 15 "PortWarden$Row" "size" "I", .methodLink RX2 272 yX2_addForm, .instanceMethod yX2_addForm, .selects RX2 yX2_addForm yX2_addForm, .initialized RX2, .code yX2_addForm cX2_addForm 2 none, .methodLink RX2 265 yX2_isPlain, .static yX2_isPlain, .code yX2_isPlain cX2_isPlain 1 (some .boolean), .methodLink RX2 82 yX3_add, .instanceMethod yX3_add, .selects RX3 yX3_add yX3_add, .code yX3_add cX3_add 3 none, .fieldLink RX3 9 "PortWarden$Row" "cells" "[I", .fieldLink RX3 19 "PortWarden$Row" "first" "I"] ++ wsX20 ++ wsX30)
def wsX2_echo_r1 : List Cond := [Cond.fieldLink RX2 42 "PortWarden$Port" "output" "LPortWarden$Output;", Cond.fieldLink RX2 53 "PortWarden$Port" "draft" "LPortWarden$Row;", Cond.fieldLink RX2 60 "PortWarden$Port" "counts" "[I", Cond.methodLink RX2 186 yX2_isOn, Cond.instanceMethod yX2_isOn, Cond.selects RX2 yX2_isOn yX2_isOn, Cond.initialized RX2, Cond.code yX2_isOn cX2_isOn 2 (some .boolean), Cond.fieldLink RX2 18 "PortWarden$Port" "modes" "[I", Cond.methodLink RX2 275 yX1_accept, Cond.instanceMethod yX1_accept, Cond.selects RX1 yX1_accept yX1_accept, Cond.initialized RX1, Cond.code yX1_accept cX1_accept 4 (some .boolean), Cond.fieldLink RX1 14 "PortWarden$Output" "stored" "LPortWarden$Row;", Cond.fieldLink RX1 45 "PortWarden$Output" "columnNow" "I", Cond.methodLink RX1 31 yX3_fits, Cond.instanceMethod yX3_fits, Cond.selects RX3 yX3_fits yX3_fits, Cond.initialized RX3, Cond.code yX3_fits cX3_fits 2 (some .boolean), Cond.fieldLink RX3 9 "PortWarden$Row" "cells" "[I", Cond.fieldLink RX3 15 "PortWarden$Row" "size" "I", Cond.methodLink RX1 35 yX3_at]
def wsX2_echo_r2 : List Cond := [Cond.instanceMethod yX3_at, Cond.selects RX3 yX3_at yX3_at, Cond.code yX3_at cX3_at 3 (some .int), Cond.fieldLink RX3 19 "PortWarden$Row" "first" "I", Cond.methodLink RX1 39 yX3_add, Cond.instanceMethod yX3_add, Cond.selects RX3 yX3_add yX3_add, Cond.code yX3_add cX3_add 3 none, Cond.methodLink RX1 42 yX1_columnBehind, Cond.instanceMethod yX1_columnBehind, Cond.selects RX1 yX1_columnBehind yX1_columnBehind, Cond.code yX1_columnBehind cX1_columnBehind 2 (some .int)]
def wsX2_echo : List Cond := .code yX2_echo cX2_echo 1 none :: ((wsX2_echo_r1 ++ wsX2_echo_r2) ++ wsX20 ++ wsX30 ++ wsX10)
def wsX2_signal_r1 : List Cond := [Cond.fieldLink RX2 74 "PortWarden$Port" "crew" "LPortWarden$Crew;", Cond.fieldLink RX2 67 "PortWarden$Port" "foregroundGroup" "I", Cond.fieldLink RX2 42 "PortWarden$Port" "output" "LPortWarden$Output;", Cond.fieldLink RX2 49 "PortWarden$Port" "waiting" "LPortWarden$Waiting;", Cond.methodLink RX2 104 yX0_raise, Cond.instanceMethod yX0_raise, Cond.selects RX0 yX0_raise yX0_raise, Cond.initialized RX0, Cond.code yX0_raise cX0_raise 4 none, Cond.fieldLink RX0 9 "PortWarden$Crew" "groupOf" "[I", Cond.fieldLink RX0 15 "PortWarden$Crew" "raised" "[I", Cond.methodLink RX2 186 yX2_isOn, Cond.instanceMethod yX2_isOn, Cond.selects RX2 yX2_isOn yX2_isOn, Cond.initialized RX2, Cond.code yX2_isOn cX2_isOn 2 (some .boolean), Cond.fieldLink RX2 18 "PortWarden$Port" "modes" "[I", Cond.methodLink RX2 162 yX2_emptyStore, Cond.instanceMethod yX2_emptyStore, Cond.selects RX2 yX2_emptyStore yX2_emptyStore, Cond.code yX2_emptyStore cX2_emptyStore 1 none, Cond.fieldLink RX2 35 "PortWarden$Port" "store" "LPortWarden$Store;", Cond.methodLink RX2 128 yX4_empty, Cond.instanceMethod yX4_empty]
def wsX2_signal_r2 : List Cond := [Cond.selects RX4 yX4_empty yX4_empty, Cond.initialized RX4, Cond.code yX4_empty cX4_empty 1 none, Cond.fieldLink RX4 14 "PortWarden$Store" "entries" "LPortWarden$Row;", Cond.fieldLink RX4 34 "PortWarden$Store" "released" "I", Cond.methodLink RX4 41 yX3_empty, Cond.instanceMethod yX3_empty, Cond.selects RX3 yX3_empty yX3_empty, Cond.initialized RX3, Cond.code yX3_empty cX3_empty 1 none, Cond.fieldLink RX3 15 "PortWarden$Row" "size" "I", Cond.methodLink RX2 125 yX2_relax, Cond.instanceMethod yX2_relax, Cond.selects RX2 yX2_relax yX2_relax, Cond.code yX2_relax cX2_relax 1 none, Cond.fieldLink RX2 141 "PortWarden$Port" "crowded" "Z", Cond.fieldLink RX2 71 "PortWarden$Port" "urgent" "I", Cond.methodLink RX2 134 yX3_empty, Cond.methodLink RX2 138 yX5_onlyLeft, Cond.instanceMethod yX5_onlyLeft, Cond.selects RX5 yX5_onlyLeft yX5_onlyLeft, Cond.initialized RX5, Cond.code yX5_onlyLeft cX5_onlyLeft 3 none, Cond.fieldLink RX5 25 "PortWarden$Waiting" "size" "I"]
def wsX2_signal_r3 : List Cond := [Cond.fieldLink RX5 22 "PortWarden$Waiting" "behind" "[I", Cond.methodLink RX5 35 Lib.Math.min.name, Cond.static Lib.Math.min.name, Cond.initialized "java/lang/Math", Cond.code Lib.Math.min.name Lib.Math.min.code 2 (some .int), Cond.methodLink RX2 232 yX2_draftForm, Cond.instanceMethod yX2_draftForm, Cond.selects RX2 yX2_draftForm yX2_draftForm, Cond.code yX2_draftForm cX2_draftForm 2 none, Cond.fieldLink RX2 53 "PortWarden$Port" "draft" "LPortWarden$Row;", Cond.methodLink RX2 272 yX2_addForm, Cond.instanceMethod yX2_addForm, Cond.selects RX2 yX2_addForm yX2_addForm, Cond.code yX2_addForm cX2_addForm 2 none, Cond.methodLink RX2 265 yX2_isPlain, Cond.static yX2_isPlain, Cond.code yX2_isPlain cX2_isPlain 1 (some .boolean), Cond.methodLink RX2 82 yX3_add, Cond.instanceMethod yX3_add, Cond.selects RX3 yX3_add yX3_add, Cond.code yX3_add cX3_add 3 none, Cond.fieldLink RX3 9 "PortWarden$Row" "cells" "[I", Cond.fieldLink RX3 19 "PortWarden$Row" "first" "I", Cond.methodLink RX2 235 yX2_echo]
def wsX2_signal_r4 : List Cond := [Cond.instanceMethod yX2_echo, Cond.selects RX2 yX2_echo yX2_echo, Cond.code yX2_echo cX2_echo 1 none, Cond.fieldLink RX2 60 "PortWarden$Port" "counts" "[I", Cond.methodLink RX2 275 yX1_accept, Cond.instanceMethod yX1_accept, Cond.selects RX1 yX1_accept yX1_accept, Cond.initialized RX1, Cond.code yX1_accept cX1_accept 4 (some .boolean), Cond.fieldLink RX1 14 "PortWarden$Output" "stored" "LPortWarden$Row;", Cond.fieldLink RX1 45 "PortWarden$Output" "columnNow" "I", Cond.methodLink RX1 31 yX3_fits, Cond.instanceMethod yX3_fits, Cond.selects RX3 yX3_fits yX3_fits, Cond.code yX3_fits cX3_fits 2 (some .boolean), Cond.methodLink RX1 35 yX3_at, Cond.instanceMethod yX3_at, Cond.selects RX3 yX3_at yX3_at, Cond.code yX3_at cX3_at 3 (some .int), Cond.methodLink RX1 39 yX3_add, Cond.methodLink RX1 42 yX1_columnBehind, Cond.instanceMethod yX1_columnBehind, Cond.selects RX1 yX1_columnBehind yX1_columnBehind, Cond.code yX1_columnBehind cX1_columnBehind 2 (some .int)]
def wsX2_signal : List Cond := .code yX2_signal cX2_signal 3 none :: ((wsX2_signal_r1 ++ (wsX2_signal_r2 ++ (wsX2_signal_r3 ++ wsX2_signal_r4))) ++ wsX20 ++ wsX10 ++ wsX30 ++ wsX00 ++ wsX40 ++ wsX50)
def wsX4_add : List Cond := .code yX4_add cX4_add 3 (some .boolean) :: ([.fieldLink RX4 14 "PortWarden$Store" "entries" "LPortWarden$Row;", .fieldLink RX4 31 "PortWarden$Store" "idleTicks" "I", .methodLink RX4 24 yX3_fits, .instanceMethod yX3_fits, .selects RX3 yX3_fits yX3_fits, .initialized RX3, .code yX3_fits cX3_fits 2 (some .boolean), .fieldLink RX3 9 "PortWarden$Row" "cells" "[I", .fieldLink RX3 15 "PortWarden$Row" "size" "I", .methodLink RX4 28 yX3_add, .instanceMethod yX3_add, .selects RX3 yX3_add yX3_add, .code yX3_add cX3_add 3 none, .fieldLink RX3 19 "PortWarden$Row" "first" "I"] ++ wsX40 ++ wsX30)
def wsX2_keep_r1 : List Cond := [Cond.fieldLink RX2 35 "PortWarden$Port" "store" "LPortWarden$Store;", Cond.fieldLink RX2 60 "PortWarden$Port" "counts" "[I", Cond.fieldLink RX2 141 "PortWarden$Port" "crowded" "Z", Cond.fieldLink RX2 71 "PortWarden$Port" "urgent" "I", Cond.methodLink RX2 186 yX2_isOn, Cond.instanceMethod yX2_isOn, Cond.selects RX2 yX2_isOn yX2_isOn, Cond.initialized RX2, Cond.code yX2_isOn cX2_isOn 2 (some .boolean), Cond.fieldLink RX2 18 "PortWarden$Port" "modes" "[I", Cond.methodLink RX2 259 yX4_add, Cond.instanceMethod yX4_add, Cond.selects RX4 yX4_add yX4_add, Cond.initialized RX4, Cond.code yX4_add cX4_add 3 (some .boolean), Cond.fieldLink RX4 14 "PortWarden$Store" "entries" "LPortWarden$Row;", Cond.fieldLink RX4 31 "PortWarden$Store" "idleTicks" "I", Cond.methodLink RX4 24 yX3_fits, Cond.instanceMethod yX3_fits, Cond.selects RX3 yX3_fits yX3_fits, Cond.initialized RX3, Cond.code yX3_fits cX3_fits 2 (some .boolean), Cond.fieldLink RX3 9 "PortWarden$Row" "cells" "[I", Cond.fieldLink RX3 15 "PortWarden$Row" "size" "I"]
def wsX2_keep_r2 : List Cond := [Cond.methodLink RX4 28 yX3_add, Cond.instanceMethod yX3_add, Cond.selects RX3 yX3_add yX3_add, Cond.code yX3_add cX3_add 3 none, Cond.fieldLink RX3 19 "PortWarden$Row" "first" "I", Cond.methodLink RX2 183 yX2_releaseIfEnough, Cond.instanceMethod yX2_releaseIfEnough, Cond.selects RX2 yX2_releaseIfEnough yX2_releaseIfEnough, Cond.code yX2_releaseIfEnough cX2_releaseIfEnough 1 none, Cond.methodLink RX2 189 Lib.Math.max.name, Cond.static Lib.Math.max.name, Cond.initialized "java/lang/Math", Cond.code Lib.Math.max.name Lib.Math.max.code 2 (some .int), Cond.methodLink RX2 180 yX4_releaseAll, Cond.instanceMethod yX4_releaseAll, Cond.selects RX4 yX4_releaseAll yX4_releaseAll, Cond.code yX4_releaseAll cX4_releaseAll 1 none, Cond.fieldLink RX4 34 "PortWarden$Store" "released" "I"]
def wsX2_keep : List Cond := .code yX2_keep cX2_keep 3 (some .boolean) :: ((wsX2_keep_r1 ++ wsX2_keep_r2) ++ wsX20 ++ wsX40 ++ wsX30)
def wsX2_keepAndEcho_r1 : List Cond := [Cond.methodLink RX2 256 yX2_keep, Cond.instanceMethod yX2_keep, Cond.selects RX2 yX2_keep yX2_keep, Cond.initialized RX2, Cond.code yX2_keep cX2_keep 3 (some .boolean), Cond.fieldLink RX2 35 "PortWarden$Port" "store" "LPortWarden$Store;", Cond.fieldLink RX2 60 "PortWarden$Port" "counts" "[I", Cond.fieldLink RX2 141 "PortWarden$Port" "crowded" "Z", Cond.fieldLink RX2 71 "PortWarden$Port" "urgent" "I", Cond.methodLink RX2 186 yX2_isOn, Cond.instanceMethod yX2_isOn, Cond.selects RX2 yX2_isOn yX2_isOn, Cond.code yX2_isOn cX2_isOn 2 (some .boolean), Cond.fieldLink RX2 18 "PortWarden$Port" "modes" "[I", Cond.methodLink RX2 259 yX4_add, Cond.instanceMethod yX4_add, Cond.selects RX4 yX4_add yX4_add, Cond.initialized RX4, Cond.code yX4_add cX4_add 3 (some .boolean), Cond.fieldLink RX4 14 "PortWarden$Store" "entries" "LPortWarden$Row;", Cond.fieldLink RX4 31 "PortWarden$Store" "idleTicks" "I", Cond.methodLink RX4 24 yX3_fits, Cond.instanceMethod yX3_fits, Cond.selects RX3 yX3_fits yX3_fits]
def wsX2_keepAndEcho_r2 : List Cond := [Cond.initialized RX3, Cond.code yX3_fits cX3_fits 2 (some .boolean), Cond.fieldLink RX3 9 "PortWarden$Row" "cells" "[I", Cond.fieldLink RX3 15 "PortWarden$Row" "size" "I", Cond.methodLink RX4 28 yX3_add, Cond.instanceMethod yX3_add, Cond.selects RX3 yX3_add yX3_add, Cond.code yX3_add cX3_add 3 none, Cond.fieldLink RX3 19 "PortWarden$Row" "first" "I", Cond.methodLink RX2 183 yX2_releaseIfEnough, Cond.instanceMethod yX2_releaseIfEnough, Cond.selects RX2 yX2_releaseIfEnough yX2_releaseIfEnough, Cond.code yX2_releaseIfEnough cX2_releaseIfEnough 1 none, Cond.methodLink RX2 189 Lib.Math.max.name, Cond.static Lib.Math.max.name, Cond.initialized "java/lang/Math", Cond.code Lib.Math.max.name Lib.Math.max.code 2 (some .int), Cond.methodLink RX2 180 yX4_releaseAll, Cond.instanceMethod yX4_releaseAll, Cond.selects RX4 yX4_releaseAll yX4_releaseAll, Cond.code yX4_releaseAll cX4_releaseAll 1 none, Cond.fieldLink RX4 34 "PortWarden$Store" "released" "I", Cond.methodLink RX2 232 yX2_draftForm, Cond.instanceMethod yX2_draftForm]
def wsX2_keepAndEcho_r3 : List Cond := [Cond.selects RX2 yX2_draftForm yX2_draftForm, Cond.code yX2_draftForm cX2_draftForm 2 none, Cond.fieldLink RX2 53 "PortWarden$Port" "draft" "LPortWarden$Row;", Cond.methodLink RX2 134 yX3_empty, Cond.instanceMethod yX3_empty, Cond.selects RX3 yX3_empty yX3_empty, Cond.code yX3_empty cX3_empty 1 none, Cond.methodLink RX2 272 yX2_addForm, Cond.instanceMethod yX2_addForm, Cond.selects RX2 yX2_addForm yX2_addForm, Cond.code yX2_addForm cX2_addForm 2 none, Cond.methodLink RX2 265 yX2_isPlain, Cond.static yX2_isPlain, Cond.code yX2_isPlain cX2_isPlain 1 (some .boolean), Cond.methodLink RX2 82 yX3_add, Cond.methodLink RX2 235 yX2_echo, Cond.instanceMethod yX2_echo, Cond.selects RX2 yX2_echo yX2_echo, Cond.code yX2_echo cX2_echo 1 none, Cond.fieldLink RX2 42 "PortWarden$Port" "output" "LPortWarden$Output;", Cond.methodLink RX2 275 yX1_accept, Cond.instanceMethod yX1_accept, Cond.selects RX1 yX1_accept yX1_accept, Cond.initialized RX1]
def wsX2_keepAndEcho_r4 : List Cond := [Cond.code yX1_accept cX1_accept 4 (some .boolean), Cond.fieldLink RX1 14 "PortWarden$Output" "stored" "LPortWarden$Row;", Cond.fieldLink RX1 45 "PortWarden$Output" "columnNow" "I", Cond.methodLink RX1 31 yX3_fits, Cond.methodLink RX1 35 yX3_at, Cond.instanceMethod yX3_at, Cond.selects RX3 yX3_at yX3_at, Cond.code yX3_at cX3_at 3 (some .int), Cond.methodLink RX1 39 yX3_add, Cond.methodLink RX1 42 yX1_columnBehind, Cond.instanceMethod yX1_columnBehind, Cond.selects RX1 yX1_columnBehind yX1_columnBehind, Cond.code yX1_columnBehind cX1_columnBehind 2 (some .int)]
def wsX2_keepAndEcho : List Cond := .code yX2_keepAndEcho cX2_keepAndEcho 2 none :: ((wsX2_keepAndEcho_r1 ++ (wsX2_keepAndEcho_r2 ++ (wsX2_keepAndEcho_r3 ++ wsX2_keepAndEcho_r4))) ++ wsX20 ++ wsX40 ++ wsX30 ++ wsX10)
def wsX2_takeFlagged_r1 : List Cond := [Cond.fieldLink RX2 18 "PortWarden$Port" "modes" "[I", Cond.fieldLink RX2 211 "PortWarden$Port" "literalNext" "Z", Cond.fieldLink RX2 60 "PortWarden$Port" "counts" "[I", Cond.methodLink RX2 186 yX2_isOn, Cond.instanceMethod yX2_isOn, Cond.selects RX2 yX2_isOn yX2_isOn, Cond.initialized RX2, Cond.code yX2_isOn cX2_isOn 2 (some .boolean), Cond.methodLink RX2 226 yX2_signal, Cond.instanceMethod yX2_signal, Cond.selects RX2 yX2_signal yX2_signal, Cond.code yX2_signal cX2_signal 3 none, Cond.fieldLink RX2 74 "PortWarden$Port" "crew" "LPortWarden$Crew;", Cond.fieldLink RX2 67 "PortWarden$Port" "foregroundGroup" "I", Cond.fieldLink RX2 42 "PortWarden$Port" "output" "LPortWarden$Output;", Cond.fieldLink RX2 49 "PortWarden$Port" "waiting" "LPortWarden$Waiting;", Cond.methodLink RX2 104 yX0_raise, Cond.instanceMethod yX0_raise, Cond.selects RX0 yX0_raise yX0_raise, Cond.initialized RX0, Cond.code yX0_raise cX0_raise 4 none, Cond.fieldLink RX0 9 "PortWarden$Crew" "groupOf" "[I", Cond.fieldLink RX0 15 "PortWarden$Crew" "raised" "[I", Cond.methodLink RX2 162 yX2_emptyStore]
def wsX2_takeFlagged_r2 : List Cond := [Cond.instanceMethod yX2_emptyStore, Cond.selects RX2 yX2_emptyStore yX2_emptyStore, Cond.code yX2_emptyStore cX2_emptyStore 1 none, Cond.fieldLink RX2 35 "PortWarden$Port" "store" "LPortWarden$Store;", Cond.methodLink RX2 128 yX4_empty, Cond.instanceMethod yX4_empty, Cond.selects RX4 yX4_empty yX4_empty, Cond.initialized RX4, Cond.code yX4_empty cX4_empty 1 none, Cond.fieldLink RX4 14 "PortWarden$Store" "entries" "LPortWarden$Row;", Cond.fieldLink RX4 34 "PortWarden$Store" "released" "I", Cond.methodLink RX4 41 yX3_empty, Cond.instanceMethod yX3_empty, Cond.selects RX3 yX3_empty yX3_empty, Cond.initialized RX3, Cond.code yX3_empty cX3_empty 1 none, Cond.fieldLink RX3 15 "PortWarden$Row" "size" "I", Cond.methodLink RX2 125 yX2_relax, Cond.instanceMethod yX2_relax, Cond.selects RX2 yX2_relax yX2_relax, Cond.code yX2_relax cX2_relax 1 none, Cond.fieldLink RX2 141 "PortWarden$Port" "crowded" "Z", Cond.fieldLink RX2 71 "PortWarden$Port" "urgent" "I", Cond.methodLink RX2 134 yX3_empty]
def wsX2_takeFlagged_r3 : List Cond := [Cond.methodLink RX2 138 yX5_onlyLeft, Cond.instanceMethod yX5_onlyLeft, Cond.selects RX5 yX5_onlyLeft yX5_onlyLeft, Cond.initialized RX5, Cond.code yX5_onlyLeft cX5_onlyLeft 3 none, Cond.fieldLink RX5 25 "PortWarden$Waiting" "size" "I", Cond.fieldLink RX5 22 "PortWarden$Waiting" "behind" "[I", Cond.methodLink RX5 35 Lib.Math.min.name, Cond.static Lib.Math.min.name, Cond.initialized "java/lang/Math", Cond.code Lib.Math.min.name Lib.Math.min.code 2 (some .int), Cond.methodLink RX2 232 yX2_draftForm, Cond.instanceMethod yX2_draftForm, Cond.selects RX2 yX2_draftForm yX2_draftForm, Cond.code yX2_draftForm cX2_draftForm 2 none, Cond.fieldLink RX2 53 "PortWarden$Port" "draft" "LPortWarden$Row;", Cond.methodLink RX2 272 yX2_addForm, Cond.instanceMethod yX2_addForm, Cond.selects RX2 yX2_addForm yX2_addForm, Cond.code yX2_addForm cX2_addForm 2 none, Cond.methodLink RX2 265 yX2_isPlain, Cond.static yX2_isPlain, Cond.code yX2_isPlain cX2_isPlain 1 (some .boolean), Cond.methodLink RX2 82 yX3_add]
def wsX2_takeFlagged_r4 : List Cond := [Cond.instanceMethod yX3_add, Cond.selects RX3 yX3_add yX3_add, Cond.code yX3_add cX3_add 3 none, Cond.fieldLink RX3 9 "PortWarden$Row" "cells" "[I", Cond.fieldLink RX3 19 "PortWarden$Row" "first" "I", Cond.methodLink RX2 235 yX2_echo, Cond.instanceMethod yX2_echo, Cond.selects RX2 yX2_echo yX2_echo, Cond.code yX2_echo cX2_echo 1 none, Cond.methodLink RX2 275 yX1_accept, Cond.instanceMethod yX1_accept, Cond.selects RX1 yX1_accept yX1_accept, Cond.initialized RX1, Cond.code yX1_accept cX1_accept 4 (some .boolean), Cond.fieldLink RX1 14 "PortWarden$Output" "stored" "LPortWarden$Row;", Cond.fieldLink RX1 45 "PortWarden$Output" "columnNow" "I", Cond.methodLink RX1 31 yX3_fits, Cond.instanceMethod yX3_fits, Cond.selects RX3 yX3_fits yX3_fits, Cond.code yX3_fits cX3_fits 2 (some .boolean), Cond.methodLink RX1 35 yX3_at, Cond.instanceMethod yX3_at, Cond.selects RX3 yX3_at yX3_at, Cond.code yX3_at cX3_at 3 (some .int)]
def wsX2_takeFlagged_r5 : List Cond := [Cond.methodLink RX1 39 yX3_add, Cond.methodLink RX1 42 yX1_columnBehind, Cond.instanceMethod yX1_columnBehind, Cond.selects RX1 yX1_columnBehind yX1_columnBehind, Cond.code yX1_columnBehind cX1_columnBehind 2 (some .int), Cond.methodLink RX2 214 yX2_keepAndEcho, Cond.instanceMethod yX2_keepAndEcho, Cond.selects RX2 yX2_keepAndEcho yX2_keepAndEcho, Cond.code yX2_keepAndEcho cX2_keepAndEcho 2 none, Cond.methodLink RX2 256 yX2_keep, Cond.instanceMethod yX2_keep, Cond.selects RX2 yX2_keep yX2_keep, Cond.code yX2_keep cX2_keep 3 (some .boolean), Cond.methodLink RX2 259 yX4_add, Cond.instanceMethod yX4_add, Cond.selects RX4 yX4_add yX4_add, Cond.code yX4_add cX4_add 3 (some .boolean), Cond.fieldLink RX4 31 "PortWarden$Store" "idleTicks" "I", Cond.methodLink RX4 24 yX3_fits, Cond.methodLink RX4 28 yX3_add, Cond.methodLink RX2 183 yX2_releaseIfEnough, Cond.instanceMethod yX2_releaseIfEnough, Cond.selects RX2 yX2_releaseIfEnough yX2_releaseIfEnough, Cond.code yX2_releaseIfEnough cX2_releaseIfEnough 1 none]
def wsX2_takeFlagged_r6 : List Cond := [Cond.methodLink RX2 189 Lib.Math.max.name, Cond.static Lib.Math.max.name, Cond.code Lib.Math.max.name Lib.Math.max.code 2 (some .int), Cond.methodLink RX2 180 yX4_releaseAll, Cond.instanceMethod yX4_releaseAll, Cond.selects RX4 yX4_releaseAll yX4_releaseAll, Cond.code yX4_releaseAll cX4_releaseAll 1 none]
def wsX2_takeFlagged : List Cond := .code yX2_takeFlagged cX2_takeFlagged 2 none :: ((wsX2_takeFlagged_r1 ++ (wsX2_takeFlagged_r2 ++ (wsX2_takeFlagged_r3 ++ (wsX2_takeFlagged_r4 ++ (wsX2_takeFlagged_r5 ++ wsX2_takeFlagged_r6))))) ++ wsX20 ++ wsX10 ++ wsX30 ++ wsX00 ++ wsX40 ++ wsX50)
def wsX2_settledAsFlow : List Cond := .code yX2_settledAsFlow cX2_settledAsFlow 2 (some .boolean) :: ([.fieldLink RX2 18 "PortWarden$Port" "modes" "[I", .fieldLink RX2 42 "PortWarden$Port" "output" "LPortWarden$Output;", .methodLink RX2 186 yX2_isOn, .instanceMethod yX2_isOn, .selects RX2 yX2_isOn yX2_isOn, .initialized RX2, .code yX2_isOn cX2_isOn 2 (some .boolean)] ++ wsX20 ++ wsX10)
def wsX2_settledAsSignal_r1 : List Cond := [Cond.fieldLink RX2 18 "PortWarden$Port" "modes" "[I", Cond.methodLink RX2 186 yX2_isOn, Cond.instanceMethod yX2_isOn, Cond.selects RX2 yX2_isOn yX2_isOn, Cond.initialized RX2, Cond.code yX2_isOn cX2_isOn 2 (some .boolean), Cond.methodLink RX2 226 yX2_signal, Cond.instanceMethod yX2_signal, Cond.selects RX2 yX2_signal yX2_signal, Cond.code yX2_signal cX2_signal 3 none, Cond.fieldLink RX2 74 "PortWarden$Port" "crew" "LPortWarden$Crew;", Cond.fieldLink RX2 67 "PortWarden$Port" "foregroundGroup" "I", Cond.fieldLink RX2 42 "PortWarden$Port" "output" "LPortWarden$Output;", Cond.fieldLink RX2 49 "PortWarden$Port" "waiting" "LPortWarden$Waiting;", Cond.methodLink RX2 104 yX0_raise, Cond.instanceMethod yX0_raise, Cond.selects RX0 yX0_raise yX0_raise, Cond.initialized RX0, Cond.code yX0_raise cX0_raise 4 none, Cond.fieldLink RX0 9 "PortWarden$Crew" "groupOf" "[I", Cond.fieldLink RX0 15 "PortWarden$Crew" "raised" "[I", Cond.methodLink RX2 162 yX2_emptyStore, Cond.instanceMethod yX2_emptyStore, Cond.selects RX2 yX2_emptyStore yX2_emptyStore]
def wsX2_settledAsSignal_r2 : List Cond := [Cond.code yX2_emptyStore cX2_emptyStore 1 none, Cond.fieldLink RX2 35 "PortWarden$Port" "store" "LPortWarden$Store;", Cond.methodLink RX2 128 yX4_empty, Cond.instanceMethod yX4_empty, Cond.selects RX4 yX4_empty yX4_empty, Cond.initialized RX4, Cond.code yX4_empty cX4_empty 1 none, Cond.fieldLink RX4 14 "PortWarden$Store" "entries" "LPortWarden$Row;", Cond.fieldLink RX4 34 "PortWarden$Store" "released" "I", Cond.methodLink RX4 41 yX3_empty, Cond.instanceMethod yX3_empty, Cond.selects RX3 yX3_empty yX3_empty, Cond.initialized RX3, Cond.code yX3_empty cX3_empty 1 none, Cond.fieldLink RX3 15 "PortWarden$Row" "size" "I", Cond.methodLink RX2 125 yX2_relax, Cond.instanceMethod yX2_relax, Cond.selects RX2 yX2_relax yX2_relax, Cond.code yX2_relax cX2_relax 1 none, Cond.fieldLink RX2 141 "PortWarden$Port" "crowded" "Z", Cond.fieldLink RX2 71 "PortWarden$Port" "urgent" "I", Cond.methodLink RX2 134 yX3_empty, Cond.methodLink RX2 138 yX5_onlyLeft, Cond.instanceMethod yX5_onlyLeft]
def wsX2_settledAsSignal_r3 : List Cond := [Cond.selects RX5 yX5_onlyLeft yX5_onlyLeft, Cond.initialized RX5, Cond.code yX5_onlyLeft cX5_onlyLeft 3 none, Cond.fieldLink RX5 25 "PortWarden$Waiting" "size" "I", Cond.fieldLink RX5 22 "PortWarden$Waiting" "behind" "[I", Cond.methodLink RX5 35 Lib.Math.min.name, Cond.static Lib.Math.min.name, Cond.initialized "java/lang/Math", Cond.code Lib.Math.min.name Lib.Math.min.code 2 (some .int), Cond.methodLink RX2 232 yX2_draftForm, Cond.instanceMethod yX2_draftForm, Cond.selects RX2 yX2_draftForm yX2_draftForm, Cond.code yX2_draftForm cX2_draftForm 2 none, Cond.fieldLink RX2 53 "PortWarden$Port" "draft" "LPortWarden$Row;", Cond.methodLink RX2 272 yX2_addForm, Cond.instanceMethod yX2_addForm, Cond.selects RX2 yX2_addForm yX2_addForm, Cond.code yX2_addForm cX2_addForm 2 none, Cond.methodLink RX2 265 yX2_isPlain, Cond.static yX2_isPlain, Cond.code yX2_isPlain cX2_isPlain 1 (some .boolean), Cond.methodLink RX2 82 yX3_add, Cond.instanceMethod yX3_add, Cond.selects RX3 yX3_add yX3_add]
def wsX2_settledAsSignal_r4 : List Cond := [Cond.code yX3_add cX3_add 3 none, Cond.fieldLink RX3 9 "PortWarden$Row" "cells" "[I", Cond.fieldLink RX3 19 "PortWarden$Row" "first" "I", Cond.methodLink RX2 235 yX2_echo, Cond.instanceMethod yX2_echo, Cond.selects RX2 yX2_echo yX2_echo, Cond.code yX2_echo cX2_echo 1 none, Cond.fieldLink RX2 60 "PortWarden$Port" "counts" "[I", Cond.methodLink RX2 275 yX1_accept, Cond.instanceMethod yX1_accept, Cond.selects RX1 yX1_accept yX1_accept, Cond.initialized RX1, Cond.code yX1_accept cX1_accept 4 (some .boolean), Cond.fieldLink RX1 14 "PortWarden$Output" "stored" "LPortWarden$Row;", Cond.fieldLink RX1 45 "PortWarden$Output" "columnNow" "I", Cond.methodLink RX1 31 yX3_fits, Cond.instanceMethod yX3_fits, Cond.selects RX3 yX3_fits yX3_fits, Cond.code yX3_fits cX3_fits 2 (some .boolean), Cond.methodLink RX1 35 yX3_at, Cond.instanceMethod yX3_at, Cond.selects RX3 yX3_at yX3_at, Cond.code yX3_at cX3_at 3 (some .int), Cond.methodLink RX1 39 yX3_add]
def wsX2_settledAsSignal_r5 : List Cond := [Cond.methodLink RX1 42 yX1_columnBehind, Cond.instanceMethod yX1_columnBehind, Cond.selects RX1 yX1_columnBehind yX1_columnBehind, Cond.code yX1_columnBehind cX1_columnBehind 2 (some .int)]
def wsX2_settledAsSignal : List Cond := .code yX2_settledAsSignal cX2_settledAsSignal 2 (some .boolean) :: ((wsX2_settledAsSignal_r1 ++ (wsX2_settledAsSignal_r2 ++ (wsX2_settledAsSignal_r3 ++ (wsX2_settledAsSignal_r4 ++ wsX2_settledAsSignal_r5)))) ++ wsX20 ++ wsX10 ++ wsX30 ++ wsX00 ++ wsX40 ++ wsX50)
def wsX4_openLine : List Cond := .code yX4_openLine cX4_openLine 1 (some .int) :: ([.fieldLink RX4 14 "PortWarden$Store" "entries" "LPortWarden$Row;", .fieldLink RX4 34 "PortWarden$Store" "released" "I"] ++ wsX40 ++ wsX30)
def wsX3_takeLast : List Cond := .code yX3_takeLast cX3_takeLast 2 (some .int) :: ([.fieldLink RX3 15 "PortWarden$Row" "size" "I", .methodLink RX3 22 yX3_at, .instanceMethod yX3_at, .selects RX3 yX3_at yX3_at, .initialized RX3, .code yX3_at cX3_at 3 (some .int), .fieldLink RX3 19 "PortWarden$Row" "first" "I", .fieldLink RX3 9 "PortWarden$Row" "cells" "[I"] ++ wsX30)
def wsX2_takeAway_r1 : List Cond := [Cond.fieldLink RX2 53 "PortWarden$Port" "draft" "LPortWarden$Row;", Cond.fieldLink RX2 35 "PortWarden$Port" "store" "LPortWarden$Store;", Cond.methodLink RX2 134 yX3_empty, Cond.instanceMethod yX3_empty, Cond.selects RX3 yX3_empty yX3_empty, Cond.initialized RX3, Cond.code yX3_empty cX3_empty 1 none, Cond.fieldLink RX3 15 "PortWarden$Row" "size" "I", Cond.methodLink RX2 262 yX3_takeLast, Cond.instanceMethod yX3_takeLast, Cond.selects RX3 yX3_takeLast yX3_takeLast, Cond.code yX3_takeLast cX3_takeLast 2 (some .int), Cond.methodLink RX3 22 yX3_at, Cond.instanceMethod yX3_at, Cond.selects RX3 yX3_at yX3_at, Cond.code yX3_at cX3_at 3 (some .int), Cond.fieldLink RX3 19 "PortWarden$Row" "first" "I", Cond.fieldLink RX3 9 "PortWarden$Row" "cells" "[I", Cond.methodLink RX2 265 yX2_isPlain, Cond.static yX2_isPlain, Cond.initialized RX2, Cond.code yX2_isPlain cX2_isPlain 1 (some .boolean), Cond.methodLink RX2 82 yX3_add, Cond.instanceMethod yX3_add]
def wsX2_takeAway_r2 : List Cond := [Cond.selects RX3 yX3_add yX3_add, Cond.code yX3_add cX3_add 3 none, Cond.methodLink RX2 235 yX2_echo, Cond.instanceMethod yX2_echo, Cond.selects RX2 yX2_echo yX2_echo, Cond.code yX2_echo cX2_echo 1 none, Cond.fieldLink RX2 42 "PortWarden$Port" "output" "LPortWarden$Output;", Cond.fieldLink RX2 60 "PortWarden$Port" "counts" "[I", Cond.methodLink RX2 186 yX2_isOn, Cond.instanceMethod yX2_isOn, Cond.selects RX2 yX2_isOn yX2_isOn, Cond.code yX2_isOn cX2_isOn 2 (some .boolean), Cond.fieldLink RX2 18 "PortWarden$Port" "modes" "[I", Cond.methodLink RX2 275 yX1_accept, Cond.instanceMethod yX1_accept, Cond.selects RX1 yX1_accept yX1_accept, Cond.initialized RX1, Cond.code yX1_accept cX1_accept 4 (some .boolean), Cond.fieldLink RX1 14 "PortWarden$Output" "stored" "LPortWarden$Row;", Cond.fieldLink RX1 45 "PortWarden$Output" "columnNow" "I", Cond.methodLink RX1 31 yX3_fits, Cond.instanceMethod yX3_fits, Cond.selects RX3 yX3_fits yX3_fits, Cond.code yX3_fits cX3_fits 2 (some .boolean)]
def wsX2_takeAway_r3 : List Cond := [Cond.methodLink RX1 35 yX3_at, Cond.methodLink RX1 39 yX3_add, Cond.methodLink RX1 42 yX1_columnBehind, Cond.instanceMethod yX1_columnBehind, Cond.selects RX1 yX1_columnBehind yX1_columnBehind, Cond.code yX1_columnBehind cX1_columnBehind 2 (some .int), Cond.methodLink RX2 125 yX2_relax, Cond.instanceMethod yX2_relax, Cond.selects RX2 yX2_relax yX2_relax, Cond.code yX2_relax cX2_relax 1 none, Cond.fieldLink RX2 141 "PortWarden$Port" "crowded" "Z", Cond.fieldLink RX2 71 "PortWarden$Port" "urgent" "I"]
def wsX2_takeAway : List Cond := .code yX2_takeAway cX2_takeAway 5 none :: ((wsX2_takeAway_r1 ++ (wsX2_takeAway_r2 ++ wsX2_takeAway_r3)) ++ wsX20 ++ wsX40 ++ wsX30 ++ wsX10)
def wsX4_isBlank : List Cond := .code yX4_isBlank cX4_isBlank 1 (some .boolean) :: ([])
def wsX4_lastWord : List Cond := .code yX4_lastWord cX4_lastWord 3 (some .int) :: ([.fieldLink RX4 14 "PortWarden$Store" "entries" "LPortWarden$Row;", .methodLink RX4 44 yX4_openLine, .instanceMethod yX4_openLine, .selects RX4 yX4_openLine yX4_openLine, .initialized RX4, .code yX4_openLine cX4_openLine 1 (some .int), .fieldLink RX4 34 "PortWarden$Store" "released" "I", .methodLink RX4 47 yX3_at, .instanceMethod yX3_at, .selects RX3 yX3_at yX3_at, .initialized RX3, .code yX3_at cX3_at 3 (some .int), .fieldLink RX3 15 "PortWarden$Row" "size" "I", .fieldLink RX3 19 "PortWarden$Row" "first" "I", .fieldLink RX3 9 "PortWarden$Row" "cells" "[I", .methodLink RX4 51 yX4_isBlank, .static yX4_isBlank, .code yX4_isBlank cX4_isBlank 1 (some .boolean)] ++ wsX40 ++ wsX30)
def wsX2_reprint_r1 : List Cond := [Cond.fieldLink RX2 53 "PortWarden$Port" "draft" "LPortWarden$Row;", Cond.fieldLink RX2 35 "PortWarden$Port" "store" "LPortWarden$Store;", Cond.methodLink RX2 232 yX2_draftForm, Cond.instanceMethod yX2_draftForm, Cond.selects RX2 yX2_draftForm yX2_draftForm, Cond.initialized RX2, Cond.code yX2_draftForm cX2_draftForm 2 none, Cond.methodLink RX2 134 yX3_empty, Cond.instanceMethod yX3_empty, Cond.selects RX3 yX3_empty yX3_empty, Cond.initialized RX3, Cond.code yX3_empty cX3_empty 1 none, Cond.fieldLink RX3 15 "PortWarden$Row" "size" "I", Cond.methodLink RX2 272 yX2_addForm, Cond.instanceMethod yX2_addForm, Cond.selects RX2 yX2_addForm yX2_addForm, Cond.code yX2_addForm cX2_addForm 2 none, Cond.methodLink RX2 265 yX2_isPlain, Cond.static yX2_isPlain, Cond.code yX2_isPlain cX2_isPlain 1 (some .boolean), Cond.methodLink RX2 82 yX3_add, Cond.instanceMethod yX3_add, Cond.selects RX3 yX3_add yX3_add, Cond.code yX3_add cX3_add 3 none]
def wsX2_reprint_r2 : List Cond := [Cond.fieldLink RX3 9 "PortWarden$Row" "cells" "[I", Cond.fieldLink RX3 19 "PortWarden$Row" "first" "I", Cond.methodLink RX2 268 yX3_at, Cond.instanceMethod yX3_at, Cond.selects RX3 yX3_at yX3_at, Cond.code yX3_at cX3_at 3 (some .int), Cond.methodLink RX2 235 yX2_echo, Cond.instanceMethod yX2_echo, Cond.selects RX2 yX2_echo yX2_echo, Cond.code yX2_echo cX2_echo 1 none, Cond.fieldLink RX2 42 "PortWarden$Port" "output" "LPortWarden$Output;", Cond.fieldLink RX2 60 "PortWarden$Port" "counts" "[I", Cond.methodLink RX2 186 yX2_isOn, Cond.instanceMethod yX2_isOn, Cond.selects RX2 yX2_isOn yX2_isOn, Cond.code yX2_isOn cX2_isOn 2 (some .boolean), Cond.fieldLink RX2 18 "PortWarden$Port" "modes" "[I", Cond.methodLink RX2 275 yX1_accept, Cond.instanceMethod yX1_accept, Cond.selects RX1 yX1_accept yX1_accept, Cond.initialized RX1, Cond.code yX1_accept cX1_accept 4 (some .boolean), Cond.fieldLink RX1 14 "PortWarden$Output" "stored" "LPortWarden$Row;", Cond.fieldLink RX1 45 "PortWarden$Output" "columnNow" "I"]
def wsX2_reprint_r3 : List Cond := [Cond.methodLink RX1 31 yX3_fits, Cond.instanceMethod yX3_fits, Cond.selects RX3 yX3_fits yX3_fits, Cond.code yX3_fits cX3_fits 2 (some .boolean), Cond.methodLink RX1 35 yX3_at, Cond.methodLink RX1 39 yX3_add, Cond.methodLink RX1 42 yX1_columnBehind, Cond.instanceMethod yX1_columnBehind, Cond.selects RX1 yX1_columnBehind yX1_columnBehind, Cond.code yX1_columnBehind cX1_columnBehind 2 (some .int)]
def wsX2_reprint : List Cond := .code yX2_reprint cX2_reprint 3 none :: ((wsX2_reprint_r1 ++ (wsX2_reprint_r2 ++ wsX2_reprint_r3)) ++ wsX20 ++ wsX40 ++ wsX30 ++ wsX10)
def wsX2_endLine_r1 : List Cond := [Cond.fieldLink RX2 35 "PortWarden$Port" "store" "LPortWarden$Store;", Cond.methodLink RX2 256 yX2_keep, Cond.instanceMethod yX2_keep, Cond.selects RX2 yX2_keep yX2_keep, Cond.initialized RX2, Cond.code yX2_keep cX2_keep 3 (some .boolean), Cond.fieldLink RX2 60 "PortWarden$Port" "counts" "[I", Cond.fieldLink RX2 141 "PortWarden$Port" "crowded" "Z", Cond.fieldLink RX2 71 "PortWarden$Port" "urgent" "I", Cond.methodLink RX2 186 yX2_isOn, Cond.instanceMethod yX2_isOn, Cond.selects RX2 yX2_isOn yX2_isOn, Cond.code yX2_isOn cX2_isOn 2 (some .boolean), Cond.fieldLink RX2 18 "PortWarden$Port" "modes" "[I", Cond.methodLink RX2 259 yX4_add, Cond.instanceMethod yX4_add, Cond.selects RX4 yX4_add yX4_add, Cond.initialized RX4, Cond.code yX4_add cX4_add 3 (some .boolean), Cond.fieldLink RX4 14 "PortWarden$Store" "entries" "LPortWarden$Row;", Cond.fieldLink RX4 31 "PortWarden$Store" "idleTicks" "I", Cond.methodLink RX4 24 yX3_fits, Cond.instanceMethod yX3_fits, Cond.selects RX3 yX3_fits yX3_fits]
def wsX2_endLine_r2 : List Cond := [Cond.initialized RX3, Cond.code yX3_fits cX3_fits 2 (some .boolean), Cond.fieldLink RX3 9 "PortWarden$Row" "cells" "[I", Cond.fieldLink RX3 15 "PortWarden$Row" "size" "I", Cond.methodLink RX4 28 yX3_add, Cond.instanceMethod yX3_add, Cond.selects RX3 yX3_add yX3_add, Cond.code yX3_add cX3_add 3 none, Cond.fieldLink RX3 19 "PortWarden$Row" "first" "I", Cond.methodLink RX2 183 yX2_releaseIfEnough, Cond.instanceMethod yX2_releaseIfEnough, Cond.selects RX2 yX2_releaseIfEnough yX2_releaseIfEnough, Cond.code yX2_releaseIfEnough cX2_releaseIfEnough 1 none, Cond.methodLink RX2 189 Lib.Math.max.name, Cond.static Lib.Math.max.name, Cond.initialized "java/lang/Math", Cond.code Lib.Math.max.name Lib.Math.max.code 2 (some .int), Cond.methodLink RX2 180 yX4_releaseAll, Cond.instanceMethod yX4_releaseAll, Cond.selects RX4 yX4_releaseAll yX4_releaseAll, Cond.code yX4_releaseAll cX4_releaseAll 1 none, Cond.fieldLink RX4 34 "PortWarden$Store" "released" "I"]
def wsX2_endLine : List Cond := .code yX2_endLine cX2_endLine 3 (some .boolean) :: ((wsX2_endLine_r1 ++ wsX2_endLine_r2) ++ wsX20 ++ wsX40 ++ wsX30)
def wsX2_edit_r1 : List Cond := [Cond.fieldLink RX2 18 "PortWarden$Port" "modes" "[I", Cond.fieldLink RX2 35 "PortWarden$Port" "store" "LPortWarden$Store;", Cond.methodLink RX2 241 Lib.Math.min.name, Cond.static Lib.Math.min.name, Cond.initialized "java/lang/Math", Cond.code Lib.Math.min.name Lib.Math.min.code 2 (some .int), Cond.fieldLink RX2 211 "PortWarden$Port" "literalNext" "Z", Cond.methodLink RX2 186 yX2_isOn, Cond.instanceMethod yX2_isOn, Cond.selects RX2 yX2_isOn yX2_isOn, Cond.initialized RX2, Cond.code yX2_isOn cX2_isOn 2 (some .boolean), Cond.methodLink RX2 214 yX2_keepAndEcho, Cond.instanceMethod yX2_keepAndEcho, Cond.selects RX2 yX2_keepAndEcho yX2_keepAndEcho, Cond.code yX2_keepAndEcho cX2_keepAndEcho 2 none, Cond.methodLink RX2 256 yX2_keep, Cond.instanceMethod yX2_keep, Cond.selects RX2 yX2_keep yX2_keep, Cond.code yX2_keep cX2_keep 3 (some .boolean), Cond.fieldLink RX2 60 "PortWarden$Port" "counts" "[I", Cond.fieldLink RX2 141 "PortWarden$Port" "crowded" "Z", Cond.fieldLink RX2 71 "PortWarden$Port" "urgent" "I", Cond.methodLink RX2 259 yX4_add]
def wsX2_edit_r2 : List Cond := [Cond.instanceMethod yX4_add, Cond.selects RX4 yX4_add yX4_add, Cond.initialized RX4, Cond.code yX4_add cX4_add 3 (some .boolean), Cond.fieldLink RX4 14 "PortWarden$Store" "entries" "LPortWarden$Row;", Cond.fieldLink RX4 31 "PortWarden$Store" "idleTicks" "I", Cond.methodLink RX4 24 yX3_fits, Cond.instanceMethod yX3_fits, Cond.selects RX3 yX3_fits yX3_fits, Cond.initialized RX3, Cond.code yX3_fits cX3_fits 2 (some .boolean), Cond.fieldLink RX3 9 "PortWarden$Row" "cells" "[I", Cond.fieldLink RX3 15 "PortWarden$Row" "size" "I", Cond.methodLink RX4 28 yX3_add, Cond.instanceMethod yX3_add, Cond.selects RX3 yX3_add yX3_add, Cond.code yX3_add cX3_add 3 none, Cond.fieldLink RX3 19 "PortWarden$Row" "first" "I", Cond.methodLink RX2 183 yX2_releaseIfEnough, Cond.instanceMethod yX2_releaseIfEnough, Cond.selects RX2 yX2_releaseIfEnough yX2_releaseIfEnough, Cond.code yX2_releaseIfEnough cX2_releaseIfEnough 1 none, Cond.methodLink RX2 189 Lib.Math.max.name, Cond.static Lib.Math.max.name]
def wsX2_edit_r3 : List Cond := [Cond.code Lib.Math.max.name Lib.Math.max.code 2 (some .int), Cond.methodLink RX2 180 yX4_releaseAll, Cond.instanceMethod yX4_releaseAll, Cond.selects RX4 yX4_releaseAll yX4_releaseAll, Cond.code yX4_releaseAll cX4_releaseAll 1 none, Cond.fieldLink RX4 34 "PortWarden$Store" "released" "I", Cond.methodLink RX2 232 yX2_draftForm, Cond.instanceMethod yX2_draftForm, Cond.selects RX2 yX2_draftForm yX2_draftForm, Cond.code yX2_draftForm cX2_draftForm 2 none, Cond.fieldLink RX2 53 "PortWarden$Port" "draft" "LPortWarden$Row;", Cond.methodLink RX2 134 yX3_empty, Cond.instanceMethod yX3_empty, Cond.selects RX3 yX3_empty yX3_empty, Cond.code yX3_empty cX3_empty 1 none, Cond.methodLink RX2 272 yX2_addForm, Cond.instanceMethod yX2_addForm, Cond.selects RX2 yX2_addForm yX2_addForm, Cond.code yX2_addForm cX2_addForm 2 none, Cond.methodLink RX2 265 yX2_isPlain, Cond.static yX2_isPlain, Cond.code yX2_isPlain cX2_isPlain 1 (some .boolean), Cond.methodLink RX2 82 yX3_add, Cond.methodLink RX2 235 yX2_echo]
def wsX2_edit_r4 : List Cond := [Cond.instanceMethod yX2_echo, Cond.selects RX2 yX2_echo yX2_echo, Cond.code yX2_echo cX2_echo 1 none, Cond.fieldLink RX2 42 "PortWarden$Port" "output" "LPortWarden$Output;", Cond.methodLink RX2 275 yX1_accept, Cond.instanceMethod yX1_accept, Cond.selects RX1 yX1_accept yX1_accept, Cond.initialized RX1, Cond.code yX1_accept cX1_accept 4 (some .boolean), Cond.fieldLink RX1 14 "PortWarden$Output" "stored" "LPortWarden$Row;", Cond.fieldLink RX1 45 "PortWarden$Output" "columnNow" "I", Cond.methodLink RX1 31 yX3_fits, Cond.methodLink RX1 35 yX3_at, Cond.instanceMethod yX3_at, Cond.selects RX3 yX3_at yX3_at, Cond.code yX3_at cX3_at 3 (some .int), Cond.methodLink RX1 39 yX3_add, Cond.methodLink RX1 42 yX1_columnBehind, Cond.instanceMethod yX1_columnBehind, Cond.selects RX1 yX1_columnBehind yX1_columnBehind, Cond.code yX1_columnBehind cX1_columnBehind 2 (some .int), Cond.methodLink RX2 238 yX4_openLine, Cond.instanceMethod yX4_openLine, Cond.selects RX4 yX4_openLine yX4_openLine]
def wsX2_edit_r5 : List Cond := [Cond.code yX4_openLine cX4_openLine 1 (some .int), Cond.methodLink RX2 244 yX2_takeAway, Cond.instanceMethod yX2_takeAway, Cond.selects RX2 yX2_takeAway yX2_takeAway, Cond.code yX2_takeAway cX2_takeAway 5 none, Cond.methodLink RX2 262 yX3_takeLast, Cond.instanceMethod yX3_takeLast, Cond.selects RX3 yX3_takeLast yX3_takeLast, Cond.code yX3_takeLast cX3_takeLast 2 (some .int), Cond.methodLink RX3 22 yX3_at, Cond.methodLink RX2 125 yX2_relax, Cond.instanceMethod yX2_relax, Cond.selects RX2 yX2_relax yX2_relax, Cond.code yX2_relax cX2_relax 1 none, Cond.methodLink RX2 247 yX4_lastWord, Cond.instanceMethod yX4_lastWord, Cond.selects RX4 yX4_lastWord yX4_lastWord, Cond.code yX4_lastWord cX4_lastWord 3 (some .int), Cond.methodLink RX4 44 yX4_openLine, Cond.methodLink RX4 47 yX3_at, Cond.methodLink RX4 51 yX4_isBlank, Cond.static yX4_isBlank, Cond.code yX4_isBlank cX4_isBlank 1 (some .boolean), Cond.methodLink RX2 250 yX2_reprint]
def wsX2_edit_r6 : List Cond := [Cond.instanceMethod yX2_reprint, Cond.selects RX2 yX2_reprint yX2_reprint, Cond.code yX2_reprint cX2_reprint 3 none, Cond.methodLink RX2 268 yX3_at, Cond.methodLink RX2 253 yX2_endLine, Cond.instanceMethod yX2_endLine, Cond.selects RX2 yX2_endLine yX2_endLine, Cond.code yX2_endLine cX2_endLine 3 (some .boolean), Cond.methodLink RX2 198 yX2_draftNewline, Cond.instanceMethod yX2_draftNewline, Cond.selects RX2 yX2_draftNewline yX2_draftNewline, Cond.code yX2_draftNewline cX2_draftNewline 1 none]
def wsX2_edit : List Cond := .code yX2_edit cX2_edit 2 none :: ((wsX2_edit_r1 ++ (wsX2_edit_r2 ++ (wsX2_edit_r3 ++ (wsX2_edit_r4 ++ (wsX2_edit_r5 ++ wsX2_edit_r6))))) ++ wsX20 ++ wsX40 ++ wsX30 ++ wsX10)
def wsX2_pass_r1 : List Cond := [Cond.fieldLink RX2 28 "PortWarden$Port" "receiver" "LPortWarden$Row;", Cond.fieldLink RX2 211 "PortWarden$Port" "literalNext" "Z", Cond.methodLink RX2 204 yX3_takeFirst, Cond.instanceMethod yX3_takeFirst, Cond.selects RX3 yX3_takeFirst yX3_takeFirst, Cond.initialized RX3, Cond.code yX3_takeFirst cX3_takeFirst 2 (some .int), Cond.fieldLink RX3 15 "PortWarden$Row" "size" "I", Cond.fieldLink RX3 9 "PortWarden$Row" "cells" "[I", Cond.fieldLink RX3 19 "PortWarden$Row" "first" "I", Cond.methodLink RX2 207 yX2_takeFlagged, Cond.instanceMethod yX2_takeFlagged, Cond.selects RX2 yX2_takeFlagged yX2_takeFlagged, Cond.initialized RX2, Cond.code yX2_takeFlagged cX2_takeFlagged 2 none, Cond.fieldLink RX2 18 "PortWarden$Port" "modes" "[I", Cond.fieldLink RX2 60 "PortWarden$Port" "counts" "[I", Cond.methodLink RX2 186 yX2_isOn, Cond.instanceMethod yX2_isOn, Cond.selects RX2 yX2_isOn yX2_isOn, Cond.code yX2_isOn cX2_isOn 2 (some .boolean), Cond.methodLink RX2 226 yX2_signal, Cond.instanceMethod yX2_signal, Cond.selects RX2 yX2_signal yX2_signal]
def wsX2_pass_r2 : List Cond := [Cond.code yX2_signal cX2_signal 3 none, Cond.fieldLink RX2 74 "PortWarden$Port" "crew" "LPortWarden$Crew;", Cond.fieldLink RX2 67 "PortWarden$Port" "foregroundGroup" "I", Cond.fieldLink RX2 42 "PortWarden$Port" "output" "LPortWarden$Output;", Cond.fieldLink RX2 49 "PortWarden$Port" "waiting" "LPortWarden$Waiting;", Cond.methodLink RX2 104 yX0_raise, Cond.instanceMethod yX0_raise, Cond.selects RX0 yX0_raise yX0_raise, Cond.initialized RX0, Cond.code yX0_raise cX0_raise 4 none, Cond.fieldLink RX0 9 "PortWarden$Crew" "groupOf" "[I", Cond.fieldLink RX0 15 "PortWarden$Crew" "raised" "[I", Cond.methodLink RX2 162 yX2_emptyStore, Cond.instanceMethod yX2_emptyStore, Cond.selects RX2 yX2_emptyStore yX2_emptyStore, Cond.code yX2_emptyStore cX2_emptyStore 1 none, Cond.fieldLink RX2 35 "PortWarden$Port" "store" "LPortWarden$Store;", Cond.methodLink RX2 128 yX4_empty, Cond.instanceMethod yX4_empty, Cond.selects RX4 yX4_empty yX4_empty, Cond.initialized RX4, Cond.code yX4_empty cX4_empty 1 none, Cond.fieldLink RX4 14 "PortWarden$Store" "entries" "LPortWarden$Row;", Cond.fieldLink RX4 34 "PortWarden$Store" "released" "I"]
def wsX2_pass_r3 : List Cond := [Cond.methodLink RX4 41 yX3_empty, Cond.instanceMethod yX3_empty, Cond.selects RX3 yX3_empty yX3_empty, Cond.code yX3_empty cX3_empty 1 none, Cond.methodLink RX2 125 yX2_relax, Cond.instanceMethod yX2_relax, Cond.selects RX2 yX2_relax yX2_relax, Cond.code yX2_relax cX2_relax 1 none, Cond.fieldLink RX2 141 "PortWarden$Port" "crowded" "Z", Cond.fieldLink RX2 71 "PortWarden$Port" "urgent" "I", Cond.methodLink RX2 134 yX3_empty, Cond.methodLink RX2 138 yX5_onlyLeft, Cond.instanceMethod yX5_onlyLeft, Cond.selects RX5 yX5_onlyLeft yX5_onlyLeft, Cond.initialized RX5, Cond.code yX5_onlyLeft cX5_onlyLeft 3 none, Cond.fieldLink RX5 25 "PortWarden$Waiting" "size" "I", Cond.fieldLink RX5 22 "PortWarden$Waiting" "behind" "[I", Cond.methodLink RX5 35 Lib.Math.min.name, Cond.static Lib.Math.min.name, Cond.initialized "java/lang/Math", Cond.code Lib.Math.min.name Lib.Math.min.code 2 (some .int), Cond.methodLink RX2 232 yX2_draftForm, Cond.instanceMethod yX2_draftForm]
def wsX2_pass_r4 : List Cond := [Cond.selects RX2 yX2_draftForm yX2_draftForm, Cond.code yX2_draftForm cX2_draftForm 2 none, Cond.fieldLink RX2 53 "PortWarden$Port" "draft" "LPortWarden$Row;", Cond.methodLink RX2 272 yX2_addForm, Cond.instanceMethod yX2_addForm, Cond.selects RX2 yX2_addForm yX2_addForm, Cond.code yX2_addForm cX2_addForm 2 none, Cond.methodLink RX2 265 yX2_isPlain, Cond.static yX2_isPlain, Cond.code yX2_isPlain cX2_isPlain 1 (some .boolean), Cond.methodLink RX2 82 yX3_add, Cond.instanceMethod yX3_add, Cond.selects RX3 yX3_add yX3_add, Cond.code yX3_add cX3_add 3 none, Cond.methodLink RX2 235 yX2_echo, Cond.instanceMethod yX2_echo, Cond.selects RX2 yX2_echo yX2_echo, Cond.code yX2_echo cX2_echo 1 none, Cond.methodLink RX2 275 yX1_accept, Cond.instanceMethod yX1_accept, Cond.selects RX1 yX1_accept yX1_accept, Cond.initialized RX1, Cond.code yX1_accept cX1_accept 4 (some .boolean), Cond.fieldLink RX1 14 "PortWarden$Output" "stored" "LPortWarden$Row;"]
def wsX2_pass_r5 : List Cond := [Cond.fieldLink RX1 45 "PortWarden$Output" "columnNow" "I", Cond.methodLink RX1 31 yX3_fits, Cond.instanceMethod yX3_fits, Cond.selects RX3 yX3_fits yX3_fits, Cond.code yX3_fits cX3_fits 2 (some .boolean), Cond.methodLink RX1 35 yX3_at, Cond.instanceMethod yX3_at, Cond.selects RX3 yX3_at yX3_at, Cond.code yX3_at cX3_at 3 (some .int), Cond.methodLink RX1 39 yX3_add, Cond.methodLink RX1 42 yX1_columnBehind, Cond.instanceMethod yX1_columnBehind, Cond.selects RX1 yX1_columnBehind yX1_columnBehind, Cond.code yX1_columnBehind cX1_columnBehind 2 (some .int), Cond.methodLink RX2 214 yX2_keepAndEcho, Cond.instanceMethod yX2_keepAndEcho, Cond.selects RX2 yX2_keepAndEcho yX2_keepAndEcho, Cond.code yX2_keepAndEcho cX2_keepAndEcho 2 none, Cond.methodLink RX2 256 yX2_keep, Cond.instanceMethod yX2_keep, Cond.selects RX2 yX2_keep yX2_keep, Cond.code yX2_keep cX2_keep 3 (some .boolean), Cond.methodLink RX2 259 yX4_add, Cond.instanceMethod yX4_add]
def wsX2_pass_r6 : List Cond := [Cond.selects RX4 yX4_add yX4_add, Cond.code yX4_add cX4_add 3 (some .boolean), Cond.fieldLink RX4 31 "PortWarden$Store" "idleTicks" "I", Cond.methodLink RX4 24 yX3_fits, Cond.methodLink RX4 28 yX3_add, Cond.methodLink RX2 183 yX2_releaseIfEnough, Cond.instanceMethod yX2_releaseIfEnough, Cond.selects RX2 yX2_releaseIfEnough yX2_releaseIfEnough, Cond.code yX2_releaseIfEnough cX2_releaseIfEnough 1 none, Cond.methodLink RX2 189 Lib.Math.max.name, Cond.static Lib.Math.max.name, Cond.code Lib.Math.max.name Lib.Math.max.code 2 (some .int), Cond.methodLink RX2 180 yX4_releaseAll, Cond.instanceMethod yX4_releaseAll, Cond.selects RX4 yX4_releaseAll yX4_releaseAll, Cond.code yX4_releaseAll cX4_releaseAll 1 none, Cond.methodLink RX2 217 yX2_settledAsFlow, Cond.instanceMethod yX2_settledAsFlow, Cond.selects RX2 yX2_settledAsFlow yX2_settledAsFlow, Cond.code yX2_settledAsFlow cX2_settledAsFlow 2 (some .boolean), Cond.methodLink RX2 220 yX2_settledAsSignal, Cond.instanceMethod yX2_settledAsSignal, Cond.selects RX2 yX2_settledAsSignal yX2_settledAsSignal, Cond.code yX2_settledAsSignal cX2_settledAsSignal 2 (some .boolean)]
def wsX2_pass_r7 : List Cond := [Cond.methodLink RX2 223 yX2_edit, Cond.instanceMethod yX2_edit, Cond.selects RX2 yX2_edit yX2_edit, Cond.code yX2_edit cX2_edit 2 none, Cond.methodLink RX2 241 Lib.Math.min.name, Cond.methodLink RX2 238 yX4_openLine, Cond.instanceMethod yX4_openLine, Cond.selects RX4 yX4_openLine yX4_openLine, Cond.code yX4_openLine cX4_openLine 1 (some .int), Cond.methodLink RX2 244 yX2_takeAway, Cond.instanceMethod yX2_takeAway, Cond.selects RX2 yX2_takeAway yX2_takeAway, Cond.code yX2_takeAway cX2_takeAway 5 none, Cond.methodLink RX2 262 yX3_takeLast, Cond.instanceMethod yX3_takeLast, Cond.selects RX3 yX3_takeLast yX3_takeLast, Cond.code yX3_takeLast cX3_takeLast 2 (some .int), Cond.methodLink RX3 22 yX3_at, Cond.methodLink RX2 247 yX4_lastWord, Cond.instanceMethod yX4_lastWord, Cond.selects RX4 yX4_lastWord yX4_lastWord, Cond.code yX4_lastWord cX4_lastWord 3 (some .int), Cond.methodLink RX4 44 yX4_openLine, Cond.methodLink RX4 47 yX3_at]
def wsX2_pass_r8 : List Cond := [Cond.methodLink RX4 51 yX4_isBlank, Cond.static yX4_isBlank, Cond.code yX4_isBlank cX4_isBlank 1 (some .boolean), Cond.methodLink RX2 250 yX2_reprint, Cond.instanceMethod yX2_reprint, Cond.selects RX2 yX2_reprint yX2_reprint, Cond.code yX2_reprint cX2_reprint 3 none, Cond.methodLink RX2 268 yX3_at, Cond.methodLink RX2 253 yX2_endLine, Cond.instanceMethod yX2_endLine, Cond.selects RX2 yX2_endLine yX2_endLine, Cond.code yX2_endLine cX2_endLine 3 (some .boolean), Cond.methodLink RX2 198 yX2_draftNewline, Cond.instanceMethod yX2_draftNewline, Cond.selects RX2 yX2_draftNewline yX2_draftNewline, Cond.code yX2_draftNewline cX2_draftNewline 1 none]
def wsX2_pass : List Cond := .code yX2_pass cX2_pass 5 none :: ((wsX2_pass_r1 ++ (wsX2_pass_r2 ++ (wsX2_pass_r3 ++ (wsX2_pass_r4 ++ (wsX2_pass_r5 ++ (wsX2_pass_r6 ++ (wsX2_pass_r7 ++ wsX2_pass_r8))))))) ++ wsX20 ++ wsX30 ++ wsX10 ++ wsX00 ++ wsX40 ++ wsX50)
def wsX6_init_r1 : List Cond := [Cond.methodLink RX6 3 objectInit, Cond.instanceMethod objectInit, Cond.code objectInit ⟨#[0xb1]⟩ 1 none, Cond.classLink RX6 9 RX0, Cond.instantiable RX0 2, Cond.initialized RX0, Cond.fieldLink RX6 12 "PortWarden" "crew" "LPortWarden$Crew;", Cond.classLink RX6 16 RX2, Cond.fieldLink RX6 18 "PortWarden" "ports" "[LPortWarden$Port;", Cond.instantiable RX2 15, Cond.initialized RX2, Cond.methodLink RX6 11 yX0_init, Cond.instanceMethod yX0_init, Cond.code yX0_init cX0_init 2 none, Cond.methodLink RX0 3 objectInit, Cond.arrayClass .int, Cond.fieldLink RX0 9 "PortWarden$Crew" "groupOf" "[I", Cond.fieldLink RX0 15 "PortWarden$Crew" "raised" "[I", Cond.methodLink RX6 22 yX2_init, Cond.instanceMethod yX2_init, Cond.code yX2_init cX2_init 2 none, Cond.methodLink RX2 3 objectInit, Cond.methodLink RX2 13 ⟨"[I", "clone", "()Ljava/lang/Object;"⟩, Cond.sameMethod "[I" "java/lang/Object" "clone" "()Ljava/lang/Object;"]
def wsX6_init_r2 : List Cond := [Cond.native ⟨"java/lang/Object", "clone", "()Ljava/lang/Object;"⟩, Cond.instanceMethod ⟨"java/lang/Object", "clone", "()Ljava/lang/Object;"⟩, Cond.selects "[I" ⟨"[I", "clone", "()Ljava/lang/Object;"⟩ ⟨"java/lang/Object", "clone", "()Ljava/lang/Object;"⟩, Cond.classLink RX2 14 "[I", Cond.fieldLink RX2 18 "PortWarden$Port" "modes" "[I", Cond.classLink RX2 23 RX3, Cond.instantiable RX3 3, Cond.initialized RX3, Cond.fieldLink RX2 28 "PortWarden$Port" "receiver" "LPortWarden$Row;", Cond.classLink RX2 32 RX4, Cond.instantiable RX4 3, Cond.initialized RX4, Cond.fieldLink RX2 35 "PortWarden$Port" "store" "LPortWarden$Store;", Cond.classLink RX2 39 RX1, Cond.instantiable RX1 5, Cond.initialized RX1, Cond.fieldLink RX2 42 "PortWarden$Port" "output" "LPortWarden$Output;", Cond.classLink RX2 46 RX5, Cond.instantiable RX5 5, Cond.initialized RX5, Cond.fieldLink RX2 49 "PortWarden$Port" "waiting" "LPortWarden$Waiting;", Cond.fieldLink RX2 53 "PortWarden$Port" "draft" "LPortWarden$Row;", Cond.arrayClass .boolean, Cond.fieldLink RX2 56 "PortWarden$Port" "opened" "[Z"]
def wsX6_init_r3 : List Cond := [Cond.fieldLink RX2 60 "PortWarden$Port" "counts" "[I", Cond.fieldLink RX2 63 "PortWarden$Port" "carrierOn" "Z", Cond.fieldLink RX2 67 "PortWarden$Port" "foregroundGroup" "I", Cond.fieldLink RX2 71 "PortWarden$Port" "urgent" "I", Cond.fieldLink RX2 74 "PortWarden$Port" "crew" "LPortWarden$Crew;", Cond.methodLink RX2 25 yX3_init, Cond.instanceMethod yX3_init, Cond.code yX3_init cX3_init 2 none, Cond.methodLink RX3 3 objectInit, Cond.fieldLink RX3 9 "PortWarden$Row" "cells" "[I", Cond.instanceMethod yX4_init, Cond.code yX4_init cX4_init 1 none, Cond.methodLink RX4 3 objectInit, Cond.classLink RX4 9 RX3, Cond.fieldLink RX4 14 "PortWarden$Store" "entries" "LPortWarden$Row;", Cond.methodLink RX4 11 yX3_init, Cond.instanceMethod yX1_init, Cond.code yX1_init cX1_init 1 none, Cond.methodLink RX1 3 objectInit, Cond.classLink RX1 9 RX3, Cond.fieldLink RX1 14 "PortWarden$Output" "stored" "LPortWarden$Row;", Cond.fieldLink RX1 20 "PortWarden$Output" "sender" "LPortWarden$Row;", Cond.fieldLink RX1 23 "PortWarden$Output" "clearToSend" "Z", Cond.methodLink RX1 11 yX3_init]
def wsX6_init_r4 : List Cond := [Cond.instanceMethod yX5_init, Cond.code yX5_init cX5_init 1 none, Cond.methodLink RX5 3 objectInit, Cond.fieldLink RX5 9 "PortWarden$Waiting" "which" "[I", Cond.fieldLink RX5 15 "PortWarden$Waiting" "value" "[I", Cond.fieldLink RX5 18 "PortWarden$Waiting" "takesStore" "[Z", Cond.fieldLink RX5 22 "PortWarden$Waiting" "behind" "[I"]
def wsX6_init : List Cond := .code yX6_init cX6_init 2 none :: ((wsX6_init_r1 ++ (wsX6_init_r2 ++ (wsX6_init_r3 ++ wsX6_init_r4))) ++ wsX00 ++ wsX60 ++ wsX20 ++ wsX30 ++ wsX40 ++ wsX10 ++ wsX50)
def wsX6_isPort : List Cond := .code yX6_isPort cX6_isPort 1 (some .boolean) :: ([])
def wsX6_isByte : List Cond := .code yX6_isByte cX6_isByte 1 (some .boolean) :: ([])
def wsX6_receive_r1 : List Cond := [Cond.fieldLink RX6 18 "PortWarden" "ports" "[LPortWarden$Port;", Cond.methodLink RX6 25 yX6_isPort, Cond.static yX6_isPort, Cond.initialized RX6, Cond.code yX6_isPort cX6_isPort 1 (some .boolean), Cond.methodLink RX6 29 yX6_isByte, Cond.static yX6_isByte, Cond.code yX6_isByte cX6_isByte 1 (some .boolean), Cond.methodLink RX6 32 yX2_takeFromLine, Cond.instanceMethod yX2_takeFromLine, Cond.selects RX2 yX2_takeFromLine yX2_takeFromLine, Cond.initialized RX2, Cond.code yX2_takeFromLine cX2_takeFromLine 3 (some .boolean), Cond.fieldLink RX2 28 "PortWarden$Port" "receiver" "LPortWarden$Row;", Cond.fieldLink RX2 60 "PortWarden$Port" "counts" "[I", Cond.methodLink RX2 78 yX3_fits, Cond.instanceMethod yX3_fits, Cond.selects RX3 yX3_fits yX3_fits, Cond.initialized RX3, Cond.code yX3_fits cX3_fits 2 (some .boolean), Cond.fieldLink RX3 9 "PortWarden$Row" "cells" "[I", Cond.fieldLink RX3 15 "PortWarden$Row" "size" "I", Cond.methodLink RX2 82 yX3_add, Cond.instanceMethod yX3_add]
def wsX6_receive_r2 : List Cond := [Cond.selects RX3 yX3_add yX3_add, Cond.code yX3_add cX3_add 3 none, Cond.fieldLink RX3 19 "PortWarden$Row" "first" "I"]
def wsX6_receive : List Cond := .code yX6_receive cX6_receive 4 (some .boolean) :: ((wsX6_receive_r1 ++ wsX6_receive_r2) ++ wsX60 ++ wsX20 ++ wsX30)
def wsX6_transmit_r1 : List Cond := [Cond.fieldLink RX6 18 "PortWarden" "ports" "[LPortWarden$Port;", Cond.methodLink RX6 25 yX6_isPort, Cond.static yX6_isPort, Cond.initialized RX6, Cond.code yX6_isPort cX6_isPort 1 (some .boolean), Cond.methodLink RX6 40 yX1_push, Cond.instanceMethod yX1_push, Cond.selects RX1 yX1_push yX1_push, Cond.initialized RX1, Cond.code yX1_push cX1_push 2 none, Cond.fieldLink RX1 20 "PortWarden$Output" "sender" "LPortWarden$Row;", Cond.fieldLink RX1 14 "PortWarden$Output" "stored" "LPortWarden$Row;", Cond.methodLink RX1 31 yX3_fits, Cond.instanceMethod yX3_fits, Cond.selects RX3 yX3_fits yX3_fits, Cond.initialized RX3, Cond.code yX3_fits cX3_fits 2 (some .boolean), Cond.fieldLink RX3 9 "PortWarden$Row" "cells" "[I", Cond.fieldLink RX3 15 "PortWarden$Row" "size" "I", Cond.methodLink RX1 48 yX3_takeFirst, Cond.instanceMethod yX3_takeFirst, Cond.selects RX3 yX3_takeFirst yX3_takeFirst, Cond.code yX3_takeFirst cX3_takeFirst 2 (some .int), Cond.fieldLink RX3 19 "PortWarden$Row" "first" "I"]
def wsX6_transmit_r2 : List Cond := [Cond.methodLink RX1 39 yX3_add, Cond.instanceMethod yX3_add, Cond.selects RX3 yX3_add yX3_add, Cond.code yX3_add cX3_add 3 none, Cond.methodLink RX6 45 yX2_giveToLine, Cond.instanceMethod yX2_giveToLine, Cond.selects RX2 yX2_giveToLine yX2_giveToLine, Cond.initialized RX2, Cond.code yX2_giveToLine cX2_giveToLine 2 (some .int), Cond.fieldLink RX2 71 "PortWarden$Port" "urgent" "I", Cond.fieldLink RX2 42 "PortWarden$Port" "output" "LPortWarden$Output;", Cond.fieldLink RX2 49 "PortWarden$Port" "waiting" "LPortWarden$Waiting;", Cond.fieldLink RX2 60 "PortWarden$Port" "counts" "[I", Cond.methodLink RX2 85 yX2_urgentByte, Cond.instanceMethod yX2_urgentByte, Cond.selects RX2 yX2_urgentByte yX2_urgentByte, Cond.code yX2_urgentByte cX2_urgentByte 1 (some .int), Cond.fieldLink RX2 18 "PortWarden$Port" "modes" "[I", Cond.methodLink RX2 89 yX1_takeFromSender, Cond.instanceMethod yX1_takeFromSender, Cond.selects RX1 yX1_takeFromSender yX1_takeFromSender, Cond.code yX1_takeFromSender cX1_takeFromSender 1 (some .int), Cond.fieldLink RX1 52 "PortWarden$Output" "heldBack" "Z", Cond.fieldLink RX1 23 "PortWarden$Output" "clearToSend" "Z"]
def wsX6_transmit_r3 : List Cond := [Cond.methodLink RX2 92 yX5_byteHasGone, Cond.instanceMethod yX5_byteHasGone, Cond.selects RX5 yX5_byteHasGone yX5_byteHasGone, Cond.initialized RX5, Cond.code yX5_byteHasGone cX5_byteHasGone 2 none, Cond.fieldLink RX5 25 "PortWarden$Waiting" "size" "I", Cond.fieldLink RX5 22 "PortWarden$Waiting" "behind" "[I", Cond.methodLink RX5 29 Lib.Math.max.name, Cond.static Lib.Math.max.name, Cond.initialized "java/lang/Math", Cond.code Lib.Math.max.name Lib.Math.max.code 2 (some .int), Cond.methodLink RX6 49 yX2_settle, Cond.instanceMethod yX2_settle, Cond.selects RX2 yX2_settle yX2_settle, Cond.code yX2_settle cX2_settle 1 none, Cond.methodLink RX2 95 yX1_push, Cond.methodLink RX2 98 yX2_makeDueChanges, Cond.instanceMethod yX2_makeDueChanges, Cond.selects RX2 yX2_makeDueChanges yX2_makeDueChanges, Cond.code yX2_makeDueChanges cX2_makeDueChanges 2 none, Cond.methodLink RX2 155 yX5_isFirstDue, Cond.instanceMethod yX5_isFirstDue, Cond.selects RX5 yX5_isFirstDue yX5_isFirstDue, Cond.code yX5_isFirstDue cX5_isFirstDue 1 (some .boolean)]
def wsX6_transmit_r4 : List Cond := [Cond.methodLink RX2 162 yX2_emptyStore, Cond.instanceMethod yX2_emptyStore, Cond.selects RX2 yX2_emptyStore yX2_emptyStore, Cond.code yX2_emptyStore cX2_emptyStore 1 none, Cond.fieldLink RX2 35 "PortWarden$Port" "store" "LPortWarden$Store;", Cond.methodLink RX2 128 yX4_empty, Cond.instanceMethod yX4_empty, Cond.selects RX4 yX4_empty yX4_empty, Cond.initialized RX4, Cond.code yX4_empty cX4_empty 1 none, Cond.fieldLink RX4 14 "PortWarden$Store" "entries" "LPortWarden$Row;", Cond.fieldLink RX4 34 "PortWarden$Store" "released" "I", Cond.methodLink RX4 41 yX3_empty, Cond.instanceMethod yX3_empty, Cond.selects RX3 yX3_empty yX3_empty, Cond.code yX3_empty cX3_empty 1 none, Cond.methodLink RX2 125 yX2_relax, Cond.instanceMethod yX2_relax, Cond.selects RX2 yX2_relax yX2_relax, Cond.code yX2_relax cX2_relax 1 none, Cond.fieldLink RX2 141 "PortWarden$Port" "crowded" "Z", Cond.methodLink RX2 171 yX2_setMode, Cond.instanceMethod yX2_setMode, Cond.selects RX2 yX2_setMode yX2_setMode]
def wsX6_transmit_r5 : List Cond := [Cond.code yX2_setMode cX2_setMode 3 none, Cond.methodLink RX2 177 yX4_dropEndMarks, Cond.instanceMethod yX4_dropEndMarks, Cond.selects RX4 yX4_dropEndMarks yX4_dropEndMarks, Cond.code yX4_dropEndMarks cX4_dropEndMarks 4 none, Cond.methodLink RX4 37 yX3_takeFirst, Cond.methodLink RX4 28 yX3_add, Cond.methodLink RX2 180 yX4_releaseAll, Cond.instanceMethod yX4_releaseAll, Cond.selects RX4 yX4_releaseAll yX4_releaseAll, Cond.code yX4_releaseAll cX4_releaseAll 1 none, Cond.methodLink RX2 183 yX2_releaseIfEnough, Cond.instanceMethod yX2_releaseIfEnough, Cond.selects RX2 yX2_releaseIfEnough yX2_releaseIfEnough, Cond.code yX2_releaseIfEnough cX2_releaseIfEnough 1 none, Cond.methodLink RX2 189 Lib.Math.max.name, Cond.methodLink RX2 186 yX2_isOn, Cond.instanceMethod yX2_isOn, Cond.selects RX2 yX2_isOn yX2_isOn, Cond.code yX2_isOn cX2_isOn 2 (some .boolean), Cond.methodLink RX2 174 yX5_removeFirst, Cond.instanceMethod yX5_removeFirst, Cond.selects RX5 yX5_removeFirst yX5_removeFirst, Cond.code yX5_removeFirst cX5_removeFirst 2 none]
def wsX6_transmit_r6 : List Cond := [Cond.fieldLink RX5 9 "PortWarden$Waiting" "which" "[I", Cond.fieldLink RX5 15 "PortWarden$Waiting" "value" "[I", Cond.fieldLink RX5 18 "PortWarden$Waiting" "takesStore" "[Z"]
def wsX6_transmit : List Cond := .code yX6_transmit cX6_transmit 4 (some .int) :: ((wsX6_transmit_r1 ++ (wsX6_transmit_r2 ++ (wsX6_transmit_r3 ++ (wsX6_transmit_r4 ++ (wsX6_transmit_r5 ++ wsX6_transmit_r6))))) ++ wsX60 ++ wsX20 ++ wsX10 ++ wsX30 ++ wsX50 ++ wsX40)
def wsX6_held : List Cond := .code yX6_held cX6_held 4 (some .int) :: ([.fieldLink RX6 18 "PortWarden" "ports" "[LPortWarden$Port;", .methodLink RX6 25 yX6_isPort, .static yX6_isPort, .initialized RX6, .code yX6_isPort cX6_isPort 1 (some .boolean), .methodLink RX6 52 yX2_urgentByte, .instanceMethod yX2_urgentByte, .selects RX2 yX2_urgentByte yX2_urgentByte, .initialized RX2, .code yX2_urgentByte cX2_urgentByte 1 (some .int), .fieldLink RX2 71 "PortWarden$Port" "urgent" "I", .fieldLink RX2 18 "PortWarden$Port" "modes" "[I", .methodLink RX6 55 yX1_size, .instanceMethod yX1_size, .selects RX1 yX1_size yX1_size, .initialized RX1, .code yX1_size cX1_size 1 (some .int), .fieldLink RX1 14 "PortWarden$Output" "stored" "LPortWarden$Row;", .fieldLink RX1 20 "PortWarden$Output" "sender" "LPortWarden$Row;"] ++ wsX60 ++ wsX20 ++ wsX10 ++ wsX30)
def wsX6_carrier_r1 : List Cond := [Cond.fieldLink RX6 18 "PortWarden" "ports" "[LPortWarden$Port;", Cond.methodLink RX6 25 yX6_isPort, Cond.static yX6_isPort, Cond.initialized RX6, Cond.code yX6_isPort cX6_isPort 1 (some .boolean), Cond.methodLink RX6 68 yX2_hangUp, Cond.instanceMethod yX2_hangUp, Cond.selects RX2 yX2_hangUp yX2_hangUp, Cond.initialized RX2, Cond.code yX2_hangUp cX2_hangUp 1 none, Cond.fieldLink RX2 101 "PortWarden$Port" "hungUp" "Z", Cond.fieldLink RX2 74 "PortWarden$Port" "crew" "LPortWarden$Crew;", Cond.fieldLink RX2 67 "PortWarden$Port" "foregroundGroup" "I", Cond.methodLink RX2 104 yX0_raise, Cond.instanceMethod yX0_raise, Cond.selects RX0 yX0_raise yX0_raise, Cond.initialized RX0, Cond.code yX0_raise cX0_raise 4 none, Cond.fieldLink RX0 9 "PortWarden$Crew" "groupOf" "[I", Cond.fieldLink RX0 15 "PortWarden$Crew" "raised" "[I", Cond.methodLink RX2 110 yX2_emptyOutput, Cond.instanceMethod yX2_emptyOutput, Cond.selects RX2 yX2_emptyOutput yX2_emptyOutput, Cond.code yX2_emptyOutput cX2_emptyOutput 1 none]
def wsX6_carrier_r2 : List Cond := [Cond.fieldLink RX2 42 "PortWarden$Port" "output" "LPortWarden$Output;", Cond.fieldLink RX2 49 "PortWarden$Port" "waiting" "LPortWarden$Waiting;", Cond.methodLink RX2 134 yX3_empty, Cond.instanceMethod yX3_empty, Cond.selects RX3 yX3_empty yX3_empty, Cond.initialized RX3, Cond.code yX3_empty cX3_empty 1 none, Cond.fieldLink RX3 15 "PortWarden$Row" "size" "I", Cond.methodLink RX2 138 yX5_onlyLeft, Cond.instanceMethod yX5_onlyLeft, Cond.selects RX5 yX5_onlyLeft yX5_onlyLeft, Cond.initialized RX5, Cond.code yX5_onlyLeft cX5_onlyLeft 3 none, Cond.fieldLink RX5 25 "PortWarden$Waiting" "size" "I", Cond.fieldLink RX5 22 "PortWarden$Waiting" "behind" "[I", Cond.methodLink RX5 35 Lib.Math.min.name, Cond.static Lib.Math.min.name, Cond.initialized "java/lang/Math", Cond.code Lib.Math.min.name Lib.Math.min.code 2 (some .int), Cond.methodLink RX2 98 yX2_makeDueChanges, Cond.instanceMethod yX2_makeDueChanges, Cond.selects RX2 yX2_makeDueChanges yX2_makeDueChanges, Cond.code yX2_makeDueChanges cX2_makeDueChanges 2 none, Cond.methodLink RX2 155 yX5_isFirstDue]
def wsX6_carrier_r3 : List Cond := [Cond.instanceMethod yX5_isFirstDue, Cond.selects RX5 yX5_isFirstDue yX5_isFirstDue, Cond.code yX5_isFirstDue cX5_isFirstDue 1 (some .boolean), Cond.methodLink RX2 162 yX2_emptyStore, Cond.instanceMethod yX2_emptyStore, Cond.selects RX2 yX2_emptyStore yX2_emptyStore, Cond.code yX2_emptyStore cX2_emptyStore 1 none, Cond.fieldLink RX2 35 "PortWarden$Port" "store" "LPortWarden$Store;", Cond.methodLink RX2 128 yX4_empty, Cond.instanceMethod yX4_empty, Cond.selects RX4 yX4_empty yX4_empty, Cond.initialized RX4, Cond.code yX4_empty cX4_empty 1 none, Cond.fieldLink RX4 14 "PortWarden$Store" "entries" "LPortWarden$Row;", Cond.fieldLink RX4 34 "PortWarden$Store" "released" "I", Cond.methodLink RX4 41 yX3_empty, Cond.methodLink RX2 125 yX2_relax, Cond.instanceMethod yX2_relax, Cond.selects RX2 yX2_relax yX2_relax, Cond.code yX2_relax cX2_relax 1 none, Cond.fieldLink RX2 141 "PortWarden$Port" "crowded" "Z", Cond.fieldLink RX2 71 "PortWarden$Port" "urgent" "I", Cond.methodLink RX2 171 yX2_setMode, Cond.instanceMethod yX2_setMode]
def wsX6_carrier_r4 : List Cond := [Cond.selects RX2 yX2_setMode yX2_setMode, Cond.code yX2_setMode cX2_setMode 3 none, Cond.fieldLink RX2 18 "PortWarden$Port" "modes" "[I", Cond.methodLink RX2 177 yX4_dropEndMarks, Cond.instanceMethod yX4_dropEndMarks, Cond.selects RX4 yX4_dropEndMarks yX4_dropEndMarks, Cond.code yX4_dropEndMarks cX4_dropEndMarks 4 none, Cond.methodLink RX4 37 yX3_takeFirst, Cond.instanceMethod yX3_takeFirst, Cond.selects RX3 yX3_takeFirst yX3_takeFirst, Cond.code yX3_takeFirst cX3_takeFirst 2 (some .int), Cond.fieldLink RX3 9 "PortWarden$Row" "cells" "[I", Cond.fieldLink RX3 19 "PortWarden$Row" "first" "I", Cond.methodLink RX4 28 yX3_add, Cond.instanceMethod yX3_add, Cond.selects RX3 yX3_add yX3_add, Cond.code yX3_add cX3_add 3 none, Cond.methodLink RX2 180 yX4_releaseAll, Cond.instanceMethod yX4_releaseAll, Cond.selects RX4 yX4_releaseAll yX4_releaseAll, Cond.code yX4_releaseAll cX4_releaseAll 1 none, Cond.methodLink RX2 183 yX2_releaseIfEnough, Cond.instanceMethod yX2_releaseIfEnough, Cond.selects RX2 yX2_releaseIfEnough yX2_releaseIfEnough]
def wsX6_carrier_r5 : List Cond := [Cond.code yX2_releaseIfEnough cX2_releaseIfEnough 1 none, Cond.methodLink RX2 189 Lib.Math.max.name, Cond.static Lib.Math.max.name, Cond.code Lib.Math.max.name Lib.Math.max.code 2 (some .int), Cond.methodLink RX2 186 yX2_isOn, Cond.instanceMethod yX2_isOn, Cond.selects RX2 yX2_isOn yX2_isOn, Cond.code yX2_isOn cX2_isOn 2 (some .boolean), Cond.methodLink RX2 174 yX5_removeFirst, Cond.instanceMethod yX5_removeFirst, Cond.selects RX5 yX5_removeFirst yX5_removeFirst, Cond.code yX5_removeFirst cX5_removeFirst 2 none, Cond.fieldLink RX5 9 "PortWarden$Waiting" "which" "[I", Cond.fieldLink RX5 15 "PortWarden$Waiting" "value" "[I", Cond.fieldLink RX5 18 "PortWarden$Waiting" "takesStore" "[Z", Cond.methodLink RX5 29 Lib.Math.max.name]
def wsX6_carrier : List Cond := .code yX6_carrier cX6_carrier 5 (some .boolean) :: ((wsX6_carrier_r1 ++ (wsX6_carrier_r2 ++ (wsX6_carrier_r3 ++ (wsX6_carrier_r4 ++ wsX6_carrier_r5)))) ++ wsX60 ++ wsX20 ++ wsX00 ++ wsX10 ++ wsX30 ++ wsX50 ++ wsX40)
def wsX6_clear : List Cond := .code yX6_clear cX6_clear 3 (some .boolean) :: ([.fieldLink RX6 18 "PortWarden" "ports" "[LPortWarden$Port;", .methodLink RX6 25 yX6_isPort, .static yX6_isPort, .initialized RX6, .code yX6_isPort cX6_isPort 1 (some .boolean)] ++ wsX60 ++ wsX20 ++ wsX10)
def wsX6_isProcess : List Cond := .code yX6_isProcess cX6_isProcess 1 (some .boolean) :: ([])
def wsX6_open : List Cond := .code yX6_open cX6_open 3 (some .boolean) :: ([.fieldLink RX6 18 "PortWarden" "ports" "[LPortWarden$Port;", .methodLink RX6 71 yX6_isProcess, .static yX6_isProcess, .initialized RX6, .code yX6_isProcess cX6_isProcess 1 (some .boolean), .methodLink RX6 25 yX6_isPort, .static yX6_isPort, .code yX6_isPort cX6_isPort 1 (some .boolean), .methodLink RX6 74 yX2_openFor, .instanceMethod yX2_openFor, .selects RX2 yX2_openFor yX2_openFor, .initialized RX2, .code yX2_openFor cX2_openFor 3 (some .boolean), .fieldLink RX2 63 "PortWarden$Port" "carrierOn" "Z", .fieldLink RX2 56 "PortWarden$Port" "opened" "[Z", .fieldLink RX2 101 "PortWarden$Port" "hungUp" "Z"] ++ wsX60 ++ wsX20)
def wsX6_close : List Cond := .code yX6_close cX6_close 4 (some .boolean) :: ([.fieldLink RX6 18 "PortWarden" "ports" "[LPortWarden$Port;", .methodLink RX6 71 yX6_isProcess, .static yX6_isProcess, .initialized RX6, .code yX6_isProcess cX6_isProcess 1 (some .boolean), .methodLink RX6 25 yX6_isPort, .static yX6_isPort, .code yX6_isPort cX6_isPort 1 (some .boolean)] ++ wsX60 ++ wsX20)
def wsX6_isGroup : List Cond := .code yX6_isGroup cX6_isGroup 1 (some .boolean) :: ([])
def wsX6_join : List Cond := .code yX6_join cX6_join 3 (some .boolean) :: ([.fieldLink RX6 12 "PortWarden" "crew" "LPortWarden$Crew;", .methodLink RX6 71 yX6_isProcess, .static yX6_isProcess, .initialized RX6, .code yX6_isProcess cX6_isProcess 1 (some .boolean), .methodLink RX6 81 yX6_isGroup, .static yX6_isGroup, .code yX6_isGroup cX6_isGroup 1 (some .boolean)] ++ wsX60 ++ wsX00)
def wsX6_foreground : List Cond := .code yX6_foreground cX6_foreground 3 (some .boolean) :: ([.fieldLink RX6 18 "PortWarden" "ports" "[LPortWarden$Port;", .methodLink RX6 25 yX6_isPort, .static yX6_isPort, .initialized RX6, .code yX6_isPort cX6_isPort 1 (some .boolean), .methodLink RX6 81 yX6_isGroup, .static yX6_isGroup, .code yX6_isGroup cX6_isGroup 1 (some .boolean)] ++ wsX60 ++ wsX20)
def wsX6_write_r1 : List Cond := [Cond.fieldLink RX6 18 "PortWarden" "ports" "[LPortWarden$Port;", Cond.fieldLink RX6 12 "PortWarden" "crew" "LPortWarden$Crew;", Cond.methodLink RX6 71 yX6_isProcess, Cond.static yX6_isProcess, Cond.initialized RX6, Cond.code yX6_isProcess cX6_isProcess 1 (some .boolean), Cond.methodLink RX6 25 yX6_isPort, Cond.static yX6_isPort, Cond.code yX6_isPort cX6_isPort 1 (some .boolean), Cond.methodLink RX6 29 yX6_isByte, Cond.static yX6_isByte, Cond.code yX6_isByte cX6_isByte 1 (some .boolean), Cond.methodLink RX6 95 yX2_isOn, Cond.instanceMethod yX2_isOn, Cond.selects RX2 yX2_isOn yX2_isOn, Cond.initialized RX2, Cond.code yX2_isOn cX2_isOn 2 (some .boolean), Cond.fieldLink RX2 18 "PortWarden$Port" "modes" "[I", Cond.methodLink RX6 98 yX2_isBackground, Cond.instanceMethod yX2_isBackground, Cond.selects RX2 yX2_isBackground yX2_isBackground, Cond.code yX2_isBackground cX2_isBackground 2 (some .boolean), Cond.fieldLink RX2 67 "PortWarden$Port" "foregroundGroup" "I", Cond.fieldLink RX2 74 "PortWarden$Port" "crew" "LPortWarden$Crew;"]
def wsX6_write_r2 : List Cond := [Cond.methodLink RX6 101 yX0_raise, Cond.instanceMethod yX0_raise, Cond.selects RX0 yX0_raise yX0_raise, Cond.initialized RX0, Cond.code yX0_raise cX0_raise 4 none, Cond.fieldLink RX0 9 "PortWarden$Crew" "groupOf" "[I", Cond.fieldLink RX0 15 "PortWarden$Crew" "raised" "[I", Cond.methodLink RX6 105 yX2_expand, Cond.instanceMethod yX2_expand, Cond.selects RX2 yX2_expand yX2_expand, Cond.code yX2_expand cX2_expand 5 none, Cond.fieldLink RX2 42 "PortWarden$Port" "output" "LPortWarden$Output;", Cond.fieldLink RX2 53 "PortWarden$Port" "draft" "LPortWarden$Row;", Cond.methodLink RX2 186 yX2_isOn, Cond.methodLink RX2 198 yX2_draftNewline, Cond.instanceMethod yX2_draftNewline, Cond.selects RX2 yX2_draftNewline yX2_draftNewline, Cond.code yX2_draftNewline cX2_draftNewline 1 none, Cond.methodLink RX2 134 yX3_empty, Cond.instanceMethod yX3_empty, Cond.selects RX3 yX3_empty yX3_empty, Cond.initialized RX3, Cond.code yX3_empty cX3_empty 1 none, Cond.fieldLink RX3 15 "PortWarden$Row" "size" "I"]
def wsX6_write_r3 : List Cond := [Cond.methodLink RX2 82 yX3_add, Cond.instanceMethod yX3_add, Cond.selects RX3 yX3_add yX3_add, Cond.code yX3_add cX3_add 3 none, Cond.fieldLink RX3 9 "PortWarden$Row" "cells" "[I", Cond.fieldLink RX3 19 "PortWarden$Row" "first" "I", Cond.methodLink RX2 201 yX1_blanksOfTab, Cond.instanceMethod yX1_blanksOfTab, Cond.selects RX1 yX1_blanksOfTab yX1_blanksOfTab, Cond.initialized RX1, Cond.code yX1_blanksOfTab cX1_blanksOfTab 1 (some .int), Cond.fieldLink RX1 45 "PortWarden$Output" "columnNow" "I", Cond.methodLink RX6 113 yX1_accept, Cond.instanceMethod yX1_accept, Cond.selects RX1 yX1_accept yX1_accept, Cond.code yX1_accept cX1_accept 4 (some .boolean), Cond.fieldLink RX1 14 "PortWarden$Output" "stored" "LPortWarden$Row;", Cond.methodLink RX1 31 yX3_fits, Cond.instanceMethod yX3_fits, Cond.selects RX3 yX3_fits yX3_fits, Cond.code yX3_fits cX3_fits 2 (some .boolean), Cond.methodLink RX1 35 yX3_at, Cond.instanceMethod yX3_at, Cond.selects RX3 yX3_at yX3_at]
def wsX6_write_r4 : List Cond := [Cond.code yX3_at cX3_at 3 (some .int), Cond.methodLink RX1 39 yX3_add, Cond.methodLink RX1 42 yX1_columnBehind, Cond.instanceMethod yX1_columnBehind, Cond.selects RX1 yX1_columnBehind yX1_columnBehind, Cond.code yX1_columnBehind cX1_columnBehind 2 (some .int), Cond.methodLink RX6 40 yX1_push, Cond.instanceMethod yX1_push, Cond.selects RX1 yX1_push yX1_push, Cond.code yX1_push cX1_push 2 none, Cond.fieldLink RX1 20 "PortWarden$Output" "sender" "LPortWarden$Row;", Cond.methodLink RX1 48 yX3_takeFirst, Cond.instanceMethod yX3_takeFirst, Cond.selects RX3 yX3_takeFirst yX3_takeFirst, Cond.code yX3_takeFirst cX3_takeFirst 2 (some .int)]
def wsX6_write : List Cond := .code yX6_write cX6_write 5 (some .int) :: ((wsX6_write_r1 ++ (wsX6_write_r2 ++ (wsX6_write_r3 ++ wsX6_write_r4))) ++ wsX60 ++ wsX20 ++ wsX00 ++ wsX30 ++ wsX10)
def wsX6_read_r1 : List Cond := [Cond.fieldLink RX6 18 "PortWarden" "ports" "[LPortWarden$Port;", Cond.fieldLink RX6 12 "PortWarden" "crew" "LPortWarden$Crew;", Cond.methodLink RX6 71 yX6_isProcess, Cond.static yX6_isProcess, Cond.initialized RX6, Cond.code yX6_isProcess cX6_isProcess 1 (some .boolean), Cond.methodLink RX6 25 yX6_isPort, Cond.static yX6_isPort, Cond.code yX6_isPort cX6_isPort 1 (some .boolean), Cond.methodLink RX6 117 yX2_pass, Cond.instanceMethod yX2_pass, Cond.selects RX2 yX2_pass yX2_pass, Cond.initialized RX2, Cond.code yX2_pass cX2_pass 5 none, Cond.fieldLink RX2 28 "PortWarden$Port" "receiver" "LPortWarden$Row;", Cond.fieldLink RX2 211 "PortWarden$Port" "literalNext" "Z", Cond.methodLink RX2 204 yX3_takeFirst, Cond.instanceMethod yX3_takeFirst, Cond.selects RX3 yX3_takeFirst yX3_takeFirst, Cond.initialized RX3, Cond.code yX3_takeFirst cX3_takeFirst 2 (some .int), Cond.fieldLink RX3 15 "PortWarden$Row" "size" "I", Cond.fieldLink RX3 9 "PortWarden$Row" "cells" "[I", Cond.fieldLink RX3 19 "PortWarden$Row" "first" "I"]
def wsX6_read_r2 : List Cond := [Cond.methodLink RX2 207 yX2_takeFlagged, Cond.instanceMethod yX2_takeFlagged, Cond.selects RX2 yX2_takeFlagged yX2_takeFlagged, Cond.code yX2_takeFlagged cX2_takeFlagged 2 none, Cond.fieldLink RX2 18 "PortWarden$Port" "modes" "[I", Cond.fieldLink RX2 60 "PortWarden$Port" "counts" "[I", Cond.methodLink RX2 186 yX2_isOn, Cond.instanceMethod yX2_isOn, Cond.selects RX2 yX2_isOn yX2_isOn, Cond.code yX2_isOn cX2_isOn 2 (some .boolean), Cond.methodLink RX2 226 yX2_signal, Cond.instanceMethod yX2_signal, Cond.selects RX2 yX2_signal yX2_signal, Cond.code yX2_signal cX2_signal 3 none, Cond.fieldLink RX2 74 "PortWarden$Port" "crew" "LPortWarden$Crew;", Cond.fieldLink RX2 67 "PortWarden$Port" "foregroundGroup" "I", Cond.fieldLink RX2 42 "PortWarden$Port" "output" "LPortWarden$Output;", Cond.fieldLink RX2 49 "PortWarden$Port" "waiting" "LPortWarden$Waiting;", Cond.methodLink RX2 104 yX0_raise, Cond.instanceMethod yX0_raise, Cond.selects RX0 yX0_raise yX0_raise, Cond.initialized RX0, Cond.code yX0_raise cX0_raise 4 none, Cond.fieldLink RX0 9 "PortWarden$Crew" "groupOf" "[I"]
def wsX6_read_r3 : List Cond := [Cond.fieldLink RX0 15 "PortWarden$Crew" "raised" "[I", Cond.methodLink RX2 162 yX2_emptyStore, Cond.instanceMethod yX2_emptyStore, Cond.selects RX2 yX2_emptyStore yX2_emptyStore, Cond.code yX2_emptyStore cX2_emptyStore 1 none, Cond.fieldLink RX2 35 "PortWarden$Port" "store" "LPortWarden$Store;", Cond.methodLink RX2 128 yX4_empty, Cond.instanceMethod yX4_empty, Cond.selects RX4 yX4_empty yX4_empty, Cond.initialized RX4, Cond.code yX4_empty cX4_empty 1 none, Cond.fieldLink RX4 14 "PortWarden$Store" "entries" "LPortWarden$Row;", Cond.fieldLink RX4 34 "PortWarden$Store" "released" "I", Cond.methodLink RX4 41 yX3_empty, Cond.instanceMethod yX3_empty, Cond.selects RX3 yX3_empty yX3_empty, Cond.code yX3_empty cX3_empty 1 none, Cond.methodLink RX2 125 yX2_relax, Cond.instanceMethod yX2_relax, Cond.selects RX2 yX2_relax yX2_relax, Cond.code yX2_relax cX2_relax 1 none, Cond.fieldLink RX2 141 "PortWarden$Port" "crowded" "Z", Cond.fieldLink RX2 71 "PortWarden$Port" "urgent" "I", Cond.methodLink RX2 134 yX3_empty]
def wsX6_read_r4 : List Cond := [Cond.methodLink RX2 138 yX5_onlyLeft, Cond.instanceMethod yX5_onlyLeft, Cond.selects RX5 yX5_onlyLeft yX5_onlyLeft, Cond.initialized RX5, Cond.code yX5_onlyLeft cX5_onlyLeft 3 none, Cond.fieldLink RX5 25 "PortWarden$Waiting" "size" "I", Cond.fieldLink RX5 22 "PortWarden$Waiting" "behind" "[I", Cond.methodLink RX5 35 Lib.Math.min.name, Cond.static Lib.Math.min.name, Cond.initialized "java/lang/Math", Cond.code Lib.Math.min.name Lib.Math.min.code 2 (some .int), Cond.methodLink RX2 232 yX2_draftForm, Cond.instanceMethod yX2_draftForm, Cond.selects RX2 yX2_draftForm yX2_draftForm, Cond.code yX2_draftForm cX2_draftForm 2 none, Cond.fieldLink RX2 53 "PortWarden$Port" "draft" "LPortWarden$Row;", Cond.methodLink RX2 272 yX2_addForm, Cond.instanceMethod yX2_addForm, Cond.selects RX2 yX2_addForm yX2_addForm, Cond.code yX2_addForm cX2_addForm 2 none, Cond.methodLink RX2 265 yX2_isPlain, Cond.static yX2_isPlain, Cond.code yX2_isPlain cX2_isPlain 1 (some .boolean), Cond.methodLink RX2 82 yX3_add]
def wsX6_read_r5 : List Cond := [Cond.instanceMethod yX3_add, Cond.selects RX3 yX3_add yX3_add, Cond.code yX3_add cX3_add 3 none, Cond.methodLink RX2 235 yX2_echo, Cond.instanceMethod yX2_echo, Cond.selects RX2 yX2_echo yX2_echo, Cond.code yX2_echo cX2_echo 1 none, Cond.methodLink RX2 275 yX1_accept, Cond.instanceMethod yX1_accept, Cond.selects RX1 yX1_accept yX1_accept, Cond.initialized RX1, Cond.code yX1_accept cX1_accept 4 (some .boolean), Cond.fieldLink RX1 14 "PortWarden$Output" "stored" "LPortWarden$Row;", Cond.fieldLink RX1 45 "PortWarden$Output" "columnNow" "I", Cond.methodLink RX1 31 yX3_fits, Cond.instanceMethod yX3_fits, Cond.selects RX3 yX3_fits yX3_fits, Cond.code yX3_fits cX3_fits 2 (some .boolean), Cond.methodLink RX1 35 yX3_at, Cond.instanceMethod yX3_at, Cond.selects RX3 yX3_at yX3_at, Cond.code yX3_at cX3_at 3 (some .int), Cond.methodLink RX1 39 yX3_add, Cond.methodLink RX1 42 yX1_columnBehind]
def wsX6_read_r6 : List Cond := [Cond.instanceMethod yX1_columnBehind, Cond.selects RX1 yX1_columnBehind yX1_columnBehind, Cond.code yX1_columnBehind cX1_columnBehind 2 (some .int), Cond.methodLink RX2 214 yX2_keepAndEcho, Cond.instanceMethod yX2_keepAndEcho, Cond.selects RX2 yX2_keepAndEcho yX2_keepAndEcho, Cond.code yX2_keepAndEcho cX2_keepAndEcho 2 none, Cond.methodLink RX2 256 yX2_keep, Cond.instanceMethod yX2_keep, Cond.selects RX2 yX2_keep yX2_keep, Cond.code yX2_keep cX2_keep 3 (some .boolean), Cond.methodLink RX2 259 yX4_add, Cond.instanceMethod yX4_add, Cond.selects RX4 yX4_add yX4_add, Cond.code yX4_add cX4_add 3 (some .boolean), Cond.fieldLink RX4 31 "PortWarden$Store" "idleTicks" "I", Cond.methodLink RX4 24 yX3_fits, Cond.methodLink RX4 28 yX3_add, Cond.methodLink RX2 183 yX2_releaseIfEnough, Cond.instanceMethod yX2_releaseIfEnough, Cond.selects RX2 yX2_releaseIfEnough yX2_releaseIfEnough, Cond.code yX2_releaseIfEnough cX2_releaseIfEnough 1 none, Cond.methodLink RX2 189 Lib.Math.max.name, Cond.static Lib.Math.max.name]
def wsX6_read_r7 : List Cond := [Cond.code Lib.Math.max.name Lib.Math.max.code 2 (some .int), Cond.methodLink RX2 180 yX4_releaseAll, Cond.instanceMethod yX4_releaseAll, Cond.selects RX4 yX4_releaseAll yX4_releaseAll, Cond.code yX4_releaseAll cX4_releaseAll 1 none, Cond.methodLink RX2 217 yX2_settledAsFlow, Cond.instanceMethod yX2_settledAsFlow, Cond.selects RX2 yX2_settledAsFlow yX2_settledAsFlow, Cond.code yX2_settledAsFlow cX2_settledAsFlow 2 (some .boolean), Cond.methodLink RX2 220 yX2_settledAsSignal, Cond.instanceMethod yX2_settledAsSignal, Cond.selects RX2 yX2_settledAsSignal yX2_settledAsSignal, Cond.code yX2_settledAsSignal cX2_settledAsSignal 2 (some .boolean), Cond.methodLink RX2 223 yX2_edit, Cond.instanceMethod yX2_edit, Cond.selects RX2 yX2_edit yX2_edit, Cond.code yX2_edit cX2_edit 2 none, Cond.methodLink RX2 241 Lib.Math.min.name, Cond.methodLink RX2 238 yX4_openLine, Cond.instanceMethod yX4_openLine, Cond.selects RX4 yX4_openLine yX4_openLine, Cond.code yX4_openLine cX4_openLine 1 (some .int), Cond.methodLink RX2 244 yX2_takeAway, Cond.instanceMethod yX2_takeAway]
def wsX6_read_r8 : List Cond := [Cond.selects RX2 yX2_takeAway yX2_takeAway, Cond.code yX2_takeAway cX2_takeAway 5 none, Cond.methodLink RX2 262 yX3_takeLast, Cond.instanceMethod yX3_takeLast, Cond.selects RX3 yX3_takeLast yX3_takeLast, Cond.code yX3_takeLast cX3_takeLast 2 (some .int), Cond.methodLink RX3 22 yX3_at, Cond.methodLink RX2 247 yX4_lastWord, Cond.instanceMethod yX4_lastWord, Cond.selects RX4 yX4_lastWord yX4_lastWord, Cond.code yX4_lastWord cX4_lastWord 3 (some .int), Cond.methodLink RX4 44 yX4_openLine, Cond.methodLink RX4 47 yX3_at, Cond.methodLink RX4 51 yX4_isBlank, Cond.static yX4_isBlank, Cond.code yX4_isBlank cX4_isBlank 1 (some .boolean), Cond.methodLink RX2 250 yX2_reprint, Cond.instanceMethod yX2_reprint, Cond.selects RX2 yX2_reprint yX2_reprint, Cond.code yX2_reprint cX2_reprint 3 none, Cond.methodLink RX2 268 yX3_at, Cond.methodLink RX2 253 yX2_endLine, Cond.instanceMethod yX2_endLine, Cond.selects RX2 yX2_endLine yX2_endLine]
def wsX6_read_r9 : List Cond := [Cond.code yX2_endLine cX2_endLine 3 (some .boolean), Cond.methodLink RX2 198 yX2_draftNewline, Cond.instanceMethod yX2_draftNewline, Cond.selects RX2 yX2_draftNewline yX2_draftNewline, Cond.code yX2_draftNewline cX2_draftNewline 1 none, Cond.methodLink RX6 98 yX2_isBackground, Cond.instanceMethod yX2_isBackground, Cond.selects RX2 yX2_isBackground yX2_isBackground, Cond.code yX2_isBackground cX2_isBackground 2 (some .boolean), Cond.methodLink RX6 101 yX0_raise, Cond.methodLink RX6 129 yX2_takeEntry, Cond.instanceMethod yX2_takeEntry, Cond.selects RX2 yX2_takeEntry yX2_takeEntry, Cond.code yX2_takeEntry cX2_takeEntry 2 (some .int), Cond.methodLink RX2 122 yX4_takeReleased, Cond.instanceMethod yX4_takeReleased, Cond.selects RX4 yX4_takeReleased yX4_takeReleased, Cond.code yX4_takeReleased cX4_takeReleased 1 (some .int), Cond.methodLink RX4 37 yX3_takeFirst]
def wsX6_read : List Cond := .code yX6_read cX6_read 4 (some .int) :: ((wsX6_read_r1 ++ (wsX6_read_r2 ++ (wsX6_read_r3 ++ (wsX6_read_r4 ++ (wsX6_read_r5 ++ (wsX6_read_r6 ++ (wsX6_read_r7 ++ (wsX6_read_r8 ++ wsX6_read_r9)))))))) ++ wsX60 ++ wsX20 ++ wsX00 ++ wsX40 ++ wsX30 ++ wsX10 ++ wsX50)
def wsX6_isMode : List Cond := .code yX6_isMode cX6_isMode 1 (some .boolean) :: ([])
def wsX6_mostOf : List Cond := .code yX6_mostOf cX6_mostOf 1 (some .int) :: ([])
def wsX6_mode_r1 : List Cond := [Cond.fieldLink RX6 18 "PortWarden" "ports" "[LPortWarden$Port;", Cond.methodLink RX6 25 yX6_isPort, Cond.static yX6_isPort, Cond.initialized RX6, Cond.code yX6_isPort cX6_isPort 1 (some .boolean), Cond.methodLink RX6 132 yX6_isMode, Cond.static yX6_isMode, Cond.code yX6_isMode cX6_isMode 1 (some .boolean), Cond.methodLink RX6 135 yX6_mostOf, Cond.static yX6_mostOf, Cond.code yX6_mostOf cX6_mostOf 1 (some .int), Cond.methodLink RX6 139 yX2_setMode, Cond.instanceMethod yX2_setMode, Cond.selects RX2 yX2_setMode yX2_setMode, Cond.initialized RX2, Cond.code yX2_setMode cX2_setMode 3 none, Cond.fieldLink RX2 18 "PortWarden$Port" "modes" "[I", Cond.fieldLink RX2 35 "PortWarden$Port" "store" "LPortWarden$Store;", Cond.methodLink RX2 177 yX4_dropEndMarks, Cond.instanceMethod yX4_dropEndMarks, Cond.selects RX4 yX4_dropEndMarks yX4_dropEndMarks, Cond.initialized RX4, Cond.code yX4_dropEndMarks cX4_dropEndMarks 4 none, Cond.fieldLink RX4 14 "PortWarden$Store" "entries" "LPortWarden$Row;"]
def wsX6_mode_r2 : List Cond := [Cond.methodLink RX4 37 yX3_takeFirst, Cond.instanceMethod yX3_takeFirst, Cond.selects RX3 yX3_takeFirst yX3_takeFirst, Cond.initialized RX3, Cond.code yX3_takeFirst cX3_takeFirst 2 (some .int), Cond.fieldLink RX3 15 "PortWarden$Row" "size" "I", Cond.fieldLink RX3 9 "PortWarden$Row" "cells" "[I", Cond.fieldLink RX3 19 "PortWarden$Row" "first" "I", Cond.methodLink RX4 28 yX3_add, Cond.instanceMethod yX3_add, Cond.selects RX3 yX3_add yX3_add, Cond.code yX3_add cX3_add 3 none, Cond.methodLink RX2 180 yX4_releaseAll, Cond.instanceMethod yX4_releaseAll, Cond.selects RX4 yX4_releaseAll yX4_releaseAll, Cond.code yX4_releaseAll cX4_releaseAll 1 none, Cond.fieldLink RX4 34 "PortWarden$Store" "released" "I", Cond.methodLink RX2 125 yX2_relax, Cond.instanceMethod yX2_relax, Cond.selects RX2 yX2_relax yX2_relax, Cond.code yX2_relax cX2_relax 1 none, Cond.fieldLink RX2 141 "PortWarden$Port" "crowded" "Z", Cond.fieldLink RX2 71 "PortWarden$Port" "urgent" "I", Cond.methodLink RX2 183 yX2_releaseIfEnough]
def wsX6_mode_r3 : List Cond := [Cond.instanceMethod yX2_releaseIfEnough, Cond.selects RX2 yX2_releaseIfEnough yX2_releaseIfEnough, Cond.code yX2_releaseIfEnough cX2_releaseIfEnough 1 none, Cond.methodLink RX2 189 Lib.Math.max.name, Cond.static Lib.Math.max.name, Cond.initialized "java/lang/Math", Cond.code Lib.Math.max.name Lib.Math.max.code 2 (some .int), Cond.methodLink RX2 186 yX2_isOn, Cond.instanceMethod yX2_isOn, Cond.selects RX2 yX2_isOn yX2_isOn, Cond.code yX2_isOn cX2_isOn 2 (some .boolean), Cond.methodLink RX6 142 yX2_changeLater, Cond.instanceMethod yX2_changeLater, Cond.selects RX2 yX2_changeLater yX2_changeLater, Cond.code yX2_changeLater cX2_changeLater 4 (some .boolean), Cond.fieldLink RX2 49 "PortWarden$Port" "waiting" "LPortWarden$Waiting;", Cond.fieldLink RX2 42 "PortWarden$Port" "output" "LPortWarden$Output;", Cond.methodLink RX2 150 yX1_size, Cond.instanceMethod yX1_size, Cond.selects RX1 yX1_size yX1_size, Cond.initialized RX1, Cond.code yX1_size cX1_size 1 (some .int), Cond.fieldLink RX1 14 "PortWarden$Output" "stored" "LPortWarden$Row;", Cond.fieldLink RX1 20 "PortWarden$Output" "sender" "LPortWarden$Row;"]
def wsX6_mode_r4 : List Cond := [Cond.methodLink RX2 152 yX5_add, Cond.instanceMethod yX5_add, Cond.selects RX5 yX5_add yX5_add, Cond.initialized RX5, Cond.code yX5_add cX5_add 5 (some .boolean), Cond.fieldLink RX5 25 "PortWarden$Waiting" "size" "I", Cond.fieldLink RX5 9 "PortWarden$Waiting" "which" "[I", Cond.fieldLink RX5 15 "PortWarden$Waiting" "value" "[I", Cond.fieldLink RX5 18 "PortWarden$Waiting" "takesStore" "[Z", Cond.fieldLink RX5 22 "PortWarden$Waiting" "behind" "[I", Cond.methodLink RX2 98 yX2_makeDueChanges, Cond.instanceMethod yX2_makeDueChanges, Cond.selects RX2 yX2_makeDueChanges yX2_makeDueChanges, Cond.code yX2_makeDueChanges cX2_makeDueChanges 2 none, Cond.methodLink RX2 155 yX5_isFirstDue, Cond.instanceMethod yX5_isFirstDue, Cond.selects RX5 yX5_isFirstDue yX5_isFirstDue, Cond.code yX5_isFirstDue cX5_isFirstDue 1 (some .boolean), Cond.methodLink RX2 162 yX2_emptyStore, Cond.instanceMethod yX2_emptyStore, Cond.selects RX2 yX2_emptyStore yX2_emptyStore, Cond.code yX2_emptyStore cX2_emptyStore 1 none, Cond.methodLink RX2 128 yX4_empty, Cond.instanceMethod yX4_empty]
def wsX6_mode_r5 : List Cond := [Cond.selects RX4 yX4_empty yX4_empty, Cond.code yX4_empty cX4_empty 1 none, Cond.methodLink RX4 41 yX3_empty, Cond.instanceMethod yX3_empty, Cond.selects RX3 yX3_empty yX3_empty, Cond.code yX3_empty cX3_empty 1 none, Cond.methodLink RX2 171 yX2_setMode, Cond.methodLink RX2 174 yX5_removeFirst, Cond.instanceMethod yX5_removeFirst, Cond.selects RX5 yX5_removeFirst yX5_removeFirst, Cond.code yX5_removeFirst cX5_removeFirst 2 none, Cond.methodLink RX5 29 Lib.Math.max.name]
def wsX6_mode : List Cond := .code yX6_mode cX6_mode 5 (some .boolean) :: ((wsX6_mode_r1 ++ (wsX6_mode_r2 ++ (wsX6_mode_r3 ++ (wsX6_mode_r4 ++ wsX6_mode_r5)))) ++ wsX60 ++ wsX20 ++ wsX40 ++ wsX30 ++ wsX10 ++ wsX50)
def wsX6_modeOf : List Cond := .code yX6_modeOf cX6_modeOf 3 (some .int) :: ([.fieldLink RX6 18 "PortWarden" "ports" "[LPortWarden$Port;", .methodLink RX6 25 yX6_isPort, .static yX6_isPort, .initialized RX6, .code yX6_isPort cX6_isPort 1 (some .boolean), .methodLink RX6 132 yX6_isMode, .static yX6_isMode, .code yX6_isMode cX6_isMode 1 (some .boolean)] ++ wsX60 ++ wsX20)
def wsX6_poll_r1 : List Cond := [Cond.fieldLink RX6 18 "PortWarden" "ports" "[LPortWarden$Port;", Cond.methodLink RX6 71 yX6_isProcess, Cond.static yX6_isProcess, Cond.initialized RX6, Cond.code yX6_isProcess cX6_isProcess 1 (some .boolean), Cond.methodLink RX6 25 yX6_isPort, Cond.static yX6_isPort, Cond.code yX6_isPort cX6_isPort 1 (some .boolean), Cond.methodLink RX6 117 yX2_pass, Cond.instanceMethod yX2_pass, Cond.selects RX2 yX2_pass yX2_pass, Cond.initialized RX2, Cond.code yX2_pass cX2_pass 5 none, Cond.fieldLink RX2 28 "PortWarden$Port" "receiver" "LPortWarden$Row;", Cond.fieldLink RX2 211 "PortWarden$Port" "literalNext" "Z", Cond.methodLink RX2 204 yX3_takeFirst, Cond.instanceMethod yX3_takeFirst, Cond.selects RX3 yX3_takeFirst yX3_takeFirst, Cond.initialized RX3, Cond.code yX3_takeFirst cX3_takeFirst 2 (some .int), Cond.fieldLink RX3 15 "PortWarden$Row" "size" "I", Cond.fieldLink RX3 9 "PortWarden$Row" "cells" "[I", Cond.fieldLink RX3 19 "PortWarden$Row" "first" "I", Cond.methodLink RX2 207 yX2_takeFlagged]
def wsX6_poll_r2 : List Cond := [Cond.instanceMethod yX2_takeFlagged, Cond.selects RX2 yX2_takeFlagged yX2_takeFlagged, Cond.code yX2_takeFlagged cX2_takeFlagged 2 none, Cond.fieldLink RX2 18 "PortWarden$Port" "modes" "[I", Cond.fieldLink RX2 60 "PortWarden$Port" "counts" "[I", Cond.methodLink RX2 186 yX2_isOn, Cond.instanceMethod yX2_isOn, Cond.selects RX2 yX2_isOn yX2_isOn, Cond.code yX2_isOn cX2_isOn 2 (some .boolean), Cond.methodLink RX2 226 yX2_signal, Cond.instanceMethod yX2_signal, Cond.selects RX2 yX2_signal yX2_signal, Cond.code yX2_signal cX2_signal 3 none, Cond.fieldLink RX2 74 "PortWarden$Port" "crew" "LPortWarden$Crew;", Cond.fieldLink RX2 67 "PortWarden$Port" "foregroundGroup" "I", Cond.fieldLink RX2 42 "PortWarden$Port" "output" "LPortWarden$Output;", Cond.fieldLink RX2 49 "PortWarden$Port" "waiting" "LPortWarden$Waiting;", Cond.methodLink RX2 104 yX0_raise, Cond.instanceMethod yX0_raise, Cond.selects RX0 yX0_raise yX0_raise, Cond.initialized RX0, Cond.code yX0_raise cX0_raise 4 none, Cond.fieldLink RX0 9 "PortWarden$Crew" "groupOf" "[I", Cond.fieldLink RX0 15 "PortWarden$Crew" "raised" "[I"]
def wsX6_poll_r3 : List Cond := [Cond.methodLink RX2 162 yX2_emptyStore, Cond.instanceMethod yX2_emptyStore, Cond.selects RX2 yX2_emptyStore yX2_emptyStore, Cond.code yX2_emptyStore cX2_emptyStore 1 none, Cond.fieldLink RX2 35 "PortWarden$Port" "store" "LPortWarden$Store;", Cond.methodLink RX2 128 yX4_empty, Cond.instanceMethod yX4_empty, Cond.selects RX4 yX4_empty yX4_empty, Cond.initialized RX4, Cond.code yX4_empty cX4_empty 1 none, Cond.fieldLink RX4 14 "PortWarden$Store" "entries" "LPortWarden$Row;", Cond.fieldLink RX4 34 "PortWarden$Store" "released" "I", Cond.methodLink RX4 41 yX3_empty, Cond.instanceMethod yX3_empty, Cond.selects RX3 yX3_empty yX3_empty, Cond.code yX3_empty cX3_empty 1 none, Cond.methodLink RX2 125 yX2_relax, Cond.instanceMethod yX2_relax, Cond.selects RX2 yX2_relax yX2_relax, Cond.code yX2_relax cX2_relax 1 none, Cond.fieldLink RX2 141 "PortWarden$Port" "crowded" "Z", Cond.fieldLink RX2 71 "PortWarden$Port" "urgent" "I", Cond.methodLink RX2 134 yX3_empty, Cond.methodLink RX2 138 yX5_onlyLeft]
def wsX6_poll_r4 : List Cond := [Cond.instanceMethod yX5_onlyLeft, Cond.selects RX5 yX5_onlyLeft yX5_onlyLeft, Cond.initialized RX5, Cond.code yX5_onlyLeft cX5_onlyLeft 3 none, Cond.fieldLink RX5 25 "PortWarden$Waiting" "size" "I", Cond.fieldLink RX5 22 "PortWarden$Waiting" "behind" "[I", Cond.methodLink RX5 35 Lib.Math.min.name, Cond.static Lib.Math.min.name, Cond.initialized "java/lang/Math", Cond.code Lib.Math.min.name Lib.Math.min.code 2 (some .int), Cond.methodLink RX2 232 yX2_draftForm, Cond.instanceMethod yX2_draftForm, Cond.selects RX2 yX2_draftForm yX2_draftForm, Cond.code yX2_draftForm cX2_draftForm 2 none, Cond.fieldLink RX2 53 "PortWarden$Port" "draft" "LPortWarden$Row;", Cond.methodLink RX2 272 yX2_addForm, Cond.instanceMethod yX2_addForm, Cond.selects RX2 yX2_addForm yX2_addForm, Cond.code yX2_addForm cX2_addForm 2 none, Cond.methodLink RX2 265 yX2_isPlain, Cond.static yX2_isPlain, Cond.code yX2_isPlain cX2_isPlain 1 (some .boolean), Cond.methodLink RX2 82 yX3_add, Cond.instanceMethod yX3_add]
def wsX6_poll_r5 : List Cond := [Cond.selects RX3 yX3_add yX3_add, Cond.code yX3_add cX3_add 3 none, Cond.methodLink RX2 235 yX2_echo, Cond.instanceMethod yX2_echo, Cond.selects RX2 yX2_echo yX2_echo, Cond.code yX2_echo cX2_echo 1 none, Cond.methodLink RX2 275 yX1_accept, Cond.instanceMethod yX1_accept, Cond.selects RX1 yX1_accept yX1_accept, Cond.initialized RX1, Cond.code yX1_accept cX1_accept 4 (some .boolean), Cond.fieldLink RX1 14 "PortWarden$Output" "stored" "LPortWarden$Row;", Cond.fieldLink RX1 45 "PortWarden$Output" "columnNow" "I", Cond.methodLink RX1 31 yX3_fits, Cond.instanceMethod yX3_fits, Cond.selects RX3 yX3_fits yX3_fits, Cond.code yX3_fits cX3_fits 2 (some .boolean), Cond.methodLink RX1 35 yX3_at, Cond.instanceMethod yX3_at, Cond.selects RX3 yX3_at yX3_at, Cond.code yX3_at cX3_at 3 (some .int), Cond.methodLink RX1 39 yX3_add, Cond.methodLink RX1 42 yX1_columnBehind, Cond.instanceMethod yX1_columnBehind]
def wsX6_poll_r6 : List Cond := [Cond.selects RX1 yX1_columnBehind yX1_columnBehind, Cond.code yX1_columnBehind cX1_columnBehind 2 (some .int), Cond.methodLink RX2 214 yX2_keepAndEcho, Cond.instanceMethod yX2_keepAndEcho, Cond.selects RX2 yX2_keepAndEcho yX2_keepAndEcho, Cond.code yX2_keepAndEcho cX2_keepAndEcho 2 none, Cond.methodLink RX2 256 yX2_keep, Cond.instanceMethod yX2_keep, Cond.selects RX2 yX2_keep yX2_keep, Cond.code yX2_keep cX2_keep 3 (some .boolean), Cond.methodLink RX2 259 yX4_add, Cond.instanceMethod yX4_add, Cond.selects RX4 yX4_add yX4_add, Cond.code yX4_add cX4_add 3 (some .boolean), Cond.fieldLink RX4 31 "PortWarden$Store" "idleTicks" "I", Cond.methodLink RX4 24 yX3_fits, Cond.methodLink RX4 28 yX3_add, Cond.methodLink RX2 183 yX2_releaseIfEnough, Cond.instanceMethod yX2_releaseIfEnough, Cond.selects RX2 yX2_releaseIfEnough yX2_releaseIfEnough, Cond.code yX2_releaseIfEnough cX2_releaseIfEnough 1 none, Cond.methodLink RX2 189 Lib.Math.max.name, Cond.static Lib.Math.max.name, Cond.code Lib.Math.max.name Lib.Math.max.code 2 (some .int)]
def wsX6_poll_r7 : List Cond := [Cond.methodLink RX2 180 yX4_releaseAll, Cond.instanceMethod yX4_releaseAll, Cond.selects RX4 yX4_releaseAll yX4_releaseAll, Cond.code yX4_releaseAll cX4_releaseAll 1 none, Cond.methodLink RX2 217 yX2_settledAsFlow, Cond.instanceMethod yX2_settledAsFlow, Cond.selects RX2 yX2_settledAsFlow yX2_settledAsFlow, Cond.code yX2_settledAsFlow cX2_settledAsFlow 2 (some .boolean), Cond.methodLink RX2 220 yX2_settledAsSignal, Cond.instanceMethod yX2_settledAsSignal, Cond.selects RX2 yX2_settledAsSignal yX2_settledAsSignal, Cond.code yX2_settledAsSignal cX2_settledAsSignal 2 (some .boolean), Cond.methodLink RX2 223 yX2_edit, Cond.instanceMethod yX2_edit, Cond.selects RX2 yX2_edit yX2_edit, Cond.code yX2_edit cX2_edit 2 none, Cond.methodLink RX2 241 Lib.Math.min.name, Cond.methodLink RX2 238 yX4_openLine, Cond.instanceMethod yX4_openLine, Cond.selects RX4 yX4_openLine yX4_openLine, Cond.code yX4_openLine cX4_openLine 1 (some .int), Cond.methodLink RX2 244 yX2_takeAway, Cond.instanceMethod yX2_takeAway, Cond.selects RX2 yX2_takeAway yX2_takeAway]
def wsX6_poll_r8 : List Cond := [Cond.code yX2_takeAway cX2_takeAway 5 none, Cond.methodLink RX2 262 yX3_takeLast, Cond.instanceMethod yX3_takeLast, Cond.selects RX3 yX3_takeLast yX3_takeLast, Cond.code yX3_takeLast cX3_takeLast 2 (some .int), Cond.methodLink RX3 22 yX3_at, Cond.methodLink RX2 247 yX4_lastWord, Cond.instanceMethod yX4_lastWord, Cond.selects RX4 yX4_lastWord yX4_lastWord, Cond.code yX4_lastWord cX4_lastWord 3 (some .int), Cond.methodLink RX4 44 yX4_openLine, Cond.methodLink RX4 47 yX3_at, Cond.methodLink RX4 51 yX4_isBlank, Cond.static yX4_isBlank, Cond.code yX4_isBlank cX4_isBlank 1 (some .boolean), Cond.methodLink RX2 250 yX2_reprint, Cond.instanceMethod yX2_reprint, Cond.selects RX2 yX2_reprint yX2_reprint, Cond.code yX2_reprint cX2_reprint 3 none, Cond.methodLink RX2 268 yX3_at, Cond.methodLink RX2 253 yX2_endLine, Cond.instanceMethod yX2_endLine, Cond.selects RX2 yX2_endLine yX2_endLine, Cond.code yX2_endLine cX2_endLine 3 (some .boolean)]
def wsX6_poll_r9 : List Cond := [Cond.methodLink RX2 198 yX2_draftNewline, Cond.instanceMethod yX2_draftNewline, Cond.selects RX2 yX2_draftNewline yX2_draftNewline, Cond.code yX2_draftNewline cX2_draftNewline 1 none, Cond.methodLink RX6 149 yX2_readingWaits, Cond.instanceMethod yX2_readingWaits, Cond.selects RX2 yX2_readingWaits yX2_readingWaits, Cond.code yX2_readingWaits cX2_readingWaits 2 (some .boolean), Cond.fieldLink RX2 56 "PortWarden$Port" "opened" "[Z", Cond.fieldLink RX2 101 "PortWarden$Port" "hungUp" "Z", Cond.methodLink RX2 116 yX2_isBackground, Cond.instanceMethod yX2_isBackground, Cond.selects RX2 yX2_isBackground yX2_isBackground, Cond.code yX2_isBackground cX2_isBackground 2 (some .boolean), Cond.methodLink RX6 155 yX3_fits]
def wsX6_poll : List Cond := .code yX6_poll cX6_poll 5 (some .int) :: ((wsX6_poll_r1 ++ (wsX6_poll_r2 ++ (wsX6_poll_r3 ++ (wsX6_poll_r4 ++ (wsX6_poll_r5 ++ (wsX6_poll_r6 ++ (wsX6_poll_r7 ++ (wsX6_poll_r8 ++ wsX6_poll_r9)))))))) ++ wsX60 ++ wsX20 ++ wsX10 ++ wsX30 ++ wsX00 ++ wsX40 ++ wsX50)
def wsX6_signals : List Cond := .code yX6_signals cX6_signals 3 (some .int) :: ([.fieldLink RX6 12 "PortWarden" "crew" "LPortWarden$Crew;", .methodLink RX6 71 yX6_isProcess, .static yX6_isProcess, .initialized RX6, .code yX6_isProcess cX6_isProcess 1 (some .boolean)] ++ wsX60 ++ wsX00)
def wsX6_count : List Cond := .code yX6_count cX6_count 3 (some .int) :: ([.fieldLink RX6 18 "PortWarden" "ports" "[LPortWarden$Port;", .methodLink RX6 25 yX6_isPort, .static yX6_isPort, .initialized RX6, .code yX6_isPort cX6_isPort 1 (some .boolean)] ++ wsX60 ++ wsX20)
def wsX6_column : List Cond := .code yX6_column cX6_column 2 (some .int) :: ([.fieldLink RX6 18 "PortWarden" "ports" "[LPortWarden$Port;", .methodLink RX6 25 yX6_isPort, .static yX6_isPort, .initialized RX6, .code yX6_isPort cX6_isPort 1 (some .boolean)] ++ wsX60 ++ wsX20 ++ wsX10)
def wsX6_flush_r1 : List Cond := [Cond.fieldLink RX6 18 "PortWarden" "ports" "[LPortWarden$Port;", Cond.methodLink RX6 25 yX6_isPort, Cond.static yX6_isPort, Cond.initialized RX6, Cond.code yX6_isPort cX6_isPort 1 (some .boolean), Cond.methodLink RX6 169 yX2_emptyStore, Cond.instanceMethod yX2_emptyStore, Cond.selects RX2 yX2_emptyStore yX2_emptyStore, Cond.initialized RX2, Cond.code yX2_emptyStore cX2_emptyStore 1 none, Cond.fieldLink RX2 35 "PortWarden$Port" "store" "LPortWarden$Store;", Cond.methodLink RX2 128 yX4_empty, Cond.instanceMethod yX4_empty, Cond.selects RX4 yX4_empty yX4_empty, Cond.initialized RX4, Cond.code yX4_empty cX4_empty 1 none, Cond.fieldLink RX4 14 "PortWarden$Store" "entries" "LPortWarden$Row;", Cond.fieldLink RX4 34 "PortWarden$Store" "released" "I", Cond.methodLink RX4 41 yX3_empty, Cond.instanceMethod yX3_empty, Cond.selects RX3 yX3_empty yX3_empty, Cond.initialized RX3, Cond.code yX3_empty cX3_empty 1 none, Cond.fieldLink RX3 15 "PortWarden$Row" "size" "I"]
def wsX6_flush_r2 : List Cond := [Cond.methodLink RX2 125 yX2_relax, Cond.instanceMethod yX2_relax, Cond.selects RX2 yX2_relax yX2_relax, Cond.code yX2_relax cX2_relax 1 none, Cond.fieldLink RX2 141 "PortWarden$Port" "crowded" "Z", Cond.fieldLink RX2 71 "PortWarden$Port" "urgent" "I", Cond.methodLink RX6 172 yX2_emptyOutput, Cond.instanceMethod yX2_emptyOutput, Cond.selects RX2 yX2_emptyOutput yX2_emptyOutput, Cond.code yX2_emptyOutput cX2_emptyOutput 1 none, Cond.fieldLink RX2 42 "PortWarden$Port" "output" "LPortWarden$Output;", Cond.fieldLink RX2 49 "PortWarden$Port" "waiting" "LPortWarden$Waiting;", Cond.methodLink RX2 134 yX3_empty, Cond.methodLink RX2 138 yX5_onlyLeft, Cond.instanceMethod yX5_onlyLeft, Cond.selects RX5 yX5_onlyLeft yX5_onlyLeft, Cond.initialized RX5, Cond.code yX5_onlyLeft cX5_onlyLeft 3 none, Cond.fieldLink RX5 25 "PortWarden$Waiting" "size" "I", Cond.fieldLink RX5 22 "PortWarden$Waiting" "behind" "[I", Cond.methodLink RX5 35 Lib.Math.min.name, Cond.static Lib.Math.min.name, Cond.initialized "java/lang/Math", Cond.code Lib.Math.min.name Lib.Math.min.code 2 (some .int)]
def wsX6_flush_r3 : List Cond := [Cond.methodLink RX2 98 yX2_makeDueChanges, Cond.instanceMethod yX2_makeDueChanges, Cond.selects RX2 yX2_makeDueChanges yX2_makeDueChanges, Cond.code yX2_makeDueChanges cX2_makeDueChanges 2 none, Cond.methodLink RX2 155 yX5_isFirstDue, Cond.instanceMethod yX5_isFirstDue, Cond.selects RX5 yX5_isFirstDue yX5_isFirstDue, Cond.code yX5_isFirstDue cX5_isFirstDue 1 (some .boolean), Cond.methodLink RX2 162 yX2_emptyStore, Cond.methodLink RX2 171 yX2_setMode, Cond.instanceMethod yX2_setMode, Cond.selects RX2 yX2_setMode yX2_setMode, Cond.code yX2_setMode cX2_setMode 3 none, Cond.fieldLink RX2 18 "PortWarden$Port" "modes" "[I", Cond.methodLink RX2 177 yX4_dropEndMarks, Cond.instanceMethod yX4_dropEndMarks, Cond.selects RX4 yX4_dropEndMarks yX4_dropEndMarks, Cond.code yX4_dropEndMarks cX4_dropEndMarks 4 none, Cond.methodLink RX4 37 yX3_takeFirst, Cond.instanceMethod yX3_takeFirst, Cond.selects RX3 yX3_takeFirst yX3_takeFirst, Cond.code yX3_takeFirst cX3_takeFirst 2 (some .int), Cond.fieldLink RX3 9 "PortWarden$Row" "cells" "[I", Cond.fieldLink RX3 19 "PortWarden$Row" "first" "I"]
def wsX6_flush_r4 : List Cond := [Cond.methodLink RX4 28 yX3_add, Cond.instanceMethod yX3_add, Cond.selects RX3 yX3_add yX3_add, Cond.code yX3_add cX3_add 3 none, Cond.methodLink RX2 180 yX4_releaseAll, Cond.instanceMethod yX4_releaseAll, Cond.selects RX4 yX4_releaseAll yX4_releaseAll, Cond.code yX4_releaseAll cX4_releaseAll 1 none, Cond.methodLink RX2 183 yX2_releaseIfEnough, Cond.instanceMethod yX2_releaseIfEnough, Cond.selects RX2 yX2_releaseIfEnough yX2_releaseIfEnough, Cond.code yX2_releaseIfEnough cX2_releaseIfEnough 1 none, Cond.methodLink RX2 189 Lib.Math.max.name, Cond.static Lib.Math.max.name, Cond.code Lib.Math.max.name Lib.Math.max.code 2 (some .int), Cond.methodLink RX2 186 yX2_isOn, Cond.instanceMethod yX2_isOn, Cond.selects RX2 yX2_isOn yX2_isOn, Cond.code yX2_isOn cX2_isOn 2 (some .boolean), Cond.methodLink RX2 174 yX5_removeFirst, Cond.instanceMethod yX5_removeFirst, Cond.selects RX5 yX5_removeFirst yX5_removeFirst, Cond.code yX5_removeFirst cX5_removeFirst 2 none, Cond.fieldLink RX5 9 "PortWarden$Waiting" "which" "[I"]
def wsX6_flush_r5 : List Cond := [Cond.fieldLink RX5 15 "PortWarden$Waiting" "value" "[I", Cond.fieldLink RX5 18 "PortWarden$Waiting" "takesStore" "[Z", Cond.methodLink RX5 29 Lib.Math.max.name]
def wsX6_flush : List Cond := .code yX6_flush cX6_flush 3 (some .boolean) :: ((wsX6_flush_r1 ++ (wsX6_flush_r2 ++ (wsX6_flush_r3 ++ (wsX6_flush_r4 ++ wsX6_flush_r5)))) ++ wsX60 ++ wsX20 ++ wsX40 ++ wsX30 ++ wsX10 ++ wsX50)
def wsX6_ready : List Cond := .code yX6_ready cX6_ready 2 (some .int) :: ([.fieldLink RX6 18 "PortWarden" "ports" "[LPortWarden$Port;", .methodLink RX6 25 yX6_isPort, .static yX6_isPort, .initialized RX6, .code yX6_isPort cX6_isPort 1 (some .boolean)] ++ wsX60 ++ wsX20 ++ wsX40)
def wsX6_tick_r1 : List Cond := [Cond.fieldLink RX6 18 "PortWarden" "ports" "[LPortWarden$Port;", Cond.methodLink RX6 117 yX2_pass, Cond.instanceMethod yX2_pass, Cond.selects RX2 yX2_pass yX2_pass, Cond.initialized RX2, Cond.code yX2_pass cX2_pass 5 none, Cond.fieldLink RX2 28 "PortWarden$Port" "receiver" "LPortWarden$Row;", Cond.fieldLink RX2 211 "PortWarden$Port" "literalNext" "Z", Cond.methodLink RX2 204 yX3_takeFirst, Cond.instanceMethod yX3_takeFirst, Cond.selects RX3 yX3_takeFirst yX3_takeFirst, Cond.initialized RX3, Cond.code yX3_takeFirst cX3_takeFirst 2 (some .int), Cond.fieldLink RX3 15 "PortWarden$Row" "size" "I", Cond.fieldLink RX3 9 "PortWarden$Row" "cells" "[I", Cond.fieldLink RX3 19 "PortWarden$Row" "first" "I", Cond.methodLink RX2 207 yX2_takeFlagged, Cond.instanceMethod yX2_takeFlagged, Cond.selects RX2 yX2_takeFlagged yX2_takeFlagged, Cond.code yX2_takeFlagged cX2_takeFlagged 2 none, Cond.fieldLink RX2 18 "PortWarden$Port" "modes" "[I", Cond.fieldLink RX2 60 "PortWarden$Port" "counts" "[I", Cond.methodLink RX2 186 yX2_isOn, Cond.instanceMethod yX2_isOn]
def wsX6_tick_r2 : List Cond := [Cond.selects RX2 yX2_isOn yX2_isOn, Cond.code yX2_isOn cX2_isOn 2 (some .boolean), Cond.methodLink RX2 226 yX2_signal, Cond.instanceMethod yX2_signal, Cond.selects RX2 yX2_signal yX2_signal, Cond.code yX2_signal cX2_signal 3 none, Cond.fieldLink RX2 74 "PortWarden$Port" "crew" "LPortWarden$Crew;", Cond.fieldLink RX2 67 "PortWarden$Port" "foregroundGroup" "I", Cond.fieldLink RX2 42 "PortWarden$Port" "output" "LPortWarden$Output;", Cond.fieldLink RX2 49 "PortWarden$Port" "waiting" "LPortWarden$Waiting;", Cond.methodLink RX2 104 yX0_raise, Cond.instanceMethod yX0_raise, Cond.selects RX0 yX0_raise yX0_raise, Cond.initialized RX0, Cond.code yX0_raise cX0_raise 4 none, Cond.fieldLink RX0 9 "PortWarden$Crew" "groupOf" "[I", Cond.fieldLink RX0 15 "PortWarden$Crew" "raised" "[I", Cond.methodLink RX2 162 yX2_emptyStore, Cond.instanceMethod yX2_emptyStore, Cond.selects RX2 yX2_emptyStore yX2_emptyStore, Cond.code yX2_emptyStore cX2_emptyStore 1 none, Cond.fieldLink RX2 35 "PortWarden$Port" "store" "LPortWarden$Store;", Cond.methodLink RX2 128 yX4_empty, Cond.instanceMethod yX4_empty]
def wsX6_tick_r3 : List Cond := [Cond.selects RX4 yX4_empty yX4_empty, Cond.initialized RX4, Cond.code yX4_empty cX4_empty 1 none, Cond.fieldLink RX4 14 "PortWarden$Store" "entries" "LPortWarden$Row;", Cond.fieldLink RX4 34 "PortWarden$Store" "released" "I", Cond.methodLink RX4 41 yX3_empty, Cond.instanceMethod yX3_empty, Cond.selects RX3 yX3_empty yX3_empty, Cond.code yX3_empty cX3_empty 1 none, Cond.methodLink RX2 125 yX2_relax, Cond.instanceMethod yX2_relax, Cond.selects RX2 yX2_relax yX2_relax, Cond.code yX2_relax cX2_relax 1 none, Cond.fieldLink RX2 141 "PortWarden$Port" "crowded" "Z", Cond.fieldLink RX2 71 "PortWarden$Port" "urgent" "I", Cond.methodLink RX2 134 yX3_empty, Cond.methodLink RX2 138 yX5_onlyLeft, Cond.instanceMethod yX5_onlyLeft, Cond.selects RX5 yX5_onlyLeft yX5_onlyLeft, Cond.initialized RX5, Cond.code yX5_onlyLeft cX5_onlyLeft 3 none, Cond.fieldLink RX5 25 "PortWarden$Waiting" "size" "I", Cond.fieldLink RX5 22 "PortWarden$Waiting" "behind" "[I", Cond.methodLink RX5 35 Lib.Math.min.name]
def wsX6_tick_r4 : List Cond := [Cond.static Lib.Math.min.name, Cond.initialized "java/lang/Math", Cond.code Lib.Math.min.name Lib.Math.min.code 2 (some .int), Cond.methodLink RX2 232 yX2_draftForm, Cond.instanceMethod yX2_draftForm, Cond.selects RX2 yX2_draftForm yX2_draftForm, Cond.code yX2_draftForm cX2_draftForm 2 none, Cond.fieldLink RX2 53 "PortWarden$Port" "draft" "LPortWarden$Row;", Cond.methodLink RX2 272 yX2_addForm, Cond.instanceMethod yX2_addForm, Cond.selects RX2 yX2_addForm yX2_addForm, Cond.code yX2_addForm cX2_addForm 2 none, Cond.methodLink RX2 265 yX2_isPlain, Cond.static yX2_isPlain, Cond.code yX2_isPlain cX2_isPlain 1 (some .boolean), Cond.methodLink RX2 82 yX3_add, Cond.instanceMethod yX3_add, Cond.selects RX3 yX3_add yX3_add, Cond.code yX3_add cX3_add 3 none, Cond.methodLink RX2 235 yX2_echo, Cond.instanceMethod yX2_echo, Cond.selects RX2 yX2_echo yX2_echo, Cond.code yX2_echo cX2_echo 1 none, Cond.methodLink RX2 275 yX1_accept]
def wsX6_tick_r5 : List Cond := [Cond.instanceMethod yX1_accept, Cond.selects RX1 yX1_accept yX1_accept, Cond.initialized RX1, Cond.code yX1_accept cX1_accept 4 (some .boolean), Cond.fieldLink RX1 14 "PortWarden$Output" "stored" "LPortWarden$Row;", Cond.fieldLink RX1 45 "PortWarden$Output" "columnNow" "I", Cond.methodLink RX1 31 yX3_fits, Cond.instanceMethod yX3_fits, Cond.selects RX3 yX3_fits yX3_fits, Cond.code yX3_fits cX3_fits 2 (some .boolean), Cond.methodLink RX1 35 yX3_at, Cond.instanceMethod yX3_at, Cond.selects RX3 yX3_at yX3_at, Cond.code yX3_at cX3_at 3 (some .int), Cond.methodLink RX1 39 yX3_add, Cond.methodLink RX1 42 yX1_columnBehind, Cond.instanceMethod yX1_columnBehind, Cond.selects RX1 yX1_columnBehind yX1_columnBehind, Cond.code yX1_columnBehind cX1_columnBehind 2 (some .int), Cond.methodLink RX2 214 yX2_keepAndEcho, Cond.instanceMethod yX2_keepAndEcho, Cond.selects RX2 yX2_keepAndEcho yX2_keepAndEcho, Cond.code yX2_keepAndEcho cX2_keepAndEcho 2 none, Cond.methodLink RX2 256 yX2_keep]
def wsX6_tick_r6 : List Cond := [Cond.instanceMethod yX2_keep, Cond.selects RX2 yX2_keep yX2_keep, Cond.code yX2_keep cX2_keep 3 (some .boolean), Cond.methodLink RX2 259 yX4_add, Cond.instanceMethod yX4_add, Cond.selects RX4 yX4_add yX4_add, Cond.code yX4_add cX4_add 3 (some .boolean), Cond.fieldLink RX4 31 "PortWarden$Store" "idleTicks" "I", Cond.methodLink RX4 24 yX3_fits, Cond.methodLink RX4 28 yX3_add, Cond.methodLink RX2 183 yX2_releaseIfEnough, Cond.instanceMethod yX2_releaseIfEnough, Cond.selects RX2 yX2_releaseIfEnough yX2_releaseIfEnough, Cond.code yX2_releaseIfEnough cX2_releaseIfEnough 1 none, Cond.methodLink RX2 189 Lib.Math.max.name, Cond.static Lib.Math.max.name, Cond.code Lib.Math.max.name Lib.Math.max.code 2 (some .int), Cond.methodLink RX2 180 yX4_releaseAll, Cond.instanceMethod yX4_releaseAll, Cond.selects RX4 yX4_releaseAll yX4_releaseAll, Cond.code yX4_releaseAll cX4_releaseAll 1 none, Cond.methodLink RX2 217 yX2_settledAsFlow, Cond.instanceMethod yX2_settledAsFlow, Cond.selects RX2 yX2_settledAsFlow yX2_settledAsFlow]
def wsX6_tick_r7 : List Cond := [Cond.code yX2_settledAsFlow cX2_settledAsFlow 2 (some .boolean), Cond.methodLink RX2 220 yX2_settledAsSignal, Cond.instanceMethod yX2_settledAsSignal, Cond.selects RX2 yX2_settledAsSignal yX2_settledAsSignal, Cond.code yX2_settledAsSignal cX2_settledAsSignal 2 (some .boolean), Cond.methodLink RX2 223 yX2_edit, Cond.instanceMethod yX2_edit, Cond.selects RX2 yX2_edit yX2_edit, Cond.code yX2_edit cX2_edit 2 none, Cond.methodLink RX2 241 Lib.Math.min.name, Cond.methodLink RX2 238 yX4_openLine, Cond.instanceMethod yX4_openLine, Cond.selects RX4 yX4_openLine yX4_openLine, Cond.code yX4_openLine cX4_openLine 1 (some .int), Cond.methodLink RX2 244 yX2_takeAway, Cond.instanceMethod yX2_takeAway, Cond.selects RX2 yX2_takeAway yX2_takeAway, Cond.code yX2_takeAway cX2_takeAway 5 none, Cond.methodLink RX2 262 yX3_takeLast, Cond.instanceMethod yX3_takeLast, Cond.selects RX3 yX3_takeLast yX3_takeLast, Cond.code yX3_takeLast cX3_takeLast 2 (some .int), Cond.methodLink RX3 22 yX3_at, Cond.methodLink RX2 247 yX4_lastWord]
def wsX6_tick_r8 : List Cond := [Cond.instanceMethod yX4_lastWord, Cond.selects RX4 yX4_lastWord yX4_lastWord, Cond.code yX4_lastWord cX4_lastWord 3 (some .int), Cond.methodLink RX4 44 yX4_openLine, Cond.methodLink RX4 47 yX3_at, Cond.methodLink RX4 51 yX4_isBlank, Cond.static yX4_isBlank, Cond.code yX4_isBlank cX4_isBlank 1 (some .boolean), Cond.methodLink RX2 250 yX2_reprint, Cond.instanceMethod yX2_reprint, Cond.selects RX2 yX2_reprint yX2_reprint, Cond.code yX2_reprint cX2_reprint 3 none, Cond.methodLink RX2 268 yX3_at, Cond.methodLink RX2 253 yX2_endLine, Cond.instanceMethod yX2_endLine, Cond.selects RX2 yX2_endLine yX2_endLine, Cond.code yX2_endLine cX2_endLine 3 (some .boolean), Cond.methodLink RX2 198 yX2_draftNewline, Cond.instanceMethod yX2_draftNewline, Cond.selects RX2 yX2_draftNewline yX2_draftNewline, Cond.code yX2_draftNewline cX2_draftNewline 1 none, Cond.methodLink RX6 175 yX2_letTimePass, Cond.instanceMethod yX2_letTimePass, Cond.selects RX2 yX2_letTimePass yX2_letTimePass]
def wsX6_tick_r9 : List Cond := [Cond.code yX2_letTimePass cX2_letTimePass 1 none, Cond.methodLink RX6 49 yX2_settle, Cond.instanceMethod yX2_settle, Cond.selects RX2 yX2_settle yX2_settle, Cond.code yX2_settle cX2_settle 1 none, Cond.methodLink RX2 95 yX1_push, Cond.instanceMethod yX1_push, Cond.selects RX1 yX1_push yX1_push, Cond.code yX1_push cX1_push 2 none, Cond.fieldLink RX1 20 "PortWarden$Output" "sender" "LPortWarden$Row;", Cond.methodLink RX1 48 yX3_takeFirst, Cond.methodLink RX2 98 yX2_makeDueChanges, Cond.instanceMethod yX2_makeDueChanges, Cond.selects RX2 yX2_makeDueChanges yX2_makeDueChanges, Cond.code yX2_makeDueChanges cX2_makeDueChanges 2 none, Cond.methodLink RX2 155 yX5_isFirstDue, Cond.instanceMethod yX5_isFirstDue, Cond.selects RX5 yX5_isFirstDue yX5_isFirstDue, Cond.code yX5_isFirstDue cX5_isFirstDue 1 (some .boolean), Cond.methodLink RX2 171 yX2_setMode, Cond.instanceMethod yX2_setMode, Cond.selects RX2 yX2_setMode yX2_setMode, Cond.code yX2_setMode cX2_setMode 3 none, Cond.methodLink RX2 177 yX4_dropEndMarks]
def wsX6_tick_r10 : List Cond := [Cond.instanceMethod yX4_dropEndMarks, Cond.selects RX4 yX4_dropEndMarks yX4_dropEndMarks, Cond.code yX4_dropEndMarks cX4_dropEndMarks 4 none, Cond.methodLink RX4 37 yX3_takeFirst, Cond.methodLink RX2 174 yX5_removeFirst, Cond.instanceMethod yX5_removeFirst, Cond.selects RX5 yX5_removeFirst yX5_removeFirst, Cond.code yX5_removeFirst cX5_removeFirst 2 none, Cond.fieldLink RX5 9 "PortWarden$Waiting" "which" "[I", Cond.fieldLink RX5 15 "PortWarden$Waiting" "value" "[I", Cond.fieldLink RX5 18 "PortWarden$Waiting" "takesStore" "[Z", Cond.methodLink RX5 29 Lib.Math.max.name]
def wsX6_tick : List Cond := .code yX6_tick cX6_tick 2 none :: ((wsX6_tick_r1 ++ (wsX6_tick_r2 ++ (wsX6_tick_r3 ++ (wsX6_tick_r4 ++ (wsX6_tick_r5 ++ (wsX6_tick_r6 ++ (wsX6_tick_r7 ++ (wsX6_tick_r8 ++ (wsX6_tick_r9 ++ wsX6_tick_r10))))))))) ++ wsX60 ++ wsX20 ++ wsX30 ++ wsX10 ++ wsX00 ++ wsX40 ++ wsX50)
def wsX7_first : List Cond := .code yX7_first cX7_first 1 (some .int) :: ([])
def wsX7_init_r1 : List Cond := [Cond.methodLink RX7 1 objectInit, Cond.instanceMethod objectInit, Cond.code objectInit ⟨#[0xb1]⟩ 1 none, Cond.fieldLink RX7 7 "PortWardenModel" "thrownCode" "I", Cond.arrayClass .int, Cond.fieldLink RX7 13 "PortWardenModel" "modes" "[I", Cond.fieldLink RX7 17 "PortWardenModel" "comes" "[I", Cond.fieldLink RX7 20 "PortWardenModel" "comesFlag" "[I", Cond.fieldLink RX7 23 "PortWardenModel" "coming" "[I", Cond.fieldLink RX7 26 "PortWardenModel" "store" "[I", Cond.arrayClass .boolean, Cond.fieldLink RX7 29 "PortWardenModel" "plain" "[Z", Cond.fieldLink RX7 33 "PortWardenModel" "stored" "[I", Cond.fieldLink RX7 36 "PortWardenModel" "released" "[I", Cond.fieldLink RX7 39 "PortWardenModel" "ticks" "[I", Cond.fieldLink RX7 42 "PortWardenModel" "out" "[I", Cond.fieldLink RX7 45 "PortWardenModel" "outs" "[I", Cond.fieldLink RX7 48 "PortWardenModel" "sends" "[I", Cond.fieldLink RX7 51 "PortWardenModel" "sending" "[I", Cond.fieldLink RX7 54 "PortWardenModel" "outHeld" "[Z", Cond.fieldLink RX7 57 "PortWardenModel" "literal" "[Z", Cond.fieldLink RX7 60 "PortWardenModel" "columns" "[I", Cond.fieldLink RX7 63 "PortWardenModel" "full" "[Z", Cond.fieldLink RX7 66 "PortWardenModel" "flow" "[I"]
def wsX7_init_r2 : List Cond := [Cond.fieldLink RX7 69 "PortWardenModel" "carriers" "[Z", Cond.fieldLink RX7 72 "PortWardenModel" "clears" "[Z", Cond.fieldLink RX7 75 "PortWardenModel" "hung" "[Z", Cond.fieldLink RX7 78 "PortWardenModel" "front" "[I", Cond.fieldLink RX7 81 "PortWardenModel" "waits" "[I", Cond.fieldLink RX7 84 "PortWardenModel" "waitMode" "[I", Cond.fieldLink RX7 87 "PortWardenModel" "waitValue" "[I", Cond.fieldLink RX7 90 "PortWardenModel" "waitTakes" "[Z", Cond.fieldLink RX7 93 "PortWardenModel" "ahead" "[I", Cond.fieldLink RX7 96 "PortWardenModel" "opened" "[Z", Cond.fieldLink RX7 99 "PortWardenModel" "groups" "[I", Cond.fieldLink RX7 102 "PortWardenModel" "raised" "[I", Cond.fieldLink RX7 105 "PortWardenModel" "counts" "[I", Cond.fieldLink RX7 108 "PortWardenModel" "row" "[I", Cond.fieldLink RX7 111 "PortWardenModel" "rowSize" "I", Cond.methodLink RX7 114 yX7_first, Cond.static yX7_first, Cond.initialized RX7, Cond.code yX7_first cX7_first 1 (some .int)]
def wsX7_init : List Cond := .code yX7_init cX7_init 3 none :: ((wsX7_init_r1 ++ wsX7_init_r2) ++ wsX70)
def wsX7_most : List Cond := .code yX7_most cX7_most 1 (some .int) :: ([])
def wsX7_isPort : List Cond := .code yX7_isPort cX7_isPort 1 (some .boolean) :: ([])
def wsX7_isProcess : List Cond := .code yX7_isProcess cX7_isProcess 1 (some .boolean) :: ([])
def wsX7_mode1 : List Cond := .code yX7_mode1 cX7_mode1 3 (some .int) :: ([.fieldLink RX7 13 "PortWardenModel" "modes" "[I"] ++ wsX70)
def wsX7_on : List Cond := .code yX7_on cX7_on 3 (some .boolean) :: ([.fieldLink RX7 13 "PortWardenModel" "modes" "[I"] ++ wsX70)
def wsX7_raise : List Cond := .code yX7_raise cX7_raise 4 none :: ([.fieldLink RX7 99 "PortWardenModel" "groups" "[I", .fieldLink RX7 102 "PortWardenModel" "raised" "[I"] ++ wsX70)
def wsX7_column1 : List Cond := .code yX7_column1 cX7_column1 3 (some .int) :: ([])
def wsX7_give : List Cond := .code yX7_give cX7_give 3 none :: ([.fieldLink RX7 42 "PortWardenModel" "out" "[I", .fieldLink RX7 45 "PortWardenModel" "outs" "[I", .fieldLink RX7 60 "PortWardenModel" "columns" "[I", .methodLink RX7 118 yX7_column1, .instanceMethod yX7_column1, .selects RX7 yX7_column1 yX7_column1, .initialized RX7, .code yX7_column1 cX7_column1 3 (some .int)] ++ wsX70)
def wsX7_push : List Cond := .code yX7_push cX7_push 3 none :: ([.fieldLink RX7 45 "PortWardenModel" "outs" "[I", .fieldLink RX7 51 "PortWardenModel" "sending" "[I", .fieldLink RX7 48 "PortWardenModel" "sends" "[I", .fieldLink RX7 42 "PortWardenModel" "out" "[I"] ++ wsX70)
def wsX7_add : List Cond := .code yX7_add cX7_add 2 none :: ([.fieldLink RX7 108 "PortWardenModel" "row" "[I", .fieldLink RX7 111 "PortWardenModel" "rowSize" "I"] ++ wsX70)
def wsX7_isPlain : List Cond := .code yX7_isPlain cX7_isPlain 1 (some .boolean) :: ([])
def wsX7_addForm : List Cond := .code yX7_addForm cX7_addForm 2 none :: ([.methodLink RX7 122 yX7_isPlain, .static yX7_isPlain, .initialized RX7, .code yX7_isPlain cX7_isPlain 1 (some .boolean), .methodLink RX7 126 yX7_add, .instanceMethod yX7_add, .selects RX7 yX7_add yX7_add, .code yX7_add cX7_add 2 none, .fieldLink RX7 108 "PortWardenModel" "row" "[I", .fieldLink RX7 111 "PortWardenModel" "rowSize" "I"] ++ wsX70)
def wsX7_echo : List Cond := .code yX7_echo cX7_echo 3 none :: ([.fieldLink RX7 45 "PortWardenModel" "outs" "[I", .fieldLink RX7 111 "PortWardenModel" "rowSize" "I", .fieldLink RX7 108 "PortWardenModel" "row" "[I", .fieldLink RX7 105 "PortWardenModel" "counts" "[I", .methodLink RX7 130 yX7_on, .instanceMethod yX7_on, .selects RX7 yX7_on yX7_on, .initialized RX7, .code yX7_on cX7_on 3 (some .boolean), .fieldLink RX7 13 "PortWardenModel" "modes" "[I", .methodLink RX7 134 yX7_give, .instanceMethod yX7_give, .selects RX7 yX7_give yX7_give, .code yX7_give cX7_give 3 none, .fieldLink RX7 42 "PortWardenModel" "out" "[I", .fieldLink RX7 60 "PortWardenModel" "columns" "[I", .methodLink RX7 118 yX7_column1, .instanceMethod yX7_column1, .selects RX7 yX7_column1 yX7_column1, .code yX7_column1 cX7_column1 3 (some .int)] ++ wsX70)
def wsX7_echoForm_r1 : List Cond := [Cond.methodLink RX7 138 yX7_addForm, Cond.instanceMethod yX7_addForm, Cond.selects RX7 yX7_addForm yX7_addForm, Cond.initialized RX7, Cond.code yX7_addForm cX7_addForm 2 none, Cond.methodLink RX7 122 yX7_isPlain, Cond.static yX7_isPlain, Cond.code yX7_isPlain cX7_isPlain 1 (some .boolean), Cond.methodLink RX7 126 yX7_add, Cond.instanceMethod yX7_add, Cond.selects RX7 yX7_add yX7_add, Cond.code yX7_add cX7_add 2 none, Cond.fieldLink RX7 108 "PortWardenModel" "row" "[I", Cond.fieldLink RX7 111 "PortWardenModel" "rowSize" "I", Cond.methodLink RX7 141 yX7_echo, Cond.instanceMethod yX7_echo, Cond.selects RX7 yX7_echo yX7_echo, Cond.code yX7_echo cX7_echo 3 none, Cond.fieldLink RX7 45 "PortWardenModel" "outs" "[I", Cond.fieldLink RX7 105 "PortWardenModel" "counts" "[I", Cond.methodLink RX7 130 yX7_on, Cond.instanceMethod yX7_on, Cond.selects RX7 yX7_on yX7_on, Cond.code yX7_on cX7_on 3 (some .boolean)]
def wsX7_echoForm_r2 : List Cond := [Cond.fieldLink RX7 13 "PortWardenModel" "modes" "[I", Cond.methodLink RX7 134 yX7_give, Cond.instanceMethod yX7_give, Cond.selects RX7 yX7_give yX7_give, Cond.code yX7_give cX7_give 3 none, Cond.fieldLink RX7 42 "PortWardenModel" "out" "[I", Cond.fieldLink RX7 60 "PortWardenModel" "columns" "[I", Cond.methodLink RX7 118 yX7_column1, Cond.instanceMethod yX7_column1, Cond.selects RX7 yX7_column1 yX7_column1, Cond.code yX7_column1 cX7_column1 3 (some .int)]
def wsX7_echoForm : List Cond := .code yX7_echoForm cX7_echoForm 3 none :: ((wsX7_echoForm_r1 ++ wsX7_echoForm_r2) ++ wsX70)
def wsX7_flowUp : List Cond := .code yX7_flowUp cX7_flowUp 2 none :: ([.fieldLink RX7 63 "PortWardenModel" "full" "[Z", .fieldLink RX7 33 "PortWardenModel" "stored" "[I", .fieldLink RX7 66 "PortWardenModel" "flow" "[I", .methodLink RX7 130 yX7_on, .instanceMethod yX7_on, .selects RX7 yX7_on yX7_on, .initialized RX7, .code yX7_on cX7_on 3 (some .boolean), .fieldLink RX7 13 "PortWardenModel" "modes" "[I"] ++ wsX70)
def wsX7_flowDown : List Cond := .code yX7_flowDown cX7_flowDown 2 none :: ([.fieldLink RX7 63 "PortWardenModel" "full" "[Z", .fieldLink RX7 33 "PortWardenModel" "stored" "[I", .fieldLink RX7 66 "PortWardenModel" "flow" "[I"] ++ wsX70)
def wsX7_isCanon : List Cond := .code yX7_isCanon cX7_isCanon 2 (some .boolean) :: ([.methodLink RX7 130 yX7_on, .instanceMethod yX7_on, .selects RX7 yX7_on yX7_on, .initialized RX7, .code yX7_on cX7_on 3 (some .boolean), .fieldLink RX7 13 "PortWardenModel" "modes" "[I"] ++ wsX70)
def wsX7_release : List Cond := .code yX7_release cX7_release 4 none :: ([.fieldLink RX7 36 "PortWardenModel" "released" "[I", .fieldLink RX7 33 "PortWardenModel" "stored" "[I", .fieldLink RX7 26 "PortWardenModel" "store" "[I", .fieldLink RX7 29 "PortWardenModel" "plain" "[Z", .methodLink RX7 144 yX7_isCanon, .instanceMethod yX7_isCanon, .selects RX7 yX7_isCanon yX7_isCanon, .initialized RX7, .code yX7_isCanon cX7_isCanon 2 (some .boolean), .methodLink RX7 130 yX7_on, .instanceMethod yX7_on, .selects RX7 yX7_on yX7_on, .code yX7_on cX7_on 3 (some .boolean), .fieldLink RX7 13 "PortWardenModel" "modes" "[I", .methodLink RX7 147 yX7_mode1, .instanceMethod yX7_mode1, .selects RX7 yX7_mode1 yX7_mode1, .code yX7_mode1 cX7_mode1 3 (some .int)] ++ wsX70)
def wsX7_comesIn_r1 : List Cond := [Cond.fieldLink RX7 33 "PortWardenModel" "stored" "[I", Cond.fieldLink RX7 105 "PortWardenModel" "counts" "[I", Cond.fieldLink RX7 26 "PortWardenModel" "store" "[I", Cond.fieldLink RX7 29 "PortWardenModel" "plain" "[Z", Cond.fieldLink RX7 39 "PortWardenModel" "ticks" "[I", Cond.fieldLink RX7 36 "PortWardenModel" "released" "[I", Cond.methodLink RX7 144 yX7_isCanon, Cond.instanceMethod yX7_isCanon, Cond.selects RX7 yX7_isCanon yX7_isCanon, Cond.initialized RX7, Cond.code yX7_isCanon cX7_isCanon 2 (some .boolean), Cond.methodLink RX7 130 yX7_on, Cond.instanceMethod yX7_on, Cond.selects RX7 yX7_on yX7_on, Cond.code yX7_on cX7_on 3 (some .boolean), Cond.fieldLink RX7 13 "PortWardenModel" "modes" "[I", Cond.methodLink RX7 150 yX7_release, Cond.instanceMethod yX7_release, Cond.selects RX7 yX7_release yX7_release, Cond.code yX7_release cX7_release 4 none, Cond.methodLink RX7 147 yX7_mode1, Cond.instanceMethod yX7_mode1, Cond.selects RX7 yX7_mode1 yX7_mode1, Cond.code yX7_mode1 cX7_mode1 3 (some .int)]
def wsX7_comesIn_r2 : List Cond := [Cond.methodLink RX7 153 yX7_flowUp, Cond.instanceMethod yX7_flowUp, Cond.selects RX7 yX7_flowUp yX7_flowUp, Cond.code yX7_flowUp cX7_flowUp 2 none, Cond.fieldLink RX7 63 "PortWardenModel" "full" "[Z", Cond.fieldLink RX7 66 "PortWardenModel" "flow" "[I"]
def wsX7_comesIn : List Cond := .code yX7_comesIn cX7_comesIn 5 (some .boolean) :: ((wsX7_comesIn_r1 ++ wsX7_comesIn_r2) ++ wsX70)
def wsX7_emptyStore : List Cond := .code yX7_emptyStore cX7_emptyStore 2 none :: ([.fieldLink RX7 33 "PortWardenModel" "stored" "[I", .fieldLink RX7 36 "PortWardenModel" "released" "[I", .methodLink RX7 156 yX7_flowDown, .instanceMethod yX7_flowDown, .selects RX7 yX7_flowDown yX7_flowDown, .initialized RX7, .code yX7_flowDown cX7_flowDown 2 none, .fieldLink RX7 63 "PortWardenModel" "full" "[Z", .fieldLink RX7 66 "PortWardenModel" "flow" "[I"] ++ wsX70)
def wsX7_emptyOut : List Cond := .code yX7_emptyOut cX7_emptyOut 3 none :: ([.fieldLink RX7 45 "PortWardenModel" "outs" "[I", .fieldLink RX7 81 "PortWardenModel" "waits" "[I", .fieldLink RX7 93 "PortWardenModel" "ahead" "[I", .fieldLink RX7 51 "PortWardenModel" "sending" "[I"] ++ wsX70)
def wsX7_erase_r1 : List Cond := [Cond.fieldLink RX7 33 "PortWardenModel" "stored" "[I", Cond.fieldLink RX7 26 "PortWardenModel" "store" "[I", Cond.methodLink RX7 122 yX7_isPlain, Cond.static yX7_isPlain, Cond.initialized RX7, Cond.code yX7_isPlain cX7_isPlain 1 (some .boolean), Cond.methodLink RX7 126 yX7_add, Cond.instanceMethod yX7_add, Cond.selects RX7 yX7_add yX7_add, Cond.code yX7_add cX7_add 2 none, Cond.fieldLink RX7 108 "PortWardenModel" "row" "[I", Cond.fieldLink RX7 111 "PortWardenModel" "rowSize" "I", Cond.methodLink RX7 141 yX7_echo, Cond.instanceMethod yX7_echo, Cond.selects RX7 yX7_echo yX7_echo, Cond.code yX7_echo cX7_echo 3 none, Cond.fieldLink RX7 45 "PortWardenModel" "outs" "[I", Cond.fieldLink RX7 105 "PortWardenModel" "counts" "[I", Cond.methodLink RX7 130 yX7_on, Cond.instanceMethod yX7_on, Cond.selects RX7 yX7_on yX7_on, Cond.code yX7_on cX7_on 3 (some .boolean), Cond.fieldLink RX7 13 "PortWardenModel" "modes" "[I", Cond.methodLink RX7 134 yX7_give]
def wsX7_erase_r2 : List Cond := [Cond.instanceMethod yX7_give, Cond.selects RX7 yX7_give yX7_give, Cond.code yX7_give cX7_give 3 none, Cond.fieldLink RX7 42 "PortWardenModel" "out" "[I", Cond.fieldLink RX7 60 "PortWardenModel" "columns" "[I", Cond.methodLink RX7 118 yX7_column1, Cond.instanceMethod yX7_column1, Cond.selects RX7 yX7_column1 yX7_column1, Cond.code yX7_column1 cX7_column1 3 (some .int)]
def wsX7_erase : List Cond := .code yX7_erase cX7_erase 5 none :: ((wsX7_erase_r1 ++ wsX7_erase_r2) ++ wsX70)
def wsX7_openLine : List Cond := .code yX7_openLine cX7_openLine 2 (some .boolean) :: ([.fieldLink RX7 33 "PortWardenModel" "stored" "[I", .fieldLink RX7 36 "PortWardenModel" "released" "[I"] ++ wsX70)
def wsX7_lastEntry : List Cond := .code yX7_lastEntry cX7_lastEntry 2 (some .int) :: ([.fieldLink RX7 26 "PortWardenModel" "store" "[I", .fieldLink RX7 33 "PortWardenModel" "stored" "[I"] ++ wsX70)
def wsX7_lastBlank : List Cond := .code yX7_lastBlank cX7_lastBlank 2 (some .boolean) :: ([.methodLink RX7 159 yX7_openLine, .instanceMethod yX7_openLine, .selects RX7 yX7_openLine yX7_openLine, .initialized RX7, .code yX7_openLine cX7_openLine 2 (some .boolean), .fieldLink RX7 33 "PortWardenModel" "stored" "[I", .fieldLink RX7 36 "PortWardenModel" "released" "[I", .methodLink RX7 162 yX7_lastEntry, .instanceMethod yX7_lastEntry, .selects RX7 yX7_lastEntry yX7_lastEntry, .code yX7_lastEntry cX7_lastEntry 2 (some .int), .fieldLink RX7 26 "PortWardenModel" "store" "[I"] ++ wsX70)
def wsX7_editing_r1 : List Cond := [Cond.methodLink RX7 147 yX7_mode1, Cond.instanceMethod yX7_mode1, Cond.selects RX7 yX7_mode1 yX7_mode1, Cond.initialized RX7, Cond.code yX7_mode1 cX7_mode1 3 (some .int), Cond.fieldLink RX7 13 "PortWardenModel" "modes" "[I", Cond.methodLink RX7 159 yX7_openLine, Cond.instanceMethod yX7_openLine, Cond.selects RX7 yX7_openLine yX7_openLine, Cond.code yX7_openLine cX7_openLine 2 (some .boolean), Cond.fieldLink RX7 33 "PortWardenModel" "stored" "[I", Cond.fieldLink RX7 36 "PortWardenModel" "released" "[I", Cond.methodLink RX7 165 yX7_erase, Cond.instanceMethod yX7_erase, Cond.selects RX7 yX7_erase yX7_erase, Cond.code yX7_erase cX7_erase 5 none, Cond.fieldLink RX7 26 "PortWardenModel" "store" "[I", Cond.methodLink RX7 122 yX7_isPlain, Cond.static yX7_isPlain, Cond.code yX7_isPlain cX7_isPlain 1 (some .boolean), Cond.methodLink RX7 126 yX7_add, Cond.instanceMethod yX7_add, Cond.selects RX7 yX7_add yX7_add, Cond.code yX7_add cX7_add 2 none]
def wsX7_editing_r2 : List Cond := [Cond.fieldLink RX7 108 "PortWardenModel" "row" "[I", Cond.fieldLink RX7 111 "PortWardenModel" "rowSize" "I", Cond.methodLink RX7 141 yX7_echo, Cond.instanceMethod yX7_echo, Cond.selects RX7 yX7_echo yX7_echo, Cond.code yX7_echo cX7_echo 3 none, Cond.fieldLink RX7 45 "PortWardenModel" "outs" "[I", Cond.fieldLink RX7 105 "PortWardenModel" "counts" "[I", Cond.methodLink RX7 130 yX7_on, Cond.instanceMethod yX7_on, Cond.selects RX7 yX7_on yX7_on, Cond.code yX7_on cX7_on 3 (some .boolean), Cond.methodLink RX7 134 yX7_give, Cond.instanceMethod yX7_give, Cond.selects RX7 yX7_give yX7_give, Cond.code yX7_give cX7_give 3 none, Cond.fieldLink RX7 42 "PortWardenModel" "out" "[I", Cond.fieldLink RX7 60 "PortWardenModel" "columns" "[I", Cond.methodLink RX7 118 yX7_column1, Cond.instanceMethod yX7_column1, Cond.selects RX7 yX7_column1 yX7_column1, Cond.code yX7_column1 cX7_column1 3 (some .int), Cond.methodLink RX7 168 yX7_lastBlank, Cond.instanceMethod yX7_lastBlank]
def wsX7_editing_r3 : List Cond := [Cond.selects RX7 yX7_lastBlank yX7_lastBlank, Cond.code yX7_lastBlank cX7_lastBlank 2 (some .boolean), Cond.methodLink RX7 162 yX7_lastEntry, Cond.instanceMethod yX7_lastEntry, Cond.selects RX7 yX7_lastEntry yX7_lastEntry, Cond.code yX7_lastEntry cX7_lastEntry 2 (some .int), Cond.methodLink RX7 156 yX7_flowDown, Cond.instanceMethod yX7_flowDown, Cond.selects RX7 yX7_flowDown yX7_flowDown, Cond.code yX7_flowDown cX7_flowDown 2 none, Cond.fieldLink RX7 63 "PortWardenModel" "full" "[Z", Cond.fieldLink RX7 66 "PortWardenModel" "flow" "[I"]
def wsX7_editing : List Cond := .code yX7_editing cX7_editing 3 none :: ((wsX7_editing_r1 ++ (wsX7_editing_r2 ++ wsX7_editing_r3)) ++ wsX70)
def wsX7_reprint_r1 : List Cond := [Cond.fieldLink RX7 36 "PortWardenModel" "released" "[I", Cond.fieldLink RX7 33 "PortWardenModel" "stored" "[I", Cond.fieldLink RX7 26 "PortWardenModel" "store" "[I", Cond.methodLink RX7 138 yX7_addForm, Cond.instanceMethod yX7_addForm, Cond.selects RX7 yX7_addForm yX7_addForm, Cond.initialized RX7, Cond.code yX7_addForm cX7_addForm 2 none, Cond.methodLink RX7 122 yX7_isPlain, Cond.static yX7_isPlain, Cond.code yX7_isPlain cX7_isPlain 1 (some .boolean), Cond.methodLink RX7 126 yX7_add, Cond.instanceMethod yX7_add, Cond.selects RX7 yX7_add yX7_add, Cond.code yX7_add cX7_add 2 none, Cond.fieldLink RX7 108 "PortWardenModel" "row" "[I", Cond.fieldLink RX7 111 "PortWardenModel" "rowSize" "I", Cond.methodLink RX7 141 yX7_echo, Cond.instanceMethod yX7_echo, Cond.selects RX7 yX7_echo yX7_echo, Cond.code yX7_echo cX7_echo 3 none, Cond.fieldLink RX7 45 "PortWardenModel" "outs" "[I", Cond.fieldLink RX7 105 "PortWardenModel" "counts" "[I", Cond.methodLink RX7 130 yX7_on]
def wsX7_reprint_r2 : List Cond := [Cond.instanceMethod yX7_on, Cond.selects RX7 yX7_on yX7_on, Cond.code yX7_on cX7_on 3 (some .boolean), Cond.fieldLink RX7 13 "PortWardenModel" "modes" "[I", Cond.methodLink RX7 134 yX7_give, Cond.instanceMethod yX7_give, Cond.selects RX7 yX7_give yX7_give, Cond.code yX7_give cX7_give 3 none, Cond.fieldLink RX7 42 "PortWardenModel" "out" "[I", Cond.fieldLink RX7 60 "PortWardenModel" "columns" "[I", Cond.methodLink RX7 118 yX7_column1, Cond.instanceMethod yX7_column1, Cond.selects RX7 yX7_column1 yX7_column1, Cond.code yX7_column1 cX7_column1 3 (some .int)]
def wsX7_reprint : List Cond := .code yX7_reprint cX7_reprint 4 none :: ((wsX7_reprint_r1 ++ wsX7_reprint_r2) ++ wsX70)
def wsX7_signal_r1 : List Cond := [Cond.fieldLink RX7 78 "PortWardenModel" "front" "[I", Cond.methodLink RX7 171 yX7_raise, Cond.instanceMethod yX7_raise, Cond.selects RX7 yX7_raise yX7_raise, Cond.initialized RX7, Cond.code yX7_raise cX7_raise 4 none, Cond.fieldLink RX7 99 "PortWardenModel" "groups" "[I", Cond.fieldLink RX7 102 "PortWardenModel" "raised" "[I", Cond.methodLink RX7 130 yX7_on, Cond.instanceMethod yX7_on, Cond.selects RX7 yX7_on yX7_on, Cond.code yX7_on cX7_on 3 (some .boolean), Cond.fieldLink RX7 13 "PortWardenModel" "modes" "[I", Cond.methodLink RX7 174 yX7_emptyStore, Cond.instanceMethod yX7_emptyStore, Cond.selects RX7 yX7_emptyStore yX7_emptyStore, Cond.code yX7_emptyStore cX7_emptyStore 2 none, Cond.fieldLink RX7 33 "PortWardenModel" "stored" "[I", Cond.fieldLink RX7 36 "PortWardenModel" "released" "[I", Cond.methodLink RX7 156 yX7_flowDown, Cond.instanceMethod yX7_flowDown, Cond.selects RX7 yX7_flowDown yX7_flowDown, Cond.code yX7_flowDown cX7_flowDown 2 none, Cond.fieldLink RX7 63 "PortWardenModel" "full" "[Z"]
def wsX7_signal_r2 : List Cond := [Cond.fieldLink RX7 66 "PortWardenModel" "flow" "[I", Cond.methodLink RX7 177 yX7_emptyOut, Cond.instanceMethod yX7_emptyOut, Cond.selects RX7 yX7_emptyOut yX7_emptyOut, Cond.code yX7_emptyOut cX7_emptyOut 3 none, Cond.fieldLink RX7 45 "PortWardenModel" "outs" "[I", Cond.fieldLink RX7 81 "PortWardenModel" "waits" "[I", Cond.fieldLink RX7 93 "PortWardenModel" "ahead" "[I", Cond.fieldLink RX7 51 "PortWardenModel" "sending" "[I", Cond.methodLink RX7 180 yX7_echoForm, Cond.instanceMethod yX7_echoForm, Cond.selects RX7 yX7_echoForm yX7_echoForm, Cond.code yX7_echoForm cX7_echoForm 3 none, Cond.methodLink RX7 138 yX7_addForm, Cond.instanceMethod yX7_addForm, Cond.selects RX7 yX7_addForm yX7_addForm, Cond.code yX7_addForm cX7_addForm 2 none, Cond.methodLink RX7 122 yX7_isPlain, Cond.static yX7_isPlain, Cond.code yX7_isPlain cX7_isPlain 1 (some .boolean), Cond.methodLink RX7 126 yX7_add, Cond.instanceMethod yX7_add, Cond.selects RX7 yX7_add yX7_add, Cond.code yX7_add cX7_add 2 none]
def wsX7_signal_r3 : List Cond := [Cond.fieldLink RX7 108 "PortWardenModel" "row" "[I", Cond.fieldLink RX7 111 "PortWardenModel" "rowSize" "I", Cond.methodLink RX7 141 yX7_echo, Cond.instanceMethod yX7_echo, Cond.selects RX7 yX7_echo yX7_echo, Cond.code yX7_echo cX7_echo 3 none, Cond.fieldLink RX7 105 "PortWardenModel" "counts" "[I", Cond.methodLink RX7 134 yX7_give, Cond.instanceMethod yX7_give, Cond.selects RX7 yX7_give yX7_give, Cond.code yX7_give cX7_give 3 none, Cond.fieldLink RX7 42 "PortWardenModel" "out" "[I", Cond.fieldLink RX7 60 "PortWardenModel" "columns" "[I", Cond.methodLink RX7 118 yX7_column1, Cond.instanceMethod yX7_column1, Cond.selects RX7 yX7_column1 yX7_column1, Cond.code yX7_column1 cX7_column1 3 (some .int)]
def wsX7_signal : List Cond := .code yX7_signal cX7_signal 4 none :: ((wsX7_signal_r1 ++ (wsX7_signal_r2 ++ wsX7_signal_r3)) ++ wsX70)
def wsX7_asItIs_r1 : List Cond := [Cond.fieldLink RX7 57 "PortWardenModel" "literal" "[Z", Cond.methodLink RX7 183 yX7_comesIn, Cond.instanceMethod yX7_comesIn, Cond.selects RX7 yX7_comesIn yX7_comesIn, Cond.initialized RX7, Cond.code yX7_comesIn cX7_comesIn 5 (some .boolean), Cond.fieldLink RX7 33 "PortWardenModel" "stored" "[I", Cond.fieldLink RX7 105 "PortWardenModel" "counts" "[I", Cond.fieldLink RX7 26 "PortWardenModel" "store" "[I", Cond.fieldLink RX7 29 "PortWardenModel" "plain" "[Z", Cond.fieldLink RX7 39 "PortWardenModel" "ticks" "[I", Cond.fieldLink RX7 36 "PortWardenModel" "released" "[I", Cond.methodLink RX7 144 yX7_isCanon, Cond.instanceMethod yX7_isCanon, Cond.selects RX7 yX7_isCanon yX7_isCanon, Cond.code yX7_isCanon cX7_isCanon 2 (some .boolean), Cond.methodLink RX7 130 yX7_on, Cond.instanceMethod yX7_on, Cond.selects RX7 yX7_on yX7_on, Cond.code yX7_on cX7_on 3 (some .boolean), Cond.fieldLink RX7 13 "PortWardenModel" "modes" "[I", Cond.methodLink RX7 150 yX7_release, Cond.instanceMethod yX7_release, Cond.selects RX7 yX7_release yX7_release]
def wsX7_asItIs_r2 : List Cond := [Cond.code yX7_release cX7_release 4 none, Cond.methodLink RX7 147 yX7_mode1, Cond.instanceMethod yX7_mode1, Cond.selects RX7 yX7_mode1 yX7_mode1, Cond.code yX7_mode1 cX7_mode1 3 (some .int), Cond.methodLink RX7 153 yX7_flowUp, Cond.instanceMethod yX7_flowUp, Cond.selects RX7 yX7_flowUp yX7_flowUp, Cond.code yX7_flowUp cX7_flowUp 2 none, Cond.fieldLink RX7 63 "PortWardenModel" "full" "[Z", Cond.fieldLink RX7 66 "PortWardenModel" "flow" "[I", Cond.methodLink RX7 180 yX7_echoForm, Cond.instanceMethod yX7_echoForm, Cond.selects RX7 yX7_echoForm yX7_echoForm, Cond.code yX7_echoForm cX7_echoForm 3 none, Cond.methodLink RX7 138 yX7_addForm, Cond.instanceMethod yX7_addForm, Cond.selects RX7 yX7_addForm yX7_addForm, Cond.code yX7_addForm cX7_addForm 2 none, Cond.methodLink RX7 122 yX7_isPlain, Cond.static yX7_isPlain, Cond.code yX7_isPlain cX7_isPlain 1 (some .boolean), Cond.methodLink RX7 126 yX7_add, Cond.instanceMethod yX7_add]
def wsX7_asItIs_r3 : List Cond := [Cond.selects RX7 yX7_add yX7_add, Cond.code yX7_add cX7_add 2 none, Cond.fieldLink RX7 108 "PortWardenModel" "row" "[I", Cond.fieldLink RX7 111 "PortWardenModel" "rowSize" "I", Cond.methodLink RX7 141 yX7_echo, Cond.instanceMethod yX7_echo, Cond.selects RX7 yX7_echo yX7_echo, Cond.code yX7_echo cX7_echo 3 none, Cond.fieldLink RX7 45 "PortWardenModel" "outs" "[I", Cond.methodLink RX7 134 yX7_give, Cond.instanceMethod yX7_give, Cond.selects RX7 yX7_give yX7_give, Cond.code yX7_give cX7_give 3 none, Cond.fieldLink RX7 42 "PortWardenModel" "out" "[I", Cond.fieldLink RX7 60 "PortWardenModel" "columns" "[I", Cond.methodLink RX7 118 yX7_column1, Cond.instanceMethod yX7_column1, Cond.selects RX7 yX7_column1 yX7_column1, Cond.code yX7_column1 cX7_column1 3 (some .int)]
def wsX7_asItIs : List Cond := .code yX7_asItIs cX7_asItIs 3 none :: ((wsX7_asItIs_r1 ++ (wsX7_asItIs_r2 ++ wsX7_asItIs_r3)) ++ wsX70)
def wsX7_takes_r1 : List Cond := [Cond.fieldLink RX7 105 "PortWardenModel" "counts" "[I", Cond.fieldLink RX7 57 "PortWardenModel" "literal" "[Z", Cond.fieldLink RX7 54 "PortWardenModel" "outHeld" "[Z", Cond.methodLink RX7 130 yX7_on, Cond.instanceMethod yX7_on, Cond.selects RX7 yX7_on yX7_on, Cond.initialized RX7, Cond.code yX7_on cX7_on 3 (some .boolean), Cond.fieldLink RX7 13 "PortWardenModel" "modes" "[I", Cond.methodLink RX7 147 yX7_mode1, Cond.instanceMethod yX7_mode1, Cond.selects RX7 yX7_mode1 yX7_mode1, Cond.code yX7_mode1 cX7_mode1 3 (some .int), Cond.methodLink RX7 187 yX7_signal, Cond.instanceMethod yX7_signal, Cond.selects RX7 yX7_signal yX7_signal, Cond.code yX7_signal cX7_signal 4 none, Cond.fieldLink RX7 78 "PortWardenModel" "front" "[I", Cond.methodLink RX7 171 yX7_raise, Cond.instanceMethod yX7_raise, Cond.selects RX7 yX7_raise yX7_raise, Cond.code yX7_raise cX7_raise 4 none, Cond.fieldLink RX7 99 "PortWardenModel" "groups" "[I", Cond.fieldLink RX7 102 "PortWardenModel" "raised" "[I"]
def wsX7_takes_r2 : List Cond := [Cond.methodLink RX7 174 yX7_emptyStore, Cond.instanceMethod yX7_emptyStore, Cond.selects RX7 yX7_emptyStore yX7_emptyStore, Cond.code yX7_emptyStore cX7_emptyStore 2 none, Cond.fieldLink RX7 33 "PortWardenModel" "stored" "[I", Cond.fieldLink RX7 36 "PortWardenModel" "released" "[I", Cond.methodLink RX7 156 yX7_flowDown, Cond.instanceMethod yX7_flowDown, Cond.selects RX7 yX7_flowDown yX7_flowDown, Cond.code yX7_flowDown cX7_flowDown 2 none, Cond.fieldLink RX7 63 "PortWardenModel" "full" "[Z", Cond.fieldLink RX7 66 "PortWardenModel" "flow" "[I", Cond.methodLink RX7 177 yX7_emptyOut, Cond.instanceMethod yX7_emptyOut, Cond.selects RX7 yX7_emptyOut yX7_emptyOut, Cond.code yX7_emptyOut cX7_emptyOut 3 none, Cond.fieldLink RX7 45 "PortWardenModel" "outs" "[I", Cond.fieldLink RX7 81 "PortWardenModel" "waits" "[I", Cond.fieldLink RX7 93 "PortWardenModel" "ahead" "[I", Cond.fieldLink RX7 51 "PortWardenModel" "sending" "[I", Cond.methodLink RX7 180 yX7_echoForm, Cond.instanceMethod yX7_echoForm, Cond.selects RX7 yX7_echoForm yX7_echoForm, Cond.code yX7_echoForm cX7_echoForm 3 none]
def wsX7_takes_r3 : List Cond := [Cond.methodLink RX7 138 yX7_addForm, Cond.instanceMethod yX7_addForm, Cond.selects RX7 yX7_addForm yX7_addForm, Cond.code yX7_addForm cX7_addForm 2 none, Cond.methodLink RX7 122 yX7_isPlain, Cond.static yX7_isPlain, Cond.code yX7_isPlain cX7_isPlain 1 (some .boolean), Cond.methodLink RX7 126 yX7_add, Cond.instanceMethod yX7_add, Cond.selects RX7 yX7_add yX7_add, Cond.code yX7_add cX7_add 2 none, Cond.fieldLink RX7 108 "PortWardenModel" "row" "[I", Cond.fieldLink RX7 111 "PortWardenModel" "rowSize" "I", Cond.methodLink RX7 141 yX7_echo, Cond.instanceMethod yX7_echo, Cond.selects RX7 yX7_echo yX7_echo, Cond.code yX7_echo cX7_echo 3 none, Cond.methodLink RX7 134 yX7_give, Cond.instanceMethod yX7_give, Cond.selects RX7 yX7_give yX7_give, Cond.code yX7_give cX7_give 3 none, Cond.fieldLink RX7 42 "PortWardenModel" "out" "[I", Cond.fieldLink RX7 60 "PortWardenModel" "columns" "[I", Cond.methodLink RX7 118 yX7_column1]
def wsX7_takes_r4 : List Cond := [Cond.instanceMethod yX7_column1, Cond.selects RX7 yX7_column1 yX7_column1, Cond.code yX7_column1 cX7_column1 3 (some .int), Cond.methodLink RX7 191 yX7_asItIs, Cond.instanceMethod yX7_asItIs, Cond.selects RX7 yX7_asItIs yX7_asItIs, Cond.code yX7_asItIs cX7_asItIs 3 none, Cond.methodLink RX7 183 yX7_comesIn, Cond.instanceMethod yX7_comesIn, Cond.selects RX7 yX7_comesIn yX7_comesIn, Cond.code yX7_comesIn cX7_comesIn 5 (some .boolean), Cond.fieldLink RX7 26 "PortWardenModel" "store" "[I", Cond.fieldLink RX7 29 "PortWardenModel" "plain" "[Z", Cond.fieldLink RX7 39 "PortWardenModel" "ticks" "[I", Cond.methodLink RX7 144 yX7_isCanon, Cond.instanceMethod yX7_isCanon, Cond.selects RX7 yX7_isCanon yX7_isCanon, Cond.code yX7_isCanon cX7_isCanon 2 (some .boolean), Cond.methodLink RX7 150 yX7_release, Cond.instanceMethod yX7_release, Cond.selects RX7 yX7_release yX7_release, Cond.code yX7_release cX7_release 4 none, Cond.methodLink RX7 153 yX7_flowUp, Cond.instanceMethod yX7_flowUp]
def wsX7_takes_r5 : List Cond := [Cond.selects RX7 yX7_flowUp yX7_flowUp, Cond.code yX7_flowUp cX7_flowUp 2 none, Cond.methodLink RX7 194 yX7_editing, Cond.instanceMethod yX7_editing, Cond.selects RX7 yX7_editing yX7_editing, Cond.code yX7_editing cX7_editing 3 none, Cond.methodLink RX7 159 yX7_openLine, Cond.instanceMethod yX7_openLine, Cond.selects RX7 yX7_openLine yX7_openLine, Cond.code yX7_openLine cX7_openLine 2 (some .boolean), Cond.methodLink RX7 165 yX7_erase, Cond.instanceMethod yX7_erase, Cond.selects RX7 yX7_erase yX7_erase, Cond.code yX7_erase cX7_erase 5 none, Cond.methodLink RX7 168 yX7_lastBlank, Cond.instanceMethod yX7_lastBlank, Cond.selects RX7 yX7_lastBlank yX7_lastBlank, Cond.code yX7_lastBlank cX7_lastBlank 2 (some .boolean), Cond.methodLink RX7 162 yX7_lastEntry, Cond.instanceMethod yX7_lastEntry, Cond.selects RX7 yX7_lastEntry yX7_lastEntry, Cond.code yX7_lastEntry cX7_lastEntry 2 (some .int), Cond.methodLink RX7 197 yX7_reprint, Cond.instanceMethod yX7_reprint]
def wsX7_takes_r6 : List Cond := [Cond.selects RX7 yX7_reprint yX7_reprint, Cond.code yX7_reprint cX7_reprint 4 none]
def wsX7_takes : List Cond := .code yX7_takes cX7_takes 6 none :: ((wsX7_takes_r1 ++ (wsX7_takes_r2 ++ (wsX7_takes_r3 ++ (wsX7_takes_r4 ++ (wsX7_takes_r5 ++ wsX7_takes_r6))))) ++ wsX70)
def wsX7_pass_r1 : List Cond := [Cond.fieldLink RX7 23 "PortWardenModel" "coming" "[I", Cond.fieldLink RX7 17 "PortWardenModel" "comes" "[I", Cond.fieldLink RX7 20 "PortWardenModel" "comesFlag" "[I", Cond.methodLink RX7 200 yX7_takes, Cond.instanceMethod yX7_takes, Cond.selects RX7 yX7_takes yX7_takes, Cond.initialized RX7, Cond.code yX7_takes cX7_takes 6 none, Cond.fieldLink RX7 105 "PortWardenModel" "counts" "[I", Cond.fieldLink RX7 57 "PortWardenModel" "literal" "[Z", Cond.fieldLink RX7 54 "PortWardenModel" "outHeld" "[Z", Cond.methodLink RX7 130 yX7_on, Cond.instanceMethod yX7_on, Cond.selects RX7 yX7_on yX7_on, Cond.code yX7_on cX7_on 3 (some .boolean), Cond.fieldLink RX7 13 "PortWardenModel" "modes" "[I", Cond.methodLink RX7 147 yX7_mode1, Cond.instanceMethod yX7_mode1, Cond.selects RX7 yX7_mode1 yX7_mode1, Cond.code yX7_mode1 cX7_mode1 3 (some .int), Cond.methodLink RX7 187 yX7_signal, Cond.instanceMethod yX7_signal, Cond.selects RX7 yX7_signal yX7_signal, Cond.code yX7_signal cX7_signal 4 none]
def wsX7_pass_r2 : List Cond := [Cond.fieldLink RX7 78 "PortWardenModel" "front" "[I", Cond.methodLink RX7 171 yX7_raise, Cond.instanceMethod yX7_raise, Cond.selects RX7 yX7_raise yX7_raise, Cond.code yX7_raise cX7_raise 4 none, Cond.fieldLink RX7 99 "PortWardenModel" "groups" "[I", Cond.fieldLink RX7 102 "PortWardenModel" "raised" "[I", Cond.methodLink RX7 174 yX7_emptyStore, Cond.instanceMethod yX7_emptyStore, Cond.selects RX7 yX7_emptyStore yX7_emptyStore, Cond.code yX7_emptyStore cX7_emptyStore 2 none, Cond.fieldLink RX7 33 "PortWardenModel" "stored" "[I", Cond.fieldLink RX7 36 "PortWardenModel" "released" "[I", Cond.methodLink RX7 156 yX7_flowDown, Cond.instanceMethod yX7_flowDown, Cond.selects RX7 yX7_flowDown yX7_flowDown, Cond.code yX7_flowDown cX7_flowDown 2 none, Cond.fieldLink RX7 63 "PortWardenModel" "full" "[Z", Cond.fieldLink RX7 66 "PortWardenModel" "flow" "[I", Cond.methodLink RX7 177 yX7_emptyOut, Cond.instanceMethod yX7_emptyOut, Cond.selects RX7 yX7_emptyOut yX7_emptyOut, Cond.code yX7_emptyOut cX7_emptyOut 3 none, Cond.fieldLink RX7 45 "PortWardenModel" "outs" "[I"]
def wsX7_pass_r3 : List Cond := [Cond.fieldLink RX7 81 "PortWardenModel" "waits" "[I", Cond.fieldLink RX7 93 "PortWardenModel" "ahead" "[I", Cond.fieldLink RX7 51 "PortWardenModel" "sending" "[I", Cond.methodLink RX7 180 yX7_echoForm, Cond.instanceMethod yX7_echoForm, Cond.selects RX7 yX7_echoForm yX7_echoForm, Cond.code yX7_echoForm cX7_echoForm 3 none, Cond.methodLink RX7 138 yX7_addForm, Cond.instanceMethod yX7_addForm, Cond.selects RX7 yX7_addForm yX7_addForm, Cond.code yX7_addForm cX7_addForm 2 none, Cond.methodLink RX7 122 yX7_isPlain, Cond.static yX7_isPlain, Cond.code yX7_isPlain cX7_isPlain 1 (some .boolean), Cond.methodLink RX7 126 yX7_add, Cond.instanceMethod yX7_add, Cond.selects RX7 yX7_add yX7_add, Cond.code yX7_add cX7_add 2 none, Cond.fieldLink RX7 108 "PortWardenModel" "row" "[I", Cond.fieldLink RX7 111 "PortWardenModel" "rowSize" "I", Cond.methodLink RX7 141 yX7_echo, Cond.instanceMethod yX7_echo, Cond.selects RX7 yX7_echo yX7_echo, Cond.code yX7_echo cX7_echo 3 none]
def wsX7_pass_r4 : List Cond := [Cond.methodLink RX7 134 yX7_give, Cond.instanceMethod yX7_give, Cond.selects RX7 yX7_give yX7_give, Cond.code yX7_give cX7_give 3 none, Cond.fieldLink RX7 42 "PortWardenModel" "out" "[I", Cond.fieldLink RX7 60 "PortWardenModel" "columns" "[I", Cond.methodLink RX7 118 yX7_column1, Cond.instanceMethod yX7_column1, Cond.selects RX7 yX7_column1 yX7_column1, Cond.code yX7_column1 cX7_column1 3 (some .int), Cond.methodLink RX7 191 yX7_asItIs, Cond.instanceMethod yX7_asItIs, Cond.selects RX7 yX7_asItIs yX7_asItIs, Cond.code yX7_asItIs cX7_asItIs 3 none, Cond.methodLink RX7 183 yX7_comesIn, Cond.instanceMethod yX7_comesIn, Cond.selects RX7 yX7_comesIn yX7_comesIn, Cond.code yX7_comesIn cX7_comesIn 5 (some .boolean), Cond.fieldLink RX7 26 "PortWardenModel" "store" "[I", Cond.fieldLink RX7 29 "PortWardenModel" "plain" "[Z", Cond.fieldLink RX7 39 "PortWardenModel" "ticks" "[I", Cond.methodLink RX7 144 yX7_isCanon, Cond.instanceMethod yX7_isCanon, Cond.selects RX7 yX7_isCanon yX7_isCanon]
def wsX7_pass_r5 : List Cond := [Cond.code yX7_isCanon cX7_isCanon 2 (some .boolean), Cond.methodLink RX7 150 yX7_release, Cond.instanceMethod yX7_release, Cond.selects RX7 yX7_release yX7_release, Cond.code yX7_release cX7_release 4 none, Cond.methodLink RX7 153 yX7_flowUp, Cond.instanceMethod yX7_flowUp, Cond.selects RX7 yX7_flowUp yX7_flowUp, Cond.code yX7_flowUp cX7_flowUp 2 none, Cond.methodLink RX7 194 yX7_editing, Cond.instanceMethod yX7_editing, Cond.selects RX7 yX7_editing yX7_editing, Cond.code yX7_editing cX7_editing 3 none, Cond.methodLink RX7 159 yX7_openLine, Cond.instanceMethod yX7_openLine, Cond.selects RX7 yX7_openLine yX7_openLine, Cond.code yX7_openLine cX7_openLine 2 (some .boolean), Cond.methodLink RX7 165 yX7_erase, Cond.instanceMethod yX7_erase, Cond.selects RX7 yX7_erase yX7_erase, Cond.code yX7_erase cX7_erase 5 none, Cond.methodLink RX7 168 yX7_lastBlank, Cond.instanceMethod yX7_lastBlank, Cond.selects RX7 yX7_lastBlank yX7_lastBlank]
def wsX7_pass_r6 : List Cond := [Cond.code yX7_lastBlank cX7_lastBlank 2 (some .boolean), Cond.methodLink RX7 162 yX7_lastEntry, Cond.instanceMethod yX7_lastEntry, Cond.selects RX7 yX7_lastEntry yX7_lastEntry, Cond.code yX7_lastEntry cX7_lastEntry 2 (some .int), Cond.methodLink RX7 197 yX7_reprint, Cond.instanceMethod yX7_reprint, Cond.selects RX7 yX7_reprint yX7_reprint, Cond.code yX7_reprint cX7_reprint 4 none]
def wsX7_pass : List Cond := .code yX7_pass cX7_pass 3 none :: ((wsX7_pass_r1 ++ (wsX7_pass_r2 ++ (wsX7_pass_r3 ++ (wsX7_pass_r4 ++ (wsX7_pass_r5 ++ wsX7_pass_r6))))) ++ wsX70)
def wsX7_sets : List Cond := .code yX7_sets cX7_sets 6 none :: ([.fieldLink RX7 13 "PortWardenModel" "modes" "[I", .fieldLink RX7 33 "PortWardenModel" "stored" "[I", .fieldLink RX7 26 "PortWardenModel" "store" "[I", .fieldLink RX7 29 "PortWardenModel" "plain" "[Z", .fieldLink RX7 36 "PortWardenModel" "released" "[I", .methodLink RX7 156 yX7_flowDown, .instanceMethod yX7_flowDown, .selects RX7 yX7_flowDown yX7_flowDown, .initialized RX7, .code yX7_flowDown cX7_flowDown 2 none, .fieldLink RX7 63 "PortWardenModel" "full" "[Z", .fieldLink RX7 66 "PortWardenModel" "flow" "[I"] ++ wsX70)
def wsX7_settle_r1 : List Cond := [Cond.fieldLink RX7 81 "PortWardenModel" "waits" "[I", Cond.fieldLink RX7 93 "PortWardenModel" "ahead" "[I", Cond.fieldLink RX7 84 "PortWardenModel" "waitMode" "[I", Cond.fieldLink RX7 87 "PortWardenModel" "waitValue" "[I", Cond.fieldLink RX7 90 "PortWardenModel" "waitTakes" "[Z", Cond.methodLink RX7 174 yX7_emptyStore, Cond.instanceMethod yX7_emptyStore, Cond.selects RX7 yX7_emptyStore yX7_emptyStore, Cond.initialized RX7, Cond.code yX7_emptyStore cX7_emptyStore 2 none, Cond.fieldLink RX7 33 "PortWardenModel" "stored" "[I", Cond.fieldLink RX7 36 "PortWardenModel" "released" "[I", Cond.methodLink RX7 156 yX7_flowDown, Cond.instanceMethod yX7_flowDown, Cond.selects RX7 yX7_flowDown yX7_flowDown, Cond.code yX7_flowDown cX7_flowDown 2 none, Cond.fieldLink RX7 63 "PortWardenModel" "full" "[Z", Cond.fieldLink RX7 66 "PortWardenModel" "flow" "[I", Cond.methodLink RX7 203 yX7_sets, Cond.instanceMethod yX7_sets, Cond.selects RX7 yX7_sets yX7_sets, Cond.code yX7_sets cX7_sets 6 none, Cond.fieldLink RX7 13 "PortWardenModel" "modes" "[I", Cond.fieldLink RX7 26 "PortWardenModel" "store" "[I"]
def wsX7_settle_r2 : List Cond := [Cond.fieldLink RX7 29 "PortWardenModel" "plain" "[Z"]
def wsX7_settle : List Cond := .code yX7_settle cX7_settle 6 none :: ((wsX7_settle_r1 ++ wsX7_settle_r2) ++ wsX70)
def wsX7_emptyAll_r1 : List Cond := [Cond.fieldLink RX7 45 "PortWardenModel" "outs" "[I", Cond.fieldLink RX7 51 "PortWardenModel" "sending" "[I", Cond.fieldLink RX7 81 "PortWardenModel" "waits" "[I", Cond.fieldLink RX7 93 "PortWardenModel" "ahead" "[I", Cond.methodLink RX7 206 yX7_settle, Cond.instanceMethod yX7_settle, Cond.selects RX7 yX7_settle yX7_settle, Cond.initialized RX7, Cond.code yX7_settle cX7_settle 6 none, Cond.fieldLink RX7 84 "PortWardenModel" "waitMode" "[I", Cond.fieldLink RX7 87 "PortWardenModel" "waitValue" "[I", Cond.fieldLink RX7 90 "PortWardenModel" "waitTakes" "[Z", Cond.methodLink RX7 174 yX7_emptyStore, Cond.instanceMethod yX7_emptyStore, Cond.selects RX7 yX7_emptyStore yX7_emptyStore, Cond.code yX7_emptyStore cX7_emptyStore 2 none, Cond.fieldLink RX7 33 "PortWardenModel" "stored" "[I", Cond.fieldLink RX7 36 "PortWardenModel" "released" "[I", Cond.methodLink RX7 156 yX7_flowDown, Cond.instanceMethod yX7_flowDown, Cond.selects RX7 yX7_flowDown yX7_flowDown, Cond.code yX7_flowDown cX7_flowDown 2 none, Cond.fieldLink RX7 63 "PortWardenModel" "full" "[Z", Cond.fieldLink RX7 66 "PortWardenModel" "flow" "[I"]
def wsX7_emptyAll_r2 : List Cond := [Cond.methodLink RX7 203 yX7_sets, Cond.instanceMethod yX7_sets, Cond.selects RX7 yX7_sets yX7_sets, Cond.code yX7_sets cX7_sets 6 none, Cond.fieldLink RX7 13 "PortWardenModel" "modes" "[I", Cond.fieldLink RX7 26 "PortWardenModel" "store" "[I", Cond.fieldLink RX7 29 "PortWardenModel" "plain" "[Z"]
def wsX7_emptyAll : List Cond := .code yX7_emptyAll cX7_emptyAll 3 none :: ((wsX7_emptyAll_r1 ++ wsX7_emptyAll_r2) ++ wsX70)
def wsX7_receive : List Cond := .code yX7_receive cX7_receive 4 (some .boolean) :: ([.fieldLink RX7 7 "PortWardenModel" "thrownCode" "I", .fieldLink RX7 23 "PortWardenModel" "coming" "[I", .fieldLink RX7 105 "PortWardenModel" "counts" "[I", .fieldLink RX7 17 "PortWardenModel" "comes" "[I", .fieldLink RX7 20 "PortWardenModel" "comesFlag" "[I", .methodLink RX7 209 yX7_isPort, .static yX7_isPort, .initialized RX7, .code yX7_isPort cX7_isPort 1 (some .boolean)] ++ wsX70)
def wsX7_flowByte : List Cond := .code yX7_flowByte cX7_flowByte 3 (some .int) :: ([.fieldLink RX7 66 "PortWardenModel" "flow" "[I", .methodLink RX7 147 yX7_mode1, .instanceMethod yX7_mode1, .selects RX7 yX7_mode1 yX7_mode1, .initialized RX7, .code yX7_mode1 cX7_mode1 3 (some .int), .fieldLink RX7 13 "PortWardenModel" "modes" "[I"] ++ wsX70)
def wsX7_transmit_r1 : List Cond := [Cond.fieldLink RX7 7 "PortWardenModel" "thrownCode" "I", Cond.fieldLink RX7 66 "PortWardenModel" "flow" "[I", Cond.fieldLink RX7 54 "PortWardenModel" "outHeld" "[Z", Cond.fieldLink RX7 72 "PortWardenModel" "clears" "[Z", Cond.fieldLink RX7 51 "PortWardenModel" "sending" "[I", Cond.fieldLink RX7 48 "PortWardenModel" "sends" "[I", Cond.fieldLink RX7 81 "PortWardenModel" "waits" "[I", Cond.fieldLink RX7 93 "PortWardenModel" "ahead" "[I", Cond.fieldLink RX7 105 "PortWardenModel" "counts" "[I", Cond.methodLink RX7 209 yX7_isPort, Cond.static yX7_isPort, Cond.initialized RX7, Cond.code yX7_isPort cX7_isPort 1 (some .boolean), Cond.methodLink RX7 212 yX7_push, Cond.instanceMethod yX7_push, Cond.selects RX7 yX7_push yX7_push, Cond.code yX7_push cX7_push 3 none, Cond.fieldLink RX7 45 "PortWardenModel" "outs" "[I", Cond.fieldLink RX7 42 "PortWardenModel" "out" "[I", Cond.methodLink RX7 215 yX7_flowByte, Cond.instanceMethod yX7_flowByte, Cond.selects RX7 yX7_flowByte yX7_flowByte, Cond.code yX7_flowByte cX7_flowByte 3 (some .int), Cond.methodLink RX7 147 yX7_mode1]
def wsX7_transmit_r2 : List Cond := [Cond.instanceMethod yX7_mode1, Cond.selects RX7 yX7_mode1 yX7_mode1, Cond.code yX7_mode1 cX7_mode1 3 (some .int), Cond.fieldLink RX7 13 "PortWardenModel" "modes" "[I", Cond.methodLink RX7 206 yX7_settle, Cond.instanceMethod yX7_settle, Cond.selects RX7 yX7_settle yX7_settle, Cond.code yX7_settle cX7_settle 6 none, Cond.fieldLink RX7 84 "PortWardenModel" "waitMode" "[I", Cond.fieldLink RX7 87 "PortWardenModel" "waitValue" "[I", Cond.fieldLink RX7 90 "PortWardenModel" "waitTakes" "[Z", Cond.methodLink RX7 174 yX7_emptyStore, Cond.instanceMethod yX7_emptyStore, Cond.selects RX7 yX7_emptyStore yX7_emptyStore, Cond.code yX7_emptyStore cX7_emptyStore 2 none, Cond.fieldLink RX7 33 "PortWardenModel" "stored" "[I", Cond.fieldLink RX7 36 "PortWardenModel" "released" "[I", Cond.methodLink RX7 156 yX7_flowDown, Cond.instanceMethod yX7_flowDown, Cond.selects RX7 yX7_flowDown yX7_flowDown, Cond.code yX7_flowDown cX7_flowDown 2 none, Cond.fieldLink RX7 63 "PortWardenModel" "full" "[Z", Cond.methodLink RX7 203 yX7_sets, Cond.instanceMethod yX7_sets]
def wsX7_transmit_r3 : List Cond := [Cond.selects RX7 yX7_sets yX7_sets, Cond.code yX7_sets cX7_sets 6 none, Cond.fieldLink RX7 26 "PortWardenModel" "store" "[I", Cond.fieldLink RX7 29 "PortWardenModel" "plain" "[Z"]
def wsX7_transmit : List Cond := .code yX7_transmit cX7_transmit 4 (some .int) :: ((wsX7_transmit_r1 ++ (wsX7_transmit_r2 ++ wsX7_transmit_r3)) ++ wsX70)
def wsX7_held : List Cond := .code yX7_held cX7_held 2 (some .int) :: ([.fieldLink RX7 7 "PortWardenModel" "thrownCode" "I", .fieldLink RX7 45 "PortWardenModel" "outs" "[I", .fieldLink RX7 51 "PortWardenModel" "sending" "[I", .fieldLink RX7 54 "PortWardenModel" "outHeld" "[Z", .fieldLink RX7 72 "PortWardenModel" "clears" "[Z", .methodLink RX7 209 yX7_isPort, .static yX7_isPort, .initialized RX7, .code yX7_isPort cX7_isPort 1 (some .boolean), .methodLink RX7 215 yX7_flowByte, .instanceMethod yX7_flowByte, .selects RX7 yX7_flowByte yX7_flowByte, .code yX7_flowByte cX7_flowByte 3 (some .int), .fieldLink RX7 66 "PortWardenModel" "flow" "[I", .methodLink RX7 147 yX7_mode1, .instanceMethod yX7_mode1, .selects RX7 yX7_mode1 yX7_mode1, .code yX7_mode1 cX7_mode1 3 (some .int), .fieldLink RX7 13 "PortWardenModel" "modes" "[I"] ++ wsX70)
def wsX7_carrier_r1 : List Cond := [Cond.fieldLink RX7 7 "PortWardenModel" "thrownCode" "I", Cond.fieldLink RX7 69 "PortWardenModel" "carriers" "[Z", Cond.fieldLink RX7 75 "PortWardenModel" "hung" "[Z", Cond.fieldLink RX7 78 "PortWardenModel" "front" "[I", Cond.methodLink RX7 209 yX7_isPort, Cond.static yX7_isPort, Cond.initialized RX7, Cond.code yX7_isPort cX7_isPort 1 (some .boolean), Cond.methodLink RX7 171 yX7_raise, Cond.instanceMethod yX7_raise, Cond.selects RX7 yX7_raise yX7_raise, Cond.code yX7_raise cX7_raise 4 none, Cond.fieldLink RX7 99 "PortWardenModel" "groups" "[I", Cond.fieldLink RX7 102 "PortWardenModel" "raised" "[I", Cond.methodLink RX7 218 yX7_emptyAll, Cond.instanceMethod yX7_emptyAll, Cond.selects RX7 yX7_emptyAll yX7_emptyAll, Cond.code yX7_emptyAll cX7_emptyAll 3 none, Cond.fieldLink RX7 45 "PortWardenModel" "outs" "[I", Cond.fieldLink RX7 51 "PortWardenModel" "sending" "[I", Cond.fieldLink RX7 81 "PortWardenModel" "waits" "[I", Cond.fieldLink RX7 93 "PortWardenModel" "ahead" "[I", Cond.methodLink RX7 206 yX7_settle, Cond.instanceMethod yX7_settle]
def wsX7_carrier_r2 : List Cond := [Cond.selects RX7 yX7_settle yX7_settle, Cond.code yX7_settle cX7_settle 6 none, Cond.fieldLink RX7 84 "PortWardenModel" "waitMode" "[I", Cond.fieldLink RX7 87 "PortWardenModel" "waitValue" "[I", Cond.fieldLink RX7 90 "PortWardenModel" "waitTakes" "[Z", Cond.methodLink RX7 174 yX7_emptyStore, Cond.instanceMethod yX7_emptyStore, Cond.selects RX7 yX7_emptyStore yX7_emptyStore, Cond.code yX7_emptyStore cX7_emptyStore 2 none, Cond.fieldLink RX7 33 "PortWardenModel" "stored" "[I", Cond.fieldLink RX7 36 "PortWardenModel" "released" "[I", Cond.methodLink RX7 156 yX7_flowDown, Cond.instanceMethod yX7_flowDown, Cond.selects RX7 yX7_flowDown yX7_flowDown, Cond.code yX7_flowDown cX7_flowDown 2 none, Cond.fieldLink RX7 63 "PortWardenModel" "full" "[Z", Cond.fieldLink RX7 66 "PortWardenModel" "flow" "[I", Cond.methodLink RX7 203 yX7_sets, Cond.instanceMethod yX7_sets, Cond.selects RX7 yX7_sets yX7_sets, Cond.code yX7_sets cX7_sets 6 none, Cond.fieldLink RX7 13 "PortWardenModel" "modes" "[I", Cond.fieldLink RX7 26 "PortWardenModel" "store" "[I", Cond.fieldLink RX7 29 "PortWardenModel" "plain" "[Z"]
def wsX7_carrier : List Cond := .code yX7_carrier cX7_carrier 4 (some .boolean) :: ((wsX7_carrier_r1 ++ wsX7_carrier_r2) ++ wsX70)
def wsX7_clear : List Cond := .code yX7_clear cX7_clear 3 (some .boolean) :: ([.fieldLink RX7 7 "PortWardenModel" "thrownCode" "I", .fieldLink RX7 72 "PortWardenModel" "clears" "[Z", .methodLink RX7 209 yX7_isPort, .static yX7_isPort, .initialized RX7, .code yX7_isPort cX7_isPort 1 (some .boolean)] ++ wsX70)
def wsX7_open : List Cond := .code yX7_open cX7_open 4 (some .boolean) :: ([.fieldLink RX7 7 "PortWardenModel" "thrownCode" "I", .fieldLink RX7 69 "PortWardenModel" "carriers" "[Z", .fieldLink RX7 96 "PortWardenModel" "opened" "[Z", .fieldLink RX7 75 "PortWardenModel" "hung" "[Z", .methodLink RX7 221 yX7_isProcess, .static yX7_isProcess, .initialized RX7, .code yX7_isProcess cX7_isProcess 1 (some .boolean), .methodLink RX7 209 yX7_isPort, .static yX7_isPort, .code yX7_isPort cX7_isPort 1 (some .boolean)] ++ wsX70)
def wsX7_close : List Cond := .code yX7_close cX7_close 3 (some .boolean) :: ([.fieldLink RX7 7 "PortWardenModel" "thrownCode" "I", .fieldLink RX7 96 "PortWardenModel" "opened" "[Z", .methodLink RX7 221 yX7_isProcess, .static yX7_isProcess, .initialized RX7, .code yX7_isProcess cX7_isProcess 1 (some .boolean), .methodLink RX7 209 yX7_isPort, .static yX7_isPort, .code yX7_isPort cX7_isPort 1 (some .boolean)] ++ wsX70)
def wsX7_join : List Cond := .code yX7_join cX7_join 3 (some .boolean) :: ([.fieldLink RX7 7 "PortWardenModel" "thrownCode" "I", .fieldLink RX7 99 "PortWardenModel" "groups" "[I", .methodLink RX7 221 yX7_isProcess, .static yX7_isProcess, .initialized RX7, .code yX7_isProcess cX7_isProcess 1 (some .boolean)] ++ wsX70)
def wsX7_foreground : List Cond := .code yX7_foreground cX7_foreground 3 (some .boolean) :: ([.fieldLink RX7 7 "PortWardenModel" "thrownCode" "I", .fieldLink RX7 78 "PortWardenModel" "front" "[I", .methodLink RX7 209 yX7_isPort, .static yX7_isPort, .initialized RX7, .code yX7_isPort cX7_isPort 1 (some .boolean)] ++ wsX70)
def wsX7_isBehind : List Cond := .code yX7_isBehind cX7_isBehind 3 (some .boolean) :: ([.fieldLink RX7 78 "PortWardenModel" "front" "[I", .fieldLink RX7 99 "PortWardenModel" "groups" "[I"] ++ wsX70)
def wsX7_write_r1 : List Cond := [Cond.fieldLink RX7 7 "PortWardenModel" "thrownCode" "I", Cond.fieldLink RX7 96 "PortWardenModel" "opened" "[Z", Cond.fieldLink RX7 75 "PortWardenModel" "hung" "[Z", Cond.fieldLink RX7 99 "PortWardenModel" "groups" "[I", Cond.fieldLink RX7 60 "PortWardenModel" "columns" "[I", Cond.fieldLink RX7 45 "PortWardenModel" "outs" "[I", Cond.methodLink RX7 221 yX7_isProcess, Cond.static yX7_isProcess, Cond.initialized RX7, Cond.code yX7_isProcess cX7_isProcess 1 (some .boolean), Cond.methodLink RX7 209 yX7_isPort, Cond.static yX7_isPort, Cond.code yX7_isPort cX7_isPort 1 (some .boolean), Cond.methodLink RX7 224 yX7_isBehind, Cond.instanceMethod yX7_isBehind, Cond.selects RX7 yX7_isBehind yX7_isBehind, Cond.code yX7_isBehind cX7_isBehind 3 (some .boolean), Cond.fieldLink RX7 78 "PortWardenModel" "front" "[I", Cond.methodLink RX7 130 yX7_on, Cond.instanceMethod yX7_on, Cond.selects RX7 yX7_on yX7_on, Cond.code yX7_on cX7_on 3 (some .boolean), Cond.fieldLink RX7 13 "PortWardenModel" "modes" "[I", Cond.methodLink RX7 171 yX7_raise]
def wsX7_write_r2 : List Cond := [Cond.instanceMethod yX7_raise, Cond.selects RX7 yX7_raise yX7_raise, Cond.code yX7_raise cX7_raise 4 none, Cond.fieldLink RX7 102 "PortWardenModel" "raised" "[I", Cond.methodLink RX7 134 yX7_give, Cond.instanceMethod yX7_give, Cond.selects RX7 yX7_give yX7_give, Cond.code yX7_give cX7_give 3 none, Cond.fieldLink RX7 42 "PortWardenModel" "out" "[I", Cond.methodLink RX7 118 yX7_column1, Cond.instanceMethod yX7_column1, Cond.selects RX7 yX7_column1 yX7_column1, Cond.code yX7_column1 cX7_column1 3 (some .int), Cond.methodLink RX7 212 yX7_push, Cond.instanceMethod yX7_push, Cond.selects RX7 yX7_push yX7_push, Cond.code yX7_push cX7_push 3 none, Cond.fieldLink RX7 51 "PortWardenModel" "sending" "[I", Cond.fieldLink RX7 48 "PortWardenModel" "sends" "[I"]
def wsX7_write : List Cond := .code yX7_write cX7_write 6 (some .int) :: ((wsX7_write_r1 ++ wsX7_write_r2) ++ wsX70)
def wsX7_read_r1 : List Cond := [Cond.fieldLink RX7 7 "PortWardenModel" "thrownCode" "I", Cond.fieldLink RX7 96 "PortWardenModel" "opened" "[Z", Cond.fieldLink RX7 99 "PortWardenModel" "groups" "[I", Cond.fieldLink RX7 36 "PortWardenModel" "released" "[I", Cond.fieldLink RX7 26 "PortWardenModel" "store" "[I", Cond.fieldLink RX7 33 "PortWardenModel" "stored" "[I", Cond.fieldLink RX7 29 "PortWardenModel" "plain" "[Z", Cond.fieldLink RX7 75 "PortWardenModel" "hung" "[Z", Cond.methodLink RX7 221 yX7_isProcess, Cond.static yX7_isProcess, Cond.initialized RX7, Cond.code yX7_isProcess cX7_isProcess 1 (some .boolean), Cond.methodLink RX7 209 yX7_isPort, Cond.static yX7_isPort, Cond.code yX7_isPort cX7_isPort 1 (some .boolean), Cond.methodLink RX7 227 yX7_pass, Cond.instanceMethod yX7_pass, Cond.selects RX7 yX7_pass yX7_pass, Cond.code yX7_pass cX7_pass 3 none, Cond.fieldLink RX7 23 "PortWardenModel" "coming" "[I", Cond.fieldLink RX7 17 "PortWardenModel" "comes" "[I", Cond.fieldLink RX7 20 "PortWardenModel" "comesFlag" "[I", Cond.methodLink RX7 200 yX7_takes, Cond.instanceMethod yX7_takes]
def wsX7_read_r2 : List Cond := [Cond.selects RX7 yX7_takes yX7_takes, Cond.code yX7_takes cX7_takes 6 none, Cond.fieldLink RX7 105 "PortWardenModel" "counts" "[I", Cond.fieldLink RX7 57 "PortWardenModel" "literal" "[Z", Cond.fieldLink RX7 54 "PortWardenModel" "outHeld" "[Z", Cond.methodLink RX7 130 yX7_on, Cond.instanceMethod yX7_on, Cond.selects RX7 yX7_on yX7_on, Cond.code yX7_on cX7_on 3 (some .boolean), Cond.fieldLink RX7 13 "PortWardenModel" "modes" "[I", Cond.methodLink RX7 147 yX7_mode1, Cond.instanceMethod yX7_mode1, Cond.selects RX7 yX7_mode1 yX7_mode1, Cond.code yX7_mode1 cX7_mode1 3 (some .int), Cond.methodLink RX7 187 yX7_signal, Cond.instanceMethod yX7_signal, Cond.selects RX7 yX7_signal yX7_signal, Cond.code yX7_signal cX7_signal 4 none, Cond.fieldLink RX7 78 "PortWardenModel" "front" "[I", Cond.methodLink RX7 171 yX7_raise, Cond.instanceMethod yX7_raise, Cond.selects RX7 yX7_raise yX7_raise, Cond.code yX7_raise cX7_raise 4 none, Cond.fieldLink RX7 102 "PortWardenModel" "raised" "[I"]
def wsX7_read_r3 : List Cond := [Cond.methodLink RX7 174 yX7_emptyStore, Cond.instanceMethod yX7_emptyStore, Cond.selects RX7 yX7_emptyStore yX7_emptyStore, Cond.code yX7_emptyStore cX7_emptyStore 2 none, Cond.methodLink RX7 156 yX7_flowDown, Cond.instanceMethod yX7_flowDown, Cond.selects RX7 yX7_flowDown yX7_flowDown, Cond.code yX7_flowDown cX7_flowDown 2 none, Cond.fieldLink RX7 63 "PortWardenModel" "full" "[Z", Cond.fieldLink RX7 66 "PortWardenModel" "flow" "[I", Cond.methodLink RX7 177 yX7_emptyOut, Cond.instanceMethod yX7_emptyOut, Cond.selects RX7 yX7_emptyOut yX7_emptyOut, Cond.code yX7_emptyOut cX7_emptyOut 3 none, Cond.fieldLink RX7 45 "PortWardenModel" "outs" "[I", Cond.fieldLink RX7 81 "PortWardenModel" "waits" "[I", Cond.fieldLink RX7 93 "PortWardenModel" "ahead" "[I", Cond.fieldLink RX7 51 "PortWardenModel" "sending" "[I", Cond.methodLink RX7 180 yX7_echoForm, Cond.instanceMethod yX7_echoForm, Cond.selects RX7 yX7_echoForm yX7_echoForm, Cond.code yX7_echoForm cX7_echoForm 3 none, Cond.methodLink RX7 138 yX7_addForm, Cond.instanceMethod yX7_addForm]
def wsX7_read_r4 : List Cond := [Cond.selects RX7 yX7_addForm yX7_addForm, Cond.code yX7_addForm cX7_addForm 2 none, Cond.methodLink RX7 122 yX7_isPlain, Cond.static yX7_isPlain, Cond.code yX7_isPlain cX7_isPlain 1 (some .boolean), Cond.methodLink RX7 126 yX7_add, Cond.instanceMethod yX7_add, Cond.selects RX7 yX7_add yX7_add, Cond.code yX7_add cX7_add 2 none, Cond.fieldLink RX7 108 "PortWardenModel" "row" "[I", Cond.fieldLink RX7 111 "PortWardenModel" "rowSize" "I", Cond.methodLink RX7 141 yX7_echo, Cond.instanceMethod yX7_echo, Cond.selects RX7 yX7_echo yX7_echo, Cond.code yX7_echo cX7_echo 3 none, Cond.methodLink RX7 134 yX7_give, Cond.instanceMethod yX7_give, Cond.selects RX7 yX7_give yX7_give, Cond.code yX7_give cX7_give 3 none, Cond.fieldLink RX7 42 "PortWardenModel" "out" "[I", Cond.fieldLink RX7 60 "PortWardenModel" "columns" "[I", Cond.methodLink RX7 118 yX7_column1, Cond.instanceMethod yX7_column1, Cond.selects RX7 yX7_column1 yX7_column1]
def wsX7_read_r5 : List Cond := [Cond.code yX7_column1 cX7_column1 3 (some .int), Cond.methodLink RX7 191 yX7_asItIs, Cond.instanceMethod yX7_asItIs, Cond.selects RX7 yX7_asItIs yX7_asItIs, Cond.code yX7_asItIs cX7_asItIs 3 none, Cond.methodLink RX7 183 yX7_comesIn, Cond.instanceMethod yX7_comesIn, Cond.selects RX7 yX7_comesIn yX7_comesIn, Cond.code yX7_comesIn cX7_comesIn 5 (some .boolean), Cond.fieldLink RX7 39 "PortWardenModel" "ticks" "[I", Cond.methodLink RX7 144 yX7_isCanon, Cond.instanceMethod yX7_isCanon, Cond.selects RX7 yX7_isCanon yX7_isCanon, Cond.code yX7_isCanon cX7_isCanon 2 (some .boolean), Cond.methodLink RX7 150 yX7_release, Cond.instanceMethod yX7_release, Cond.selects RX7 yX7_release yX7_release, Cond.code yX7_release cX7_release 4 none, Cond.methodLink RX7 153 yX7_flowUp, Cond.instanceMethod yX7_flowUp, Cond.selects RX7 yX7_flowUp yX7_flowUp, Cond.code yX7_flowUp cX7_flowUp 2 none, Cond.methodLink RX7 194 yX7_editing, Cond.instanceMethod yX7_editing]
def wsX7_read_r6 : List Cond := [Cond.selects RX7 yX7_editing yX7_editing, Cond.code yX7_editing cX7_editing 3 none, Cond.methodLink RX7 159 yX7_openLine, Cond.instanceMethod yX7_openLine, Cond.selects RX7 yX7_openLine yX7_openLine, Cond.code yX7_openLine cX7_openLine 2 (some .boolean), Cond.methodLink RX7 165 yX7_erase, Cond.instanceMethod yX7_erase, Cond.selects RX7 yX7_erase yX7_erase, Cond.code yX7_erase cX7_erase 5 none, Cond.methodLink RX7 168 yX7_lastBlank, Cond.instanceMethod yX7_lastBlank, Cond.selects RX7 yX7_lastBlank yX7_lastBlank, Cond.code yX7_lastBlank cX7_lastBlank 2 (some .boolean), Cond.methodLink RX7 162 yX7_lastEntry, Cond.instanceMethod yX7_lastEntry, Cond.selects RX7 yX7_lastEntry yX7_lastEntry, Cond.code yX7_lastEntry cX7_lastEntry 2 (some .int), Cond.methodLink RX7 197 yX7_reprint, Cond.instanceMethod yX7_reprint, Cond.selects RX7 yX7_reprint yX7_reprint, Cond.code yX7_reprint cX7_reprint 4 none, Cond.methodLink RX7 224 yX7_isBehind, Cond.instanceMethod yX7_isBehind]
def wsX7_read_r7 : List Cond := [Cond.selects RX7 yX7_isBehind yX7_isBehind, Cond.code yX7_isBehind cX7_isBehind 3 (some .boolean)]
def wsX7_read : List Cond := .code yX7_read cX7_read 5 (some .int) :: ((wsX7_read_r1 ++ (wsX7_read_r2 ++ (wsX7_read_r3 ++ (wsX7_read_r4 ++ (wsX7_read_r5 ++ (wsX7_read_r6 ++ wsX7_read_r7)))))) ++ wsX70)
def wsX7_mode_r1 : List Cond := [Cond.fieldLink RX7 7 "PortWardenModel" "thrownCode" "I", Cond.fieldLink RX7 81 "PortWardenModel" "waits" "[I", Cond.fieldLink RX7 84 "PortWardenModel" "waitMode" "[I", Cond.fieldLink RX7 87 "PortWardenModel" "waitValue" "[I", Cond.fieldLink RX7 90 "PortWardenModel" "waitTakes" "[Z", Cond.fieldLink RX7 93 "PortWardenModel" "ahead" "[I", Cond.fieldLink RX7 45 "PortWardenModel" "outs" "[I", Cond.fieldLink RX7 51 "PortWardenModel" "sending" "[I", Cond.methodLink RX7 209 yX7_isPort, Cond.static yX7_isPort, Cond.initialized RX7, Cond.code yX7_isPort cX7_isPort 1 (some .boolean), Cond.methodLink RX7 230 yX7_most, Cond.static yX7_most, Cond.code yX7_most cX7_most 1 (some .int), Cond.methodLink RX7 203 yX7_sets, Cond.instanceMethod yX7_sets, Cond.selects RX7 yX7_sets yX7_sets, Cond.code yX7_sets cX7_sets 6 none, Cond.fieldLink RX7 13 "PortWardenModel" "modes" "[I", Cond.fieldLink RX7 33 "PortWardenModel" "stored" "[I", Cond.fieldLink RX7 26 "PortWardenModel" "store" "[I", Cond.fieldLink RX7 29 "PortWardenModel" "plain" "[Z", Cond.fieldLink RX7 36 "PortWardenModel" "released" "[I"]
def wsX7_mode_r2 : List Cond := [Cond.methodLink RX7 156 yX7_flowDown, Cond.instanceMethod yX7_flowDown, Cond.selects RX7 yX7_flowDown yX7_flowDown, Cond.code yX7_flowDown cX7_flowDown 2 none, Cond.fieldLink RX7 63 "PortWardenModel" "full" "[Z", Cond.fieldLink RX7 66 "PortWardenModel" "flow" "[I", Cond.methodLink RX7 206 yX7_settle, Cond.instanceMethod yX7_settle, Cond.selects RX7 yX7_settle yX7_settle, Cond.code yX7_settle cX7_settle 6 none, Cond.methodLink RX7 174 yX7_emptyStore, Cond.instanceMethod yX7_emptyStore, Cond.selects RX7 yX7_emptyStore yX7_emptyStore, Cond.code yX7_emptyStore cX7_emptyStore 2 none]
def wsX7_mode : List Cond := .code yX7_mode cX7_mode 6 (some .boolean) :: ((wsX7_mode_r1 ++ wsX7_mode_r2) ++ wsX70)
def wsX7_modeOf : List Cond := .code yX7_modeOf cX7_modeOf 3 (some .int) :: ([.fieldLink RX7 7 "PortWardenModel" "thrownCode" "I", .methodLink RX7 209 yX7_isPort, .static yX7_isPort, .initialized RX7, .code yX7_isPort cX7_isPort 1 (some .boolean), .methodLink RX7 147 yX7_mode1, .instanceMethod yX7_mode1, .selects RX7 yX7_mode1 yX7_mode1, .code yX7_mode1 cX7_mode1 3 (some .int), .fieldLink RX7 13 "PortWardenModel" "modes" "[I"] ++ wsX70)
def wsX7_poll_r1 : List Cond := [Cond.fieldLink RX7 7 "PortWardenModel" "thrownCode" "I", Cond.fieldLink RX7 96 "PortWardenModel" "opened" "[Z", Cond.fieldLink RX7 36 "PortWardenModel" "released" "[I", Cond.fieldLink RX7 75 "PortWardenModel" "hung" "[Z", Cond.fieldLink RX7 45 "PortWardenModel" "outs" "[I", Cond.methodLink RX7 221 yX7_isProcess, Cond.static yX7_isProcess, Cond.initialized RX7, Cond.code yX7_isProcess cX7_isProcess 1 (some .boolean), Cond.methodLink RX7 209 yX7_isPort, Cond.static yX7_isPort, Cond.code yX7_isPort cX7_isPort 1 (some .boolean), Cond.methodLink RX7 227 yX7_pass, Cond.instanceMethod yX7_pass, Cond.selects RX7 yX7_pass yX7_pass, Cond.code yX7_pass cX7_pass 3 none, Cond.fieldLink RX7 23 "PortWardenModel" "coming" "[I", Cond.fieldLink RX7 17 "PortWardenModel" "comes" "[I", Cond.fieldLink RX7 20 "PortWardenModel" "comesFlag" "[I", Cond.methodLink RX7 200 yX7_takes, Cond.instanceMethod yX7_takes, Cond.selects RX7 yX7_takes yX7_takes, Cond.code yX7_takes cX7_takes 6 none, Cond.fieldLink RX7 105 "PortWardenModel" "counts" "[I"]
def wsX7_poll_r2 : List Cond := [Cond.fieldLink RX7 57 "PortWardenModel" "literal" "[Z", Cond.fieldLink RX7 54 "PortWardenModel" "outHeld" "[Z", Cond.methodLink RX7 130 yX7_on, Cond.instanceMethod yX7_on, Cond.selects RX7 yX7_on yX7_on, Cond.code yX7_on cX7_on 3 (some .boolean), Cond.fieldLink RX7 13 "PortWardenModel" "modes" "[I", Cond.methodLink RX7 147 yX7_mode1, Cond.instanceMethod yX7_mode1, Cond.selects RX7 yX7_mode1 yX7_mode1, Cond.code yX7_mode1 cX7_mode1 3 (some .int), Cond.methodLink RX7 187 yX7_signal, Cond.instanceMethod yX7_signal, Cond.selects RX7 yX7_signal yX7_signal, Cond.code yX7_signal cX7_signal 4 none, Cond.fieldLink RX7 78 "PortWardenModel" "front" "[I", Cond.methodLink RX7 171 yX7_raise, Cond.instanceMethod yX7_raise, Cond.selects RX7 yX7_raise yX7_raise, Cond.code yX7_raise cX7_raise 4 none, Cond.fieldLink RX7 99 "PortWardenModel" "groups" "[I", Cond.fieldLink RX7 102 "PortWardenModel" "raised" "[I", Cond.methodLink RX7 174 yX7_emptyStore, Cond.instanceMethod yX7_emptyStore]
def wsX7_poll_r3 : List Cond := [Cond.selects RX7 yX7_emptyStore yX7_emptyStore, Cond.code yX7_emptyStore cX7_emptyStore 2 none, Cond.fieldLink RX7 33 "PortWardenModel" "stored" "[I", Cond.methodLink RX7 156 yX7_flowDown, Cond.instanceMethod yX7_flowDown, Cond.selects RX7 yX7_flowDown yX7_flowDown, Cond.code yX7_flowDown cX7_flowDown 2 none, Cond.fieldLink RX7 63 "PortWardenModel" "full" "[Z", Cond.fieldLink RX7 66 "PortWardenModel" "flow" "[I", Cond.methodLink RX7 177 yX7_emptyOut, Cond.instanceMethod yX7_emptyOut, Cond.selects RX7 yX7_emptyOut yX7_emptyOut, Cond.code yX7_emptyOut cX7_emptyOut 3 none, Cond.fieldLink RX7 81 "PortWardenModel" "waits" "[I", Cond.fieldLink RX7 93 "PortWardenModel" "ahead" "[I", Cond.fieldLink RX7 51 "PortWardenModel" "sending" "[I", Cond.methodLink RX7 180 yX7_echoForm, Cond.instanceMethod yX7_echoForm, Cond.selects RX7 yX7_echoForm yX7_echoForm, Cond.code yX7_echoForm cX7_echoForm 3 none, Cond.methodLink RX7 138 yX7_addForm, Cond.instanceMethod yX7_addForm, Cond.selects RX7 yX7_addForm yX7_addForm, Cond.code yX7_addForm cX7_addForm 2 none]
def wsX7_poll_r4 : List Cond := [Cond.methodLink RX7 122 yX7_isPlain, Cond.static yX7_isPlain, Cond.code yX7_isPlain cX7_isPlain 1 (some .boolean), Cond.methodLink RX7 126 yX7_add, Cond.instanceMethod yX7_add, Cond.selects RX7 yX7_add yX7_add, Cond.code yX7_add cX7_add 2 none, Cond.fieldLink RX7 108 "PortWardenModel" "row" "[I", Cond.fieldLink RX7 111 "PortWardenModel" "rowSize" "I", Cond.methodLink RX7 141 yX7_echo, Cond.instanceMethod yX7_echo, Cond.selects RX7 yX7_echo yX7_echo, Cond.code yX7_echo cX7_echo 3 none, Cond.methodLink RX7 134 yX7_give, Cond.instanceMethod yX7_give, Cond.selects RX7 yX7_give yX7_give, Cond.code yX7_give cX7_give 3 none, Cond.fieldLink RX7 42 "PortWardenModel" "out" "[I", Cond.fieldLink RX7 60 "PortWardenModel" "columns" "[I", Cond.methodLink RX7 118 yX7_column1, Cond.instanceMethod yX7_column1, Cond.selects RX7 yX7_column1 yX7_column1, Cond.code yX7_column1 cX7_column1 3 (some .int), Cond.methodLink RX7 191 yX7_asItIs]
def wsX7_poll_r5 : List Cond := [Cond.instanceMethod yX7_asItIs, Cond.selects RX7 yX7_asItIs yX7_asItIs, Cond.code yX7_asItIs cX7_asItIs 3 none, Cond.methodLink RX7 183 yX7_comesIn, Cond.instanceMethod yX7_comesIn, Cond.selects RX7 yX7_comesIn yX7_comesIn, Cond.code yX7_comesIn cX7_comesIn 5 (some .boolean), Cond.fieldLink RX7 26 "PortWardenModel" "store" "[I", Cond.fieldLink RX7 29 "PortWardenModel" "plain" "[Z", Cond.fieldLink RX7 39 "PortWardenModel" "ticks" "[I", Cond.methodLink RX7 144 yX7_isCanon, Cond.instanceMethod yX7_isCanon, Cond.selects RX7 yX7_isCanon yX7_isCanon, Cond.code yX7_isCanon cX7_isCanon 2 (some .boolean), Cond.methodLink RX7 150 yX7_release, Cond.instanceMethod yX7_release, Cond.selects RX7 yX7_release yX7_release, Cond.code yX7_release cX7_release 4 none, Cond.methodLink RX7 153 yX7_flowUp, Cond.instanceMethod yX7_flowUp, Cond.selects RX7 yX7_flowUp yX7_flowUp, Cond.code yX7_flowUp cX7_flowUp 2 none, Cond.methodLink RX7 194 yX7_editing, Cond.instanceMethod yX7_editing]
def wsX7_poll_r6 : List Cond := [Cond.selects RX7 yX7_editing yX7_editing, Cond.code yX7_editing cX7_editing 3 none, Cond.methodLink RX7 159 yX7_openLine, Cond.instanceMethod yX7_openLine, Cond.selects RX7 yX7_openLine yX7_openLine, Cond.code yX7_openLine cX7_openLine 2 (some .boolean), Cond.methodLink RX7 165 yX7_erase, Cond.instanceMethod yX7_erase, Cond.selects RX7 yX7_erase yX7_erase, Cond.code yX7_erase cX7_erase 5 none, Cond.methodLink RX7 168 yX7_lastBlank, Cond.instanceMethod yX7_lastBlank, Cond.selects RX7 yX7_lastBlank yX7_lastBlank, Cond.code yX7_lastBlank cX7_lastBlank 2 (some .boolean), Cond.methodLink RX7 162 yX7_lastEntry, Cond.instanceMethod yX7_lastEntry, Cond.selects RX7 yX7_lastEntry yX7_lastEntry, Cond.code yX7_lastEntry cX7_lastEntry 2 (some .int), Cond.methodLink RX7 197 yX7_reprint, Cond.instanceMethod yX7_reprint, Cond.selects RX7 yX7_reprint yX7_reprint, Cond.code yX7_reprint cX7_reprint 4 none, Cond.methodLink RX7 224 yX7_isBehind, Cond.instanceMethod yX7_isBehind]
def wsX7_poll_r7 : List Cond := [Cond.selects RX7 yX7_isBehind yX7_isBehind, Cond.code yX7_isBehind cX7_isBehind 3 (some .boolean)]
def wsX7_poll : List Cond := .code yX7_poll cX7_poll 4 (some .int) :: ((wsX7_poll_r1 ++ (wsX7_poll_r2 ++ (wsX7_poll_r3 ++ (wsX7_poll_r4 ++ (wsX7_poll_r5 ++ (wsX7_poll_r6 ++ wsX7_poll_r7)))))) ++ wsX70)
def wsX7_signals : List Cond := .code yX7_signals cX7_signals 3 (some .int) :: ([.fieldLink RX7 7 "PortWardenModel" "thrownCode" "I", .fieldLink RX7 102 "PortWardenModel" "raised" "[I", .methodLink RX7 221 yX7_isProcess, .static yX7_isProcess, .initialized RX7, .code yX7_isProcess cX7_isProcess 1 (some .boolean)] ++ wsX70)
def wsX7_count : List Cond := .code yX7_count cX7_count 3 (some .int) :: ([.fieldLink RX7 7 "PortWardenModel" "thrownCode" "I", .fieldLink RX7 105 "PortWardenModel" "counts" "[I", .methodLink RX7 209 yX7_isPort, .static yX7_isPort, .initialized RX7, .code yX7_isPort cX7_isPort 1 (some .boolean)] ++ wsX70)
def wsX7_column : List Cond := .code yX7_column cX7_column 2 (some .int) :: ([.fieldLink RX7 7 "PortWardenModel" "thrownCode" "I", .fieldLink RX7 60 "PortWardenModel" "columns" "[I", .methodLink RX7 209 yX7_isPort, .static yX7_isPort, .initialized RX7, .code yX7_isPort cX7_isPort 1 (some .boolean)] ++ wsX70)
def wsX7_flush_r1 : List Cond := [Cond.fieldLink RX7 7 "PortWardenModel" "thrownCode" "I", Cond.methodLink RX7 209 yX7_isPort, Cond.static yX7_isPort, Cond.initialized RX7, Cond.code yX7_isPort cX7_isPort 1 (some .boolean), Cond.methodLink RX7 174 yX7_emptyStore, Cond.instanceMethod yX7_emptyStore, Cond.selects RX7 yX7_emptyStore yX7_emptyStore, Cond.code yX7_emptyStore cX7_emptyStore 2 none, Cond.fieldLink RX7 33 "PortWardenModel" "stored" "[I", Cond.fieldLink RX7 36 "PortWardenModel" "released" "[I", Cond.methodLink RX7 156 yX7_flowDown, Cond.instanceMethod yX7_flowDown, Cond.selects RX7 yX7_flowDown yX7_flowDown, Cond.code yX7_flowDown cX7_flowDown 2 none, Cond.fieldLink RX7 63 "PortWardenModel" "full" "[Z", Cond.fieldLink RX7 66 "PortWardenModel" "flow" "[I", Cond.methodLink RX7 218 yX7_emptyAll, Cond.instanceMethod yX7_emptyAll, Cond.selects RX7 yX7_emptyAll yX7_emptyAll, Cond.code yX7_emptyAll cX7_emptyAll 3 none, Cond.fieldLink RX7 45 "PortWardenModel" "outs" "[I", Cond.fieldLink RX7 51 "PortWardenModel" "sending" "[I", Cond.fieldLink RX7 81 "PortWardenModel" "waits" "[I"]
def wsX7_flush_r2 : List Cond := [Cond.fieldLink RX7 93 "PortWardenModel" "ahead" "[I", Cond.methodLink RX7 206 yX7_settle, Cond.instanceMethod yX7_settle, Cond.selects RX7 yX7_settle yX7_settle, Cond.code yX7_settle cX7_settle 6 none, Cond.fieldLink RX7 84 "PortWardenModel" "waitMode" "[I", Cond.fieldLink RX7 87 "PortWardenModel" "waitValue" "[I", Cond.fieldLink RX7 90 "PortWardenModel" "waitTakes" "[Z", Cond.methodLink RX7 203 yX7_sets, Cond.instanceMethod yX7_sets, Cond.selects RX7 yX7_sets yX7_sets, Cond.code yX7_sets cX7_sets 6 none, Cond.fieldLink RX7 13 "PortWardenModel" "modes" "[I", Cond.fieldLink RX7 26 "PortWardenModel" "store" "[I", Cond.fieldLink RX7 29 "PortWardenModel" "plain" "[Z"]
def wsX7_flush : List Cond := .code yX7_flush cX7_flush 3 (some .boolean) :: ((wsX7_flush_r1 ++ wsX7_flush_r2) ++ wsX70)
def wsX7_ready : List Cond := .code yX7_ready cX7_ready 2 (some .int) :: ([.fieldLink RX7 7 "PortWardenModel" "thrownCode" "I", .fieldLink RX7 36 "PortWardenModel" "released" "[I", .methodLink RX7 209 yX7_isPort, .static yX7_isPort, .initialized RX7, .code yX7_isPort cX7_isPort 1 (some .boolean)] ++ wsX70)
def wsX7_tick_r1 : List Cond := [Cond.fieldLink RX7 7 "PortWardenModel" "thrownCode" "I", Cond.fieldLink RX7 39 "PortWardenModel" "ticks" "[I", Cond.fieldLink RX7 36 "PortWardenModel" "released" "[I", Cond.fieldLink RX7 33 "PortWardenModel" "stored" "[I", Cond.methodLink RX7 227 yX7_pass, Cond.instanceMethod yX7_pass, Cond.selects RX7 yX7_pass yX7_pass, Cond.initialized RX7, Cond.code yX7_pass cX7_pass 3 none, Cond.fieldLink RX7 23 "PortWardenModel" "coming" "[I", Cond.fieldLink RX7 17 "PortWardenModel" "comes" "[I", Cond.fieldLink RX7 20 "PortWardenModel" "comesFlag" "[I", Cond.methodLink RX7 200 yX7_takes, Cond.instanceMethod yX7_takes, Cond.selects RX7 yX7_takes yX7_takes, Cond.code yX7_takes cX7_takes 6 none, Cond.fieldLink RX7 105 "PortWardenModel" "counts" "[I", Cond.fieldLink RX7 57 "PortWardenModel" "literal" "[Z", Cond.fieldLink RX7 54 "PortWardenModel" "outHeld" "[Z", Cond.methodLink RX7 130 yX7_on, Cond.instanceMethod yX7_on, Cond.selects RX7 yX7_on yX7_on, Cond.code yX7_on cX7_on 3 (some .boolean), Cond.fieldLink RX7 13 "PortWardenModel" "modes" "[I"]
def wsX7_tick_r2 : List Cond := [Cond.methodLink RX7 147 yX7_mode1, Cond.instanceMethod yX7_mode1, Cond.selects RX7 yX7_mode1 yX7_mode1, Cond.code yX7_mode1 cX7_mode1 3 (some .int), Cond.methodLink RX7 187 yX7_signal, Cond.instanceMethod yX7_signal, Cond.selects RX7 yX7_signal yX7_signal, Cond.code yX7_signal cX7_signal 4 none, Cond.fieldLink RX7 78 "PortWardenModel" "front" "[I", Cond.methodLink RX7 171 yX7_raise, Cond.instanceMethod yX7_raise, Cond.selects RX7 yX7_raise yX7_raise, Cond.code yX7_raise cX7_raise 4 none, Cond.fieldLink RX7 99 "PortWardenModel" "groups" "[I", Cond.fieldLink RX7 102 "PortWardenModel" "raised" "[I", Cond.methodLink RX7 174 yX7_emptyStore, Cond.instanceMethod yX7_emptyStore, Cond.selects RX7 yX7_emptyStore yX7_emptyStore, Cond.code yX7_emptyStore cX7_emptyStore 2 none, Cond.methodLink RX7 156 yX7_flowDown, Cond.instanceMethod yX7_flowDown, Cond.selects RX7 yX7_flowDown yX7_flowDown, Cond.code yX7_flowDown cX7_flowDown 2 none, Cond.fieldLink RX7 63 "PortWardenModel" "full" "[Z"]
def wsX7_tick_r3 : List Cond := [Cond.fieldLink RX7 66 "PortWardenModel" "flow" "[I", Cond.methodLink RX7 177 yX7_emptyOut, Cond.instanceMethod yX7_emptyOut, Cond.selects RX7 yX7_emptyOut yX7_emptyOut, Cond.code yX7_emptyOut cX7_emptyOut 3 none, Cond.fieldLink RX7 45 "PortWardenModel" "outs" "[I", Cond.fieldLink RX7 81 "PortWardenModel" "waits" "[I", Cond.fieldLink RX7 93 "PortWardenModel" "ahead" "[I", Cond.fieldLink RX7 51 "PortWardenModel" "sending" "[I", Cond.methodLink RX7 180 yX7_echoForm, Cond.instanceMethod yX7_echoForm, Cond.selects RX7 yX7_echoForm yX7_echoForm, Cond.code yX7_echoForm cX7_echoForm 3 none, Cond.methodLink RX7 138 yX7_addForm, Cond.instanceMethod yX7_addForm, Cond.selects RX7 yX7_addForm yX7_addForm, Cond.code yX7_addForm cX7_addForm 2 none, Cond.methodLink RX7 122 yX7_isPlain, Cond.static yX7_isPlain, Cond.code yX7_isPlain cX7_isPlain 1 (some .boolean), Cond.methodLink RX7 126 yX7_add, Cond.instanceMethod yX7_add, Cond.selects RX7 yX7_add yX7_add, Cond.code yX7_add cX7_add 2 none]
def wsX7_tick_r4 : List Cond := [Cond.fieldLink RX7 108 "PortWardenModel" "row" "[I", Cond.fieldLink RX7 111 "PortWardenModel" "rowSize" "I", Cond.methodLink RX7 141 yX7_echo, Cond.instanceMethod yX7_echo, Cond.selects RX7 yX7_echo yX7_echo, Cond.code yX7_echo cX7_echo 3 none, Cond.methodLink RX7 134 yX7_give, Cond.instanceMethod yX7_give, Cond.selects RX7 yX7_give yX7_give, Cond.code yX7_give cX7_give 3 none, Cond.fieldLink RX7 42 "PortWardenModel" "out" "[I", Cond.fieldLink RX7 60 "PortWardenModel" "columns" "[I", Cond.methodLink RX7 118 yX7_column1, Cond.instanceMethod yX7_column1, Cond.selects RX7 yX7_column1 yX7_column1, Cond.code yX7_column1 cX7_column1 3 (some .int), Cond.methodLink RX7 191 yX7_asItIs, Cond.instanceMethod yX7_asItIs, Cond.selects RX7 yX7_asItIs yX7_asItIs, Cond.code yX7_asItIs cX7_asItIs 3 none, Cond.methodLink RX7 183 yX7_comesIn, Cond.instanceMethod yX7_comesIn, Cond.selects RX7 yX7_comesIn yX7_comesIn, Cond.code yX7_comesIn cX7_comesIn 5 (some .boolean)]
def wsX7_tick_r5 : List Cond := [Cond.fieldLink RX7 26 "PortWardenModel" "store" "[I", Cond.fieldLink RX7 29 "PortWardenModel" "plain" "[Z", Cond.methodLink RX7 144 yX7_isCanon, Cond.instanceMethod yX7_isCanon, Cond.selects RX7 yX7_isCanon yX7_isCanon, Cond.code yX7_isCanon cX7_isCanon 2 (some .boolean), Cond.methodLink RX7 150 yX7_release, Cond.instanceMethod yX7_release, Cond.selects RX7 yX7_release yX7_release, Cond.code yX7_release cX7_release 4 none, Cond.methodLink RX7 153 yX7_flowUp, Cond.instanceMethod yX7_flowUp, Cond.selects RX7 yX7_flowUp yX7_flowUp, Cond.code yX7_flowUp cX7_flowUp 2 none, Cond.methodLink RX7 194 yX7_editing, Cond.instanceMethod yX7_editing, Cond.selects RX7 yX7_editing yX7_editing, Cond.code yX7_editing cX7_editing 3 none, Cond.methodLink RX7 159 yX7_openLine, Cond.instanceMethod yX7_openLine, Cond.selects RX7 yX7_openLine yX7_openLine, Cond.code yX7_openLine cX7_openLine 2 (some .boolean), Cond.methodLink RX7 165 yX7_erase, Cond.instanceMethod yX7_erase]
def wsX7_tick_r6 : List Cond := [Cond.selects RX7 yX7_erase yX7_erase, Cond.code yX7_erase cX7_erase 5 none, Cond.methodLink RX7 168 yX7_lastBlank, Cond.instanceMethod yX7_lastBlank, Cond.selects RX7 yX7_lastBlank yX7_lastBlank, Cond.code yX7_lastBlank cX7_lastBlank 2 (some .boolean), Cond.methodLink RX7 162 yX7_lastEntry, Cond.instanceMethod yX7_lastEntry, Cond.selects RX7 yX7_lastEntry yX7_lastEntry, Cond.code yX7_lastEntry cX7_lastEntry 2 (some .int), Cond.methodLink RX7 197 yX7_reprint, Cond.instanceMethod yX7_reprint, Cond.selects RX7 yX7_reprint yX7_reprint, Cond.code yX7_reprint cX7_reprint 4 none, Cond.methodLink RX7 212 yX7_push, Cond.instanceMethod yX7_push, Cond.selects RX7 yX7_push yX7_push, Cond.code yX7_push cX7_push 3 none, Cond.fieldLink RX7 48 "PortWardenModel" "sends" "[I", Cond.methodLink RX7 206 yX7_settle, Cond.instanceMethod yX7_settle, Cond.selects RX7 yX7_settle yX7_settle, Cond.code yX7_settle cX7_settle 6 none, Cond.fieldLink RX7 84 "PortWardenModel" "waitMode" "[I"]
def wsX7_tick_r7 : List Cond := [Cond.fieldLink RX7 87 "PortWardenModel" "waitValue" "[I", Cond.fieldLink RX7 90 "PortWardenModel" "waitTakes" "[Z", Cond.methodLink RX7 203 yX7_sets, Cond.instanceMethod yX7_sets, Cond.selects RX7 yX7_sets yX7_sets, Cond.code yX7_sets cX7_sets 6 none]
def wsX7_tick : List Cond := .code yX7_tick cX7_tick 2 none :: ((wsX7_tick_r1 ++ (wsX7_tick_r2 ++ (wsX7_tick_r3 ++ (wsX7_tick_r4 ++ (wsX7_tick_r5 ++ (wsX7_tick_r6 ++ wsX7_tick_r7)))))) ++ wsX70)
def wsJ9_max_7cf53 : List Cond := .code yJ9_max_7cf53 cJ9_max_7cf53 2 (some .int) :: ([])
def wsJ9_min_7cf53 : List Cond := .code yJ9_min_7cf53 cJ9_min_7cf53 2 (some .int) :: ([])
theorem dJ9_max_7cf53_0 : decode cJ9_max_7cf53 0 = .ok (.iload_n 0, 1) := by decide +kernel
theorem dJ9_max_7cf53_1 : decode cJ9_max_7cf53 1 = .ok (.iload_n 1, 1) := by decide +kernel
theorem dJ9_max_7cf53_2 : decode cJ9_max_7cf53 2 = .ok (.if_icmp .lt 7, 3) := by decide +kernel
theorem dJ9_max_7cf53_5 : decode cJ9_max_7cf53 5 = .ok (.iload_n 0, 1) := by decide +kernel
theorem dJ9_max_7cf53_6 : decode cJ9_max_7cf53 6 = .ok (.goto 4, 3) := by decide +kernel
theorem dJ9_max_7cf53_9 : decode cJ9_max_7cf53 9 = .ok (.iload_n 1, 1) := by decide +kernel
theorem dJ9_max_7cf53_10 : decode cJ9_max_7cf53 10 = .ok (.ireturn, 1) := by decide +kernel
theorem dJ9_min_7cf53_0 : decode cJ9_min_7cf53 0 = .ok (.iload_n 0, 1) := by decide +kernel
theorem dJ9_min_7cf53_1 : decode cJ9_min_7cf53 1 = .ok (.iload_n 1, 1) := by decide +kernel
theorem dJ9_min_7cf53_2 : decode cJ9_min_7cf53 2 = .ok (.if_icmp .gt 7, 3) := by decide +kernel
theorem dJ9_min_7cf53_5 : decode cJ9_min_7cf53 5 = .ok (.iload_n 0, 1) := by decide +kernel
theorem dJ9_min_7cf53_6 : decode cJ9_min_7cf53 6 = .ok (.goto 4, 3) := by decide +kernel
theorem dJ9_min_7cf53_9 : decode cJ9_min_7cf53 9 = .ok (.iload_n 1, 1) := by decide +kernel
theorem dJ9_min_7cf53_10 : decode cJ9_min_7cf53 10 = .ok (.ireturn, 1) := by decide +kernel
abbrev vwCl : List vw_C := [(RX0, TX0, 2), (RX1, TX1, 5), (RX2, TX2, 15), (RX3, TX3, 3), (RX4, TX4, 3), (RX5, TX5, 5), (RX6, TX6, 2), (RX7, TX7, 34)]
end
section
/-! the one world: cells 0 .. 88 the class (PortWarden, its ports array, the crew of three, four ports of 21), 89 .. 121 the reference -/
def nwF : List Cond := [.fieldLinkNest RX2 113 "PortWarden$Crew" "groupOf" "[I" "PortWarden", .fieldLinkNest RX6 84 "PortWarden$Crew" "groupOf" "[I" "PortWarden", .fieldLinkNest RX6 160 "PortWarden$Crew" "raised" "[I" "PortWarden", .fieldLinkNest RX2 9 "PortWarden" "FIRST_VALUES" "[I" "PortWarden", .fieldLinkNest RX1 27 "PortWarden$Row" "size" "I" "PortWarden", .fieldLinkNest RX4 20 "PortWarden$Row" "size" "I" "PortWarden", .fieldLinkNest RX2 147 "PortWarden$Row" "size" "I" "PortWarden", .fieldLinkNest RX2 144 "PortWarden$Store" "entries" "LPortWarden$Row;" "PortWarden", .fieldLinkNest RX2 119 "PortWarden$Store" "released" "I" "PortWarden", .fieldLinkNest RX6 124 "PortWarden$Store" "released" "I" "PortWarden", .fieldLinkNest RX2 195 "PortWarden$Store" "idleTicks" "I" "PortWarden", .fieldLinkNest RX2 131 "PortWarden$Output" "stored" "LPortWarden$Row;" "PortWarden", .fieldLinkNest RX6 152 "PortWarden$Output" "stored" "LPortWarden$Row;" "PortWarden", .fieldLinkNest RX2 135 "PortWarden$Output" "sender" "LPortWarden$Row;" "PortWarden", .fieldLinkNest RX6 166 "PortWarden$Output" "columnNow" "I" "PortWarden", .fieldLinkNest RX6 58 "PortWarden$Output" "heldBack" "Z" "PortWarden", .fieldLinkNest RX2 229 "PortWarden$Output" "heldBack" "Z" "PortWarden", .fieldLinkNest RX6 62 "PortWarden$Output" "clearToSend" "Z" "PortWarden", .fieldLinkNest RX2 165 "PortWarden$Waiting" "which" "[I" "PortWarden", .fieldLinkNest RX2 168 "PortWarden$Waiting" "value" "[I" "PortWarden", .fieldLinkNest RX2 159 "PortWarden$Waiting" "takesStore" "[Z" "PortWarden", .fieldLinkNest RX6 146 "PortWarden$Port" "modes" "[I" "PortWarden", .fieldLinkNest RX6 120 "PortWarden$Port" "store" "LPortWarden$Store;" "PortWarden", .fieldLinkNest RX6 36 "PortWarden$Port" "output" "LPortWarden$Output;" "PortWarden", .fieldLinkNest RX6 109 "PortWarden$Port" "draft" "LPortWarden$Row;" "PortWarden", .fieldLinkNest RX6 77 "PortWarden$Port" "opened" "[Z" "PortWarden", .fieldLinkNest RX6 163 "PortWarden$Port" "counts" "[I" "PortWarden", .fieldLinkNest RX6 65 "PortWarden$Port" "carrierOn" "Z" "PortWarden", .fieldLinkNest RX6 92 "PortWarden$Port" "hungUp" "Z" "PortWarden", .fieldLinkNest RX6 88 "PortWarden$Port" "foregroundGroup" "I" "PortWarden"]
def nwM : List Cond := [.methodLinkNest RX2 34 ⟨RX4, "<init>", "()V"⟩ "PortWarden", .methodLinkNest RX2 41 ⟨RX1, "<init>", "()V"⟩ "PortWarden", .methodLinkNest RX2 48 ⟨RX5, "<init>", "()V"⟩ "PortWarden"]
def NW (U : State) : Prop := (∀ w ∈ nwF, va_Nw w U) ∧ ∀ w ∈ nwM, va_Nw w U
theorem nwF_form : ∀ w ∈ nwF, ∃ (a : String) (i : Nat) (b n d h : String), w = .fieldLinkNest a i b n d h := by
  intro w hw
  simp only [nwF, List.mem_cons, List.not_mem_nil, or_false] at hw
  rcases hw with rfl | rfl | rfl | rfl | rfl | rfl | rfl | rfl | rfl | rfl | rfl | rfl | rfl | rfl | rfl | rfl | rfl | rfl | rfl | rfl | rfl | rfl | rfl | rfl | rfl | rfl | rfl | rfl | rfl | rfl <;> exact ⟨_, _, _, _, _, _, rfl⟩
theorem nwM_form : ∀ w ∈ nwM, ∃ (a : String) (i : Nat) (y : MethodName) (h : String), w = .methodLinkNest a i y h := by
  intro w hw
  simp only [nwM, List.mem_cons, List.not_mem_nil, or_false] at hw
  rcases hw with rfl | rfl | rfl <;> exact ⟨_, _, _, _, rfl⟩
theorem NW.warm {s U : State} (hW : s.WarmedH U.vm) (h : NW s) : NW U := by
  refine ⟨fun w hw => ?_, fun w hw => ?_⟩
  · have h1 := h.1 w hw
    obtain ⟨a, i, b, n, d, h2, rfl⟩ := nwF_form w hw
    exact h1.warmF hW
  · have h1 := h.2 w hw
    obtain ⟨a, i, y, h2, rfl⟩ := nwM_form w hw
    exact h1.warmM hW
theorem NW.call {U : State} (g : JFrame) (mk : MethodId) (a : Array Value) (h : NW U) : NW (U.calling g mk a) := by
  refine ⟨fun w hw => ?_, fun w hw => ?_⟩
  · have h1 := h.1 w hw
    obtain ⟨a, i, b, n, d, h2, rfl⟩ := nwF_form w hw
    exact va_Nw.same rfl rfl h1
  · have h1 := h.2 w hw
    obtain ⟨a, i, y, h2, rfl⟩ := nwM_form w hw
    exact va_Nw.same rfl rfl h1
abbrev St : Type := Nat → Nat → Int32
def up2 (x : St) (c k : Nat) (v : Int32) : St := fun c' => if c' = c then upd (x c) k v else x c'
theorem up2_at (x : St) (c k : Nat) (v : Int32) : up2 x c k v c k = v := by simp [up2, upd]
theorem up2_cell (x : St) (c k : Nat) (v : Int32) : up2 x c k v c = upd (x c) k v := by simp [up2]
theorem up2_c (x : St) {c c' : Nat} (k : Nat) (v : Int32) (h : c' ≠ c) : up2 x c k v c' = x c' := by simp [up2, h]
theorem up2_ne (x : St) {c k c' k' : Nat} (v : Int32) (h : ¬ (c' = c ∧ k' = k)) : up2 x c k v c' k' = x c' k' := by
  by_cases h1 : c' = c
  · subst h1
    have h2 : k' ≠ k := fun e => h ⟨rfl, e⟩
    simp [up2, upd, h2]
  · simp [up2, h1]
abbrev GA : Type := (Nat → Nat) × (Nat → ClassId)
def ARR (g : GA) (n : Nat) (f : Nat → Int32) : va_E := .inl (g.2 0, n, .inl f)
def ARZ (g : GA) (n : Nat) (f : Nat → Int32) : va_E := .inl (g.2 1, n, .inl f)
def ROW (g : GA) (q : Nat) (f : Nat → Int32) : va_E := .inr (3, [.ref (g.1 q), .int (f 1), .int (f 2)])
def cellW (g : GA) (c : Nat) (f : Nat → Int32) : va_E := match c with
  | 0 => .inr (6, [.ref (g.1 2), .ref (g.1 1)])
  | 1 => .inl (g.2 2, 4, .inr (.inr (.inr (.inr (fun i => some (g.1 (5 + 21 * i)))))))
  | 2 => .inr (0, [.ref (g.1 3), .ref (g.1 4)])
  | _ => ARR g 8 f
def cellP (g : GA) (B j : Nat) (f : Nat → Int32) : va_E := match j with
  | 0 => .inr (2, [.ref (g.1 2), .ref (g.1 (B + 1)), .ref (g.1 (B + 2)), .ref (g.1 (B + 4)), .ref (g.1 (B + 7)), .ref (g.1 (B + 12)), .ref (g.1 (B + 17)), .ref (g.1 (B + 19)), .ref (g.1 (B + 20)), .int (f 9), .int (f 10), .int (f 11), .int (f 12), .int (f 13), .int (f 14)])
  | 1 => ARR g 25 f
  | 2 => ROW g (B + 3) f
  | 3 => ARR g 8 f
  | 4 => .inr (4, [.ref (g.1 (B + 5)), .int (f 1), .int (f 2)])
  | 5 => ROW g (B + 6) f
  | 6 => ARR g 65 f
  | 7 => .inr (1, [.ref (g.1 (B + 8)), .ref (g.1 (B + 10)), .int (f 2), .int (f 3), .int (f 4)])
  | 8 => ROW g (B + 9) f
  | 9 => ARR g 64 f
  | 10 => ROW g (B + 11) f
  | 11 => ARR g 8 f
  | 12 => .inr (5, [.ref (g.1 (B + 13)), .ref (g.1 (B + 14)), .ref (g.1 (B + 15)), .ref (g.1 (B + 16)), .int (f 4)])
  | 13 => ARR g 3 f
  | 14 => ARR g 3 f
  | 15 => ARZ g 3 f
  | 16 => ARR g 3 f
  | 17 => ROW g (B + 18) f
  | 18 => ARR g 134 f
  | 19 => ARZ g 8 f
  | _ => ARR g 5 f
def cellM (g : GA) (j : Nat) (f : Nat → Int32) : va_E := match j with
  | 0 => .inr (7, [.int (f 0), .ref (g.1 90), .ref (g.1 91), .ref (g.1 92), .ref (g.1 93), .ref (g.1 94), .ref (g.1 95), .ref (g.1 96), .ref (g.1 97), .ref (g.1 98), .ref (g.1 99), .ref (g.1 100), .ref (g.1 101), .ref (g.1 102), .ref (g.1 103), .ref (g.1 104), .ref (g.1 105), .ref (g.1 106), .ref (g.1 107), .ref (g.1 108), .ref (g.1 109), .ref (g.1 110), .ref (g.1 111), .ref (g.1 112), .ref (g.1 113), .ref (g.1 114), .ref (g.1 115), .ref (g.1 116), .ref (g.1 117), .ref (g.1 118), .ref (g.1 119), .ref (g.1 120), .ref (g.1 121), .int (f 33)])
  | 1 => ARR g 100 f
  | 2 => ARR g 32 f
  | 3 => ARR g 32 f
  | 4 => ARR g 4 f
  | 5 => ARR g 260 f
  | 6 => ARZ g 260 f
  | 7 => ARR g 4 f
  | 8 => ARR g 4 f
  | 9 => ARR g 4 f
  | 10 => ARR g 256 f
  | 11 => ARR g 4 f
  | 12 => ARR g 32 f
  | 13 => ARR g 4 f
  | 14 => ARZ g 4 f
  | 15 => ARZ g 4 f
  | 16 => ARR g 4 f
  | 17 => ARZ g 4 f
  | 18 => ARR g 4 f
  | 19 => ARZ g 4 f
  | 20 => ARZ g 4 f
  | 21 => ARZ g 4 f
  | 22 => ARR g 4 f
  | 23 => ARR g 4 f
  | 24 => ARR g 12 f
  | 25 => ARR g 12 f
  | 26 => ARZ g 12 f
  | 27 => ARR g 12 f
  | 28 => ARZ g 32 f
  | 29 => ARR g 8 f
  | 30 => ARR g 8 f
  | 31 => ARR g 20 f
  | _ => ARR g 400 f
def cellOf (g : GA) (c : Nat) (f : Nat → Int32) : va_E := if c < 5 then cellW g c f else if c < 89 then cellP g (5 + 21 * ((c - 5) / 21)) ((c - 5) % 21) f else cellM g (c - 89) f
theorem cell_port (g : GA) (f : Nat → Int32) {i j : Nat} (hi : i < 4) (hj : j < 21) : cellOf g (5 + 21 * i + j) f = cellP g (5 + 21 * i) j f := by
  have h1 : ¬ 5 + 21 * i + j < 5 := by omega
  have h2 : 5 + 21 * i + j < 89 := by omega
  have h3 : (5 + 21 * i + j - 5) / 21 = i := by omega
  have h4 : (5 + 21 * i + j - 5) % 21 = j := by omega
  simp only [cellOf, h1, h2, h3, h4, if_false, if_true]
theorem cell_port0 (g : GA) (f : Nat → Int32) {i : Nat} (hi : i < 4) : cellOf g (5 + 21 * i) f = cellP g (5 + 21 * i) 0 f := cell_port g f (j := 0) hi (by decide)
def WL (g : GA) (x : St) : va_W := (List.range 122).map (fun c => (g.1 c, cellOf g c (x c)))
theorem WL_at (g : GA) (x : St) {c : Nat} (h : c < 122) : (WL g x)[c]? = some (g.1 c, cellOf g c (x c)) := by
  simp [WL, List.getElem?_map, List.getElem?_range h]
theorem WL_set (g : GA) (x : St) {c : Nat} (h : c < 122) (k : Nat) (v : Int32) : (WL g x).set c (g.1 c, cellOf g c (upd (x c) k v)) = WL g (up2 x c k v) := by
  apply List.ext_getElem?
  intro i
  by_cases hi : i < 122
  · rw [WL_at g _ hi]
    by_cases hic : i = c
    · subst hic
      rw [List.getElem?_set_self (by simp [WL]; exact h), up2_cell]
    · rw [List.getElem?_set_ne (Ne.symm hic), WL_at g _ hi, up2_c x k v hic]
  · rw [List.getElem?_eq_none (by simp [WL]; omega), List.getElem?_eq_none (by simp [WL]; omega)]
def AQ (g : GA) : Nat → Prop := fun a => ∃ c, c < 122 ∧ a = g.1 c
def Inj (g : GA) : Prop := ∀ a b : Nat, a < 122 → b < 122 → g.1 a = g.1 b → a = b
theorem WL_D {g : GA} (hg : Inj g) (x : St) : va_D (AQ g) (WL g x) := by
  have key : ∀ (k : Nat) (q : Nat × va_E), (WL g x)[k]? = some q → k < 122 ∧ q.1 = g.1 k := by
    intro k q h
    have hk : k < 122 := by
      have := (List.getElem?_eq_some_iff.mp h).1
      simpa [WL] using this
    rw [WL_at g x hk] at h
    cases h
    exact ⟨hk, rfl⟩
  refine ⟨fun i j p q hi hj hpq => ?_, fun k q h => ?_⟩
  · obtain ⟨a1, a2⟩ := key i p hi
    obtain ⟨b1, b2⟩ := key j q hj
    exact hg i j a1 b1 (by rw [← a2, ← b2, hpq])
  · obtain ⟨a1, a2⟩ := key k q h
    exact ⟨k, a1, a2⟩
abbrev TY (g : GA) : List (ClassId × FieldType) := [(g.2 0, .int), (g.2 1, .boolean), (g.2 2, .object RX2)]
def WI (D : va_G) (g : GA) (x : St) (U : State) : Prop := va_P D vwCl (WL g x) U.heap ∧ va_K D vwCl (TY g) U ∧ NW U
def WO (D : va_G) (g : GA) (x : St) (t : State) : Prop := va_P D vwCl (WL g x) t.heap
theorem vp_of {i : Int32} {n : Nat} (h1 : 0 ≤ i.toInt) (h2 : i.toInt < n) : vp_in i n := by
  unfold vp_in
  intro h
  rcases h with h | h
  · have := Int32.lt_iff_toInt_lt.mp h
    simp at this
    omega
  · have : i.toNatClampNeg = i.toInt.toNat := rfl
    omega
theorem tz_nar {v : Int32} (h : v = 0 ∨ v = 1) : vp_nar .boolean v = v := by
  rcases h with rfl | rfl <;> decide
theorem tz_fits {v : Int32} (h : v = 0 ∨ v = 1) : fits .boolean (.int v) = true := by
  rcases h with rfl | rfl <;> decide
theorem tz_narrow {v : Int32} (h : v = 0 ∨ v = 1) : narrow .boolean (.int v) = .int v := by
  rcases h with rfl | rfl <;> decide
section WR
variable {p : Program} {l : Launch} {e : Env} {R : Room} {s : State} {m : MethodId} {args : Array Value} {below : List Frame} {meth : Method} {c : Code} {H : Heap} {locs : List Loc} {cells slots : Nat} {Q : State → Prop}
variable {cc : ByteArray} {pc nL : Nat} {ls : Array Slot} {rest : List Value} {D : va_G} {H0 : Heap} {Ts : List Cond} {own : String} {g : GA} {x : St}
/-- a field read -/
theorem w_get {C : String} {T : u_T} {N ci index : Nat} (S : CallFix p m c cc nL s args Ts own) (hin : ∀ w ∈ u_ws C T N, w ∈ Ts) (hK : va_K D vwCl (TY g) s) (hP : va_P D vwCl (WL g x) H) (c0 : Nat) (h0 : c0 < 122) {fs : List Value} (he : cellOf g c0 (x c0) = .inr (ci, fs)) (hc : vwCl[ci]? = some (C, T, N)) (k : Nat) (hk : k < N) (hlink : (Cond.fieldLink own index (T k).1 (T k).2.1 (T k).2.2.1).before args s = true) {v : Value} (hv : fs[k]? = some v) (hdg : decode cc pc = .ok (.getfield index, 3)) (kk : W p l e R s m args below meth c H locs cells slots Q (F0 m (pc + 3) ls (v :: rest))) : W p l e R s m args below meth c H locs cells slots Q (F0 m pc ls (.ref (g.1 c0) :: rest)) := by
  obtain ⟨hx, hb, hml, hown, hts⟩ := S
  exact va_get hx hb hts hin hown hK hP c0 (by rw [WL_at g x h0, he]) hc k hk hlink (fun _ h => h) hv hdg kk
theorem w_getN {C : String} {T : u_T} {N ci index : Nat} (S : CallFix p m c cc nL s args Ts own) (hin : ∀ w ∈ u_ws C T N, w ∈ Ts) (hK : va_K D vwCl (TY g) s) (hP : va_P D vwCl (WL g x) H) (c0 : Nat) (h0 : c0 < 122) {fs : List Value} (he : cellOf g c0 (x c0) = .inr (ci, fs)) (hc : vwCl[ci]? = some (C, T, N)) (k : Nat) (hk : k < N) {host : String} (hlink : va_Nw (.fieldLinkNest own index (T k).1 (T k).2.1 (T k).2.2.1 host) s) {v : Value} (hv : fs[k]? = some v) (hdg : decode cc pc = .ok (.getfield index, 3)) (kk : W p l e R s m args below meth c H locs cells slots Q (F0 m (pc + 3) ls (v :: rest))) : W p l e R s m args below meth c H locs cells slots Q (F0 m pc ls (.ref (g.1 c0) :: rest)) := by
  obtain ⟨hx, hb, hml, hown, hts⟩ := S
  exact va_getN hx hb hts hin hown hK hP c0 (by rw [WL_at g x h0, he]) hc k hk (hlink.use rfl) (fun _ h => h) hv hdg kk
/-- a field written: an int, or a boolean that is 0 or 1 -/
theorem w_put {C : String} {T : u_T} {N ci index : Nat} {ty0 : Nat → FieldType} (S : CallFix p m c cc nL s args Ts own) (hin : ∀ w ∈ u_ws C T N, w ∈ Ts) (hty : ∀ k, k < N → parseFieldDescriptor (T k).2.2.1 = some (ty0 k)) (hnm : ∀ a, a < N → ∀ b, b < N → a ≠ b → (T a).2.1 ≠ (T b).2.1) (hK : va_K D vwCl (TY g) s) (hg : Inj g) (hP : va_P D vwCl (WL g x) H) (hS : va_S (AQ g) H0 H locs) (c0 : Nat) (h0 : c0 < 122) {F : (Nat → Int32) → List Value} (he : ∀ f, cellOf g c0 f = .inr (ci, F f)) (hc : vwCl[ci]? = some (C, T, N)) (k : Nat) (hk : k < N) (hlink : (Cond.fieldLink own index (T k).1 (T k).2.1 (T k).2.2.1).before args s = true) (hfin : (T k).2.2.2 = false) {v : Int32} (hn : narrow (ty0 k) (.int v) = .int v) (hfit : fits (ty0 k) (.int v) = true) (hl : ∀ f, k < (F f).length) (hset : ∀ f, (F f).set k (.int v) = F (upd f k v)) (hdg : decode cc pc = .ok (.putfield index, 3)) (kk : ∀ (x' : St) (H1 : Heap) (locs1 : List Loc), x' = up2 x c0 k v → va_P D vwCl (WL g x') H1 → va_S (AQ g) H0 H1 locs1 → W p l e R s m args below meth c H1 locs1 cells slots Q (F0 m (pc + 3) ls rest)) : W p l e R s m args below meth c H locs cells slots Q (F0 m pc ls (.int v :: .ref (g.1 c0) :: rest)) := by
  obtain ⟨hx, hb, hml, hown, hts⟩ := S
  refine va_put hx hb hts hin ty0 hty hnm hown hK hP (WL_D hg x) hS c0 (by rw [WL_at g x h0, he]) hc k hk hlink (fun _ h => h) hfin (hty k hk) hn hfit (hl _) hdg (fun H1 locs1 hP1 _ hS1 => kk _ H1 locs1 rfl ?_ hS1)
  rw [hset, ← he, WL_set g x h0] at hP1
  exact hP1
theorem w_putN {C : String} {T : u_T} {N ci index : Nat} {ty0 : Nat → FieldType} (S : CallFix p m c cc nL s args Ts own) (hin : ∀ w ∈ u_ws C T N, w ∈ Ts) (hty : ∀ k, k < N → parseFieldDescriptor (T k).2.2.1 = some (ty0 k)) (hnm : ∀ a, a < N → ∀ b, b < N → a ≠ b → (T a).2.1 ≠ (T b).2.1) (hK : va_K D vwCl (TY g) s) (hg : Inj g) (hP : va_P D vwCl (WL g x) H) (hS : va_S (AQ g) H0 H locs) (c0 : Nat) (h0 : c0 < 122) {F : (Nat → Int32) → List Value} (he : ∀ f, cellOf g c0 f = .inr (ci, F f)) (hc : vwCl[ci]? = some (C, T, N)) (k : Nat) (hk : k < N) {host : String} (hlink : va_Nw (.fieldLinkNest own index (T k).1 (T k).2.1 (T k).2.2.1 host) s) (hfin : (T k).2.2.2 = false) {v : Int32} (hn : narrow (ty0 k) (.int v) = .int v) (hfit : fits (ty0 k) (.int v) = true) (hl : ∀ f, k < (F f).length) (hset : ∀ f, (F f).set k (.int v) = F (upd f k v)) (hdg : decode cc pc = .ok (.putfield index, 3)) (kk : ∀ (x' : St) (H1 : Heap) (locs1 : List Loc), x' = up2 x c0 k v → va_P D vwCl (WL g x') H1 → va_S (AQ g) H0 H1 locs1 → W p l e R s m args below meth c H1 locs1 cells slots Q (F0 m (pc + 3) ls rest)) : W p l e R s m args below meth c H locs cells slots Q (F0 m pc ls (.int v :: .ref (g.1 c0) :: rest)) := by
  obtain ⟨hx, hb, hml, hown, hts⟩ := S
  refine va_putN hx hb hts hin ty0 hty hnm hown hK hP (WL_D hg x) hS c0 (by rw [WL_at g x h0, he]) hc k hk (hlink.use rfl) (fun _ h => h) hfin (hty k hk) hn hfit (hl _) hdg (fun H1 locs1 hP1 _ hS1 => kk _ H1 locs1 rfl ?_ hS1)
  rw [hset, ← he, WL_set g x h0] at hP1
  exact hP1
/-- arrays -/
theorem w_iald (S : CallFix p m c cc nL s args Ts own) (hK : va_K D vwCl (TY g) s) (hP : va_P D vwCl (WL g x) H) (c0 : Nat) (h0 : c0 < 122) {n : Nat} (he : ∀ f, cellOf g c0 f = ARR g n f) {i : Int32} (h1 : 0 ≤ i.toInt) (h2 : i.toInt < n) (hdg : decode cc pc = .ok (.iaload, 1)) (kk : ∀ v : Int32, v = x c0 i.toInt.toNat → W p l e R s m args below meth c H locs cells slots Q (F0 m (pc + 1) ls (.int v :: rest))) : W p l e R s m args below meth c H locs cells slots Q (F0 m pc ls (.int i :: .ref (g.1 c0) :: rest)) :=
  va_iald S.1 S.2.1 hK hP c0 0 (by rw [WL_at g x h0, he]; rfl) rfl (vp_of h1 h2) hdg (kk _ rfl)
theorem w_zald (S : CallFix p m c cc nL s args Ts own) (hK : va_K D vwCl (TY g) s) (hP : va_P D vwCl (WL g x) H) (c0 : Nat) (h0 : c0 < 122) {n : Nat} (he : ∀ f, cellOf g c0 f = ARZ g n f) {i : Int32} (h1 : 0 ≤ i.toInt) (h2 : i.toInt < n) (hdg : decode cc pc = .ok (.baload, 1)) (kk : ∀ v : Int32, v = x c0 i.toInt.toNat → W p l e R s m args below meth c H locs cells slots Q (F0 m (pc + 1) ls (.int v :: rest))) : W p l e R s m args below meth c H locs cells slots Q (F0 m pc ls (.int i :: .ref (g.1 c0) :: rest)) :=
  va_zald S.1 S.2.1 hK hP c0 1 (by rw [WL_at g x h0, he]; rfl) rfl (vp_of h1 h2) hdg (kk _ rfl)
theorem w_iast (S : CallFix p m c cc nL s args Ts own) (hK : va_K D vwCl (TY g) s) (hg : Inj g) (hP : va_P D vwCl (WL g x) H) (hS : va_S (AQ g) H0 H locs) (c0 : Nat) (h0 : c0 < 122) {n : Nat} (he : ∀ f, cellOf g c0 f = ARR g n f) {i v : Int32} (h1 : 0 ≤ i.toInt) (h2 : i.toInt < n) (hdg : decode cc pc = .ok (.iastore, 1)) (kk : ∀ (x' : St) (H1 : Heap) (locs1 : List Loc), x' = up2 x c0 i.toInt.toNat v → va_P D vwCl (WL g x') H1 → va_S (AQ g) H0 H1 locs1 → W p l e R s m args below meth c H1 locs1 cells slots Q (F0 m (pc + 1) ls rest)) : W p l e R s m args below meth c H locs cells slots Q (F0 m pc ls (.int v :: .int i :: .ref (g.1 c0) :: rest)) := by
  refine va_iast S.1 S.2.1 hK hP (WL_D hg x) hS c0 0 (n := n) (f := x c0) (cA := g.2 0) (by rw [WL_at g x h0, he]; rfl) rfl (vp_of h1 h2) hdg (fun H1 locs1 hP1 _ hS1 => kk _ H1 locs1 rfl ?_ hS1)
  have e1 := WL_set g x h0 i.toInt.toNat v
  rw [he] at e1
  rw [← e1]
  exact hP1
theorem w_zast (S : CallFix p m c cc nL s args Ts own) (hK : va_K D vwCl (TY g) s) (hg : Inj g) (hP : va_P D vwCl (WL g x) H) (hS : va_S (AQ g) H0 H locs) (c0 : Nat) (h0 : c0 < 122) {n : Nat} (he : ∀ f, cellOf g c0 f = ARZ g n f) {i v : Int32} (hz : v = 0 ∨ v = 1) (h1 : 0 ≤ i.toInt) (h2 : i.toInt < n) (hdg : decode cc pc = .ok (.bastore, 1)) (kk : ∀ (x' : St) (H1 : Heap) (locs1 : List Loc), x' = up2 x c0 i.toInt.toNat v → va_P D vwCl (WL g x') H1 → va_S (AQ g) H0 H1 locs1 → W p l e R s m args below meth c H1 locs1 cells slots Q (F0 m (pc + 1) ls rest)) : W p l e R s m args below meth c H locs cells slots Q (F0 m pc ls (.int v :: .int i :: .ref (g.1 c0) :: rest)) := by
  refine va_zast S.1 S.2.1 hK hP (WL_D hg x) hS c0 1 (n := n) (f := x c0) (cA := g.2 1) (by rw [WL_at g x h0, he]; rfl) rfl (vp_of h1 h2) hdg (fun H1 locs1 hP1 _ hS1 => kk _ H1 locs1 rfl ?_ hS1)
  rw [tz_nar hz] at hP1
  have e1 := WL_set g x h0 i.toInt.toNat v
  rw [he] at e1
  rw [← e1]
  exact hP1
theorem w_alen (S : CallFix p m c cc nL s args Ts own) (hK : va_K D vwCl (TY g) s) (hP : va_P D vwCl (WL g x) H) (c0 : Nat) (h0 : c0 < 122) {n : Nat} (he : ∀ f, cellOf g c0 f = ARR g n f) (hn : n < 2147483648) (hdg : decode cc pc = .ok (.arraylength, 1)) (kk : ∀ v : Int32, v.toInt = n → W p l e R s m args below meth c H locs cells slots Q (F0 m (pc + 1) ls (.int v :: rest))) : W p l e R s m args below meth c H locs cells slots Q (F0 m pc ls (.ref (g.1 c0) :: rest)) :=
  va_alen S.1 S.2.1 hK hP c0 0 (cA := g.2 0) (x := (n, .inl (x c0))) (by rw [WL_at g x h0, he]; rfl) rfl (v := Int32.ofNat n) rfl hdg (kk _ (Int32.toInt_ofNat_of_lt hn))
theorem w_aald (S : CallFix p m c cc nL s args Ts own) (hK : va_K D vwCl (TY g) s) (hP : va_P D vwCl (WL g x) H) {i : Int32} (h1 : 0 ≤ i.toInt) (h2 : i.toInt < 4) (hdg : decode cc pc = .ok (.aaload, 1)) (kk : W p l e R s m args below meth c H locs cells slots Q (F0 m (pc + 1) ls (.ref (g.1 (5 + 21 * i.toInt.toNat)) :: rest))) : W p l e R s m args below meth c H locs cells slots Q (F0 m pc ls (.int i :: .ref (g.1 1) :: rest)) :=
  va_aldq S.1 S.2.1 hK hP 1 2 (cA := g.2 2) (n := 4) (f := fun i => some (g.1 (5 + 21 * i))) (by rw [WL_at g x (by decide)]; rfl) rfl (vp_of h1 h2) hdg kk
/-- numbers on the stack -/
theorem w_iconst (S : CallFix p m c cc nL s args Ts own) {n : Int} (hdg : decode cc pc = .ok (.iconst n, 1)) (hn : (Int32.ofInt n).toInt = n) (kk : ∀ v : Int32, v.toInt = n → W p l e R s m args below meth c H locs cells slots Q (F0 m (pc + 1) ls (.int v :: rest))) : W p l e R s m args below meth c H locs cells slots Q (F0 m pc ls rest) := lv_iconst S.1 S.2.1 hdg rfl (kk _ hn)
theorem w_bipush (S : CallFix p m c cc nL s args Ts own) {n : Int} (hdg : decode cc pc = .ok (.bipush n, 2)) (hn : ((Int8.ofInt n).toInt32).toInt = n) (kk : ∀ v : Int32, v.toInt = n → W p l e R s m args below meth c H locs cells slots Q (F0 m (pc + 2) ls (.int v :: rest))) : W p l e R s m args below meth c H locs cells slots Q (F0 m pc ls rest) := lv_bipush S.1 S.2.1 hdg rfl (kk _ hn)
theorem w_sipush (S : CallFix p m c cc nL s args Ts own) {n : Int} (hdg : decode cc pc = .ok (.sipush n, 3)) (hn : ((Int16.ofInt n).toInt32).toInt = n) (kk : ∀ v : Int32, v.toInt = n → W p l e R s m args below meth c H locs cells slots Q (F0 m (pc + 3) ls (.int v :: rest))) : W p l e R s m args below meth c H locs cells slots Q (F0 m pc ls rest) := lv_sipush S.1 S.2.1 hdg rfl (kk _ hn)
theorem ti_add {a b : Int32} (h1 : -2147483648 ≤ a.toInt + b.toInt) (h2 : a.toInt + b.toInt ≤ 2147483647) : (a + b).toInt = a.toInt + b.toInt := by
  rw [Int32.toInt_add]; exact Int.bmod_eq_of_le (by omega) (by omega)
theorem ti_sub {a b : Int32} (h1 : -2147483648 ≤ a.toInt - b.toInt) (h2 : a.toInt - b.toInt ≤ 2147483647) : (a - b).toInt = a.toInt - b.toInt := by
  rw [Int32.toInt_sub]; exact Int.bmod_eq_of_le (by omega) (by omega)
theorem ti_mul {a b : Int32} (h1 : -2147483648 ≤ a.toInt * b.toInt) (h2 : a.toInt * b.toInt ≤ 2147483647) : (a * b).toInt = a.toInt * b.toInt := by
  rw [Int32.toInt_mul]; exact Int.bmod_eq_of_le (by omega) (by omega)
theorem w_iadd (S : CallFix p m c cc nL s args Ts own) {a b : Int32} (hdg : decode cc pc = .ok (.iadd, 1)) (h1 : -2147483648 ≤ a.toInt + b.toInt) (h2 : a.toInt + b.toInt ≤ 2147483647) (kk : ∀ v : Int32, v.toInt = a.toInt + b.toInt → W p l e R s m args below meth c H locs cells slots Q (F0 m (pc + 1) ls (.int v :: rest))) : W p l e R s m args below meth c H locs cells slots Q (F0 m pc ls (.int b :: .int a :: rest)) := lv_iadd S.1 S.2.1 hdg (kk _ (ti_add h1 h2))
theorem w_isub (S : CallFix p m c cc nL s args Ts own) {a b : Int32} (hdg : decode cc pc = .ok (.isub, 1)) (h1 : -2147483648 ≤ a.toInt - b.toInt) (h2 : a.toInt - b.toInt ≤ 2147483647) (kk : ∀ v : Int32, v.toInt = a.toInt - b.toInt → W p l e R s m args below meth c H locs cells slots Q (F0 m (pc + 1) ls (.int v :: rest))) : W p l e R s m args below meth c H locs cells slots Q (F0 m pc ls (.int b :: .int a :: rest)) := lv_isub S.1 S.2.1 hdg (kk _ (ti_sub h1 h2))
theorem w_imulk (S : CallFix p m c cc nL s args Ts own) {a b : Int32} (hdg : decode cc pc = .ok (.imul, 1)) (z : Int) (hz : a.toInt = z) (h1 : -2147483648 ≤ z * b.toInt) (h2 : z * b.toInt ≤ 2147483647) (kk : ∀ v : Int32, v.toInt = z * b.toInt → W p l e R s m args below meth c H locs cells slots Q (F0 m (pc + 1) ls (.int v :: rest))) : W p l e R s m args below meth c H locs cells slots Q (F0 m pc ls (.int b :: .int a :: rest)) := by
  subst hz
  exact lv_imul S.1 S.2.1 hdg (kk _ (ti_mul h1 h2))
/-- any number that comes of an instruction whose value doesn't matter -/
theorem w_any1 {a : Int32} (k : ∀ v : Int32, W p l e R s m args below meth c H locs cells slots Q (F0 m pc ls (.int v :: rest))) : W p l e R s m args below meth c H locs cells slots Q (F0 m pc ls (.int a :: rest)) := k a
/-- branches, with what they tell of the numbers -/
theorem t_eq {a b : Int32} : (a = b) ↔ a.toInt = b.toInt := Int32.toInt_inj.symm
theorem t_lt {a b : Int32} : (a < b) ↔ a.toInt < b.toInt := Int32.lt_iff_toInt_lt
theorem t_le {a b : Int32} : (a ≤ b) ↔ a.toInt ≤ b.toInt := Int32.le_iff_toInt_le
theorem t_z : (0 : Int32).toInt = 0 := rfl
theorem w_icmp_eq (S : CallFix p m c cc nL s args Ts own) {a b : Int32} {off : Int} {tgt : Nat} (hdg : decode cc pc = .ok (.if_icmp .eq off, 3)) (ht : (pc : Int) + off = (tgt : Int)) (kt : a.toInt = b.toInt → W p l e R s m args below meth c H locs cells slots Q (F0 m tgt ls rest)) (kf : a.toInt ≠ b.toInt → W p l e R s m args below meth c H locs cells slots Q (F0 m (pc + 3) ls rest)) : W p l e R s m args below meth c H locs cells slots Q (F0 m pc ls (.int b :: .int a :: rest)) := lv_icmp_eq S.1 S.2.1 hdg ht (fun h => kt (t_eq.mp h)) (fun h => kf (fun e => h (t_eq.mpr e)))
theorem w_icmp_ne (S : CallFix p m c cc nL s args Ts own) {a b : Int32} {off : Int} {tgt : Nat} (hdg : decode cc pc = .ok (.if_icmp .ne off, 3)) (ht : (pc : Int) + off = (tgt : Int)) (kt : a.toInt ≠ b.toInt → W p l e R s m args below meth c H locs cells slots Q (F0 m tgt ls rest)) (kf : a.toInt = b.toInt → W p l e R s m args below meth c H locs cells slots Q (F0 m (pc + 3) ls rest)) : W p l e R s m args below meth c H locs cells slots Q (F0 m pc ls (.int b :: .int a :: rest)) := lv_icmp_ne S.1 S.2.1 hdg ht (fun h => kt (fun e => h (t_eq.mpr e))) (fun h => kf (t_eq.mp (by first | exact h | exact Decidable.not_not.mp h)))
theorem w_icmp_lt (S : CallFix p m c cc nL s args Ts own) {a b : Int32} {off : Int} {tgt : Nat} (hdg : decode cc pc = .ok (.if_icmp .lt off, 3)) (ht : (pc : Int) + off = (tgt : Int)) (kt : a.toInt < b.toInt → W p l e R s m args below meth c H locs cells slots Q (F0 m tgt ls rest)) (kf : b.toInt ≤ a.toInt → W p l e R s m args below meth c H locs cells slots Q (F0 m (pc + 3) ls rest)) : W p l e R s m args below meth c H locs cells slots Q (F0 m pc ls (.int b :: .int a :: rest)) := lv_icmp_lt S.1 S.2.1 hdg ht (fun h => kt (t_lt.mp h)) (fun h => kf (by rw [t_lt] at h; omega))
theorem w_icmp_ge (S : CallFix p m c cc nL s args Ts own) {a b : Int32} {off : Int} {tgt : Nat} (hdg : decode cc pc = .ok (.if_icmp .ge off, 3)) (ht : (pc : Int) + off = (tgt : Int)) (kt : b.toInt ≤ a.toInt → W p l e R s m args below meth c H locs cells slots Q (F0 m tgt ls rest)) (kf : a.toInt < b.toInt → W p l e R s m args below meth c H locs cells slots Q (F0 m (pc + 3) ls rest)) : W p l e R s m args below meth c H locs cells slots Q (F0 m pc ls (.int b :: .int a :: rest)) := lv_icmp_ge S.1 S.2.1 hdg ht (fun h => kt (by simp only [t_lt, t_le, ge_iff_le] at h; omega)) (fun h => kf (by simp only [t_lt, t_le, ge_iff_le] at h; omega))
theorem w_icmp_gt (S : CallFix p m c cc nL s args Ts own) {a b : Int32} {off : Int} {tgt : Nat} (hdg : decode cc pc = .ok (.if_icmp .gt off, 3)) (ht : (pc : Int) + off = (tgt : Int)) (kt : b.toInt < a.toInt → W p l e R s m args below meth c H locs cells slots Q (F0 m tgt ls rest)) (kf : a.toInt ≤ b.toInt → W p l e R s m args below meth c H locs cells slots Q (F0 m (pc + 3) ls rest)) : W p l e R s m args below meth c H locs cells slots Q (F0 m pc ls (.int b :: .int a :: rest)) := lv_icmp_gt S.1 S.2.1 hdg ht (fun h => kt (by simp only [t_lt, t_le, gt_iff_lt] at h; omega)) (fun h => kf (by simp only [t_lt, t_le, gt_iff_lt] at h; omega))
theorem w_icmp_le (S : CallFix p m c cc nL s args Ts own) {a b : Int32} {off : Int} {tgt : Nat} (hdg : decode cc pc = .ok (.if_icmp .le off, 3)) (ht : (pc : Int) + off = (tgt : Int)) (kt : a.toInt ≤ b.toInt → W p l e R s m args below meth c H locs cells slots Q (F0 m tgt ls rest)) (kf : b.toInt < a.toInt → W p l e R s m args below meth c H locs cells slots Q (F0 m (pc + 3) ls rest)) : W p l e R s m args below meth c H locs cells slots Q (F0 m pc ls (.int b :: .int a :: rest)) := lv_icmp_le S.1 S.2.1 hdg ht (fun h => kt (by simp only [t_lt, t_le] at h; omega)) (fun h => kf (by simp only [t_lt, t_le] at h; omega))
theorem w_if_eq (S : CallFix p m c cc nL s args Ts own) {a : Int32} {off : Int} {tgt : Nat} (hdg : decode cc pc = .ok (.ifCond .eq off, 3)) (ht : (pc : Int) + off = (tgt : Int)) (kt : a.toInt = 0 → W p l e R s m args below meth c H locs cells slots Q (F0 m tgt ls rest)) (kf : a.toInt ≠ 0 → W p l e R s m args below meth c H locs cells slots Q (F0 m (pc + 3) ls rest)) : W p l e R s m args below meth c H locs cells slots Q (F0 m pc ls (.int a :: rest)) := lv_if_eq S.1 S.2.1 hdg ht (fun h => kt (by rw [h]; rfl)) (fun h => kf (fun e => h (t_eq.mpr e)))
theorem w_if_ne (S : CallFix p m c cc nL s args Ts own) {a : Int32} {off : Int} {tgt : Nat} (hdg : decode cc pc = .ok (.ifCond .ne off, 3)) (ht : (pc : Int) + off = (tgt : Int)) (kt : a.toInt ≠ 0 → W p l e R s m args below meth c H locs cells slots Q (F0 m tgt ls rest)) (kf : a.toInt = 0 → W p l e R s m args below meth c H locs cells slots Q (F0 m (pc + 3) ls rest)) : W p l e R s m args below meth c H locs cells slots Q (F0 m pc ls (.int a :: rest)) := lv_if_ne S.1 S.2.1 hdg ht (fun h => kt (fun e => h (t_eq.mpr e))) (fun h => kf (t_eq.mp (by first | exact h | exact Decidable.not_not.mp h)))
theorem w_if_lt (S : CallFix p m c cc nL s args Ts own) {a : Int32} {off : Int} {tgt : Nat} (hdg : decode cc pc = .ok (.ifCond .lt off, 3)) (ht : (pc : Int) + off = (tgt : Int)) (kt : a.toInt < 0 → W p l e R s m args below meth c H locs cells slots Q (F0 m tgt ls rest)) (kf : 0 ≤ a.toInt → W p l e R s m args below meth c H locs cells slots Q (F0 m (pc + 3) ls rest)) : W p l e R s m args below meth c H locs cells slots Q (F0 m pc ls (.int a :: rest)) := lv_if_lt S.1 S.2.1 hdg ht (fun h => kt (by simp only [t_lt, t_z] at h; omega)) (fun h => kf (by simp only [t_lt, t_z] at h; omega))
theorem w_if_ge (S : CallFix p m c cc nL s args Ts own) {a : Int32} {off : Int} {tgt : Nat} (hdg : decode cc pc = .ok (.ifCond .ge off, 3)) (ht : (pc : Int) + off = (tgt : Int)) (kt : 0 ≤ a.toInt → W p l e R s m args below meth c H locs cells slots Q (F0 m tgt ls rest)) (kf : a.toInt < 0 → W p l e R s m args below meth c H locs cells slots Q (F0 m (pc + 3) ls rest)) : W p l e R s m args below meth c H locs cells slots Q (F0 m pc ls (.int a :: rest)) := lv_if_ge S.1 S.2.1 hdg ht (fun h => kt (by simp only [t_lt, t_le, ge_iff_le, t_z] at h; omega)) (fun h => kf (by simp only [t_lt, t_le, ge_iff_le, t_z] at h; omega))
theorem w_if_gt (S : CallFix p m c cc nL s args Ts own) {a : Int32} {off : Int} {tgt : Nat} (hdg : decode cc pc = .ok (.ifCond .gt off, 3)) (ht : (pc : Int) + off = (tgt : Int)) (kt : 0 < a.toInt → W p l e R s m args below meth c H locs cells slots Q (F0 m tgt ls rest)) (kf : a.toInt ≤ 0 → W p l e R s m args below meth c H locs cells slots Q (F0 m (pc + 3) ls rest)) : W p l e R s m args below meth c H locs cells slots Q (F0 m pc ls (.int a :: rest)) := lv_if_gt S.1 S.2.1 hdg ht (fun h => kt (by simp only [t_lt, t_le, gt_iff_lt, t_z] at h; omega)) (fun h => kf (by simp only [t_lt, t_le, gt_iff_lt, t_z] at h; omega))
theorem w_if_le (S : CallFix p m c cc nL s args Ts own) {a : Int32} {off : Int} {tgt : Nat} (hdg : decode cc pc = .ok (.ifCond .le off, 3)) (ht : (pc : Int) + off = (tgt : Int)) (kt : a.toInt ≤ 0 → W p l e R s m args below meth c H locs cells slots Q (F0 m tgt ls rest)) (kf : 0 < a.toInt → W p l e R s m args below meth c H locs cells slots Q (F0 m (pc + 3) ls rest)) : W p l e R s m args below meth c H locs cells slots Q (F0 m pc ls (.int a :: rest)) := lv_if_le S.1 S.2.1 hdg ht (fun h => kt (by simp only [t_lt, t_le, t_z] at h; omega)) (fun h => kf (by simp only [t_lt, t_le, t_z] at h; omega))
/-- locals -/
theorem w_iinc (S : CallFix p m c cc nL s args Ts own) {i k : Nat} {n : Int} {a : Int32} {lv lv' : List (Nat × Value)} (hdg : decode cc pc = .ok (.iinc i n, 3)) (h : lv_has ls nL lv) (hk : lv[k]? = some (i, .int a)) (hn : i < nL) (hq : (Int32.ofInt n).toInt = n) (h1 : -2147483648 ≤ a.toInt + n) (h2 : a.toInt + n ≤ 2147483647) (hl : ∀ v : Int32, (i, Value.int v) :: lv.filter (fun q => !(q.1 == i) && !(q.1 + 1 == i && q.2.category == 2)) = (i, Value.int v) :: lv') (kk : ∀ (v : Int32) (ls' : Array Slot), v.toInt = a.toInt + n → lv_has ls' nL ((i, Value.int v) :: lv') → W p l e R s m args below meth c H locs cells slots Q (F0 m (pc + 3) ls' rest)) : W p l e R s m args below meth c H locs cells slots Q (F0 m pc ls rest) :=
  lv_iinc S.1 S.2.1 hdg h hk rfl hn (hl _) (fun ls' h' => kk _ ls' (by rw [ti_add (by rw [hq]; exact h1) (by rw [hq]; exact h2), hq]) h')
end WR
theorem t_max {a b v : Int32} (e : v = if a < b then b else a) : (a.toInt < b.toInt → v.toInt = b.toInt) ∧ (b.toInt ≤ a.toInt → v.toInt = a.toInt) := by
  by_cases h : a < b
  · rw [if_pos h] at e; rw [e]; rw [t_lt] at h; omega
  · rw [if_neg h] at e; rw [e]; rw [t_lt] at h; omega
theorem t_min {a b v : Int32} (e : v = if b < a then b else a) : (b.toInt < a.toInt → v.toInt = b.toInt) ∧ (a.toInt ≤ b.toInt → v.toInt = a.toInt) := by
  by_cases h : b < a
  · rw [if_pos h] at e; rw [e]; rw [t_lt] at h; omega
  · rw [if_neg h] at e; rw [e]; rw [t_lt] at h; omega
/-! contracts over the one world: entry, ends, calls -/
theorem w_met {l : Launch} {y : MethodName} {ws ws' : List Cond} {rm : Room} {cc : ByteArray} {maxL : Nat} {ret : Option FieldType} {own : String} {av : List Value} {D : va_G} {g : GA} {x : St} {Qc : Array Value → State → Outcome → State → Prop} (hy : plainName y.cls = true) (hw : ws = Cond.code y cc maxL ret :: ws') (ho : y.cls = own) (hlen : (lg_sl av).length ≤ maxL)
    (body : ∀ (p : Program) (e : Env) (s : State) (m : MethodId) (below : List Frame) (meth : Method) (c : Code), CallFix p m c cc maxL s av.toArray ws own → meth.sig.returnType = ret → meth.locks = false → va_K D vwCl (TY g) s → NW s → va_P D vwCl (WL g x) s.heap → va_S (AQ g) s.heap s.heap [] → ∀ ls : Array Slot, lv_has ls maxL (lv_args 0 av) → W p l e rm s m av.toArray below meth c s.heap [] 0 0 (MQ below Qc av.toArray s 0 0 (AQ g)) (F0 m 0 ls [])) : Met l y ws rm (va_Pc av (WI D g x)) Qc 0 0 (AQ g) := by
  refine Met.ofW (cc := cc) (maxL := maxL) (ret := ret) hy hw ?_
  intro p e s m args below meth c s₁ B hml hv
  obtain ⟨rfl, hP, hK, hN⟩ := hv
  have hts := atoms_spec (ws := ws) B.pre
  have hown : s.vm.findClass own = some m.cls := by rw [← ho]; exact findClass_of_methodNamed B.named
  have hl := lv_entry av (n := maxL) hlen
  rw [lg_entry_eq]
  exact body p e s m below meth c ⟨B.exec, B.bytes, hml, hown, hts⟩ B.returns B.notSynchronized hK hN hP va_S.rf _ hl
section WC
variable {p : Program} {l : Launch} {e : Env} {R : Room} {s : State} {m : MethodId} {args : Array Value} {below : List Frame} {meth : Method} {c : Code} {H : Heap} {locs : List Loc} {cells slots : Nat} {Q : State → Prop}
variable {cc : ByteArray} {pc nL : Nat} {ls : Array Slot} {rest : List Value} {D : va_G} {Ts : List Cond} {own : String} {g : GA} {x : St}
theorem w_iret {post : Int32 → St → Prop} {v : Int32} (S : CallFix p m c cc nL s args Ts own) (hr : meth.sig.returnType = some .int) (hlk : meth.locks = false) (hP : va_P D vwCl (WL g x) H) (hS : va_S (AQ g) s.heap H locs) (hdg : decode cc pc = .ok (.ireturn, 1)) (hp : post v x) : W p l e R s m args below meth c H locs 0 0 (MQ below (va_Qi post (WO D g) (AQ g)) args s 0 0 (AQ g)) (F0 m pc ls [.int v]) :=
  W.iret (v := v) S.1 S.2.1 hr (fun t ht hW => ⟨⟨v, x, rfl, hp, by unfold WO; rw [ht]; exact hP⟩, hS.F ht⟩) hS.2.2 hdg hlk
theorem w_zret {post : Int32 → St → Prop} {v : Int32} (S : CallFix p m c cc nL s args Ts own) (hr : meth.sig.returnType = some .boolean) (hlk : meth.locks = false) (hP : va_P D vwCl (WL g x) H) (hS : va_S (AQ g) s.heap H locs) (hdg : decode cc pc = .ok (.ireturn, 1)) (hz : v = 0 ∨ v = 1) (hp : post v x) : W p l e R s m args below meth c H locs 0 0 (MQ below (va_Qi post (WO D g) (AQ g)) args s 0 0 (AQ g)) (F0 m pc ls [.int v]) :=
  W.zret (v := v) S.1 S.2.1 hr (tz_narrow hz) (fun t ht hW => ⟨⟨v, x, rfl, hp, by unfold WO; rw [ht]; exact hP⟩, hS.F ht⟩) hS.2.2 hdg hlk
theorem w_vret {post : St → Prop} (S : CallFix p m c cc nL s args Ts own) (hr : meth.sig.returnType = none) (hlk : meth.locks = false) (hP : va_P D vwCl (WL g x) H) (hS : va_S (AQ g) s.heap H locs) (hdg : decode cc pc = .ok (.return_, 1)) (hp : post x) : W p l e R s m args below meth c H locs 0 0 (MQ below (va_Qv post (WO D g) (AQ g)) args s 0 0 (AQ g)) (F0 m pc ls []) :=
  W.vret S.1 S.2.1 hr (fun t ht hW => ⟨⟨x, rfl, hp, by unfold WO; rw [ht]; exact hP⟩, hS.F ht⟩) hS.2.2 hdg hlk
theorem w_blind (av : List Value) : FrameBlind (va_Pc av (WI D g x)) := fun a U g' mk h => by
  obtain ⟨h1, h2, h3, h4⟩ := h
  exact ⟨h1, h2, va_K.moved (Vm.Alike.refl U.vm) h3, NW.call _ _ _ h4⟩
variable {y : MethodName} {bytes : ByteArray} {maxL n index : Nat} {ret : Option FieldType} {ws : List Cond} {rm : Room} {As st0 : List Value} {lv : List (Nat × Value)}
theorem w_cVi {post : Int32 → St → Prop} (S : CallFix p m c cc nL s args Ts own) (hK : va_K D vwCl (TY g) s) (hN : NW s) (hP : va_P D vwCl (WL g x) H) (hS : va_S (AQ g) s.heap H locs) (hl : lv_has ls nL lv) (c0 : Nat) (h0 : c0 < 122) {ci N : Nat} {fs : List Value} {C : String} {T : u_T} (he : cellOf g c0 (x c0) = .inr (ci, fs)) (hc : vwCl[ci]? = some (C, T, N)) (hM : Met l y ws rm (va_Pc (.ref (g.1 c0) :: As) (WI D g x)) (va_Qi post (WO D g) (AQ g)) 0 0 (AQ g)) (cw : CallW R s args own C index y bytes maxL ret ws rm 0 0 n) (hn : As.length = n) (hst : st0 = As.reverse ++ .ref (g.1 c0) :: rest) (hcat : (rest.map fun v => v.category).sum ≤ 8) (hdg : decode cc pc = .ok (.invokevirtual index, 3)) (hcs : cells ≤ R.cells ∧ slots ≤ R.slots)
    (kk : ∀ (r : Int32) (x' : St) (H1 : Heap) (locs1 : List Loc), post r x' → va_P D vwCl (WL g x') H1 → va_S (AQ g) s.heap H1 locs1 → W p l e R s m args below meth c H1 locs1 cells slots Q (F0 m (pc + 3) ls (.int r :: rest))) : W p l e R s m args below meth c H locs cells slots Q (F0 m pc ls st0) := by
  subst hst
  exact va_calli (mc := 0) (ms := 0) (va_runV (As := As) (rest := rest) S hM cw ⟨w_blind _, va_recv hK hP hc (by rw [WL_at g x h0, he]), fun U hU hW => ⟨rfl, by rw [hU]; exact hP, va_K.moved hW.alike hK, hN.warm hW⟩⟩ rfl hn hl.1 rfl (lv_room hcat) hdg hcs) hS (fun q _ h => h) (fun q h => h) (fun r u t H1 locs1 ht hvm hw hB hz hk hS1 => kk r u H1 locs1 hw (by rw [← ht]; exact hB) hS1)
theorem w_cVv {post : St → Prop} (S : CallFix p m c cc nL s args Ts own) (hK : va_K D vwCl (TY g) s) (hN : NW s) (hP : va_P D vwCl (WL g x) H) (hS : va_S (AQ g) s.heap H locs) (hl : lv_has ls nL lv) (c0 : Nat) (h0 : c0 < 122) {ci N : Nat} {fs : List Value} {C : String} {T : u_T} (he : cellOf g c0 (x c0) = .inr (ci, fs)) (hc : vwCl[ci]? = some (C, T, N)) (hM : Met l y ws rm (va_Pc (.ref (g.1 c0) :: As) (WI D g x)) (va_Qv post (WO D g) (AQ g)) 0 0 (AQ g)) (cw : CallW R s args own C index y bytes maxL ret ws rm 0 0 n) (hn : As.length = n) (hst : st0 = As.reverse ++ .ref (g.1 c0) :: rest) (hcat : (rest.map fun v => v.category).sum ≤ 8) (hdg : decode cc pc = .ok (.invokevirtual index, 3)) (hcs : cells ≤ R.cells ∧ slots ≤ R.slots)
    (kk : ∀ (x' : St) (H1 : Heap) (locs1 : List Loc), post x' → va_P D vwCl (WL g x') H1 → va_S (AQ g) s.heap H1 locs1 → W p l e R s m args below meth c H1 locs1 cells slots Q (F0 m (pc + 3) ls rest)) : W p l e R s m args below meth c H locs cells slots Q (F0 m pc ls st0) := by
  subst hst
  exact va_callv (mc := 0) (ms := 0) (va_runV (As := As) (rest := rest) S hM cw ⟨w_blind _, va_recv hK hP hc (by rw [WL_at g x h0, he]), fun U hU hW => ⟨rfl, by rw [hU]; exact hP, va_K.moved hW.alike hK, hN.warm hW⟩⟩ rfl hn hl.1 rfl (lv_room hcat) hdg hcs) hS (fun q _ h => h) (fun q h => h) (fun u t H1 locs1 ht hvm hw hB hz hk hS1 => kk u H1 locs1 hw (by rw [← ht]; exact hB) hS1)
theorem w_cSi {post : Int32 → St → Prop} (S : CallFix p m c cc nL s args Ts own) (hK : va_K D vwCl (TY g) s) (hN : NW s) (hP : va_P D vwCl (WL g x) H) (hS : va_S (AQ g) s.heap H locs) (hl : lv_has ls nL lv) (hM : Met l y ws rm (va_Pc As (WI D g x)) (va_Qi post (WO D g) (AQ g)) 0 0 (AQ g)) (cw : CallB R s args own index y bytes maxL ret ws rm 0 0 n ∧ (Cond.static y).before args s = true) (hn : As.length = n) (hst : st0 = As.reverse ++ rest) (hcat : (rest.map fun v => v.category).sum ≤ 8) (hdg : decode cc pc = .ok (.invokestatic index, 3)) (hcs : cells ≤ R.cells ∧ slots ≤ R.slots)
    (kk : ∀ (r : Int32) (x' : St) (H1 : Heap) (locs1 : List Loc), post r x' → va_P D vwCl (WL g x') H1 → va_S (AQ g) s.heap H1 locs1 → W p l e R s m args below meth c H1 locs1 cells slots Q (F0 m (pc + 3) ls (.int r :: rest))) : W p l e R s m args below meth c H locs cells slots Q (F0 m pc ls st0) := by
  subst hst
  exact va_calli (mc := 0) (ms := 0) (va_runS (As := As) (rest := rest) S hM cw ⟨w_blind _, fun U hU hW => ⟨rfl, by rw [hU]; exact hP, va_K.moved hW.alike hK, hN.warm hW⟩⟩ rfl hn hl.1 rfl (lv_room hcat) hdg hcs) hS (fun q _ h => h) (fun q h => h) (fun r u t H1 locs1 ht hvm hw hB hz hk hS1 => kk r u H1 locs1 hw (by rw [← ht]; exact hB) hS1)
end WC
end
section
def FPort (g : GA) (B : Nat) (f : Nat → Int32) : List Value := [.ref (g.1 2), .ref (g.1 (B + 1)), .ref (g.1 (B + 2)), .ref (g.1 (B + 4)), .ref (g.1 (B + 7)), .ref (g.1 (B + 12)), .ref (g.1 (B + 17)), .ref (g.1 (B + 19)), .ref (g.1 (B + 20)), .int (f 9), .int (f 10), .int (f 11), .int (f 12), .int (f 13), .int (f 14)]
def FStore (g : GA) (B : Nat) (f : Nat → Int32) : List Value := [.ref (g.1 (B + 5)), .int (f 1), .int (f 2)]
def FOut (g : GA) (B : Nat) (f : Nat → Int32) : List Value := [.ref (g.1 (B + 8)), .ref (g.1 (B + 10)), .int (f 2), .int (f 3), .int (f 4)]
def FWait (g : GA) (B : Nat) (f : Nat → Int32) : List Value := [.ref (g.1 (B + 13)), .ref (g.1 (B + 14)), .ref (g.1 (B + 15)), .ref (g.1 (B + 16)), .int (f 4)]
def FRow (g : GA) (q : Nat) (f : Nat → Int32) : List Value := [.ref (g.1 q), .int (f 1), .int (f 2)]
theorem ceP0 {g : GA} {i : Nat} (hi : i < 4) (f : Nat → Int32) : cellOf g (5 + 21 * i) f = .inr (2, FPort g (5 + 21 * i) f) := cell_port0 g f hi
theorem ceP4 {g : GA} {i : Nat} (hi : i < 4) (f : Nat → Int32) : cellOf g (5 + 21 * i + 4) f = .inr (4, FStore g (5 + 21 * i) f) := cell_port g f hi (by decide)
theorem ceP7 {g : GA} {i : Nat} (hi : i < 4) (f : Nat → Int32) : cellOf g (5 + 21 * i + 7) f = .inr (1, FOut g (5 + 21 * i) f) := cell_port g f hi (by decide)
theorem ceP12 {g : GA} {i : Nat} (hi : i < 4) (f : Nat → Int32) : cellOf g (5 + 21 * i + 12) f = .inr (5, FWait g (5 + 21 * i) f) := cell_port g f hi (by decide)
theorem ceP2 {g : GA} {i : Nat} (hi : i < 4) (f : Nat → Int32) : cellOf g (5 + 21 * i + 2) f = .inr (3, FRow g (5 + 21 * i + 3) f) := cell_port g f hi (by decide)
theorem ceP5 {g : GA} {i : Nat} (hi : i < 4) (f : Nat → Int32) : cellOf g (5 + 21 * i + 5) f = .inr (3, FRow g (5 + 21 * i + 6) f) := cell_port g f hi (by decide)
theorem ceP8 {g : GA} {i : Nat} (hi : i < 4) (f : Nat → Int32) : cellOf g (5 + 21 * i + 8) f = .inr (3, FRow g (5 + 21 * i + 9) f) := cell_port g f hi (by decide)
theorem ceP10 {g : GA} {i : Nat} (hi : i < 4) (f : Nat → Int32) : cellOf g (5 + 21 * i + 10) f = .inr (3, FRow g (5 + 21 * i + 11) f) := cell_port g f hi (by decide)
theorem ceP17 {g : GA} {i : Nat} (hi : i < 4) (f : Nat → Int32) : cellOf g (5 + 21 * i + 17) f = .inr (3, FRow g (5 + 21 * i + 18) f) := cell_port g f hi (by decide)
theorem ceP1 {g : GA} {i : Nat} (hi : i < 4) (f : Nat → Int32) : cellOf g (5 + 21 * i + 1) f = ARR g 25 f := cell_port g f hi (by decide)
theorem ceP3 {g : GA} {i : Nat} (hi : i < 4) (f : Nat → Int32) : cellOf g (5 + 21 * i + 3) f = ARR g 8 f := cell_port g f hi (by decide)
theorem ceP6 {g : GA} {i : Nat} (hi : i < 4) (f : Nat → Int32) : cellOf g (5 + 21 * i + 6) f = ARR g 65 f := cell_port g f hi (by decide)
theorem ceP9 {g : GA} {i : Nat} (hi : i < 4) (f : Nat → Int32) : cellOf g (5 + 21 * i + 9) f = ARR g 64 f := cell_port g f hi (by decide)
theorem ceP11 {g : GA} {i : Nat} (hi : i < 4) (f : Nat → Int32) : cellOf g (5 + 21 * i + 11) f = ARR g 8 f := cell_port g f hi (by decide)
theorem ceP13 {g : GA} {i : Nat} (hi : i < 4) (f : Nat → Int32) : cellOf g (5 + 21 * i + 13) f = ARR g 3 f := cell_port g f hi (by decide)
theorem ceP14 {g : GA} {i : Nat} (hi : i < 4) (f : Nat → Int32) : cellOf g (5 + 21 * i + 14) f = ARR g 3 f := cell_port g f hi (by decide)
theorem ceP16 {g : GA} {i : Nat} (hi : i < 4) (f : Nat → Int32) : cellOf g (5 + 21 * i + 16) f = ARR g 3 f := cell_port g f hi (by decide)
theorem ceP18 {g : GA} {i : Nat} (hi : i < 4) (f : Nat → Int32) : cellOf g (5 + 21 * i + 18) f = ARR g 134 f := cell_port g f hi (by decide)
theorem ceP20 {g : GA} {i : Nat} (hi : i < 4) (f : Nat → Int32) : cellOf g (5 + 21 * i + 20) f = ARR g 5 f := cell_port g f hi (by decide)
theorem ceP15 {g : GA} {i : Nat} (hi : i < 4) (f : Nat → Int32) : cellOf g (5 + 21 * i + 15) f = ARZ g 3 f := cell_port g f hi (by decide)
theorem ceP19 {g : GA} {i : Nat} (hi : i < 4) (f : Nat → Int32) : cellOf g (5 + 21 * i + 19) f = ARZ g 8 f := cell_port g f hi (by decide)
theorem ceK0 {g : GA} (f : Nat → Int32) : cellOf g 0 f = .inr (6, [.ref (g.1 2), .ref (g.1 1)]) := rfl
theorem ceK2 {g : GA} (f : Nat → Int32) : cellOf g 2 f = .inr (0, [.ref (g.1 3), .ref (g.1 4)]) := rfl
theorem ceK3 {g : GA} (f : Nat → Int32) : cellOf g 3 f = ARR g 8 f := rfl
theorem ceK4 {g : GA} (f : Nat → Int32) : cellOf g 4 f = ARR g 8 f := rfl
def FMod (g : GA) (f : Nat → Int32) : List Value := [.int (f 0), .ref (g.1 90), .ref (g.1 91), .ref (g.1 92), .ref (g.1 93), .ref (g.1 94), .ref (g.1 95), .ref (g.1 96), .ref (g.1 97), .ref (g.1 98), .ref (g.1 99), .ref (g.1 100), .ref (g.1 101), .ref (g.1 102), .ref (g.1 103), .ref (g.1 104), .ref (g.1 105), .ref (g.1 106), .ref (g.1 107), .ref (g.1 108), .ref (g.1 109), .ref (g.1 110), .ref (g.1 111), .ref (g.1 112), .ref (g.1 113), .ref (g.1 114), .ref (g.1 115), .ref (g.1 116), .ref (g.1 117), .ref (g.1 118), .ref (g.1 119), .ref (g.1 120), .ref (g.1 121), .int (f 33)]
theorem ceK89 {g : GA} (f : Nat → Int32) : cellOf g 89 f = .inr (7, FMod g f) := rfl
theorem ceK90 {g : GA} (f : Nat → Int32) : cellOf g 90 f = ARR g 100 f := rfl
theorem ceK91 {g : GA} (f : Nat → Int32) : cellOf g 91 f = ARR g 32 f := rfl
theorem ceK92 {g : GA} (f : Nat → Int32) : cellOf g 92 f = ARR g 32 f := rfl
theorem ceK93 {g : GA} (f : Nat → Int32) : cellOf g 93 f = ARR g 4 f := rfl
theorem ceK94 {g : GA} (f : Nat → Int32) : cellOf g 94 f = ARR g 260 f := rfl
theorem ceK95 {g : GA} (f : Nat → Int32) : cellOf g 95 f = ARZ g 260 f := rfl
theorem ceK96 {g : GA} (f : Nat → Int32) : cellOf g 96 f = ARR g 4 f := rfl
theorem ceK97 {g : GA} (f : Nat → Int32) : cellOf g 97 f = ARR g 4 f := rfl
theorem ceK98 {g : GA} (f : Nat → Int32) : cellOf g 98 f = ARR g 4 f := rfl
theorem ceK99 {g : GA} (f : Nat → Int32) : cellOf g 99 f = ARR g 256 f := rfl
theorem ceK100 {g : GA} (f : Nat → Int32) : cellOf g 100 f = ARR g 4 f := rfl
theorem ceK101 {g : GA} (f : Nat → Int32) : cellOf g 101 f = ARR g 32 f := rfl
theorem ceK102 {g : GA} (f : Nat → Int32) : cellOf g 102 f = ARR g 4 f := rfl
theorem ceK103 {g : GA} (f : Nat → Int32) : cellOf g 103 f = ARZ g 4 f := rfl
theorem ceK104 {g : GA} (f : Nat → Int32) : cellOf g 104 f = ARZ g 4 f := rfl
theorem ceK105 {g : GA} (f : Nat → Int32) : cellOf g 105 f = ARR g 4 f := rfl
theorem ceK106 {g : GA} (f : Nat → Int32) : cellOf g 106 f = ARZ g 4 f := rfl
theorem ceK107 {g : GA} (f : Nat → Int32) : cellOf g 107 f = ARR g 4 f := rfl
theorem ceK108 {g : GA} (f : Nat → Int32) : cellOf g 108 f = ARZ g 4 f := rfl
theorem ceK109 {g : GA} (f : Nat → Int32) : cellOf g 109 f = ARZ g 4 f := rfl
theorem ceK110 {g : GA} (f : Nat → Int32) : cellOf g 110 f = ARZ g 4 f := rfl
theorem ceK111 {g : GA} (f : Nat → Int32) : cellOf g 111 f = ARR g 4 f := rfl
theorem ceK112 {g : GA} (f : Nat → Int32) : cellOf g 112 f = ARR g 4 f := rfl
theorem ceK113 {g : GA} (f : Nat → Int32) : cellOf g 113 f = ARR g 12 f := rfl
theorem ceK114 {g : GA} (f : Nat → Int32) : cellOf g 114 f = ARR g 12 f := rfl
theorem ceK115 {g : GA} (f : Nat → Int32) : cellOf g 115 f = ARZ g 12 f := rfl
theorem ceK116 {g : GA} (f : Nat → Int32) : cellOf g 116 f = ARR g 12 f := rfl
theorem ceK117 {g : GA} (f : Nat → Int32) : cellOf g 117 f = ARZ g 32 f := rfl
theorem ceK118 {g : GA} (f : Nat → Int32) : cellOf g 118 f = ARR g 8 f := rfl
theorem ceK119 {g : GA} (f : Nat → Int32) : cellOf g 119 f = ARR g 8 f := rfl
theorem ceK120 {g : GA} (f : Nat → Int32) : cellOf g 120 f = ARR g 20 f := rfl
theorem ceK121 {g : GA} (f : Nat → Int32) : cellOf g 121 f = ARR g 400 f := rfl
def loP (j k : Nat) : Int := match j with
  | 0 => (match k with | 9 => 0 | 10 => 0 | 11 => 0 | 13 => 0 | 14 => -1 | _ => -2147483648)
  | 2 => (match k with | 1 => 0 | 2 => 0 | _ => -2147483648)
  | 5 => (match k with | 1 => 0 | 2 => 0 | _ => -2147483648)
  | 8 => (match k with | 1 => 0 | 2 => 0 | _ => -2147483648)
  | 10 => (match k with | 1 => 0 | 2 => 0 | _ => -2147483648)
  | 17 => (match k with | 1 => 0 | 2 => 0 | _ => -2147483648)
  | 7 => (match k with | 3 => 0 | 4 => 0 | _ => -2147483648)
  | 12 => (match k with | 4 => 0 | _ => -2147483648)
  | 13 => 0
  | 15 => 0
  | 19 => 0
  | _ => -2147483648
def hiP (j k : Nat) : Int := match j with
  | 0 => (match k with | 9 => 1 | 10 => 1 | 11 => 1 | 13 => 1 | 14 => 24 | _ => 2147483647)
  | 2 => (match k with | 1 => 7 | 2 => 8 | _ => 2147483647)
  | 5 => (match k with | 1 => 64 | 2 => 65 | _ => 2147483647)
  | 8 => (match k with | 1 => 63 | 2 => 64 | _ => 2147483647)
  | 10 => (match k with | 1 => 7 | 2 => 8 | _ => 2147483647)
  | 17 => (match k with | 1 => 133 | 2 => 134 | _ => 2147483647)
  | 7 => (match k with | 3 => 1 | 4 => 1 | _ => 2147483647)
  | 12 => (match k with | 4 => 3 | _ => 2147483647)
  | 13 => 24
  | 15 => 1
  | 19 => 1
  | _ => 2147483647
def loM (j k : Nat) : Int := match j with
  | 0 => (match k with | 33 => 0 | _ => -2147483648)
  | 4 => 0
  | 6 => 0
  | 7 => 0
  | 8 => 0
  | 11 => 0
  | 13 => 0
  | 14 => 0
  | 15 => 0
  | 17 => 0
  | 19 => 0
  | 20 => 0
  | 21 => 0
  | 23 => 0
  | 24 => 0
  | 26 => 0
  | 28 => 0
  | _ => -2147483648
def hiM (j k : Nat) : Int := match j with
  | 0 => (match k with | 33 => 400 | _ => 2147483647)
  | 4 => 8
  | 6 => 1
  | 7 => 65
  | 8 => 65
  | 11 => 64
  | 13 => 8
  | 14 => 1
  | 15 => 1
  | 17 => 1
  | 19 => 1
  | 20 => 1
  | 21 => 1
  | 23 => 3
  | 24 => 24
  | 26 => 1
  | 28 => 1
  | _ => 2147483647
def lo (c k : Nat) : Int := if c < 5 then -2147483648 else if c < 89 then loP ((c - 5) % 21) k else loM (c - 89) k
def hi (c k : Nat) : Int := if c < 5 then 2147483647 else if c < 89 then hiP ((c - 5) % 21) k else hiM (c - 89) k
theorem lo_port {i j : Nat} (k : Nat) (h : i < 4) (hj : j < 21) : lo (5 + 21 * i + j) k = loP j k := by
  have h1 : ¬ 5 + 21 * i + j < 5 := by omega
  have h2 : 5 + 21 * i + j < 89 := by omega
  have h4 : (5 + 21 * i + j - 5) % 21 = j := by omega
  simp only [lo, h1, h2, h4, if_false, if_true]
theorem hi_port {i j : Nat} (k : Nat) (h : i < 4) (hj : j < 21) : hi (5 + 21 * i + j) k = hiP j k := by
  have h1 : ¬ 5 + 21 * i + j < 5 := by omega
  have h2 : 5 + 21 * i + j < 89 := by omega
  have h4 : (5 + 21 * i + j - 5) % 21 = j := by omega
  simp only [hi, h1, h2, h4, if_false, if_true]
def Inv (x : St) : Prop := ∀ c k, lo c k ≤ (x c k).toInt ∧ (x c k).toInt ≤ hi c k
theorem Inv.up {x : St} {c k : Nat} {v : Int32} (h : Inv x) (h1 : lo c k ≤ v.toInt) (h2 : v.toInt ≤ hi c k) : Inv (up2 x c k v) := by
  intro c' k'
  by_cases e : c' = c ∧ k' = k
  · obtain ⟨rfl, rfl⟩ := e
    rw [up2_at]
    exact ⟨h1, h2⟩
  · rw [up2_ne x v e]
    exact h c' k'
theorem i_ge (v : Int32) : -2147483648 ≤ v.toInt := Int32.le_toInt v
theorem i_le (v : Int32) : v.toInt ≤ 2147483647 := by have := Int32.toInt_lt v; omega
theorem Inv.upP {x : St} {i j k : Nat} {v : Int32} (h : Inv x) (hi4 : i < 4) (hj : j < 21) (h1 : loP j k ≤ v.toInt) (h2 : v.toInt ≤ hiP j k) : Inv (up2 x (5 + 21 * i + j) k v) := h.up (by rw [lo_port k hi4 hj]; exact h1) (by rw [hi_port k hi4 hj]; exact h2)
theorem Inv.upP0 {x : St} {i k : Nat} {v : Int32} (h : Inv x) (hi4 : i < 4) (h1 : loP 0 k ≤ v.toInt) (h2 : v.toInt ≤ hiP 0 k) : Inv (up2 x (5 + 21 * i) k v) := h.upP (j := 0) hi4 (by decide) h1 h2
theorem Inv.atP {x : St} {i j k : Nat} (h : Inv x) (hi4 : i < 4) (hj : j < 21) : loP j k ≤ (x (5 + 21 * i + j) k).toInt ∧ (x (5 + 21 * i + j) k).toInt ≤ hiP j k := by
  have := h (5 + 21 * i + j) k
  rw [lo_port k hi4 hj, hi_port k hi4 hj] at this
  exact this
theorem Inv.atP0 {x : St} {i k : Nat} (h : Inv x) (hi4 : i < 4) : loP 0 k ≤ (x (5 + 21 * i) k).toInt ∧ (x (5 + 21 * i) k).toInt ≤ hiP 0 k := h.atP (j := 0) hi4 (by decide)
theorem z01 {v : Int32} (h1 : 0 ≤ v.toInt) (h2 : v.toInt ≤ 1) : v = 0 ∨ v = 1 := by
  rcases (show v.toInt = 0 ∨ v.toInt = 1 by omega) with h | h
  · exact Or.inl (t_eq.mpr h)
  · exact Or.inr (t_eq.mpr h)
def Same (T : Nat → Nat → Prop) (x y : St) : Prop := ∀ c k, T c k → y c k = x c k
theorem Same.rf {T : Nat → Nat → Prop} {x : St} : Same T x x := fun _ _ _ => rfl
theorem Same.up {T : Nat → Nat → Prop} {x y : St} {c k : Nat} {v : Int32} (h : Same T x y) (hn : ¬ T c k) : Same T x (up2 y c k v) := by
  intro c' k' ht
  rw [up2_ne y v (fun e => hn (by obtain ⟨rfl, rfl⟩ := e; exact ht))]
  exact h c' k' ht
theorem Same.tr {T T' : Nat → Nat → Prop} {x y z : St} (h : Same T x y) (h' : Same T' y z) (hs : ∀ c k, T c k → T' c k) : Same T x z := fun c k ht => (h' c k (hs c k ht)).trans (h c k ht)
def TrC (c k : Nat) : Prop := 5 ≤ c ∧ c < 89 ∧ (((c - 5) % 21 = 2 ∧ k = 2) ∨ ((c - 5) % 21 = 0 ∧ (k = 10 ∨ k = 11)) ∨ (c - 5) % 21 = 19)
def TC (c k : Nat) : Prop := 89 ≤ c ∨ TrC c k
def TrM (c _ : Nat) : Prop := c = 93 ∨ c = 108 ∨ c = 110 ∨ c = 117
def TM (c k : Nat) : Prop := c < 89 ∨ TrM c k
def TCr (i c k : Nat) : Prop := TC c k ∧ ¬ (c = 5 + 21 * i + 2 ∧ k = 2)
def TCh (i c k : Nat) : Prop := TC c k ∧ ¬ (c = 5 + 21 * i ∧ k = 11)
def TCo (i c k : Nat) : Prop := TC c k ∧ ¬ (c = 5 + 21 * i ∧ k = 11) ∧ ¬ c = 5 + 21 * i + 19
def TCc (i c k : Nat) : Prop := TC c k ∧ ¬ (c = 5 + 21 * i ∧ (k = 10 ∨ k = 11))
def TCp (i c k : Nat) : Prop := TC c k ∧ ¬ c = 5 + 21 * i + 19
def TCt (c k : Nat) : Prop := TC c k ∧ ¬ (5 ≤ c ∧ c < 89 ∧ (c - 5) % 21 = 2 ∧ k = 2)
def TMr (i c k : Nat) : Prop := TM c k ∧ ¬ (c = 93 ∧ k = i)
def TMc (i c k : Nat) : Prop := TM c k ∧ ¬ (c = 108 ∧ k = i) ∧ ¬ (c = 110 ∧ k = i)
def TMo (i c k : Nat) : Prop := TM c k ∧ ¬ (c = 110 ∧ k = i) ∧ ¬ (c = 117 ∧ 8 * i ≤ k ∧ k < 8 * i + 8)
def TMp (a c k : Nat) : Prop := TM c k ∧ ¬ (c = 117 ∧ k = a)
def TMt (c k : Nat) : Prop := TM c k ∧ ¬ c = 93
def TR (c0 : Nat) (c _ : Nat) : Prop := c ≠ c0 ∧ c ≠ c0 + 1
def Rel (x : St) : Prop := ∀ p, p < 4 → (x 97 p).toInt ≤ (x 96 p).toInt
def IsRow (g : GA) (c n : Nat) : Prop := (5 ≤ c ∧ c + 1 < 89) ∧ (∀ f, cellOf g c f = .inr (3, FRow g (c + 1) f)) ∧ (∀ f, cellOf g (c + 1) f = ARR g n f) ∧ (1 ≤ n ∧ n ≤ 134) ∧ (lo c 1 = 0 ∧ hi c 1 = n - 1 ∧ lo c 2 = 0 ∧ hi c 2 = n) ∧ ∀ k, lo (c + 1) k = -2147483648 ∧ hi (c + 1) k = 2147483647
theorem isRow2 {g : GA} {i : Nat} (h : i < 4) : IsRow g (5 + 21 * i + 2) 8 := ⟨⟨by omega, by omega⟩, ceP2 h, ceP3 h, ⟨by decide, by decide⟩, ⟨lo_port 1 h (by decide), hi_port 1 h (by decide), lo_port 2 h (by decide), hi_port 2 h (by decide)⟩, fun k => ⟨lo_port (j := 3) k h (by decide), hi_port (j := 3) k h (by decide)⟩⟩
theorem isRow5 {g : GA} {i : Nat} (h : i < 4) : IsRow g (5 + 21 * i + 5) 65 := ⟨⟨by omega, by omega⟩, ceP5 h, ceP6 h, ⟨by decide, by decide⟩, ⟨lo_port 1 h (by decide), hi_port 1 h (by decide), lo_port 2 h (by decide), hi_port 2 h (by decide)⟩, fun k => ⟨lo_port (j := 6) k h (by decide), hi_port (j := 6) k h (by decide)⟩⟩
theorem isRow8 {g : GA} {i : Nat} (h : i < 4) : IsRow g (5 + 21 * i + 8) 64 := ⟨⟨by omega, by omega⟩, ceP8 h, ceP9 h, ⟨by decide, by decide⟩, ⟨lo_port 1 h (by decide), hi_port 1 h (by decide), lo_port 2 h (by decide), hi_port 2 h (by decide)⟩, fun k => ⟨lo_port (j := 9) k h (by decide), hi_port (j := 9) k h (by decide)⟩⟩
theorem isRow10 {g : GA} {i : Nat} (h : i < 4) : IsRow g (5 + 21 * i + 10) 8 := ⟨⟨by omega, by omega⟩, ceP10 h, ceP11 h, ⟨by decide, by decide⟩, ⟨lo_port 1 h (by decide), hi_port 1 h (by decide), lo_port 2 h (by decide), hi_port 2 h (by decide)⟩, fun k => ⟨lo_port (j := 11) k h (by decide), hi_port (j := 11) k h (by decide)⟩⟩
theorem isRow17 {g : GA} {i : Nat} (h : i < 4) : IsRow g (5 + 21 * i + 17) 134 := ⟨⟨by omega, by omega⟩, ceP17 h, ceP18 h, ⟨by decide, by decide⟩, ⟨lo_port 1 h (by decide), hi_port 1 h (by decide), lo_port 2 h (by decide), hi_port 2 h (by decide)⟩, fun k => ⟨lo_port (j := 18) k h (by decide), hi_port (j := 18) k h (by decide)⟩⟩
theorem IsRow.lt {g : GA} {c n : Nat} (h : IsRow g c n) : c < 122 := by have := h.1; omega
theorem IsRow.lt1 {g : GA} {c n : Nat} (h : IsRow g c n) : c + 1 < 122 := by have := h.1; omega
theorem IsRow.first {g : GA} {c n : Nat} (h : IsRow g c n) {x : St} (hI : Inv x) : 0 ≤ (x c 1).toInt ∧ (x c 1).toInt < n := by
  have h1 := hI c 1
  rw [h.2.2.2.2.1.1, h.2.2.2.2.1.2.1] at h1
  omega
theorem IsRow.size {g : GA} {c n : Nat} (h : IsRow g c n) {x : St} (hI : Inv x) : 0 ≤ (x c 2).toInt ∧ (x c 2).toInt ≤ n := by
  have h1 := hI c 2
  rw [h.2.2.2.2.1.2.2.1, h.2.2.2.2.1.2.2.2] at h1
  omega
theorem IsRow.upF {g : GA} {c n : Nat} (h : IsRow g c n) {x : St} {v : Int32} (hI : Inv x) (h1 : 0 ≤ v.toInt) (h2 : v.toInt < n) : Inv (up2 x c 1 v) := hI.up (by rw [h.2.2.2.2.1.1]; exact h1) (by rw [h.2.2.2.2.1.2.1]; omega)
theorem IsRow.upS {g : GA} {c n : Nat} (h : IsRow g c n) {x : St} {v : Int32} (hI : Inv x) (h1 : 0 ≤ v.toInt) (h2 : v.toInt ≤ n) : Inv (up2 x c 2 v) := hI.up (by rw [h.2.2.2.2.1.2.2.1]; exact h1) (by rw [h.2.2.2.2.1.2.2.2]; exact h2)
theorem IsRow.upA {g : GA} {c n : Nat} (h : IsRow g c n) {x : St} {v : Int32} {k : Nat} (hI : Inv x) : Inv (up2 x (c + 1) k v) := hI.up (by rw [(h.2.2.2.2.2 k).1]; exact i_ge v) (by rw [(h.2.2.2.2.2 k).2]; exact i_le v)
end
section
theorem dX0_init_0 : decode cX0_init 0 = .ok (.aload_n 0, 1) := by decide +kernel
theorem dX0_init_1 : decode cX0_init 1 = .ok (.invokespecial 3, 3) := by decide +kernel
theorem dX0_init_4 : decode cX0_init 4 = .ok (.aload_n 0, 1) := by decide +kernel
theorem dX0_init_5 : decode cX0_init 5 = .ok (.bipush 8, 2) := by decide +kernel
theorem dX0_init_7 : decode cX0_init 7 = .ok (.newarray .int, 2) := by decide +kernel
theorem dX0_init_9 : decode cX0_init 9 = .ok (.putfield 9, 3) := by decide +kernel
theorem dX0_init_12 : decode cX0_init 12 = .ok (.aload_n 0, 1) := by decide +kernel
theorem dX0_init_13 : decode cX0_init 13 = .ok (.bipush 8, 2) := by decide +kernel
theorem dX0_init_15 : decode cX0_init 15 = .ok (.newarray .int, 2) := by decide +kernel
theorem dX0_init_17 : decode cX0_init 17 = .ok (.putfield 15, 3) := by decide +kernel
theorem dX0_init_20 : decode cX0_init 20 = .ok (.iconst 0, 1) := by decide +kernel
theorem dX0_init_21 : decode cX0_init 21 = .ok (.istore_n 1, 1) := by decide +kernel
theorem dX0_init_22 : decode cX0_init 22 = .ok (.iload_n 1, 1) := by decide +kernel
theorem dX0_init_23 : decode cX0_init 23 = .ok (.bipush 8, 2) := by decide +kernel
theorem dX0_init_25 : decode cX0_init 25 = .ok (.if_icmp .ge 16, 3) := by decide +kernel
theorem dX0_init_28 : decode cX0_init 28 = .ok (.aload_n 0, 1) := by decide +kernel
theorem dX0_init_29 : decode cX0_init 29 = .ok (.getfield 9, 3) := by decide +kernel
theorem dX0_init_32 : decode cX0_init 32 = .ok (.iload_n 1, 1) := by decide +kernel
theorem dX0_init_33 : decode cX0_init 33 = .ok (.iload_n 1, 1) := by decide +kernel
theorem dX0_init_34 : decode cX0_init 34 = .ok (.iastore, 1) := by decide +kernel
theorem dX0_init_35 : decode cX0_init 35 = .ok (.iinc 1 1, 3) := by decide +kernel
theorem dX0_init_38 : decode cX0_init 38 = .ok (.goto (-16), 3) := by decide +kernel
theorem dX0_init_41 : decode cX0_init 41 = .ok (.return_, 1) := by decide +kernel
theorem dX0_raise_0 : decode cX0_raise 0 = .ok (.iconst 0, 1) := by decide +kernel
theorem dX0_raise_1 : decode cX0_raise 1 = .ok (.istore_n 3, 1) := by decide +kernel
theorem dX0_raise_2 : decode cX0_raise 2 = .ok (.iload_n 3, 1) := by decide +kernel
theorem dX0_raise_3 : decode cX0_raise 3 = .ok (.bipush 8, 2) := by decide +kernel
theorem dX0_raise_5 : decode cX0_raise 5 = .ok (.if_icmp .ge 29, 3) := by decide +kernel
theorem dX0_raise_8 : decode cX0_raise 8 = .ok (.aload_n 0, 1) := by decide +kernel
theorem dX0_raise_9 : decode cX0_raise 9 = .ok (.getfield 9, 3) := by decide +kernel
theorem dX0_raise_12 : decode cX0_raise 12 = .ok (.iload_n 3, 1) := by decide +kernel
theorem dX0_raise_13 : decode cX0_raise 13 = .ok (.iaload, 1) := by decide +kernel
theorem dX0_raise_14 : decode cX0_raise 14 = .ok (.iload_n 1, 1) := by decide +kernel
theorem dX0_raise_15 : decode cX0_raise 15 = .ok (.if_icmp .ne 13, 3) := by decide +kernel
theorem dX0_raise_18 : decode cX0_raise 18 = .ok (.aload_n 0, 1) := by decide +kernel
theorem dX0_raise_19 : decode cX0_raise 19 = .ok (.getfield 15, 3) := by decide +kernel
theorem dX0_raise_22 : decode cX0_raise 22 = .ok (.iload_n 3, 1) := by decide +kernel
theorem dX0_raise_23 : decode cX0_raise 23 = .ok (.dup2, 1) := by decide +kernel
theorem dX0_raise_24 : decode cX0_raise 24 = .ok (.iaload, 1) := by decide +kernel
theorem dX0_raise_25 : decode cX0_raise 25 = .ok (.iload_n 2, 1) := by decide +kernel
theorem dX0_raise_26 : decode cX0_raise 26 = .ok (.ior, 1) := by decide +kernel
theorem dX0_raise_27 : decode cX0_raise 27 = .ok (.iastore, 1) := by decide +kernel
theorem dX0_raise_28 : decode cX0_raise 28 = .ok (.iinc 3 1, 3) := by decide +kernel
theorem dX0_raise_31 : decode cX0_raise 31 = .ok (.goto (-29), 3) := by decide +kernel
theorem dX0_raise_34 : decode cX0_raise 34 = .ok (.return_, 1) := by decide +kernel
set_option maxRecDepth 20000 in
theorem ggX1_init_X3_init : GoodIn wsX1_init wsX3_init := goodIn_r _ [12, 13, 2, 3, 14, 15, 16, 17, 18] (by decide +kernel) (by decide +kernel)
set_option maxRecDepth 20000 in
theorem gX1_init_X3_init : GoodIn wsX1_init (wsX3_init) := ggX1_init_X3_init
theorem dX1_init_0 : decode cX1_init 0 = .ok (.aload_n 0, 1) := by decide +kernel
theorem dX1_init_1 : decode cX1_init 1 = .ok (.invokespecial 3, 3) := by decide +kernel
theorem dX1_init_4 : decode cX1_init 4 = .ok (.aload_n 0, 1) := by decide +kernel
theorem dX1_init_5 : decode cX1_init 5 = .ok (.new 9, 3) := by decide +kernel
theorem dX1_init_8 : decode cX1_init 8 = .ok (.dup, 1) := by decide +kernel
theorem dX1_init_9 : decode cX1_init 9 = .ok (.bipush 64, 2) := by decide +kernel
theorem dX1_init_11 : decode cX1_init 11 = .ok (.invokespecial 11, 3) := by decide +kernel
theorem dX1_init_14 : decode cX1_init 14 = .ok (.putfield 14, 3) := by decide +kernel
theorem dX1_init_17 : decode cX1_init 17 = .ok (.aload_n 0, 1) := by decide +kernel
theorem dX1_init_18 : decode cX1_init 18 = .ok (.new 9, 3) := by decide +kernel
theorem dX1_init_21 : decode cX1_init 21 = .ok (.dup, 1) := by decide +kernel
theorem dX1_init_22 : decode cX1_init 22 = .ok (.bipush 8, 2) := by decide +kernel
theorem dX1_init_24 : decode cX1_init 24 = .ok (.invokespecial 11, 3) := by decide +kernel
theorem dX1_init_27 : decode cX1_init 27 = .ok (.putfield 20, 3) := by decide +kernel
theorem dX1_init_30 : decode cX1_init 30 = .ok (.aload_n 0, 1) := by decide +kernel
theorem dX1_init_31 : decode cX1_init 31 = .ok (.iconst 1, 1) := by decide +kernel
theorem dX1_init_32 : decode cX1_init 32 = .ok (.putfield 23, 3) := by decide +kernel
theorem dX1_init_35 : decode cX1_init 35 = .ok (.return_, 1) := by decide +kernel
theorem dX1_size_0 : decode cX1_size 0 = .ok (.aload_n 0, 1) := by decide +kernel
theorem dX1_size_1 : decode cX1_size 1 = .ok (.getfield 14, 3) := by decide +kernel
theorem dX1_size_4 : decode cX1_size 4 = .ok (.getfield 27, 3) := by decide +kernel
theorem dX1_size_7 : decode cX1_size 7 = .ok (.aload_n 0, 1) := by decide +kernel
theorem dX1_size_8 : decode cX1_size 8 = .ok (.getfield 20, 3) := by decide +kernel
theorem dX1_size_11 : decode cX1_size 11 = .ok (.getfield 27, 3) := by decide +kernel
theorem dX1_size_14 : decode cX1_size 14 = .ok (.iadd, 1) := by decide +kernel
theorem dX1_size_15 : decode cX1_size 15 = .ok (.ireturn, 1) := by decide +kernel
set_option maxRecDepth 20000 in
theorem ggX1_accept_X3_fits : GoodIn wsX1_accept wsX3_fits := goodIn_r _ [7, 8, 9, 29, 30, 31] (by decide +kernel) (by decide +kernel)
set_option maxRecDepth 20000 in
theorem gX1_accept_X3_fits : GoodIn wsX1_accept (wsV RX1 31 RX3 yX3_fits wsX3_fits) := goodIn_app (goodIn_of _ (by decide +kernel)) ggX1_accept_X3_fits
set_option maxRecDepth 20000 in
theorem ggX1_accept_X3_at : GoodIn wsX1_accept wsX3_at := goodIn_r _ [13, 9, 14, 8, 29, 30, 31] (by decide +kernel) (by decide +kernel)
set_option maxRecDepth 20000 in
theorem gX1_accept_X3_at : GoodIn wsX1_accept (wsV RX1 35 RX3 yX3_at wsX3_at) := goodIn_app (goodIn_of _ (by decide +kernel)) ggX1_accept_X3_at
set_option maxRecDepth 20000 in
theorem ggX1_accept_X3_add : GoodIn wsX1_accept wsX3_add := goodIn_r _ [18, 9, 8, 14, 29, 30, 31] (by decide +kernel) (by decide +kernel)
set_option maxRecDepth 20000 in
theorem gX1_accept_X3_add : GoodIn wsX1_accept (wsV RX1 39 RX3 yX3_add wsX3_add) := goodIn_app (goodIn_of _ (by decide +kernel)) ggX1_accept_X3_add
set_option maxRecDepth 20000 in
theorem ggX1_accept_X1_columnBehind : GoodIn wsX1_accept wsX1_columnBehind := goodIn_r _ [23, 2, 24, 25, 26, 27, 28] (by decide +kernel) (by decide +kernel)
set_option maxRecDepth 20000 in
theorem gX1_accept_X1_columnBehind : GoodIn wsX1_accept (wsV RX1 42 RX1 yX1_columnBehind wsX1_columnBehind) := goodIn_app (goodIn_of _ (by decide +kernel)) ggX1_accept_X1_columnBehind
theorem dX1_accept_0 : decode cX1_accept 0 = .ok (.aload_n 0, 1) := by decide +kernel
theorem dX1_accept_1 : decode cX1_accept 1 = .ok (.getfield 14, 3) := by decide +kernel
theorem dX1_accept_4 : decode cX1_accept 4 = .ok (.aload_n 1, 1) := by decide +kernel
theorem dX1_accept_5 : decode cX1_accept 5 = .ok (.getfield 27, 3) := by decide +kernel
theorem dX1_accept_8 : decode cX1_accept 8 = .ok (.invokevirtual 31, 3) := by decide +kernel
theorem dX1_accept_11 : decode cX1_accept 11 = .ok (.ifCond .ne 5, 3) := by decide +kernel
theorem dX1_accept_14 : decode cX1_accept 14 = .ok (.iconst 0, 1) := by decide +kernel
theorem dX1_accept_15 : decode cX1_accept 15 = .ok (.ireturn, 1) := by decide +kernel
theorem dX1_accept_16 : decode cX1_accept 16 = .ok (.iconst 0, 1) := by decide +kernel
theorem dX1_accept_17 : decode cX1_accept 17 = .ok (.istore_n 2, 1) := by decide +kernel
theorem dX1_accept_18 : decode cX1_accept 18 = .ok (.iload_n 2, 1) := by decide +kernel
theorem dX1_accept_19 : decode cX1_accept 19 = .ok (.aload_n 1, 1) := by decide +kernel
theorem dX1_accept_20 : decode cX1_accept 20 = .ok (.getfield 27, 3) := by decide +kernel
theorem dX1_accept_23 : decode cX1_accept 23 = .ok (.if_icmp .ge 32, 3) := by decide +kernel
theorem dX1_accept_26 : decode cX1_accept 26 = .ok (.aload_n 1, 1) := by decide +kernel
theorem dX1_accept_27 : decode cX1_accept 27 = .ok (.iload_n 2, 1) := by decide +kernel
theorem dX1_accept_28 : decode cX1_accept 28 = .ok (.invokevirtual 35, 3) := by decide +kernel
theorem dX1_accept_31 : decode cX1_accept 31 = .ok (.istore_n 3, 1) := by decide +kernel
theorem dX1_accept_32 : decode cX1_accept 32 = .ok (.aload_n 0, 1) := by decide +kernel
theorem dX1_accept_33 : decode cX1_accept 33 = .ok (.getfield 14, 3) := by decide +kernel
theorem dX1_accept_36 : decode cX1_accept 36 = .ok (.iload_n 3, 1) := by decide +kernel
theorem dX1_accept_37 : decode cX1_accept 37 = .ok (.invokevirtual 39, 3) := by decide +kernel
theorem dX1_accept_40 : decode cX1_accept 40 = .ok (.aload_n 0, 1) := by decide +kernel
theorem dX1_accept_41 : decode cX1_accept 41 = .ok (.aload_n 0, 1) := by decide +kernel
theorem dX1_accept_42 : decode cX1_accept 42 = .ok (.iload_n 3, 1) := by decide +kernel
theorem dX1_accept_43 : decode cX1_accept 43 = .ok (.invokevirtual 42, 3) := by decide +kernel
theorem dX1_accept_46 : decode cX1_accept 46 = .ok (.putfield 45, 3) := by decide +kernel
theorem dX1_accept_49 : decode cX1_accept 49 = .ok (.iinc 2 1, 3) := by decide +kernel
theorem dX1_accept_52 : decode cX1_accept 52 = .ok (.goto (-34), 3) := by decide +kernel
theorem dX1_accept_55 : decode cX1_accept 55 = .ok (.iconst 1, 1) := by decide +kernel
theorem dX1_accept_56 : decode cX1_accept 56 = .ok (.ireturn, 1) := by decide +kernel
theorem dX1_columnBehind_0 : decode cX1_columnBehind 0 = .ok (.iload_n 1, 1) := by decide +kernel
theorem dX1_columnBehind_1 : decode cX1_columnBehind 1 = .ok (.bipush 13, 2) := by decide +kernel
theorem dX1_columnBehind_3 : decode cX1_columnBehind 3 = .ok (.if_icmp .ne 5, 3) := by decide +kernel
theorem dX1_columnBehind_6 : decode cX1_columnBehind 6 = .ok (.iconst 0, 1) := by decide +kernel
theorem dX1_columnBehind_7 : decode cX1_columnBehind 7 = .ok (.ireturn, 1) := by decide +kernel
theorem dX1_columnBehind_8 : decode cX1_columnBehind 8 = .ok (.iload_n 1, 1) := by decide +kernel
theorem dX1_columnBehind_9 : decode cX1_columnBehind 9 = .ok (.bipush 8, 2) := by decide +kernel
theorem dX1_columnBehind_11 : decode cX1_columnBehind 11 = .ok (.if_icmp .ne 21, 3) := by decide +kernel
theorem dX1_columnBehind_14 : decode cX1_columnBehind 14 = .ok (.aload_n 0, 1) := by decide +kernel
theorem dX1_columnBehind_15 : decode cX1_columnBehind 15 = .ok (.getfield 45, 3) := by decide +kernel
theorem dX1_columnBehind_18 : decode cX1_columnBehind 18 = .ok (.ifCond .le 12, 3) := by decide +kernel
theorem dX1_columnBehind_21 : decode cX1_columnBehind 21 = .ok (.aload_n 0, 1) := by decide +kernel
theorem dX1_columnBehind_22 : decode cX1_columnBehind 22 = .ok (.getfield 45, 3) := by decide +kernel
theorem dX1_columnBehind_25 : decode cX1_columnBehind 25 = .ok (.iconst 1, 1) := by decide +kernel
theorem dX1_columnBehind_26 : decode cX1_columnBehind 26 = .ok (.isub, 1) := by decide +kernel
theorem dX1_columnBehind_27 : decode cX1_columnBehind 27 = .ok (.goto 4, 3) := by decide +kernel
theorem dX1_columnBehind_30 : decode cX1_columnBehind 30 = .ok (.iconst 0, 1) := by decide +kernel
theorem dX1_columnBehind_31 : decode cX1_columnBehind 31 = .ok (.ireturn, 1) := by decide +kernel
theorem dX1_columnBehind_32 : decode cX1_columnBehind 32 = .ok (.iload_n 1, 1) := by decide +kernel
theorem dX1_columnBehind_33 : decode cX1_columnBehind 33 = .ok (.bipush 9, 2) := by decide +kernel
theorem dX1_columnBehind_35 : decode cX1_columnBehind 35 = .ok (.if_icmp .ne 16, 3) := by decide +kernel
theorem dX1_columnBehind_38 : decode cX1_columnBehind 38 = .ok (.aload_n 0, 1) := by decide +kernel
theorem dX1_columnBehind_39 : decode cX1_columnBehind 39 = .ok (.getfield 45, 3) := by decide +kernel
theorem dX1_columnBehind_42 : decode cX1_columnBehind 42 = .ok (.bipush 8, 2) := by decide +kernel
theorem dX1_columnBehind_44 : decode cX1_columnBehind 44 = .ok (.idiv, 1) := by decide +kernel
theorem dX1_columnBehind_45 : decode cX1_columnBehind 45 = .ok (.iconst 1, 1) := by decide +kernel
theorem dX1_columnBehind_46 : decode cX1_columnBehind 46 = .ok (.iadd, 1) := by decide +kernel
theorem dX1_columnBehind_47 : decode cX1_columnBehind 47 = .ok (.bipush 8, 2) := by decide +kernel
theorem dX1_columnBehind_49 : decode cX1_columnBehind 49 = .ok (.imul, 1) := by decide +kernel
theorem dX1_columnBehind_50 : decode cX1_columnBehind 50 = .ok (.ireturn, 1) := by decide +kernel
theorem dX1_columnBehind_51 : decode cX1_columnBehind 51 = .ok (.iload_n 1, 1) := by decide +kernel
theorem dX1_columnBehind_52 : decode cX1_columnBehind 52 = .ok (.bipush 32, 2) := by decide +kernel
theorem dX1_columnBehind_54 : decode cX1_columnBehind 54 = .ok (.if_icmp .lt 18, 3) := by decide +kernel
theorem dX1_columnBehind_57 : decode cX1_columnBehind 57 = .ok (.iload_n 1, 1) := by decide +kernel
theorem dX1_columnBehind_58 : decode cX1_columnBehind 58 = .ok (.bipush 127, 2) := by decide +kernel
theorem dX1_columnBehind_60 : decode cX1_columnBehind 60 = .ok (.if_icmp .eq 12, 3) := by decide +kernel
theorem dX1_columnBehind_63 : decode cX1_columnBehind 63 = .ok (.aload_n 0, 1) := by decide +kernel
theorem dX1_columnBehind_64 : decode cX1_columnBehind 64 = .ok (.getfield 45, 3) := by decide +kernel
theorem dX1_columnBehind_67 : decode cX1_columnBehind 67 = .ok (.iconst 1, 1) := by decide +kernel
theorem dX1_columnBehind_68 : decode cX1_columnBehind 68 = .ok (.iadd, 1) := by decide +kernel
theorem dX1_columnBehind_69 : decode cX1_columnBehind 69 = .ok (.goto 7, 3) := by decide +kernel
theorem dX1_columnBehind_72 : decode cX1_columnBehind 72 = .ok (.aload_n 0, 1) := by decide +kernel
theorem dX1_columnBehind_73 : decode cX1_columnBehind 73 = .ok (.getfield 45, 3) := by decide +kernel
theorem dX1_columnBehind_76 : decode cX1_columnBehind 76 = .ok (.ireturn, 1) := by decide +kernel
theorem dX1_blanksOfTab_0 : decode cX1_blanksOfTab 0 = .ok (.bipush 8, 2) := by decide +kernel
theorem dX1_blanksOfTab_2 : decode cX1_blanksOfTab 2 = .ok (.aload_n 0, 1) := by decide +kernel
theorem dX1_blanksOfTab_3 : decode cX1_blanksOfTab 3 = .ok (.getfield 45, 3) := by decide +kernel
theorem dX1_blanksOfTab_6 : decode cX1_blanksOfTab 6 = .ok (.bipush 8, 2) := by decide +kernel
theorem dX1_blanksOfTab_8 : decode cX1_blanksOfTab 8 = .ok (.irem, 1) := by decide +kernel
theorem dX1_blanksOfTab_9 : decode cX1_blanksOfTab 9 = .ok (.isub, 1) := by decide +kernel
theorem dX1_blanksOfTab_10 : decode cX1_blanksOfTab 10 = .ok (.ireturn, 1) := by decide +kernel
set_option maxRecDepth 20000 in
theorem ggX1_push_X3_fits : GoodIn wsX1_push wsX3_fits := goodIn_r _ [7, 8, 9, 24, 25, 26] (by decide +kernel) (by decide +kernel)
set_option maxRecDepth 20000 in
theorem gX1_push_X3_fits : GoodIn wsX1_push (wsV RX1 31 RX3 yX3_fits wsX3_fits) := goodIn_app (goodIn_of _ (by decide +kernel)) ggX1_push_X3_fits
set_option maxRecDepth 20000 in
theorem ggX1_push_X3_takeFirst : GoodIn wsX1_push wsX3_takeFirst := goodIn_r _ [13, 9, 8, 14, 24, 25, 26] (by decide +kernel) (by decide +kernel)
set_option maxRecDepth 20000 in
theorem gX1_push_X3_takeFirst : GoodIn wsX1_push (wsV RX1 48 RX3 yX3_takeFirst wsX3_takeFirst) := goodIn_app (goodIn_of _ (by decide +kernel)) ggX1_push_X3_takeFirst
set_option maxRecDepth 20000 in
theorem ggX1_push_X3_add : GoodIn wsX1_push wsX3_add := goodIn_r _ [18, 9, 8, 14, 24, 25, 26] (by decide +kernel) (by decide +kernel)
set_option maxRecDepth 20000 in
theorem gX1_push_X3_add : GoodIn wsX1_push (wsV RX1 39 RX3 yX3_add wsX3_add) := goodIn_app (goodIn_of _ (by decide +kernel)) ggX1_push_X3_add
theorem dX1_push_0 : decode cX1_push 0 = .ok (.iconst 0, 1) := by decide +kernel
theorem dX1_push_1 : decode cX1_push 1 = .ok (.istore_n 1, 1) := by decide +kernel
theorem dX1_push_2 : decode cX1_push 2 = .ok (.iload_n 1, 1) := by decide +kernel
theorem dX1_push_3 : decode cX1_push 3 = .ok (.bipush 8, 2) := by decide +kernel
theorem dX1_push_5 : decode cX1_push 5 = .ok (.if_icmp .ge 44, 3) := by decide +kernel
theorem dX1_push_8 : decode cX1_push 8 = .ok (.aload_n 0, 1) := by decide +kernel
theorem dX1_push_9 : decode cX1_push 9 = .ok (.getfield 20, 3) := by decide +kernel
theorem dX1_push_12 : decode cX1_push 12 = .ok (.iconst 1, 1) := by decide +kernel
theorem dX1_push_13 : decode cX1_push 13 = .ok (.invokevirtual 31, 3) := by decide +kernel
theorem dX1_push_16 : decode cX1_push 16 = .ok (.ifCond .eq 33, 3) := by decide +kernel
theorem dX1_push_19 : decode cX1_push 19 = .ok (.aload_n 0, 1) := by decide +kernel
theorem dX1_push_20 : decode cX1_push 20 = .ok (.getfield 14, 3) := by decide +kernel
theorem dX1_push_23 : decode cX1_push 23 = .ok (.getfield 27, 3) := by decide +kernel
theorem dX1_push_26 : decode cX1_push 26 = .ok (.ifCond .le 23, 3) := by decide +kernel
theorem dX1_push_29 : decode cX1_push 29 = .ok (.aload_n 0, 1) := by decide +kernel
theorem dX1_push_30 : decode cX1_push 30 = .ok (.getfield 20, 3) := by decide +kernel
theorem dX1_push_33 : decode cX1_push 33 = .ok (.aload_n 0, 1) := by decide +kernel
theorem dX1_push_34 : decode cX1_push 34 = .ok (.getfield 14, 3) := by decide +kernel
theorem dX1_push_37 : decode cX1_push 37 = .ok (.invokevirtual 48, 3) := by decide +kernel
theorem dX1_push_40 : decode cX1_push 40 = .ok (.invokevirtual 39, 3) := by decide +kernel
theorem dX1_push_43 : decode cX1_push 43 = .ok (.iinc 1 1, 3) := by decide +kernel
theorem dX1_push_46 : decode cX1_push 46 = .ok (.goto (-44), 3) := by decide +kernel
theorem dX1_push_49 : decode cX1_push 49 = .ok (.return_, 1) := by decide +kernel
set_option maxRecDepth 20000 in
theorem ggX1_takeFromSender_X3_takeFirst : GoodIn wsX1_takeFromSender wsX3_takeFirst := goodIn_r _ [8, 9, 10, 11, 17, 18, 19] (by decide +kernel) (by decide +kernel)
set_option maxRecDepth 20000 in
theorem gX1_takeFromSender_X3_takeFirst : GoodIn wsX1_takeFromSender (wsV RX1 48 RX3 yX3_takeFirst wsX3_takeFirst) := goodIn_app (goodIn_of _ (by decide +kernel)) ggX1_takeFromSender_X3_takeFirst
theorem dX1_takeFromSender_0 : decode cX1_takeFromSender 0 = .ok (.aload_n 0, 1) := by decide +kernel
theorem dX1_takeFromSender_1 : decode cX1_takeFromSender 1 = .ok (.getfield 52, 3) := by decide +kernel
theorem dX1_takeFromSender_4 : decode cX1_takeFromSender 4 = .ok (.ifCond .ne 10, 3) := by decide +kernel
theorem dX1_takeFromSender_7 : decode cX1_takeFromSender 7 = .ok (.aload_n 0, 1) := by decide +kernel
theorem dX1_takeFromSender_8 : decode cX1_takeFromSender 8 = .ok (.getfield 23, 3) := by decide +kernel
theorem dX1_takeFromSender_11 : decode cX1_takeFromSender 11 = .ok (.ifCond .ne 7, 3) := by decide +kernel
theorem dX1_takeFromSender_14 : decode cX1_takeFromSender 14 = .ok (.iconst (-1), 1) := by decide +kernel
theorem dX1_takeFromSender_15 : decode cX1_takeFromSender 15 = .ok (.goto 10, 3) := by decide +kernel
theorem dX1_takeFromSender_18 : decode cX1_takeFromSender 18 = .ok (.aload_n 0, 1) := by decide +kernel
theorem dX1_takeFromSender_19 : decode cX1_takeFromSender 19 = .ok (.getfield 20, 3) := by decide +kernel
theorem dX1_takeFromSender_22 : decode cX1_takeFromSender 22 = .ok (.invokevirtual 48, 3) := by decide +kernel
theorem dX1_takeFromSender_25 : decode cX1_takeFromSender 25 = .ok (.ireturn, 1) := by decide +kernel
set_option maxRecDepth 20000 in
theorem ggX2_init_X3_init : GoodIn wsX2_init wsX3_init := goodIn_r _ [38, 39, 2, 3, 30, 40, 77, 78, 79] (by decide +kernel) (by decide +kernel)
set_option maxRecDepth 20000 in
theorem gX2_init_X3_init : GoodIn wsX2_init (wsX3_init) := ggX2_init_X3_init
set_option maxRecDepth 20000 in
theorem ggX2_init_X4_init : GoodIn wsX2_init wsX4_init := goodIn_r _ [42, 43, 2, 3, 44, 12, 13, 45, 46, 37, 38, 39, 30, 40, 77, 78, 79, 80, 81, 82] (by decide +kernel) (by decide +kernel)
set_option maxRecDepth 20000 in
theorem gX2_init_X4_init_n34 : GoodIn wsX2_init (wsX4_init) := ggX2_init_X4_init
set_option maxRecDepth 20000 in
theorem ggX2_init_X1_init : GoodIn wsX2_init wsX1_init := goodIn_r _ [48, 49, 2, 3, 50, 12, 13, 51, 52, 53, 54, 37, 38, 39, 30, 40, 77, 78, 79, 83, 84, 85, 86, 87] (by decide +kernel) (by decide +kernel)
set_option maxRecDepth 20000 in
theorem gX2_init_X1_init_n41 : GoodIn wsX2_init (wsX1_init) := ggX2_init_X1_init
set_option maxRecDepth 20000 in
theorem ggX2_init_X5_init : GoodIn wsX2_init wsX5_init := goodIn_r _ [56, 57, 2, 3, 30, 58, 59, 28, 60, 61, 88, 89, 90, 91, 92] (by decide +kernel) (by decide +kernel)
set_option maxRecDepth 20000 in
theorem gX2_init_X5_init_n48 : GoodIn wsX2_init (wsX5_init) := ggX2_init_X5_init
theorem dX2_init_0 : decode cX2_init 0 = .ok (.aload_n 0, 1) := by decide +kernel
theorem dX2_init_1 : decode cX2_init 1 = .ok (.invokespecial 3, 3) := by decide +kernel
theorem dX2_init_4 : decode cX2_init 4 = .ok (.aload_n 0, 1) := by decide +kernel
theorem dX2_init_5 : decode cX2_init 5 = .ok (.getstatic 9, 3) := by decide +kernel
theorem dX2_init_8 : decode cX2_init 8 = .ok (.invokevirtual 13, 3) := by decide +kernel
theorem dX2_init_11 : decode cX2_init 11 = .ok (.checkcast 14, 3) := by decide +kernel
theorem dX2_init_14 : decode cX2_init 14 = .ok (.putfield 18, 3) := by decide +kernel
theorem dX2_init_17 : decode cX2_init 17 = .ok (.aload_n 0, 1) := by decide +kernel
theorem dX2_init_18 : decode cX2_init 18 = .ok (.new 23, 3) := by decide +kernel
theorem dX2_init_21 : decode cX2_init 21 = .ok (.dup, 1) := by decide +kernel
theorem dX2_init_22 : decode cX2_init 22 = .ok (.bipush 8, 2) := by decide +kernel
theorem dX2_init_24 : decode cX2_init 24 = .ok (.invokespecial 25, 3) := by decide +kernel
theorem dX2_init_27 : decode cX2_init 27 = .ok (.putfield 28, 3) := by decide +kernel
theorem dX2_init_30 : decode cX2_init 30 = .ok (.aload_n 0, 1) := by decide +kernel
theorem dX2_init_31 : decode cX2_init 31 = .ok (.new 32, 3) := by decide +kernel
theorem dX2_init_34 : decode cX2_init 34 = .ok (.dup, 1) := by decide +kernel
theorem dX2_init_35 : decode cX2_init 35 = .ok (.invokespecial 34, 3) := by decide +kernel
theorem dX2_init_38 : decode cX2_init 38 = .ok (.putfield 35, 3) := by decide +kernel
theorem dX2_init_41 : decode cX2_init 41 = .ok (.aload_n 0, 1) := by decide +kernel
theorem dX2_init_42 : decode cX2_init 42 = .ok (.new 39, 3) := by decide +kernel
theorem dX2_init_45 : decode cX2_init 45 = .ok (.dup, 1) := by decide +kernel
theorem dX2_init_46 : decode cX2_init 46 = .ok (.invokespecial 41, 3) := by decide +kernel
theorem dX2_init_49 : decode cX2_init 49 = .ok (.putfield 42, 3) := by decide +kernel
theorem dX2_init_52 : decode cX2_init 52 = .ok (.aload_n 0, 1) := by decide +kernel
theorem dX2_init_53 : decode cX2_init 53 = .ok (.new 46, 3) := by decide +kernel
theorem dX2_init_56 : decode cX2_init 56 = .ok (.dup, 1) := by decide +kernel
theorem dX2_init_57 : decode cX2_init 57 = .ok (.invokespecial 48, 3) := by decide +kernel
theorem dX2_init_60 : decode cX2_init 60 = .ok (.putfield 49, 3) := by decide +kernel
theorem dX2_init_63 : decode cX2_init 63 = .ok (.aload_n 0, 1) := by decide +kernel
theorem dX2_init_64 : decode cX2_init 64 = .ok (.new 23, 3) := by decide +kernel
theorem dX2_init_67 : decode cX2_init 67 = .ok (.dup, 1) := by decide +kernel
theorem dX2_init_68 : decode cX2_init 68 = .ok (.sipush 134, 3) := by decide +kernel
theorem dX2_init_71 : decode cX2_init 71 = .ok (.invokespecial 25, 3) := by decide +kernel
theorem dX2_init_74 : decode cX2_init 74 = .ok (.putfield 53, 3) := by decide +kernel
theorem dX2_init_77 : decode cX2_init 77 = .ok (.aload_n 0, 1) := by decide +kernel
theorem dX2_init_78 : decode cX2_init 78 = .ok (.bipush 8, 2) := by decide +kernel
theorem dX2_init_80 : decode cX2_init 80 = .ok (.newarray .boolean, 2) := by decide +kernel
theorem dX2_init_82 : decode cX2_init 82 = .ok (.putfield 56, 3) := by decide +kernel
theorem dX2_init_85 : decode cX2_init 85 = .ok (.aload_n 0, 1) := by decide +kernel
theorem dX2_init_86 : decode cX2_init 86 = .ok (.iconst 5, 1) := by decide +kernel
theorem dX2_init_87 : decode cX2_init 87 = .ok (.newarray .int, 2) := by decide +kernel
theorem dX2_init_89 : decode cX2_init 89 = .ok (.putfield 60, 3) := by decide +kernel
theorem dX2_init_92 : decode cX2_init 92 = .ok (.aload_n 0, 1) := by decide +kernel
theorem dX2_init_93 : decode cX2_init 93 = .ok (.iconst 1, 1) := by decide +kernel
theorem dX2_init_94 : decode cX2_init 94 = .ok (.putfield 63, 3) := by decide +kernel
theorem dX2_init_97 : decode cX2_init 97 = .ok (.aload_n 0, 1) := by decide +kernel
theorem dX2_init_98 : decode cX2_init 98 = .ok (.iconst (-1), 1) := by decide +kernel
theorem dX2_init_99 : decode cX2_init 99 = .ok (.putfield 67, 3) := by decide +kernel
theorem dX2_init_102 : decode cX2_init 102 = .ok (.aload_n 0, 1) := by decide +kernel
theorem dX2_init_103 : decode cX2_init 103 = .ok (.iconst (-1), 1) := by decide +kernel
theorem dX2_init_104 : decode cX2_init 104 = .ok (.putfield 71, 3) := by decide +kernel
theorem dX2_init_107 : decode cX2_init 107 = .ok (.aload_n 0, 1) := by decide +kernel
theorem dX2_init_108 : decode cX2_init 108 = .ok (.aload_n 1, 1) := by decide +kernel
theorem dX2_init_109 : decode cX2_init 109 = .ok (.putfield 74, 3) := by decide +kernel
theorem dX2_init_112 : decode cX2_init 112 = .ok (.return_, 1) := by decide +kernel
theorem dX2_isOn_0 : decode cX2_isOn 0 = .ok (.aload_n 0, 1) := by decide +kernel
theorem dX2_isOn_1 : decode cX2_isOn 1 = .ok (.getfield 18, 3) := by decide +kernel
theorem dX2_isOn_4 : decode cX2_isOn 4 = .ok (.iload_n 1, 1) := by decide +kernel
theorem dX2_isOn_5 : decode cX2_isOn 5 = .ok (.iaload, 1) := by decide +kernel
theorem dX2_isOn_6 : decode cX2_isOn 6 = .ok (.iconst 1, 1) := by decide +kernel
theorem dX2_isOn_7 : decode cX2_isOn 7 = .ok (.if_icmp .ne 7, 3) := by decide +kernel
theorem dX2_isOn_10 : decode cX2_isOn 10 = .ok (.iconst 1, 1) := by decide +kernel
theorem dX2_isOn_11 : decode cX2_isOn 11 = .ok (.goto 4, 3) := by decide +kernel
theorem dX2_isOn_14 : decode cX2_isOn 14 = .ok (.iconst 0, 1) := by decide +kernel
theorem dX2_isOn_15 : decode cX2_isOn 15 = .ok (.ireturn, 1) := by decide +kernel
set_option maxRecDepth 20000 in
theorem ggX2_takeFromLine_X3_fits : GoodIn wsX2_takeFromLine wsX3_fits := goodIn_r _ [7, 8, 9, 30, 31, 32] (by decide +kernel) (by decide +kernel)
set_option maxRecDepth 20000 in
theorem gX2_takeFromLine_X3_fits : GoodIn wsX2_takeFromLine (wsV RX2 78 RX3 yX3_fits wsX3_fits) := goodIn_app (goodIn_of _ (by decide +kernel)) ggX2_takeFromLine_X3_fits
set_option maxRecDepth 20000 in
theorem ggX2_takeFromLine_X3_add : GoodIn wsX2_takeFromLine wsX3_add := goodIn_r _ [13, 9, 8, 14, 30, 31, 32] (by decide +kernel) (by decide +kernel)
set_option maxRecDepth 20000 in
theorem gX2_takeFromLine_X3_add : GoodIn wsX2_takeFromLine (wsV RX2 82 RX3 yX3_add wsX3_add) := goodIn_app (goodIn_of _ (by decide +kernel)) ggX2_takeFromLine_X3_add
theorem dX2_takeFromLine_0 : decode cX2_takeFromLine 0 = .ok (.aload_n 0, 1) := by decide +kernel
theorem dX2_takeFromLine_1 : decode cX2_takeFromLine 1 = .ok (.getfield 28, 3) := by decide +kernel
theorem dX2_takeFromLine_4 : decode cX2_takeFromLine 4 = .ok (.iconst 1, 1) := by decide +kernel
theorem dX2_takeFromLine_5 : decode cX2_takeFromLine 5 = .ok (.invokevirtual 78, 3) := by decide +kernel
theorem dX2_takeFromLine_8 : decode cX2_takeFromLine 8 = .ok (.ifCond .ne 15, 3) := by decide +kernel
theorem dX2_takeFromLine_11 : decode cX2_takeFromLine 11 = .ok (.aload_n 0, 1) := by decide +kernel
theorem dX2_takeFromLine_12 : decode cX2_takeFromLine 12 = .ok (.getfield 60, 3) := by decide +kernel
theorem dX2_takeFromLine_15 : decode cX2_takeFromLine 15 = .ok (.iconst 1, 1) := by decide +kernel
theorem dX2_takeFromLine_16 : decode cX2_takeFromLine 16 = .ok (.dup2, 1) := by decide +kernel
theorem dX2_takeFromLine_17 : decode cX2_takeFromLine 17 = .ok (.iaload, 1) := by decide +kernel
theorem dX2_takeFromLine_18 : decode cX2_takeFromLine 18 = .ok (.iconst 1, 1) := by decide +kernel
theorem dX2_takeFromLine_19 : decode cX2_takeFromLine 19 = .ok (.iadd, 1) := by decide +kernel
theorem dX2_takeFromLine_20 : decode cX2_takeFromLine 20 = .ok (.iastore, 1) := by decide +kernel
theorem dX2_takeFromLine_21 : decode cX2_takeFromLine 21 = .ok (.iconst 0, 1) := by decide +kernel
theorem dX2_takeFromLine_22 : decode cX2_takeFromLine 22 = .ok (.ireturn, 1) := by decide +kernel
theorem dX2_takeFromLine_23 : decode cX2_takeFromLine 23 = .ok (.aload_n 0, 1) := by decide +kernel
theorem dX2_takeFromLine_24 : decode cX2_takeFromLine 24 = .ok (.getfield 28, 3) := by decide +kernel
theorem dX2_takeFromLine_27 : decode cX2_takeFromLine 27 = .ok (.iload_n 2, 1) := by decide +kernel
theorem dX2_takeFromLine_28 : decode cX2_takeFromLine 28 = .ok (.bipush 8, 2) := by decide +kernel
theorem dX2_takeFromLine_30 : decode cX2_takeFromLine 30 = .ok (.ishl, 1) := by decide +kernel
theorem dX2_takeFromLine_31 : decode cX2_takeFromLine 31 = .ok (.iload_n 1, 1) := by decide +kernel
theorem dX2_takeFromLine_32 : decode cX2_takeFromLine 32 = .ok (.ior, 1) := by decide +kernel
theorem dX2_takeFromLine_33 : decode cX2_takeFromLine 33 = .ok (.invokevirtual 82, 3) := by decide +kernel
theorem dX2_takeFromLine_36 : decode cX2_takeFromLine 36 = .ok (.aload_n 0, 1) := by decide +kernel
theorem dX2_takeFromLine_37 : decode cX2_takeFromLine 37 = .ok (.getfield 60, 3) := by decide +kernel
theorem dX2_takeFromLine_40 : decode cX2_takeFromLine 40 = .ok (.iconst 0, 1) := by decide +kernel
theorem dX2_takeFromLine_41 : decode cX2_takeFromLine 41 = .ok (.dup2, 1) := by decide +kernel
theorem dX2_takeFromLine_42 : decode cX2_takeFromLine 42 = .ok (.iaload, 1) := by decide +kernel
theorem dX2_takeFromLine_43 : decode cX2_takeFromLine 43 = .ok (.iconst 1, 1) := by decide +kernel
theorem dX2_takeFromLine_44 : decode cX2_takeFromLine 44 = .ok (.iadd, 1) := by decide +kernel
theorem dX2_takeFromLine_45 : decode cX2_takeFromLine 45 = .ok (.iastore, 1) := by decide +kernel
theorem dX2_takeFromLine_46 : decode cX2_takeFromLine 46 = .ok (.iconst 1, 1) := by decide +kernel
theorem dX2_takeFromLine_47 : decode cX2_takeFromLine 47 = .ok (.ireturn, 1) := by decide +kernel
theorem dX2_urgentByte_0 : decode cX2_urgentByte 0 = .ok (.aload_n 0, 1) := by decide +kernel
theorem dX2_urgentByte_1 : decode cX2_urgentByte 1 = .ok (.getfield 71, 3) := by decide +kernel
theorem dX2_urgentByte_4 : decode cX2_urgentByte 4 = .ok (.iconst (-1), 1) := by decide +kernel
theorem dX2_urgentByte_5 : decode cX2_urgentByte 5 = .ok (.if_icmp .ne 9, 3) := by decide +kernel
theorem dX2_urgentByte_8 : decode cX2_urgentByte 8 = .ok (.sipush 256, 3) := by decide +kernel
theorem dX2_urgentByte_11 : decode cX2_urgentByte 11 = .ok (.goto 12, 3) := by decide +kernel
theorem dX2_urgentByte_14 : decode cX2_urgentByte 14 = .ok (.aload_n 0, 1) := by decide +kernel
theorem dX2_urgentByte_15 : decode cX2_urgentByte 15 = .ok (.getfield 18, 3) := by decide +kernel
theorem dX2_urgentByte_18 : decode cX2_urgentByte 18 = .ok (.aload_n 0, 1) := by decide +kernel
theorem dX2_urgentByte_19 : decode cX2_urgentByte 19 = .ok (.getfield 71, 3) := by decide +kernel
theorem dX2_urgentByte_22 : decode cX2_urgentByte 22 = .ok (.iaload, 1) := by decide +kernel
theorem dX2_urgentByte_23 : decode cX2_urgentByte 23 = .ok (.ireturn, 1) := by decide +kernel
set_option maxRecDepth 20000 in
theorem ggX2_giveToLine_X2_urgentByte : GoodIn wsX2_giveToLine wsX2_urgentByte := goodIn_r _ [9, 1, 10, 38, 39, 40, 41, 42, 43, 44, 45, 46, 47, 48, 49, 50, 51, 52] (by decide +kernel) (by decide +kernel)
set_option maxRecDepth 20000 in
theorem gX2_giveToLine_X2_urgentByte : GoodIn wsX2_giveToLine (wsV RX2 85 RX2 yX2_urgentByte wsX2_urgentByte) := goodIn_app (goodIn_of _ (by decide +kernel)) ggX2_giveToLine_X2_urgentByte
set_option maxRecDepth 20000 in
theorem ggX2_giveToLine_X1_takeFromSender : GoodIn wsX2_giveToLine wsX1_takeFromSender := goodIn_r _ [15, 16, 17, 18, 19, 20, 21, 22, 23, 24, 25, 26, 53, 54, 55, 56, 57, 58, 59, 60] (by decide +kernel) (by decide +kernel)
set_option maxRecDepth 20000 in
theorem gX2_giveToLine_X1_takeFromSender : GoodIn wsX2_giveToLine (wsV RX2 89 RX1 yX1_takeFromSender wsX1_takeFromSender) := goodIn_app (goodIn_of _ (by decide +kernel)) ggX2_giveToLine_X1_takeFromSender
set_option maxRecDepth 20000 in
theorem ggX2_giveToLine_X5_byteHasGone : GoodIn wsX2_giveToLine wsX5_byteHasGone := goodIn_r _ [31, 32, 33, 34, 35, 36, 37, 61, 62, 63, 64, 65] (by decide +kernel) (by decide +kernel)
set_option maxRecDepth 20000 in
theorem gX2_giveToLine_X5_byteHasGone : GoodIn wsX2_giveToLine (wsV RX2 92 RX5 yX5_byteHasGone wsX5_byteHasGone) := goodIn_app (goodIn_of _ (by decide +kernel)) ggX2_giveToLine_X5_byteHasGone
theorem dX2_giveToLine_0 : decode cX2_giveToLine 0 = .ok (.aload_n 0, 1) := by decide +kernel
theorem dX2_giveToLine_1 : decode cX2_giveToLine 1 = .ok (.invokevirtual 85, 3) := by decide +kernel
theorem dX2_giveToLine_4 : decode cX2_giveToLine 4 = .ok (.istore_n 1, 1) := by decide +kernel
theorem dX2_giveToLine_5 : decode cX2_giveToLine 5 = .ok (.aload_n 0, 1) := by decide +kernel
theorem dX2_giveToLine_6 : decode cX2_giveToLine 6 = .ok (.iconst (-1), 1) := by decide +kernel
theorem dX2_giveToLine_7 : decode cX2_giveToLine 7 = .ok (.putfield 71, 3) := by decide +kernel
theorem dX2_giveToLine_10 : decode cX2_giveToLine 10 = .ok (.iload_n 1, 1) := by decide +kernel
theorem dX2_giveToLine_11 : decode cX2_giveToLine 11 = .ok (.sipush 256, 3) := by decide +kernel
theorem dX2_giveToLine_14 : decode cX2_giveToLine 14 = .ok (.if_icmp .ne 25, 3) := by decide +kernel
theorem dX2_giveToLine_17 : decode cX2_giveToLine 17 = .ok (.aload_n 0, 1) := by decide +kernel
theorem dX2_giveToLine_18 : decode cX2_giveToLine 18 = .ok (.getfield 42, 3) := by decide +kernel
theorem dX2_giveToLine_21 : decode cX2_giveToLine 21 = .ok (.invokevirtual 89, 3) := by decide +kernel
theorem dX2_giveToLine_24 : decode cX2_giveToLine 24 = .ok (.istore_n 1, 1) := by decide +kernel
theorem dX2_giveToLine_25 : decode cX2_giveToLine 25 = .ok (.iload_n 1, 1) := by decide +kernel
theorem dX2_giveToLine_26 : decode cX2_giveToLine 26 = .ok (.iconst (-1), 1) := by decide +kernel
theorem dX2_giveToLine_27 : decode cX2_giveToLine 27 = .ok (.if_icmp .ne 5, 3) := by decide +kernel
theorem dX2_giveToLine_30 : decode cX2_giveToLine 30 = .ok (.iconst (-1), 1) := by decide +kernel
theorem dX2_giveToLine_31 : decode cX2_giveToLine 31 = .ok (.ireturn, 1) := by decide +kernel
theorem dX2_giveToLine_32 : decode cX2_giveToLine 32 = .ok (.aload_n 0, 1) := by decide +kernel
theorem dX2_giveToLine_33 : decode cX2_giveToLine 33 = .ok (.getfield 49, 3) := by decide +kernel
theorem dX2_giveToLine_36 : decode cX2_giveToLine 36 = .ok (.invokevirtual 92, 3) := by decide +kernel
theorem dX2_giveToLine_39 : decode cX2_giveToLine 39 = .ok (.aload_n 0, 1) := by decide +kernel
theorem dX2_giveToLine_40 : decode cX2_giveToLine 40 = .ok (.getfield 60, 3) := by decide +kernel
theorem dX2_giveToLine_43 : decode cX2_giveToLine 43 = .ok (.iconst 4, 1) := by decide +kernel
theorem dX2_giveToLine_44 : decode cX2_giveToLine 44 = .ok (.dup2, 1) := by decide +kernel
theorem dX2_giveToLine_45 : decode cX2_giveToLine 45 = .ok (.iaload, 1) := by decide +kernel
theorem dX2_giveToLine_46 : decode cX2_giveToLine 46 = .ok (.iconst 1, 1) := by decide +kernel
theorem dX2_giveToLine_47 : decode cX2_giveToLine 47 = .ok (.iadd, 1) := by decide +kernel
theorem dX2_giveToLine_48 : decode cX2_giveToLine 48 = .ok (.iastore, 1) := by decide +kernel
theorem dX2_giveToLine_49 : decode cX2_giveToLine 49 = .ok (.iload_n 1, 1) := by decide +kernel
theorem dX2_giveToLine_50 : decode cX2_giveToLine 50 = .ok (.ireturn, 1) := by decide +kernel
set_option maxRecDepth 20000 in
theorem ggX2_settle_X1_push : GoodIn wsX2_settle wsX1_push := goodIn_r _ [6, 7, 8, 9, 10, 11, 12, 13, 14, 15, 16, 17, 18, 19, 20, 21, 22, 23, 24, 110, 111, 112, 113, 114, 115, 116, 117] (by decide +kernel) (by decide +kernel)
set_option maxRecDepth 20000 in
theorem gX2_settle_X1_push : GoodIn wsX2_settle (wsV RX2 95 RX1 yX1_push wsX1_push) := goodIn_app (goodIn_of _ (by decide +kernel)) ggX2_settle_X1_push
set_option maxRecDepth 20000 in
theorem ggX2_settle_X2_makeDueChanges : GoodIn wsX2_settle wsX2_makeDueChanges := goodIn_r _ [29, 30, 31, 32, 33, 34, 35, 36, 37, 38, 39, 40, 28, 41, 42, 43, 44, 45, 46, 47, 48, 49, 50, 51, 52, 12, 53, 15, 54, 55, 56, 57, 58, 59, 60, 61, 62, 63, 64, 65, 66, 67, 68, 69, 17, 18, 19, 14, 20, 70, 22, 23, 24, 71, 72, 73, 74, 75, 76, 77, 78, 79, 80, 81, 82, 83, 84, 85, 86, 87, 88, 89, 90, 91, 92, 93, 94, 95, 96, 97, 98, 99, 100, 101, 102, 103, 104, 105, 106, 107, 108, 109, 118, 119, 120, 121, 122, 123, 124, 125, 115, 116, 117] (by decide +kernel) (by decide +kernel)
set_option maxRecDepth 20000 in
theorem gX2_settle_X2_makeDueChanges : GoodIn wsX2_settle (wsV RX2 98 RX2 yX2_makeDueChanges wsX2_makeDueChanges) := goodIn_app (goodIn_of _ (by decide +kernel)) ggX2_settle_X2_makeDueChanges
theorem dX2_settle_0 : decode cX2_settle 0 = .ok (.aload_n 0, 1) := by decide +kernel
theorem dX2_settle_1 : decode cX2_settle 1 = .ok (.getfield 42, 3) := by decide +kernel
theorem dX2_settle_4 : decode cX2_settle 4 = .ok (.invokevirtual 95, 3) := by decide +kernel
theorem dX2_settle_7 : decode cX2_settle 7 = .ok (.aload_n 0, 1) := by decide +kernel
theorem dX2_settle_8 : decode cX2_settle 8 = .ok (.invokevirtual 98, 3) := by decide +kernel
theorem dX2_settle_11 : decode cX2_settle 11 = .ok (.return_, 1) := by decide +kernel
set_option maxRecDepth 20000 in
theorem ggX2_hangUp_X0_raise : GoodIn wsX2_hangUp wsX0_raise := goodIn_r _ [8, 9, 10, 119, 120] (by decide +kernel) (by decide +kernel)
set_option maxRecDepth 20000 in
theorem gX2_hangUp_X0_raise : GoodIn wsX2_hangUp (wsV RX2 104 RX0 yX0_raise wsX0_raise) := goodIn_app (goodIn_of _ (by decide +kernel)) ggX2_hangUp_X0_raise
set_option maxRecDepth 20000 in
theorem ggX2_hangUp_X2_emptyOutput : GoodIn wsX2_hangUp wsX2_emptyOutput := goodIn_r _ [15, 16, 17, 18, 19, 20, 21, 22, 23, 24, 25, 26, 27, 28, 29, 30, 31, 32, 33, 34, 35, 36, 37, 14, 38, 39, 40, 41, 42, 43, 44, 45, 46, 47, 48, 49, 50, 51, 52, 53, 54, 55, 56, 57, 58, 59, 60, 61, 62, 63, 64, 65, 66, 67, 68, 69, 70, 71, 72, 73, 74, 75, 76, 77, 78, 79, 80, 81, 82, 83, 84, 85, 86, 87, 88, 89, 90, 91, 92, 93, 94, 95, 96, 97, 98, 99, 100, 101, 102, 103, 104, 105, 106, 107, 108, 109, 110, 111, 112, 113, 114, 115, 116, 117, 118, 121, 122, 123, 124, 125, 126, 127, 128, 129, 130, 131, 132, 133, 134, 135, 136] (by decide +kernel) (by decide +kernel)
set_option maxRecDepth 20000 in
theorem gX2_hangUp_X2_emptyOutput : GoodIn wsX2_hangUp (wsV RX2 110 RX2 yX2_emptyOutput wsX2_emptyOutput) := goodIn_app (goodIn_of _ (by decide +kernel)) ggX2_hangUp_X2_emptyOutput
theorem dX2_hangUp_0 : decode cX2_hangUp 0 = .ok (.aload_n 0, 1) := by decide +kernel
theorem dX2_hangUp_1 : decode cX2_hangUp 1 = .ok (.iconst 1, 1) := by decide +kernel
theorem dX2_hangUp_2 : decode cX2_hangUp 2 = .ok (.putfield 101, 3) := by decide +kernel
theorem dX2_hangUp_5 : decode cX2_hangUp 5 = .ok (.aload_n 0, 1) := by decide +kernel
theorem dX2_hangUp_6 : decode cX2_hangUp 6 = .ok (.getfield 74, 3) := by decide +kernel
theorem dX2_hangUp_9 : decode cX2_hangUp 9 = .ok (.aload_n 0, 1) := by decide +kernel
theorem dX2_hangUp_10 : decode cX2_hangUp 10 = .ok (.getfield 67, 3) := by decide +kernel
theorem dX2_hangUp_13 : decode cX2_hangUp 13 = .ok (.bipush 8, 2) := by decide +kernel
theorem dX2_hangUp_15 : decode cX2_hangUp 15 = .ok (.invokevirtual 104, 3) := by decide +kernel
theorem dX2_hangUp_18 : decode cX2_hangUp 18 = .ok (.aload_n 0, 1) := by decide +kernel
theorem dX2_hangUp_19 : decode cX2_hangUp 19 = .ok (.invokevirtual 110, 3) := by decide +kernel
theorem dX2_hangUp_22 : decode cX2_hangUp 22 = .ok (.return_, 1) := by decide +kernel
theorem dX2_openFor_0 : decode cX2_openFor 0 = .ok (.aload_n 0, 1) := by decide +kernel
theorem dX2_openFor_1 : decode cX2_openFor 1 = .ok (.getfield 63, 3) := by decide +kernel
theorem dX2_openFor_4 : decode cX2_openFor 4 = .ok (.ifCond .eq 19, 3) := by decide +kernel
theorem dX2_openFor_7 : decode cX2_openFor 7 = .ok (.aload_n 0, 1) := by decide +kernel
theorem dX2_openFor_8 : decode cX2_openFor 8 = .ok (.getfield 56, 3) := by decide +kernel
theorem dX2_openFor_11 : decode cX2_openFor 11 = .ok (.iload_n 1, 1) := by decide +kernel
theorem dX2_openFor_12 : decode cX2_openFor 12 = .ok (.baload, 1) := by decide +kernel
theorem dX2_openFor_13 : decode cX2_openFor 13 = .ok (.ifCond .eq 12, 3) := by decide +kernel
theorem dX2_openFor_16 : decode cX2_openFor 16 = .ok (.aload_n 0, 1) := by decide +kernel
theorem dX2_openFor_17 : decode cX2_openFor 17 = .ok (.getfield 101, 3) := by decide +kernel
theorem dX2_openFor_20 : decode cX2_openFor 20 = .ok (.ifCond .ne 5, 3) := by decide +kernel
theorem dX2_openFor_23 : decode cX2_openFor 23 = .ok (.iconst 0, 1) := by decide +kernel
theorem dX2_openFor_24 : decode cX2_openFor 24 = .ok (.ireturn, 1) := by decide +kernel
theorem dX2_openFor_25 : decode cX2_openFor 25 = .ok (.aload_n 0, 1) := by decide +kernel
theorem dX2_openFor_26 : decode cX2_openFor 26 = .ok (.getfield 101, 3) := by decide +kernel
theorem dX2_openFor_29 : decode cX2_openFor 29 = .ok (.ifCond .eq 24, 3) := by decide +kernel
theorem dX2_openFor_32 : decode cX2_openFor 32 = .ok (.iconst 0, 1) := by decide +kernel
theorem dX2_openFor_33 : decode cX2_openFor 33 = .ok (.istore_n 2, 1) := by decide +kernel
theorem dX2_openFor_34 : decode cX2_openFor 34 = .ok (.iload_n 2, 1) := by decide +kernel
theorem dX2_openFor_35 : decode cX2_openFor 35 = .ok (.bipush 8, 2) := by decide +kernel
theorem dX2_openFor_37 : decode cX2_openFor 37 = .ok (.if_icmp .ge 16, 3) := by decide +kernel
theorem dX2_openFor_40 : decode cX2_openFor 40 = .ok (.aload_n 0, 1) := by decide +kernel
theorem dX2_openFor_41 : decode cX2_openFor 41 = .ok (.getfield 56, 3) := by decide +kernel
theorem dX2_openFor_44 : decode cX2_openFor 44 = .ok (.iload_n 2, 1) := by decide +kernel
theorem dX2_openFor_45 : decode cX2_openFor 45 = .ok (.iconst 0, 1) := by decide +kernel
theorem dX2_openFor_46 : decode cX2_openFor 46 = .ok (.bastore, 1) := by decide +kernel
theorem dX2_openFor_47 : decode cX2_openFor 47 = .ok (.iinc 2 1, 3) := by decide +kernel
theorem dX2_openFor_50 : decode cX2_openFor 50 = .ok (.goto (-16), 3) := by decide +kernel
theorem dX2_openFor_53 : decode cX2_openFor 53 = .ok (.aload_n 0, 1) := by decide +kernel
theorem dX2_openFor_54 : decode cX2_openFor 54 = .ok (.iconst 0, 1) := by decide +kernel
theorem dX2_openFor_55 : decode cX2_openFor 55 = .ok (.putfield 101, 3) := by decide +kernel
theorem dX2_openFor_58 : decode cX2_openFor 58 = .ok (.aload_n 0, 1) := by decide +kernel
theorem dX2_openFor_59 : decode cX2_openFor 59 = .ok (.getfield 56, 3) := by decide +kernel
theorem dX2_openFor_62 : decode cX2_openFor 62 = .ok (.iload_n 1, 1) := by decide +kernel
theorem dX2_openFor_63 : decode cX2_openFor 63 = .ok (.iconst 1, 1) := by decide +kernel
theorem dX2_openFor_64 : decode cX2_openFor 64 = .ok (.bastore, 1) := by decide +kernel
theorem dX2_openFor_65 : decode cX2_openFor 65 = .ok (.iconst 1, 1) := by decide +kernel
theorem dX2_openFor_66 : decode cX2_openFor 66 = .ok (.ireturn, 1) := by decide +kernel
theorem dX2_isBackground_0 : decode cX2_isBackground 0 = .ok (.aload_n 0, 1) := by decide +kernel
theorem dX2_isBackground_1 : decode cX2_isBackground 1 = .ok (.getfield 67, 3) := by decide +kernel
theorem dX2_isBackground_4 : decode cX2_isBackground 4 = .ok (.iconst (-1), 1) := by decide +kernel
theorem dX2_isBackground_5 : decode cX2_isBackground 5 = .ok (.if_icmp .eq 23, 3) := by decide +kernel
theorem dX2_isBackground_8 : decode cX2_isBackground 8 = .ok (.aload_n 0, 1) := by decide +kernel
theorem dX2_isBackground_9 : decode cX2_isBackground 9 = .ok (.getfield 74, 3) := by decide +kernel
theorem dX2_isBackground_12 : decode cX2_isBackground 12 = .ok (.getfield 113, 3) := by decide +kernel
theorem dX2_isBackground_15 : decode cX2_isBackground 15 = .ok (.iload_n 1, 1) := by decide +kernel
theorem dX2_isBackground_16 : decode cX2_isBackground 16 = .ok (.iaload, 1) := by decide +kernel
theorem dX2_isBackground_17 : decode cX2_isBackground 17 = .ok (.aload_n 0, 1) := by decide +kernel
theorem dX2_isBackground_18 : decode cX2_isBackground 18 = .ok (.getfield 67, 3) := by decide +kernel
theorem dX2_isBackground_21 : decode cX2_isBackground 21 = .ok (.if_icmp .eq 7, 3) := by decide +kernel
theorem dX2_isBackground_24 : decode cX2_isBackground 24 = .ok (.iconst 1, 1) := by decide +kernel
theorem dX2_isBackground_25 : decode cX2_isBackground 25 = .ok (.goto 4, 3) := by decide +kernel
theorem dX2_isBackground_28 : decode cX2_isBackground 28 = .ok (.iconst 0, 1) := by decide +kernel
theorem dX2_isBackground_29 : decode cX2_isBackground 29 = .ok (.ireturn, 1) := by decide +kernel
set_option maxRecDepth 20000 in
theorem ggX2_readingWaits_X2_isBackground : GoodIn wsX2_readingWaits wsX2_isBackground := goodIn_r _ [8, 9, 10, 11, 12, 13, 14, 15, 16, 17, 18, 19, 20, 21, 22, 23, 24, 25, 29, 30] (by decide +kernel) (by decide +kernel)
set_option maxRecDepth 20000 in
theorem gX2_readingWaits_X2_isBackground : GoodIn wsX2_readingWaits (wsV RX2 116 RX2 yX2_isBackground wsX2_isBackground) := goodIn_app (goodIn_of _ (by decide +kernel)) ggX2_readingWaits_X2_isBackground
theorem dX2_readingWaits_0 : decode cX2_readingWaits 0 = .ok (.aload_n 0, 1) := by decide +kernel
theorem dX2_readingWaits_1 : decode cX2_readingWaits 1 = .ok (.getfield 56, 3) := by decide +kernel
theorem dX2_readingWaits_4 : decode cX2_readingWaits 4 = .ok (.iload_n 1, 1) := by decide +kernel
theorem dX2_readingWaits_5 : decode cX2_readingWaits 5 = .ok (.baload, 1) := by decide +kernel
theorem dX2_readingWaits_6 : decode cX2_readingWaits 6 = .ok (.ifCond .eq 32, 3) := by decide +kernel
theorem dX2_readingWaits_9 : decode cX2_readingWaits 9 = .ok (.aload_n 0, 1) := by decide +kernel
theorem dX2_readingWaits_10 : decode cX2_readingWaits 10 = .ok (.iload_n 1, 1) := by decide +kernel
theorem dX2_readingWaits_11 : decode cX2_readingWaits 11 = .ok (.invokevirtual 116, 3) := by decide +kernel
theorem dX2_readingWaits_14 : decode cX2_readingWaits 14 = .ok (.ifCond .ne 24, 3) := by decide +kernel
theorem dX2_readingWaits_17 : decode cX2_readingWaits 17 = .ok (.aload_n 0, 1) := by decide +kernel
theorem dX2_readingWaits_18 : decode cX2_readingWaits 18 = .ok (.getfield 35, 3) := by decide +kernel
theorem dX2_readingWaits_21 : decode cX2_readingWaits 21 = .ok (.getfield 119, 3) := by decide +kernel
theorem dX2_readingWaits_24 : decode cX2_readingWaits 24 = .ok (.ifCond .ne 14, 3) := by decide +kernel
theorem dX2_readingWaits_27 : decode cX2_readingWaits 27 = .ok (.aload_n 0, 1) := by decide +kernel
theorem dX2_readingWaits_28 : decode cX2_readingWaits 28 = .ok (.getfield 101, 3) := by decide +kernel
theorem dX2_readingWaits_31 : decode cX2_readingWaits 31 = .ok (.ifCond .ne 7, 3) := by decide +kernel
theorem dX2_readingWaits_34 : decode cX2_readingWaits 34 = .ok (.iconst 1, 1) := by decide +kernel
theorem dX2_readingWaits_35 : decode cX2_readingWaits 35 = .ok (.goto 4, 3) := by decide +kernel
theorem dX2_readingWaits_38 : decode cX2_readingWaits 38 = .ok (.iconst 0, 1) := by decide +kernel
theorem dX2_readingWaits_39 : decode cX2_readingWaits 39 = .ok (.ireturn, 1) := by decide +kernel
set_option maxRecDepth 20000 in
theorem ggX2_takeEntry_X4_takeReleased : GoodIn wsX2_takeEntry wsX4_takeReleased := goodIn_r _ [6, 7, 8, 9, 10, 11, 12, 13, 14, 15, 16, 39, 40, 41, 42, 43, 44] (by decide +kernel) (by decide +kernel)
set_option maxRecDepth 20000 in
theorem gX2_takeEntry_X4_takeReleased : GoodIn wsX2_takeEntry (wsV RX2 122 RX4 yX4_takeReleased wsX4_takeReleased) := goodIn_app (goodIn_of _ (by decide +kernel)) ggX2_takeEntry_X4_takeReleased
set_option maxRecDepth 20000 in
theorem ggX2_takeEntry_X2_relax : GoodIn wsX2_takeEntry wsX2_relax := goodIn_r _ [21, 22, 1, 23, 24, 25, 26, 27, 28, 29, 30, 31, 32, 33, 34, 35, 36, 37, 38, 39, 40, 41, 42, 43, 44] (by decide +kernel) (by decide +kernel)
set_option maxRecDepth 20000 in
theorem gX2_takeEntry_X2_relax : GoodIn wsX2_takeEntry (wsV RX2 125 RX2 yX2_relax wsX2_relax) := goodIn_app (goodIn_of _ (by decide +kernel)) ggX2_takeEntry_X2_relax
theorem dX2_takeEntry_0 : decode cX2_takeEntry 0 = .ok (.aload_n 0, 1) := by decide +kernel
theorem dX2_takeEntry_1 : decode cX2_takeEntry 1 = .ok (.getfield 35, 3) := by decide +kernel
theorem dX2_takeEntry_4 : decode cX2_takeEntry 4 = .ok (.invokevirtual 122, 3) := by decide +kernel
theorem dX2_takeEntry_7 : decode cX2_takeEntry 7 = .ok (.istore_n 1, 1) := by decide +kernel
theorem dX2_takeEntry_8 : decode cX2_takeEntry 8 = .ok (.aload_n 0, 1) := by decide +kernel
theorem dX2_takeEntry_9 : decode cX2_takeEntry 9 = .ok (.invokevirtual 125, 3) := by decide +kernel
theorem dX2_takeEntry_12 : decode cX2_takeEntry 12 = .ok (.iload_n 1, 1) := by decide +kernel
theorem dX2_takeEntry_13 : decode cX2_takeEntry 13 = .ok (.sipush 256, 3) := by decide +kernel
theorem dX2_takeEntry_16 : decode cX2_takeEntry 16 = .ok (.if_icmp .ne 8, 3) := by decide +kernel
theorem dX2_takeEntry_19 : decode cX2_takeEntry 19 = .ok (.bipush (-3), 2) := by decide +kernel
theorem dX2_takeEntry_21 : decode cX2_takeEntry 21 = .ok (.goto 4, 3) := by decide +kernel
theorem dX2_takeEntry_24 : decode cX2_takeEntry 24 = .ok (.iload_n 1, 1) := by decide +kernel
theorem dX2_takeEntry_25 : decode cX2_takeEntry 25 = .ok (.ireturn, 1) := by decide +kernel
set_option maxRecDepth 20000 in
theorem ggX2_emptyStore_X4_empty : GoodIn wsX2_emptyStore wsX4_empty := goodIn_r _ [6, 7, 8, 9, 10, 11, 12, 13, 14, 37, 38, 39, 40, 41, 42] (by decide +kernel) (by decide +kernel)
set_option maxRecDepth 20000 in
theorem gX2_emptyStore_X4_empty : GoodIn wsX2_emptyStore (wsV RX2 128 RX4 yX4_empty wsX4_empty) := goodIn_app (goodIn_of _ (by decide +kernel)) ggX2_emptyStore_X4_empty
set_option maxRecDepth 20000 in
theorem ggX2_emptyStore_X2_relax : GoodIn wsX2_emptyStore wsX2_relax := goodIn_r _ [19, 20, 1, 21, 22, 23, 24, 25, 26, 27, 28, 29, 30, 31, 32, 33, 34, 35, 36, 37, 38, 39, 40, 41, 42] (by decide +kernel) (by decide +kernel)
set_option maxRecDepth 20000 in
theorem gX2_emptyStore_X2_relax : GoodIn wsX2_emptyStore (wsV RX2 125 RX2 yX2_relax wsX2_relax) := goodIn_app (goodIn_of _ (by decide +kernel)) ggX2_emptyStore_X2_relax
theorem dX2_emptyStore_0 : decode cX2_emptyStore 0 = .ok (.aload_n 0, 1) := by decide +kernel
theorem dX2_emptyStore_1 : decode cX2_emptyStore 1 = .ok (.getfield 35, 3) := by decide +kernel
theorem dX2_emptyStore_4 : decode cX2_emptyStore 4 = .ok (.invokevirtual 128, 3) := by decide +kernel
theorem dX2_emptyStore_7 : decode cX2_emptyStore 7 = .ok (.aload_n 0, 1) := by decide +kernel
theorem dX2_emptyStore_8 : decode cX2_emptyStore 8 = .ok (.invokevirtual 125, 3) := by decide +kernel
theorem dX2_emptyStore_11 : decode cX2_emptyStore 11 = .ok (.return_, 1) := by decide +kernel
set_option maxRecDepth 20000 in
theorem ggX2_emptyOutput_X3_empty : GoodIn wsX2_emptyOutput wsX3_empty := goodIn_r _ [7, 8, 110, 111, 112] (by decide +kernel) (by decide +kernel)
set_option maxRecDepth 20000 in
theorem gX2_emptyOutput_X3_empty : GoodIn wsX2_emptyOutput (wsV RX2 134 RX3 yX3_empty wsX3_empty) := goodIn_app (goodIn_of _ (by decide +kernel)) ggX2_emptyOutput_X3_empty
set_option maxRecDepth 20000 in
theorem ggX2_emptyOutput_X5_onlyLeft : GoodIn wsX2_emptyOutput wsX5_onlyLeft := goodIn_r _ [13, 14, 15, 16, 17, 18, 19, 113, 114, 115, 116, 117] (by decide +kernel) (by decide +kernel)
set_option maxRecDepth 20000 in
theorem gX2_emptyOutput_X5_onlyLeft : GoodIn wsX2_emptyOutput (wsV RX2 138 RX5 yX5_onlyLeft wsX5_onlyLeft) := goodIn_app (goodIn_of _ (by decide +kernel)) ggX2_emptyOutput_X5_onlyLeft
set_option maxRecDepth 20000 in
theorem ggX2_emptyOutput_X2_makeDueChanges : GoodIn wsX2_emptyOutput wsX2_makeDueChanges := goodIn_r _ [24, 2, 25, 26, 27, 12, 28, 14, 15, 29, 30, 31, 23, 32, 33, 34, 35, 36, 37, 38, 39, 40, 41, 4, 5, 6, 7, 8, 42, 43, 44, 45, 46, 47, 48, 49, 50, 51, 52, 53, 54, 55, 56, 57, 58, 59, 60, 61, 62, 63, 64, 65, 66, 67, 68, 69, 70, 71, 72, 73, 74, 75, 76, 18, 77, 78, 79, 80, 81, 82, 83, 84, 85, 86, 87, 88, 89, 90, 91, 92, 93, 94, 95, 96, 97, 98, 99, 100, 101, 102, 103, 104, 113, 114, 115, 116, 117, 118, 119, 120, 110, 111, 112] (by decide +kernel) (by decide +kernel)
set_option maxRecDepth 20000 in
theorem gX2_emptyOutput_X2_makeDueChanges : GoodIn wsX2_emptyOutput (wsV RX2 98 RX2 yX2_makeDueChanges wsX2_makeDueChanges) := goodIn_app (goodIn_of _ (by decide +kernel)) ggX2_emptyOutput_X2_makeDueChanges
theorem dX2_emptyOutput_0 : decode cX2_emptyOutput 0 = .ok (.aload_n 0, 1) := by decide +kernel
theorem dX2_emptyOutput_1 : decode cX2_emptyOutput 1 = .ok (.getfield 42, 3) := by decide +kernel
theorem dX2_emptyOutput_4 : decode cX2_emptyOutput 4 = .ok (.getfield 131, 3) := by decide +kernel
theorem dX2_emptyOutput_7 : decode cX2_emptyOutput 7 = .ok (.invokevirtual 134, 3) := by decide +kernel
theorem dX2_emptyOutput_10 : decode cX2_emptyOutput 10 = .ok (.aload_n 0, 1) := by decide +kernel
theorem dX2_emptyOutput_11 : decode cX2_emptyOutput 11 = .ok (.getfield 42, 3) := by decide +kernel
theorem dX2_emptyOutput_14 : decode cX2_emptyOutput 14 = .ok (.getfield 135, 3) := by decide +kernel
theorem dX2_emptyOutput_17 : decode cX2_emptyOutput 17 = .ok (.invokevirtual 134, 3) := by decide +kernel
theorem dX2_emptyOutput_20 : decode cX2_emptyOutput 20 = .ok (.aload_n 0, 1) := by decide +kernel
theorem dX2_emptyOutput_21 : decode cX2_emptyOutput 21 = .ok (.getfield 49, 3) := by decide +kernel
theorem dX2_emptyOutput_24 : decode cX2_emptyOutput 24 = .ok (.iconst 0, 1) := by decide +kernel
theorem dX2_emptyOutput_25 : decode cX2_emptyOutput 25 = .ok (.invokevirtual 138, 3) := by decide +kernel
theorem dX2_emptyOutput_28 : decode cX2_emptyOutput 28 = .ok (.aload_n 0, 1) := by decide +kernel
theorem dX2_emptyOutput_29 : decode cX2_emptyOutput 29 = .ok (.invokevirtual 98, 3) := by decide +kernel
theorem dX2_emptyOutput_32 : decode cX2_emptyOutput 32 = .ok (.return_, 1) := by decide +kernel
theorem dX2_relax_0 : decode cX2_relax 0 = .ok (.aload_n 0, 1) := by decide +kernel
theorem dX2_relax_1 : decode cX2_relax 1 = .ok (.getfield 141, 3) := by decide +kernel
theorem dX2_relax_4 : decode cX2_relax 4 = .ok (.ifCond .eq 29, 3) := by decide +kernel
theorem dX2_relax_7 : decode cX2_relax 7 = .ok (.aload_n 0, 1) := by decide +kernel
theorem dX2_relax_8 : decode cX2_relax 8 = .ok (.getfield 35, 3) := by decide +kernel
theorem dX2_relax_11 : decode cX2_relax 11 = .ok (.getfield 144, 3) := by decide +kernel
theorem dX2_relax_14 : decode cX2_relax 14 = .ok (.getfield 147, 3) := by decide +kernel
theorem dX2_relax_17 : decode cX2_relax 17 = .ok (.bipush 16, 2) := by decide +kernel
theorem dX2_relax_19 : decode cX2_relax 19 = .ok (.if_icmp .gt 14, 3) := by decide +kernel
theorem dX2_relax_22 : decode cX2_relax 22 = .ok (.aload_n 0, 1) := by decide +kernel
theorem dX2_relax_23 : decode cX2_relax 23 = .ok (.iconst 0, 1) := by decide +kernel
theorem dX2_relax_24 : decode cX2_relax 24 = .ok (.putfield 141, 3) := by decide +kernel
theorem dX2_relax_27 : decode cX2_relax 27 = .ok (.aload_n 0, 1) := by decide +kernel
theorem dX2_relax_28 : decode cX2_relax 28 = .ok (.bipush 23, 2) := by decide +kernel
theorem dX2_relax_30 : decode cX2_relax 30 = .ok (.putfield 71, 3) := by decide +kernel
theorem dX2_relax_33 : decode cX2_relax 33 = .ok (.return_, 1) := by decide +kernel
set_option maxRecDepth 20000 in
theorem ggX2_changeLater_X1_size : GoodIn wsX2_changeLater wsX1_size := goodIn_r _ [7, 8, 9, 108, 109, 110, 111, 112, 113, 114, 115] (by decide +kernel) (by decide +kernel)
set_option maxRecDepth 20000 in
theorem gX2_changeLater_X1_size : GoodIn wsX2_changeLater (wsV RX2 150 RX1 yX1_size wsX1_size) := goodIn_app (goodIn_of _ (by decide +kernel)) ggX2_changeLater_X1_size
set_option maxRecDepth 20000 in
theorem ggX2_changeLater_X5_add : GoodIn wsX2_changeLater wsX5_add := goodIn_r _ [14, 15, 16, 17, 18, 19, 116, 117, 118, 119, 120] (by decide +kernel) (by decide +kernel)
set_option maxRecDepth 20000 in
theorem gX2_changeLater_X5_add : GoodIn wsX2_changeLater (wsV RX2 152 RX5 yX5_add wsX5_add) := goodIn_app (goodIn_of _ (by decide +kernel)) ggX2_changeLater_X5_add
set_option maxRecDepth 20000 in
theorem ggX2_changeLater_X2_makeDueChanges : GoodIn wsX2_changeLater wsX2_makeDueChanges := goodIn_r _ [24, 1, 25, 26, 27, 13, 28, 15, 19, 29, 30, 31, 23, 32, 33, 34, 35, 36, 37, 38, 39, 40, 41, 42, 43, 44, 45, 46, 47, 48, 49, 50, 51, 52, 53, 54, 55, 56, 57, 58, 59, 60, 61, 62, 63, 64, 65, 66, 67, 68, 69, 70, 71, 72, 73, 74, 75, 76, 77, 78, 79, 80, 81, 82, 83, 84, 85, 86, 87, 88, 89, 90, 91, 16, 17, 18, 92, 93, 94, 95, 96, 97, 98, 99, 100, 101, 102, 103, 104, 105, 106, 107, 116, 117, 118, 119, 120, 121, 122, 123, 113, 114, 115] (by decide +kernel) (by decide +kernel)
set_option maxRecDepth 20000 in
theorem gX2_changeLater_X2_makeDueChanges : GoodIn wsX2_changeLater (wsV RX2 98 RX2 yX2_makeDueChanges wsX2_makeDueChanges) := goodIn_app (goodIn_of _ (by decide +kernel)) ggX2_changeLater_X2_makeDueChanges
theorem dX2_changeLater_0 : decode cX2_changeLater 0 = .ok (.aload_n 0, 1) := by decide +kernel
theorem dX2_changeLater_1 : decode cX2_changeLater 1 = .ok (.getfield 49, 3) := by decide +kernel
theorem dX2_changeLater_4 : decode cX2_changeLater 4 = .ok (.iload_n 1, 1) := by decide +kernel
theorem dX2_changeLater_5 : decode cX2_changeLater 5 = .ok (.iload_n 2, 1) := by decide +kernel
theorem dX2_changeLater_6 : decode cX2_changeLater 6 = .ok (.iload_n 3, 1) := by decide +kernel
theorem dX2_changeLater_7 : decode cX2_changeLater 7 = .ok (.aload_n 0, 1) := by decide +kernel
theorem dX2_changeLater_8 : decode cX2_changeLater 8 = .ok (.getfield 42, 3) := by decide +kernel
theorem dX2_changeLater_11 : decode cX2_changeLater 11 = .ok (.invokevirtual 150, 3) := by decide +kernel
theorem dX2_changeLater_14 : decode cX2_changeLater 14 = .ok (.invokevirtual 152, 3) := by decide +kernel
theorem dX2_changeLater_17 : decode cX2_changeLater 17 = .ok (.ifCond .ne 5, 3) := by decide +kernel
theorem dX2_changeLater_20 : decode cX2_changeLater 20 = .ok (.iconst 0, 1) := by decide +kernel
theorem dX2_changeLater_21 : decode cX2_changeLater 21 = .ok (.ireturn, 1) := by decide +kernel
theorem dX2_changeLater_22 : decode cX2_changeLater 22 = .ok (.aload_n 0, 1) := by decide +kernel
theorem dX2_changeLater_23 : decode cX2_changeLater 23 = .ok (.invokevirtual 98, 3) := by decide +kernel
theorem dX2_changeLater_26 : decode cX2_changeLater 26 = .ok (.iconst 1, 1) := by decide +kernel
theorem dX2_changeLater_27 : decode cX2_changeLater 27 = .ok (.ireturn, 1) := by decide +kernel
set_option maxRecDepth 20000 in
theorem ggX2_makeDueChanges_X5_isFirstDue : GoodIn wsX2_makeDueChanges wsX5_isFirstDue := goodIn_r _ [6, 7, 8, 92, 93, 94, 95, 96] (by decide +kernel) (by decide +kernel)
set_option maxRecDepth 20000 in
theorem gX2_makeDueChanges_X5_isFirstDue : GoodIn wsX2_makeDueChanges (wsV RX2 155 RX5 yX5_isFirstDue wsX5_isFirstDue) := goodIn_app (goodIn_of _ (by decide +kernel)) ggX2_makeDueChanges_X5_isFirstDue
set_option maxRecDepth 20000 in
theorem ggX2_makeDueChanges_X2_emptyStore : GoodIn wsX2_makeDueChanges wsX2_emptyStore := goodIn_r _ [13, 14, 15, 16, 17, 18, 19, 20, 21, 22, 23, 24, 25, 26, 27, 28, 29, 30, 12, 31, 32, 33, 77, 78, 79, 80, 81, 82, 83, 84, 85, 86, 87, 88, 89, 90, 91, 97, 98, 99, 100, 101, 102] (by decide +kernel) (by decide +kernel)
set_option maxRecDepth 20000 in
theorem gX2_makeDueChanges_X2_emptyStore : GoodIn wsX2_makeDueChanges (wsV RX2 162 RX2 yX2_emptyStore wsX2_emptyStore) := goodIn_app (goodIn_of _ (by decide +kernel)) ggX2_makeDueChanges_X2_emptyStore
set_option maxRecDepth 20000 in
theorem ggX2_makeDueChanges_X2_setMode : GoodIn wsX2_makeDueChanges wsX2_setMode := goodIn_r _ [37, 38, 14, 39, 40, 41, 18, 42, 20, 43, 44, 45, 25, 46, 27, 47, 48, 49, 50, 51, 52, 53, 54, 55, 56, 21, 28, 29, 30, 12, 31, 32, 33, 57, 58, 59, 60, 61, 62, 63, 64, 65, 66, 67, 68, 77, 78, 79, 80, 81, 82, 83, 84, 85, 86, 87, 88, 89, 90, 91, 97, 98, 99, 100, 101, 102] (by decide +kernel) (by decide +kernel)
set_option maxRecDepth 20000 in
theorem gX2_makeDueChanges_X2_setMode : GoodIn wsX2_makeDueChanges (wsV RX2 171 RX2 yX2_setMode wsX2_setMode) := goodIn_app (goodIn_of _ (by decide +kernel)) ggX2_makeDueChanges_X2_setMode
set_option maxRecDepth 20000 in
theorem ggX2_makeDueChanges_X5_removeFirst : GoodIn wsX2_makeDueChanges wsX5_removeFirst := goodIn_r _ [72, 7, 73, 74, 75, 8, 76, 62, 63, 64, 92, 93, 94, 95, 96] (by decide +kernel) (by decide +kernel)
set_option maxRecDepth 20000 in
theorem gX2_makeDueChanges_X5_removeFirst : GoodIn wsX2_makeDueChanges (wsV RX2 174 RX5 yX5_removeFirst wsX5_removeFirst) := goodIn_app (goodIn_of _ (by decide +kernel)) ggX2_makeDueChanges_X5_removeFirst
theorem dX2_makeDueChanges_0 : decode cX2_makeDueChanges 0 = .ok (.iconst 0, 1) := by decide +kernel
theorem dX2_makeDueChanges_1 : decode cX2_makeDueChanges 1 = .ok (.istore_n 1, 1) := by decide +kernel
theorem dX2_makeDueChanges_2 : decode cX2_makeDueChanges 2 = .ok (.iload_n 1, 1) := by decide +kernel
theorem dX2_makeDueChanges_3 : decode cX2_makeDueChanges 3 = .ok (.iconst 3, 1) := by decide +kernel
theorem dX2_makeDueChanges_4 : decode cX2_makeDueChanges 4 = .ok (.if_icmp .ge 64, 3) := by decide +kernel
theorem dX2_makeDueChanges_7 : decode cX2_makeDueChanges 7 = .ok (.aload_n 0, 1) := by decide +kernel
theorem dX2_makeDueChanges_8 : decode cX2_makeDueChanges 8 = .ok (.getfield 49, 3) := by decide +kernel
theorem dX2_makeDueChanges_11 : decode cX2_makeDueChanges 11 = .ok (.invokevirtual 155, 3) := by decide +kernel
theorem dX2_makeDueChanges_14 : decode cX2_makeDueChanges 14 = .ok (.ifCond .eq 54, 3) := by decide +kernel
theorem dX2_makeDueChanges_17 : decode cX2_makeDueChanges 17 = .ok (.aload_n 0, 1) := by decide +kernel
theorem dX2_makeDueChanges_18 : decode cX2_makeDueChanges 18 = .ok (.getfield 49, 3) := by decide +kernel
theorem dX2_makeDueChanges_21 : decode cX2_makeDueChanges 21 = .ok (.getfield 159, 3) := by decide +kernel
theorem dX2_makeDueChanges_24 : decode cX2_makeDueChanges 24 = .ok (.iconst 0, 1) := by decide +kernel
theorem dX2_makeDueChanges_25 : decode cX2_makeDueChanges 25 = .ok (.baload, 1) := by decide +kernel
theorem dX2_makeDueChanges_26 : decode cX2_makeDueChanges 26 = .ok (.ifCond .eq 7, 3) := by decide +kernel
theorem dX2_makeDueChanges_29 : decode cX2_makeDueChanges 29 = .ok (.aload_n 0, 1) := by decide +kernel
theorem dX2_makeDueChanges_30 : decode cX2_makeDueChanges 30 = .ok (.invokevirtual 162, 3) := by decide +kernel
theorem dX2_makeDueChanges_33 : decode cX2_makeDueChanges 33 = .ok (.aload_n 0, 1) := by decide +kernel
theorem dX2_makeDueChanges_34 : decode cX2_makeDueChanges 34 = .ok (.aload_n 0, 1) := by decide +kernel
theorem dX2_makeDueChanges_35 : decode cX2_makeDueChanges 35 = .ok (.getfield 49, 3) := by decide +kernel
theorem dX2_makeDueChanges_38 : decode cX2_makeDueChanges 38 = .ok (.getfield 165, 3) := by decide +kernel
theorem dX2_makeDueChanges_41 : decode cX2_makeDueChanges 41 = .ok (.iconst 0, 1) := by decide +kernel
theorem dX2_makeDueChanges_42 : decode cX2_makeDueChanges 42 = .ok (.iaload, 1) := by decide +kernel
theorem dX2_makeDueChanges_43 : decode cX2_makeDueChanges 43 = .ok (.aload_n 0, 1) := by decide +kernel
theorem dX2_makeDueChanges_44 : decode cX2_makeDueChanges 44 = .ok (.getfield 49, 3) := by decide +kernel
theorem dX2_makeDueChanges_47 : decode cX2_makeDueChanges 47 = .ok (.getfield 168, 3) := by decide +kernel
theorem dX2_makeDueChanges_50 : decode cX2_makeDueChanges 50 = .ok (.iconst 0, 1) := by decide +kernel
theorem dX2_makeDueChanges_51 : decode cX2_makeDueChanges 51 = .ok (.iaload, 1) := by decide +kernel
theorem dX2_makeDueChanges_52 : decode cX2_makeDueChanges 52 = .ok (.invokevirtual 171, 3) := by decide +kernel
theorem dX2_makeDueChanges_55 : decode cX2_makeDueChanges 55 = .ok (.aload_n 0, 1) := by decide +kernel
theorem dX2_makeDueChanges_56 : decode cX2_makeDueChanges 56 = .ok (.getfield 49, 3) := by decide +kernel
theorem dX2_makeDueChanges_59 : decode cX2_makeDueChanges 59 = .ok (.invokevirtual 174, 3) := by decide +kernel
theorem dX2_makeDueChanges_62 : decode cX2_makeDueChanges 62 = .ok (.iinc 1 1, 3) := by decide +kernel
theorem dX2_makeDueChanges_65 : decode cX2_makeDueChanges 65 = .ok (.goto (-63), 3) := by decide +kernel
theorem dX2_makeDueChanges_68 : decode cX2_makeDueChanges 68 = .ok (.return_, 1) := by decide +kernel
set_option maxRecDepth 20000 in
theorem ggX2_setMode_X4_dropEndMarks : GoodIn wsX2_setMode wsX4_dropEndMarks := goodIn_r _ [7, 8, 9, 10, 11, 12, 13, 14, 15, 16, 17, 18, 19, 20, 60, 61, 62, 63, 64, 65] (by decide +kernel) (by decide +kernel)
set_option maxRecDepth 20000 in
theorem gX2_setMode_X4_dropEndMarks : GoodIn wsX2_setMode (wsV RX2 177 RX4 yX4_dropEndMarks wsX4_dropEndMarks) := goodIn_app (goodIn_of _ (by decide +kernel)) ggX2_setMode_X4_dropEndMarks
set_option maxRecDepth 20000 in
theorem ggX2_setMode_X4_releaseAll : GoodIn wsX2_setMode wsX4_releaseAll := goodIn_r _ [24, 8, 25, 60, 61, 62, 63, 64, 65] (by decide +kernel) (by decide +kernel)
set_option maxRecDepth 20000 in
theorem gX2_setMode_X4_releaseAll : GoodIn wsX2_setMode (wsV RX2 180 RX4 yX4_releaseAll wsX4_releaseAll) := goodIn_app (goodIn_of _ (by decide +kernel)) ggX2_setMode_X4_releaseAll
set_option maxRecDepth 20000 in
theorem ggX2_setMode_X2_relax : GoodIn wsX2_setMode wsX2_relax := goodIn_r _ [30, 31, 2, 32, 45, 46, 47, 48, 49, 50, 51, 52, 53, 54, 55, 56, 57, 58, 59, 60, 61, 62, 63, 64, 65] (by decide +kernel) (by decide +kernel)
set_option maxRecDepth 20000 in
theorem gX2_setMode_X2_relax : GoodIn wsX2_setMode (wsV RX2 125 RX2 yX2_relax wsX2_relax) := goodIn_app (goodIn_of _ (by decide +kernel)) ggX2_setMode_X2_relax
set_option maxRecDepth 20000 in
theorem ggX2_setMode_X2_releaseIfEnough : GoodIn wsX2_setMode wsX2_releaseIfEnough := goodIn_r _ [36, 2, 1, 37, 38, 39, 40, 41, 42, 43, 29, 44, 21, 22, 23, 6, 24, 8, 25, 45, 46, 47, 48, 49, 50, 51, 52, 53, 54, 55, 56, 57, 58, 59, 60, 61, 62, 63, 64, 65] (by decide +kernel) (by decide +kernel)
set_option maxRecDepth 20000 in
theorem gX2_setMode_X2_releaseIfEnough : GoodIn wsX2_setMode (wsV RX2 183 RX2 yX2_releaseIfEnough wsX2_releaseIfEnough) := goodIn_app (goodIn_of _ (by decide +kernel)) ggX2_setMode_X2_releaseIfEnough
theorem dX2_setMode_0 : decode cX2_setMode 0 = .ok (.aload_n 0, 1) := by decide +kernel
theorem dX2_setMode_1 : decode cX2_setMode 1 = .ok (.getfield 18, 3) := by decide +kernel
theorem dX2_setMode_4 : decode cX2_setMode 4 = .ok (.iload_n 1, 1) := by decide +kernel
theorem dX2_setMode_5 : decode cX2_setMode 5 = .ok (.iload_n 2, 1) := by decide +kernel
theorem dX2_setMode_6 : decode cX2_setMode 6 = .ok (.iastore, 1) := by decide +kernel
theorem dX2_setMode_7 : decode cX2_setMode 7 = .ok (.iload_n 1, 1) := by decide +kernel
theorem dX2_setMode_8 : decode cX2_setMode 8 = .ok (.ifCond .ne 25, 3) := by decide +kernel
theorem dX2_setMode_11 : decode cX2_setMode 11 = .ok (.iload_n 2, 1) := by decide +kernel
theorem dX2_setMode_12 : decode cX2_setMode 12 = .ok (.ifCond .ne 21, 3) := by decide +kernel
theorem dX2_setMode_15 : decode cX2_setMode 15 = .ok (.aload_n 0, 1) := by decide +kernel
theorem dX2_setMode_16 : decode cX2_setMode 16 = .ok (.getfield 35, 3) := by decide +kernel
theorem dX2_setMode_19 : decode cX2_setMode 19 = .ok (.invokevirtual 177, 3) := by decide +kernel
theorem dX2_setMode_22 : decode cX2_setMode 22 = .ok (.aload_n 0, 1) := by decide +kernel
theorem dX2_setMode_23 : decode cX2_setMode 23 = .ok (.getfield 35, 3) := by decide +kernel
theorem dX2_setMode_26 : decode cX2_setMode 26 = .ok (.invokevirtual 180, 3) := by decide +kernel
theorem dX2_setMode_29 : decode cX2_setMode 29 = .ok (.aload_n 0, 1) := by decide +kernel
theorem dX2_setMode_30 : decode cX2_setMode 30 = .ok (.invokevirtual 125, 3) := by decide +kernel
theorem dX2_setMode_33 : decode cX2_setMode 33 = .ok (.iload_n 1, 1) := by decide +kernel
theorem dX2_setMode_34 : decode cX2_setMode 34 = .ok (.bipush 12, 2) := by decide +kernel
theorem dX2_setMode_36 : decode cX2_setMode 36 = .ok (.if_icmp .ne 7, 3) := by decide +kernel
theorem dX2_setMode_39 : decode cX2_setMode 39 = .ok (.aload_n 0, 1) := by decide +kernel
theorem dX2_setMode_40 : decode cX2_setMode 40 = .ok (.invokevirtual 183, 3) := by decide +kernel
theorem dX2_setMode_43 : decode cX2_setMode 43 = .ok (.return_, 1) := by decide +kernel
set_option maxRecDepth 20000 in
theorem ggX2_releaseIfEnough_X2_isOn : GoodIn wsX2_releaseIfEnough wsX2_isOn := goodIn_r _ [11, 2, 19, 20, 21, 22, 23, 24, 25, 26, 27, 28, 29, 30, 31, 32, 33] (by decide +kernel) (by decide +kernel)
set_option maxRecDepth 20000 in
theorem gX2_releaseIfEnough_X2_isOn : GoodIn wsX2_releaseIfEnough (wsV RX2 186 RX2 yX2_isOn wsX2_isOn) := goodIn_app (goodIn_of _ (by decide +kernel)) ggX2_releaseIfEnough_X2_isOn
set_option maxRecDepth 20000 in
theorem ggX2_releaseIfEnough_X4_releaseAll : GoodIn wsX2_releaseIfEnough wsX4_releaseAll := goodIn_r _ [16, 17, 18, 34, 35, 36, 37, 38, 39] (by decide +kernel) (by decide +kernel)
set_option maxRecDepth 20000 in
theorem gX2_releaseIfEnough_X4_releaseAll : GoodIn wsX2_releaseIfEnough (wsV RX2 180 RX4 yX4_releaseAll wsX4_releaseAll) := goodIn_app (goodIn_of _ (by decide +kernel)) ggX2_releaseIfEnough_X4_releaseAll
theorem dX2_releaseIfEnough_0 : decode cX2_releaseIfEnough 0 = .ok (.aload_n 0, 1) := by decide +kernel
theorem dX2_releaseIfEnough_1 : decode cX2_releaseIfEnough 1 = .ok (.iconst 0, 1) := by decide +kernel
theorem dX2_releaseIfEnough_2 : decode cX2_releaseIfEnough 2 = .ok (.invokevirtual 186, 3) := by decide +kernel
theorem dX2_releaseIfEnough_5 : decode cX2_releaseIfEnough 5 = .ok (.ifCond .ne 34, 3) := by decide +kernel
theorem dX2_releaseIfEnough_8 : decode cX2_releaseIfEnough 8 = .ok (.aload_n 0, 1) := by decide +kernel
theorem dX2_releaseIfEnough_9 : decode cX2_releaseIfEnough 9 = .ok (.getfield 35, 3) := by decide +kernel
theorem dX2_releaseIfEnough_12 : decode cX2_releaseIfEnough 12 = .ok (.getfield 144, 3) := by decide +kernel
theorem dX2_releaseIfEnough_15 : decode cX2_releaseIfEnough 15 = .ok (.getfield 147, 3) := by decide +kernel
theorem dX2_releaseIfEnough_18 : decode cX2_releaseIfEnough 18 = .ok (.iconst 1, 1) := by decide +kernel
theorem dX2_releaseIfEnough_19 : decode cX2_releaseIfEnough 19 = .ok (.aload_n 0, 1) := by decide +kernel
theorem dX2_releaseIfEnough_20 : decode cX2_releaseIfEnough 20 = .ok (.getfield 18, 3) := by decide +kernel
theorem dX2_releaseIfEnough_23 : decode cX2_releaseIfEnough 23 = .ok (.bipush 12, 2) := by decide +kernel
theorem dX2_releaseIfEnough_25 : decode cX2_releaseIfEnough 25 = .ok (.iaload, 1) := by decide +kernel
theorem dX2_releaseIfEnough_26 : decode cX2_releaseIfEnough 26 = .ok (.invokestatic 189, 3) := by decide +kernel
theorem dX2_releaseIfEnough_29 : decode cX2_releaseIfEnough 29 = .ok (.if_icmp .lt 10, 3) := by decide +kernel
theorem dX2_releaseIfEnough_32 : decode cX2_releaseIfEnough 32 = .ok (.aload_n 0, 1) := by decide +kernel
theorem dX2_releaseIfEnough_33 : decode cX2_releaseIfEnough 33 = .ok (.getfield 35, 3) := by decide +kernel
theorem dX2_releaseIfEnough_36 : decode cX2_releaseIfEnough 36 = .ok (.invokevirtual 180, 3) := by decide +kernel
theorem dX2_releaseIfEnough_39 : decode cX2_releaseIfEnough 39 = .ok (.return_, 1) := by decide +kernel
set_option maxRecDepth 20000 in
theorem ggX2_letTimePass_X2_isOn : GoodIn wsX2_letTimePass wsX2_isOn := goodIn_r _ [7, 2, 15, 16, 17, 18, 19, 20, 21, 22, 23, 24, 25, 26, 27, 28, 29] (by decide +kernel) (by decide +kernel)
set_option maxRecDepth 20000 in
theorem gX2_letTimePass_X2_isOn : GoodIn wsX2_letTimePass (wsV RX2 186 RX2 yX2_isOn wsX2_isOn) := goodIn_app (goodIn_of _ (by decide +kernel)) ggX2_letTimePass_X2_isOn
set_option maxRecDepth 20000 in
theorem ggX2_letTimePass_X4_releaseAll : GoodIn wsX2_letTimePass wsX4_releaseAll := goodIn_r _ [12, 13, 14, 30, 31, 32, 33, 34, 35] (by decide +kernel) (by decide +kernel)
set_option maxRecDepth 20000 in
theorem gX2_letTimePass_X4_releaseAll : GoodIn wsX2_letTimePass (wsV RX2 180 RX4 yX4_releaseAll wsX4_releaseAll) := goodIn_app (goodIn_of _ (by decide +kernel)) ggX2_letTimePass_X4_releaseAll
theorem dX2_letTimePass_0 : decode cX2_letTimePass 0 = .ok (.aload_n 0, 1) := by decide +kernel
theorem dX2_letTimePass_1 : decode cX2_letTimePass 1 = .ok (.getfield 35, 3) := by decide +kernel
theorem dX2_letTimePass_4 : decode cX2_letTimePass 4 = .ok (.dup, 1) := by decide +kernel
theorem dX2_letTimePass_5 : decode cX2_letTimePass 5 = .ok (.getfield 195, 3) := by decide +kernel
theorem dX2_letTimePass_8 : decode cX2_letTimePass 8 = .ok (.iconst 1, 1) := by decide +kernel
theorem dX2_letTimePass_9 : decode cX2_letTimePass 9 = .ok (.iadd, 1) := by decide +kernel
theorem dX2_letTimePass_10 : decode cX2_letTimePass 10 = .ok (.putfield 195, 3) := by decide +kernel
theorem dX2_letTimePass_13 : decode cX2_letTimePass 13 = .ok (.aload_n 0, 1) := by decide +kernel
theorem dX2_letTimePass_14 : decode cX2_letTimePass 14 = .ok (.iconst 0, 1) := by decide +kernel
theorem dX2_letTimePass_15 : decode cX2_letTimePass 15 = .ok (.invokevirtual 186, 3) := by decide +kernel
theorem dX2_letTimePass_18 : decode cX2_letTimePass 18 = .ok (.ifCond .ne 37, 3) := by decide +kernel
theorem dX2_letTimePass_21 : decode cX2_letTimePass 21 = .ok (.aload_n 0, 1) := by decide +kernel
theorem dX2_letTimePass_22 : decode cX2_letTimePass 22 = .ok (.getfield 18, 3) := by decide +kernel
theorem dX2_letTimePass_25 : decode cX2_letTimePass 25 = .ok (.bipush 13, 2) := by decide +kernel
theorem dX2_letTimePass_27 : decode cX2_letTimePass 27 = .ok (.iaload, 1) := by decide +kernel
theorem dX2_letTimePass_28 : decode cX2_letTimePass 28 = .ok (.ifCond .le 27, 3) := by decide +kernel
theorem dX2_letTimePass_31 : decode cX2_letTimePass 31 = .ok (.aload_n 0, 1) := by decide +kernel
theorem dX2_letTimePass_32 : decode cX2_letTimePass 32 = .ok (.getfield 35, 3) := by decide +kernel
theorem dX2_letTimePass_35 : decode cX2_letTimePass 35 = .ok (.getfield 195, 3) := by decide +kernel
theorem dX2_letTimePass_38 : decode cX2_letTimePass 38 = .ok (.aload_n 0, 1) := by decide +kernel
theorem dX2_letTimePass_39 : decode cX2_letTimePass 39 = .ok (.getfield 18, 3) := by decide +kernel
theorem dX2_letTimePass_42 : decode cX2_letTimePass 42 = .ok (.bipush 13, 2) := by decide +kernel
theorem dX2_letTimePass_44 : decode cX2_letTimePass 44 = .ok (.iaload, 1) := by decide +kernel
theorem dX2_letTimePass_45 : decode cX2_letTimePass 45 = .ok (.if_icmp .lt 10, 3) := by decide +kernel
theorem dX2_letTimePass_48 : decode cX2_letTimePass 48 = .ok (.aload_n 0, 1) := by decide +kernel
theorem dX2_letTimePass_49 : decode cX2_letTimePass 49 = .ok (.getfield 35, 3) := by decide +kernel
theorem dX2_letTimePass_52 : decode cX2_letTimePass 52 = .ok (.invokevirtual 180, 3) := by decide +kernel
theorem dX2_letTimePass_55 : decode cX2_letTimePass 55 = .ok (.return_, 1) := by decide +kernel
set_option maxRecDepth 20000 in
theorem ggX2_expand_X2_isOn : GoodIn wsX2_expand wsX2_isOn := goodIn_r _ [7, 8, 31, 32, 33, 34, 35, 36, 37, 38, 39, 40, 41, 42, 43, 44, 45] (by decide +kernel) (by decide +kernel)
set_option maxRecDepth 20000 in
theorem gX2_expand_X2_isOn : GoodIn wsX2_expand (wsV RX2 186 RX2 yX2_isOn wsX2_isOn) := goodIn_app (goodIn_of _ (by decide +kernel)) ggX2_expand_X2_isOn
set_option maxRecDepth 20000 in
theorem ggX2_expand_X2_draftNewline : GoodIn wsX2_expand wsX2_draftNewline := goodIn_r _ [12, 2, 13, 14, 15, 16, 17, 18, 19, 20, 21, 22, 23, 24, 31, 32, 33, 34, 35, 36, 37, 38, 39, 40, 41, 42, 43, 44, 45, 46, 47, 48] (by decide +kernel) (by decide +kernel)
set_option maxRecDepth 20000 in
theorem gX2_expand_X2_draftNewline : GoodIn wsX2_expand (wsV RX2 198 RX2 yX2_draftNewline wsX2_draftNewline) := goodIn_app (goodIn_of _ (by decide +kernel)) ggX2_expand_X2_draftNewline
set_option maxRecDepth 20000 in
theorem ggX2_expand_X1_blanksOfTab : GoodIn wsX2_expand wsX1_blanksOfTab := goodIn_r _ [29, 30, 49, 50, 51, 52, 53] (by decide +kernel) (by decide +kernel)
set_option maxRecDepth 20000 in
theorem gX2_expand_X1_blanksOfTab : GoodIn wsX2_expand (wsV RX2 201 RX1 yX1_blanksOfTab wsX1_blanksOfTab) := goodIn_app (goodIn_of _ (by decide +kernel)) ggX2_expand_X1_blanksOfTab
set_option maxRecDepth 20000 in
theorem ggX2_expand_X3_empty : GoodIn wsX2_expand wsX3_empty := goodIn_r _ [17, 18, 46, 47, 48] (by decide +kernel) (by decide +kernel)
set_option maxRecDepth 20000 in
theorem gX2_expand_X3_empty : GoodIn wsX2_expand (wsV RX2 134 RX3 yX3_empty wsX3_empty) := goodIn_app (goodIn_of _ (by decide +kernel)) ggX2_expand_X3_empty
set_option maxRecDepth 20000 in
theorem ggX2_expand_X3_add : GoodIn wsX2_expand wsX3_add := goodIn_r _ [22, 18, 23, 24, 46, 47, 48] (by decide +kernel) (by decide +kernel)
set_option maxRecDepth 20000 in
theorem gX2_expand_X3_add : GoodIn wsX2_expand (wsV RX2 82 RX3 yX3_add wsX3_add) := goodIn_app (goodIn_of _ (by decide +kernel)) ggX2_expand_X3_add
theorem dX2_expand_0 : decode cX2_expand 0 = .ok (.iload_n 1, 1) := by decide +kernel
theorem dX2_expand_1 : decode cX2_expand 1 = .ok (.bipush 10, 2) := by decide +kernel
theorem dX2_expand_3 : decode cX2_expand 3 = .ok (.if_icmp .ne 17, 3) := by decide +kernel
theorem dX2_expand_6 : decode cX2_expand 6 = .ok (.aload_n 0, 1) := by decide +kernel
theorem dX2_expand_7 : decode cX2_expand 7 = .ok (.bipush 7, 2) := by decide +kernel
theorem dX2_expand_9 : decode cX2_expand 9 = .ok (.invokevirtual 186, 3) := by decide +kernel
theorem dX2_expand_12 : decode cX2_expand 12 = .ok (.ifCond .eq 8, 3) := by decide +kernel
theorem dX2_expand_15 : decode cX2_expand 15 = .ok (.aload_n 0, 1) := by decide +kernel
theorem dX2_expand_16 : decode cX2_expand 16 = .ok (.invokevirtual 198, 3) := by decide +kernel
theorem dX2_expand_19 : decode cX2_expand 19 = .ok (.return_, 1) := by decide +kernel
theorem dX2_expand_20 : decode cX2_expand 20 = .ok (.iload_n 1, 1) := by decide +kernel
theorem dX2_expand_21 : decode cX2_expand 21 = .ok (.bipush 9, 2) := by decide +kernel
theorem dX2_expand_23 : decode cX2_expand 23 = .ok (.if_icmp .ne 16, 3) := by decide +kernel
theorem dX2_expand_26 : decode cX2_expand 26 = .ok (.aload_n 0, 1) := by decide +kernel
theorem dX2_expand_27 : decode cX2_expand 27 = .ok (.bipush 8, 2) := by decide +kernel
theorem dX2_expand_29 : decode cX2_expand 29 = .ok (.invokevirtual 186, 3) := by decide +kernel
theorem dX2_expand_32 : decode cX2_expand 32 = .ok (.ifCond .eq 7, 3) := by decide +kernel
theorem dX2_expand_35 : decode cX2_expand 35 = .ok (.iconst 1, 1) := by decide +kernel
theorem dX2_expand_36 : decode cX2_expand 36 = .ok (.goto 4, 3) := by decide +kernel
theorem dX2_expand_39 : decode cX2_expand 39 = .ok (.iconst 0, 1) := by decide +kernel
theorem dX2_expand_40 : decode cX2_expand 40 = .ok (.istore_n 2, 1) := by decide +kernel
theorem dX2_expand_41 : decode cX2_expand 41 = .ok (.iload_n 2, 1) := by decide +kernel
theorem dX2_expand_42 : decode cX2_expand 42 = .ok (.ifCond .eq 13, 3) := by decide +kernel
theorem dX2_expand_45 : decode cX2_expand 45 = .ok (.aload_n 0, 1) := by decide +kernel
theorem dX2_expand_46 : decode cX2_expand 46 = .ok (.getfield 42, 3) := by decide +kernel
theorem dX2_expand_49 : decode cX2_expand 49 = .ok (.invokevirtual 201, 3) := by decide +kernel
theorem dX2_expand_52 : decode cX2_expand 52 = .ok (.goto 4, 3) := by decide +kernel
theorem dX2_expand_55 : decode cX2_expand 55 = .ok (.iconst 1, 1) := by decide +kernel
theorem dX2_expand_56 : decode cX2_expand 56 = .ok (.istore_n 3, 1) := by decide +kernel
theorem dX2_expand_57 : decode cX2_expand 57 = .ok (.aload_n 0, 1) := by decide +kernel
theorem dX2_expand_58 : decode cX2_expand 58 = .ok (.getfield 53, 3) := by decide +kernel
theorem dX2_expand_61 : decode cX2_expand 61 = .ok (.invokevirtual 134, 3) := by decide +kernel
theorem dX2_expand_64 : decode cX2_expand 64 = .ok (.iconst 0, 1) := by decide +kernel
theorem dX2_expand_65 : decode cX2_expand 65 = .ok (.istore 4, 2) := by decide +kernel
theorem dX2_expand_67 : decode cX2_expand 67 = .ok (.iload 4, 2) := by decide +kernel
theorem dX2_expand_69 : decode cX2_expand 69 = .ok (.iload_n 3, 1) := by decide +kernel
theorem dX2_expand_70 : decode cX2_expand 70 = .ok (.if_icmp .ge 26, 3) := by decide +kernel
theorem dX2_expand_73 : decode cX2_expand 73 = .ok (.aload_n 0, 1) := by decide +kernel
theorem dX2_expand_74 : decode cX2_expand 74 = .ok (.getfield 53, 3) := by decide +kernel
theorem dX2_expand_77 : decode cX2_expand 77 = .ok (.iload_n 2, 1) := by decide +kernel
theorem dX2_expand_78 : decode cX2_expand 78 = .ok (.ifCond .eq 8, 3) := by decide +kernel
theorem dX2_expand_81 : decode cX2_expand 81 = .ok (.bipush 32, 2) := by decide +kernel
theorem dX2_expand_83 : decode cX2_expand 83 = .ok (.goto 4, 3) := by decide +kernel
theorem dX2_expand_86 : decode cX2_expand 86 = .ok (.iload_n 1, 1) := by decide +kernel
theorem dX2_expand_87 : decode cX2_expand 87 = .ok (.invokevirtual 82, 3) := by decide +kernel
theorem dX2_expand_90 : decode cX2_expand 90 = .ok (.iinc 4 1, 3) := by decide +kernel
theorem dX2_expand_93 : decode cX2_expand 93 = .ok (.goto (-26), 3) := by decide +kernel
theorem dX2_expand_96 : decode cX2_expand 96 = .ok (.return_, 1) := by decide +kernel
set_option maxRecDepth 20000 in
theorem ggX2_pass_X3_takeFirst : GoodIn wsX2_pass wsX3_takeFirst := goodIn_r _ [7, 8, 9, 10, 200, 201, 202] (by decide +kernel) (by decide +kernel)
set_option maxRecDepth 20000 in
theorem gX2_pass_X3_takeFirst : GoodIn wsX2_pass (wsV RX2 204 RX3 yX3_takeFirst wsX3_takeFirst) := goodIn_app (goodIn_of _ (by decide +kernel)) ggX2_pass_X3_takeFirst
set_option maxRecDepth 20000 in
theorem ggX2_pass_X2_takeFlagged : GoodIn wsX2_pass wsX2_takeFlagged := goodIn_r _ [15, 16, 2, 17, 18, 19, 20, 14, 21, 22, 23, 24, 25, 26, 27, 28, 29, 30, 31, 32, 33, 34, 35, 36, 37, 38, 39, 40, 41, 42, 43, 44, 45, 46, 47, 48, 49, 50, 51, 6, 52, 8, 53, 54, 55, 56, 57, 58, 59, 60, 61, 62, 63, 64, 65, 66, 67, 68, 69, 70, 71, 72, 73, 74, 75, 76, 77, 78, 79, 80, 81, 82, 83, 84, 85, 86, 9, 10, 87, 88, 89, 90, 91, 92, 93, 94, 95, 96, 97, 98, 99, 100, 101, 102, 103, 104, 105, 106, 107, 108, 109, 110, 111, 112, 113, 114, 115, 116, 117, 118, 119, 120, 121, 122, 123, 124, 125, 126, 127, 128, 129, 130, 131, 132, 133, 134, 135, 136, 185, 186, 187, 188, 189, 190, 191, 192, 193, 194, 195, 196, 197, 198, 199, 203, 204, 205, 206, 207, 200, 201, 202, 208, 209, 210, 211, 212, 213, 214, 215, 216, 217] (by decide +kernel) (by decide +kernel)
set_option maxRecDepth 20000 in
theorem gX2_pass_X2_takeFlagged : GoodIn wsX2_pass (wsV RX2 207 RX2 yX2_takeFlagged wsX2_takeFlagged) := goodIn_app (goodIn_of _ (by decide +kernel)) ggX2_pass_X2_takeFlagged
set_option maxRecDepth 20000 in
theorem ggX2_pass_X2_keepAndEcho : GoodIn wsX2_pass wsX2_keepAndEcho := goodIn_r _ [114, 115, 116, 117, 14, 118, 41, 17, 57, 58, 18, 19, 20, 21, 16, 119, 120, 121, 45, 122, 47, 123, 124, 99, 100, 6, 101, 9, 8, 125, 84, 85, 86, 10, 126, 127, 128, 129, 130, 131, 69, 132, 133, 134, 135, 136, 48, 71, 72, 73, 74, 75, 59, 50, 51, 52, 76, 77, 78, 79, 80, 81, 82, 83, 87, 88, 89, 90, 28, 91, 92, 93, 94, 95, 96, 97, 98, 102, 103, 104, 105, 106, 107, 108, 109, 110, 185, 186, 187, 188, 189, 190, 191, 192, 193, 194, 195, 196, 197, 198, 199, 210, 211, 212, 200, 201, 202, 203, 204, 205, 206, 207] (by decide +kernel) (by decide +kernel)
set_option maxRecDepth 20000 in
theorem gX2_pass_X2_keepAndEcho : GoodIn wsX2_pass (wsV RX2 214 RX2 yX2_keepAndEcho wsX2_keepAndEcho) := goodIn_app (goodIn_of _ (by decide +kernel)) ggX2_pass_X2_keepAndEcho
set_option maxRecDepth 20000 in
theorem ggX2_pass_X2_settledAsFlow : GoodIn wsX2_pass wsX2_settledAsFlow := goodIn_r _ [140, 16, 28, 18, 19, 20, 14, 21, 185, 186, 187, 188, 189, 190, 191, 192, 193, 194, 195, 196, 197, 198, 199, 203, 204, 205, 206, 207] (by decide +kernel) (by decide +kernel)
set_option maxRecDepth 20000 in
theorem gX2_pass_X2_settledAsFlow : GoodIn wsX2_pass (wsV RX2 217 RX2 yX2_settledAsFlow wsX2_settledAsFlow) := goodIn_app (goodIn_of _ (by decide +kernel)) ggX2_pass_X2_settledAsFlow
set_option maxRecDepth 20000 in
theorem ggX2_pass_X2_settledAsSignal : GoodIn wsX2_pass wsX2_settledAsSignal := goodIn_r _ [144, 16, 18, 19, 20, 14, 21, 22, 23, 24, 25, 26, 27, 28, 29, 30, 31, 32, 33, 34, 35, 36, 37, 38, 39, 40, 41, 42, 43, 44, 45, 46, 47, 48, 49, 50, 51, 6, 52, 8, 53, 54, 55, 56, 57, 58, 59, 60, 61, 62, 63, 64, 65, 66, 67, 68, 69, 70, 71, 72, 73, 74, 75, 76, 77, 78, 79, 80, 81, 82, 83, 84, 85, 86, 9, 10, 87, 88, 89, 90, 17, 91, 92, 93, 94, 95, 96, 97, 98, 99, 100, 101, 102, 103, 104, 105, 106, 107, 108, 109, 110, 185, 186, 187, 188, 189, 190, 191, 192, 193, 194, 195, 196, 197, 198, 199, 203, 204, 205, 206, 207, 200, 201, 202, 208, 209, 210, 211, 212, 213, 214, 215, 216, 217] (by decide +kernel) (by decide +kernel)
set_option maxRecDepth 20000 in
theorem gX2_pass_X2_settledAsSignal : GoodIn wsX2_pass (wsV RX2 220 RX2 yX2_settledAsSignal wsX2_settledAsSignal) := goodIn_app (goodIn_of _ (by decide +kernel)) ggX2_pass_X2_settledAsSignal
set_option maxRecDepth 20000 in
theorem ggX2_pass_X2_isOn : GoodIn wsX2_pass wsX2_isOn := goodIn_r _ [21, 16, 185, 186, 187, 188, 189, 190, 191, 192, 193, 194, 195, 196, 197, 198, 199] (by decide +kernel) (by decide +kernel)
set_option maxRecDepth 20000 in
theorem gX2_pass_X2_isOn : GoodIn wsX2_pass (wsV RX2 186 RX2 yX2_isOn wsX2_isOn) := goodIn_app (goodIn_of _ (by decide +kernel)) ggX2_pass_X2_isOn
set_option maxRecDepth 20000 in
theorem ggX2_pass_X2_edit : GoodIn wsX2_pass wsX2_edit := goodIn_r _ [148, 16, 41, 149, 68, 69, 70, 2, 18, 19, 20, 14, 21, 111, 112, 113, 114, 115, 116, 117, 118, 17, 57, 58, 119, 120, 121, 45, 122, 47, 123, 124, 99, 100, 6, 101, 9, 8, 125, 84, 85, 86, 10, 126, 127, 128, 129, 130, 131, 132, 133, 134, 135, 136, 48, 71, 72, 73, 74, 75, 59, 50, 51, 52, 76, 77, 78, 79, 80, 81, 82, 83, 87, 88, 89, 90, 28, 91, 92, 93, 94, 95, 96, 97, 98, 102, 103, 104, 105, 106, 107, 108, 109, 110, 150, 151, 152, 153, 154, 155, 156, 157, 158, 159, 160, 161, 162, 53, 54, 55, 56, 163, 164, 165, 166, 167, 168, 169, 170, 171, 172, 173, 174, 175, 176, 177, 178, 179, 180, 181, 182, 183, 184, 185, 186, 187, 188, 189, 190, 191, 192, 193, 194, 195, 196, 197, 198, 199, 210, 211, 212, 200, 201, 202, 203, 204, 205, 206, 207] (by decide +kernel) (by decide +kernel)
set_option maxRecDepth 20000 in
theorem gX2_pass_X2_edit : GoodIn wsX2_pass (wsV RX2 223 RX2 yX2_edit wsX2_edit) := goodIn_app (goodIn_of _ (by decide +kernel)) ggX2_pass_X2_edit
theorem dX2_pass_0 : decode cX2_pass 0 = .ok (.iconst 0, 1) := by decide +kernel
theorem dX2_pass_1 : decode cX2_pass 1 = .ok (.istore_n 1, 1) := by decide +kernel
theorem dX2_pass_2 : decode cX2_pass 2 = .ok (.iload_n 1, 1) := by decide +kernel
theorem dX2_pass_3 : decode cX2_pass 3 = .ok (.bipush 8, 2) := by decide +kernel
theorem dX2_pass_5 : decode cX2_pass 5 = .ok (.if_icmp .ge 123, 3) := by decide +kernel
theorem dX2_pass_8 : decode cX2_pass 8 = .ok (.aload_n 0, 1) := by decide +kernel
theorem dX2_pass_9 : decode cX2_pass 9 = .ok (.getfield 28, 3) := by decide +kernel
theorem dX2_pass_12 : decode cX2_pass 12 = .ok (.getfield 147, 3) := by decide +kernel
theorem dX2_pass_15 : decode cX2_pass 15 = .ok (.ifCond .le 113, 3) := by decide +kernel
theorem dX2_pass_18 : decode cX2_pass 18 = .ok (.aload_n 0, 1) := by decide +kernel
theorem dX2_pass_19 : decode cX2_pass 19 = .ok (.getfield 28, 3) := by decide +kernel
theorem dX2_pass_22 : decode cX2_pass 22 = .ok (.invokevirtual 204, 3) := by decide +kernel
theorem dX2_pass_25 : decode cX2_pass 25 = .ok (.istore_n 2, 1) := by decide +kernel
theorem dX2_pass_26 : decode cX2_pass 26 = .ok (.iload_n 2, 1) := by decide +kernel
theorem dX2_pass_27 : decode cX2_pass 27 = .ok (.sipush 255, 3) := by decide +kernel
theorem dX2_pass_30 : decode cX2_pass 30 = .ok (.iand, 1) := by decide +kernel
theorem dX2_pass_31 : decode cX2_pass 31 = .ok (.istore_n 3, 1) := by decide +kernel
theorem dX2_pass_32 : decode cX2_pass 32 = .ok (.iload_n 2, 1) := by decide +kernel
theorem dX2_pass_33 : decode cX2_pass 33 = .ok (.bipush 8, 2) := by decide +kernel
theorem dX2_pass_35 : decode cX2_pass 35 = .ok (.ishr, 1) := by decide +kernel
theorem dX2_pass_36 : decode cX2_pass 36 = .ok (.istore 4, 2) := by decide +kernel
theorem dX2_pass_38 : decode cX2_pass 38 = .ok (.iload 4, 2) := by decide +kernel
theorem dX2_pass_40 : decode cX2_pass 40 = .ok (.ifCond .eq 22, 3) := by decide +kernel
theorem dX2_pass_43 : decode cX2_pass 43 = .ok (.aload_n 0, 1) := by decide +kernel
theorem dX2_pass_44 : decode cX2_pass 44 = .ok (.iload 4, 2) := by decide +kernel
theorem dX2_pass_46 : decode cX2_pass 46 = .ok (.iconst 2, 1) := by decide +kernel
theorem dX2_pass_47 : decode cX2_pass 47 = .ok (.iand, 1) := by decide +kernel
theorem dX2_pass_48 : decode cX2_pass 48 = .ok (.ifCond .eq 7, 3) := by decide +kernel
theorem dX2_pass_51 : decode cX2_pass 51 = .ok (.iconst 1, 1) := by decide +kernel
theorem dX2_pass_52 : decode cX2_pass 52 = .ok (.goto 4, 3) := by decide +kernel
theorem dX2_pass_55 : decode cX2_pass 55 = .ok (.iconst 0, 1) := by decide +kernel
theorem dX2_pass_56 : decode cX2_pass 56 = .ok (.invokevirtual 207, 3) := by decide +kernel
theorem dX2_pass_59 : decode cX2_pass 59 = .ok (.goto 63, 3) := by decide +kernel
theorem dX2_pass_62 : decode cX2_pass 62 = .ok (.aload_n 0, 1) := by decide +kernel
theorem dX2_pass_63 : decode cX2_pass 63 = .ok (.getfield 211, 3) := by decide +kernel
theorem dX2_pass_66 : decode cX2_pass 66 = .ok (.ifCond .eq 16, 3) := by decide +kernel
theorem dX2_pass_69 : decode cX2_pass 69 = .ok (.aload_n 0, 1) := by decide +kernel
theorem dX2_pass_70 : decode cX2_pass 70 = .ok (.iconst 0, 1) := by decide +kernel
theorem dX2_pass_71 : decode cX2_pass 71 = .ok (.putfield 211, 3) := by decide +kernel
theorem dX2_pass_74 : decode cX2_pass 74 = .ok (.aload_n 0, 1) := by decide +kernel
theorem dX2_pass_75 : decode cX2_pass 75 = .ok (.iload_n 3, 1) := by decide +kernel
theorem dX2_pass_76 : decode cX2_pass 76 = .ok (.invokevirtual 214, 3) := by decide +kernel
theorem dX2_pass_79 : decode cX2_pass 79 = .ok (.goto 43, 3) := by decide +kernel
theorem dX2_pass_82 : decode cX2_pass 82 = .ok (.aload_n 0, 1) := by decide +kernel
theorem dX2_pass_83 : decode cX2_pass 83 = .ok (.iload_n 3, 1) := by decide +kernel
theorem dX2_pass_84 : decode cX2_pass 84 = .ok (.invokevirtual 217, 3) := by decide +kernel
theorem dX2_pass_87 : decode cX2_pass 87 = .ok (.ifCond .ne 35, 3) := by decide +kernel
theorem dX2_pass_90 : decode cX2_pass 90 = .ok (.aload_n 0, 1) := by decide +kernel
theorem dX2_pass_91 : decode cX2_pass 91 = .ok (.iload_n 3, 1) := by decide +kernel
theorem dX2_pass_92 : decode cX2_pass 92 = .ok (.invokevirtual 220, 3) := by decide +kernel
theorem dX2_pass_95 : decode cX2_pass 95 = .ok (.ifCond .ne 27, 3) := by decide +kernel
theorem dX2_pass_98 : decode cX2_pass 98 = .ok (.aload_n 0, 1) := by decide +kernel
theorem dX2_pass_99 : decode cX2_pass 99 = .ok (.iload_n 3, 1) := by decide +kernel
theorem dX2_pass_100 : decode cX2_pass 100 = .ok (.bipush 13, 2) := by decide +kernel
theorem dX2_pass_102 : decode cX2_pass 102 = .ok (.if_icmp .ne 16, 3) := by decide +kernel
theorem dX2_pass_105 : decode cX2_pass 105 = .ok (.aload_n 0, 1) := by decide +kernel
theorem dX2_pass_106 : decode cX2_pass 106 = .ok (.iconst 3, 1) := by decide +kernel
theorem dX2_pass_107 : decode cX2_pass 107 = .ok (.invokevirtual 186, 3) := by decide +kernel
theorem dX2_pass_110 : decode cX2_pass 110 = .ok (.ifCond .eq 8, 3) := by decide +kernel
theorem dX2_pass_113 : decode cX2_pass 113 = .ok (.bipush 10, 2) := by decide +kernel
theorem dX2_pass_115 : decode cX2_pass 115 = .ok (.goto 4, 3) := by decide +kernel
theorem dX2_pass_118 : decode cX2_pass 118 = .ok (.iload_n 3, 1) := by decide +kernel
theorem dX2_pass_119 : decode cX2_pass 119 = .ok (.invokevirtual 223, 3) := by decide +kernel
theorem dX2_pass_122 : decode cX2_pass 122 = .ok (.iinc 1 1, 3) := by decide +kernel
theorem dX2_pass_125 : decode cX2_pass 125 = .ok (.goto (-123), 3) := by decide +kernel
theorem dX2_pass_128 : decode cX2_pass 128 = .ok (.return_, 1) := by decide +kernel
set_option maxRecDepth 20000 in
theorem ggX2_takeFlagged_X2_isOn : GoodIn wsX2_takeFlagged wsX2_isOn := goodIn_r _ [8, 1, 128, 129, 130, 131, 132, 133, 134, 135, 136, 137, 138, 139, 140, 141, 142] (by decide +kernel) (by decide +kernel)
set_option maxRecDepth 20000 in
theorem gX2_takeFlagged_X2_isOn : GoodIn wsX2_takeFlagged (wsV RX2 186 RX2 yX2_isOn wsX2_isOn) := goodIn_app (goodIn_of _ (by decide +kernel)) ggX2_takeFlagged_X2_isOn
set_option maxRecDepth 20000 in
theorem ggX2_takeFlagged_X2_signal : GoodIn wsX2_takeFlagged wsX2_signal := goodIn_r _ [12, 13, 14, 15, 16, 17, 18, 19, 20, 21, 22, 23, 4, 5, 6, 7, 8, 1, 24, 25, 26, 27, 28, 29, 30, 31, 32, 33, 34, 35, 36, 37, 38, 39, 40, 41, 42, 43, 44, 45, 46, 47, 48, 49, 50, 51, 52, 53, 54, 55, 56, 57, 58, 59, 60, 61, 62, 63, 64, 65, 66, 67, 68, 69, 70, 71, 72, 73, 74, 75, 76, 77, 78, 79, 80, 81, 3, 82, 83, 84, 85, 86, 87, 88, 89, 90, 91, 92, 93, 94, 95, 96, 97, 98, 99, 100, 101, 128, 129, 130, 131, 132, 133, 134, 135, 136, 137, 138, 139, 140, 141, 142, 143, 144, 145, 146, 147, 148, 149, 150, 151, 152, 153, 154, 155, 156, 157, 158, 159, 160] (by decide +kernel) (by decide +kernel)
set_option maxRecDepth 20000 in
theorem gX2_takeFlagged_X2_signal : GoodIn wsX2_takeFlagged (wsV RX2 226 RX2 yX2_signal wsX2_signal) := goodIn_app (goodIn_of _ (by decide +kernel)) ggX2_takeFlagged_X2_signal
set_option maxRecDepth 20000 in
theorem ggX2_takeFlagged_X2_keepAndEcho : GoodIn wsX2_takeFlagged wsX2_keepAndEcho := goodIn_r _ [105, 106, 107, 108, 7, 109, 28, 3, 46, 47, 4, 5, 6, 8, 1, 110, 111, 112, 32, 113, 34, 114, 115, 90, 91, 39, 92, 76, 41, 116, 73, 74, 75, 77, 117, 118, 119, 120, 121, 122, 58, 123, 124, 125, 126, 127, 35, 60, 61, 62, 63, 64, 48, 37, 38, 40, 65, 66, 67, 68, 69, 70, 71, 72, 78, 79, 80, 81, 15, 82, 83, 84, 85, 86, 87, 88, 89, 93, 94, 95, 96, 97, 98, 99, 100, 101, 128, 129, 130, 131, 132, 133, 134, 135, 136, 137, 138, 139, 140, 141, 142, 153, 154, 155, 148, 149, 150, 143, 144, 145, 146, 147] (by decide +kernel) (by decide +kernel)
set_option maxRecDepth 20000 in
theorem gX2_takeFlagged_X2_keepAndEcho : GoodIn wsX2_takeFlagged (wsV RX2 214 RX2 yX2_keepAndEcho wsX2_keepAndEcho) := goodIn_app (goodIn_of _ (by decide +kernel)) ggX2_takeFlagged_X2_keepAndEcho
theorem dX2_takeFlagged_0 : decode cX2_takeFlagged 0 = .ok (.iload_n 1, 1) := by decide +kernel
theorem dX2_takeFlagged_1 : decode cX2_takeFlagged 1 = .ok (.ifCond .eq 26, 3) := by decide +kernel
theorem dX2_takeFlagged_4 : decode cX2_takeFlagged 4 = .ok (.aload_n 0, 1) := by decide +kernel
theorem dX2_takeFlagged_5 : decode cX2_takeFlagged 5 = .ok (.iconst 2, 1) := by decide +kernel
theorem dX2_takeFlagged_6 : decode cX2_takeFlagged 6 = .ok (.invokevirtual 186, 3) := by decide +kernel
theorem dX2_takeFlagged_9 : decode cX2_takeFlagged 9 = .ok (.ifCond .eq 18, 3) := by decide +kernel
theorem dX2_takeFlagged_12 : decode cX2_takeFlagged 12 = .ok (.aload_n 0, 1) := by decide +kernel
theorem dX2_takeFlagged_13 : decode cX2_takeFlagged 13 = .ok (.iconst 1, 1) := by decide +kernel
theorem dX2_takeFlagged_14 : decode cX2_takeFlagged 14 = .ok (.aload_n 0, 1) := by decide +kernel
theorem dX2_takeFlagged_15 : decode cX2_takeFlagged 15 = .ok (.getfield 18, 3) := by decide +kernel
theorem dX2_takeFlagged_18 : decode cX2_takeFlagged 18 = .ok (.bipush 20, 2) := by decide +kernel
theorem dX2_takeFlagged_20 : decode cX2_takeFlagged 20 = .ok (.iaload, 1) := by decide +kernel
theorem dX2_takeFlagged_21 : decode cX2_takeFlagged 21 = .ok (.invokevirtual 226, 3) := by decide +kernel
theorem dX2_takeFlagged_24 : decode cX2_takeFlagged 24 = .ok (.goto 39, 3) := by decide +kernel
theorem dX2_takeFlagged_27 : decode cX2_takeFlagged 27 = .ok (.iload_n 1, 1) := by decide +kernel
theorem dX2_takeFlagged_28 : decode cX2_takeFlagged 28 = .ok (.ifCond .ne 12, 3) := by decide +kernel
theorem dX2_takeFlagged_31 : decode cX2_takeFlagged 31 = .ok (.aload_n 0, 1) := by decide +kernel
theorem dX2_takeFlagged_32 : decode cX2_takeFlagged 32 = .ok (.bipush 11, 2) := by decide +kernel
theorem dX2_takeFlagged_34 : decode cX2_takeFlagged 34 = .ok (.invokevirtual 186, 3) := by decide +kernel
theorem dX2_takeFlagged_37 : decode cX2_takeFlagged 37 = .ok (.ifCond .eq 16, 3) := by decide +kernel
theorem dX2_takeFlagged_40 : decode cX2_takeFlagged 40 = .ok (.aload_n 0, 1) := by decide +kernel
theorem dX2_takeFlagged_41 : decode cX2_takeFlagged 41 = .ok (.iconst 0, 1) := by decide +kernel
theorem dX2_takeFlagged_42 : decode cX2_takeFlagged 42 = .ok (.putfield 211, 3) := by decide +kernel
theorem dX2_takeFlagged_45 : decode cX2_takeFlagged 45 = .ok (.aload_n 0, 1) := by decide +kernel
theorem dX2_takeFlagged_46 : decode cX2_takeFlagged 46 = .ok (.iconst 0, 1) := by decide +kernel
theorem dX2_takeFlagged_47 : decode cX2_takeFlagged 47 = .ok (.invokevirtual 214, 3) := by decide +kernel
theorem dX2_takeFlagged_50 : decode cX2_takeFlagged 50 = .ok (.goto 13, 3) := by decide +kernel
theorem dX2_takeFlagged_53 : decode cX2_takeFlagged 53 = .ok (.aload_n 0, 1) := by decide +kernel
theorem dX2_takeFlagged_54 : decode cX2_takeFlagged 54 = .ok (.getfield 60, 3) := by decide +kernel
theorem dX2_takeFlagged_57 : decode cX2_takeFlagged 57 = .ok (.iconst 2, 1) := by decide +kernel
theorem dX2_takeFlagged_58 : decode cX2_takeFlagged 58 = .ok (.dup2, 1) := by decide +kernel
theorem dX2_takeFlagged_59 : decode cX2_takeFlagged 59 = .ok (.iaload, 1) := by decide +kernel
theorem dX2_takeFlagged_60 : decode cX2_takeFlagged 60 = .ok (.iconst 1, 1) := by decide +kernel
theorem dX2_takeFlagged_61 : decode cX2_takeFlagged 61 = .ok (.iadd, 1) := by decide +kernel
theorem dX2_takeFlagged_62 : decode cX2_takeFlagged 62 = .ok (.iastore, 1) := by decide +kernel
theorem dX2_takeFlagged_63 : decode cX2_takeFlagged 63 = .ok (.return_, 1) := by decide +kernel
set_option maxRecDepth 20000 in
theorem ggX2_settledAsFlow_X2_isOn : GoodIn wsX2_settledAsFlow wsX2_isOn := goodIn_r _ [7, 1, 8, 9, 10, 11, 12, 13, 14, 15, 16, 17, 18, 19, 20, 21, 22] (by decide +kernel) (by decide +kernel)
set_option maxRecDepth 20000 in
theorem gX2_settledAsFlow_X2_isOn : GoodIn wsX2_settledAsFlow (wsV RX2 186 RX2 yX2_isOn wsX2_isOn) := goodIn_app (goodIn_of _ (by decide +kernel)) ggX2_settledAsFlow_X2_isOn
theorem dX2_settledAsFlow_0 : decode cX2_settledAsFlow 0 = .ok (.aload_n 0, 1) := by decide +kernel
theorem dX2_settledAsFlow_1 : decode cX2_settledAsFlow 1 = .ok (.iconst 4, 1) := by decide +kernel
theorem dX2_settledAsFlow_2 : decode cX2_settledAsFlow 2 = .ok (.invokevirtual 186, 3) := by decide +kernel
theorem dX2_settledAsFlow_5 : decode cX2_settledAsFlow 5 = .ok (.ifCond .ne 5, 3) := by decide +kernel
theorem dX2_settledAsFlow_8 : decode cX2_settledAsFlow 8 = .ok (.iconst 0, 1) := by decide +kernel
theorem dX2_settledAsFlow_9 : decode cX2_settledAsFlow 9 = .ok (.ireturn, 1) := by decide +kernel
theorem dX2_settledAsFlow_10 : decode cX2_settledAsFlow 10 = .ok (.iload_n 1, 1) := by decide +kernel
theorem dX2_settledAsFlow_11 : decode cX2_settledAsFlow 11 = .ok (.aload_n 0, 1) := by decide +kernel
theorem dX2_settledAsFlow_12 : decode cX2_settledAsFlow 12 = .ok (.getfield 18, 3) := by decide +kernel
theorem dX2_settledAsFlow_15 : decode cX2_settledAsFlow 15 = .ok (.bipush 24, 2) := by decide +kernel
theorem dX2_settledAsFlow_17 : decode cX2_settledAsFlow 17 = .ok (.iaload, 1) := by decide +kernel
theorem dX2_settledAsFlow_18 : decode cX2_settledAsFlow 18 = .ok (.if_icmp .ne 13, 3) := by decide +kernel
theorem dX2_settledAsFlow_21 : decode cX2_settledAsFlow 21 = .ok (.aload_n 0, 1) := by decide +kernel
theorem dX2_settledAsFlow_22 : decode cX2_settledAsFlow 22 = .ok (.getfield 42, 3) := by decide +kernel
theorem dX2_settledAsFlow_25 : decode cX2_settledAsFlow 25 = .ok (.iconst 1, 1) := by decide +kernel
theorem dX2_settledAsFlow_26 : decode cX2_settledAsFlow 26 = .ok (.putfield 229, 3) := by decide +kernel
theorem dX2_settledAsFlow_29 : decode cX2_settledAsFlow 29 = .ok (.iconst 1, 1) := by decide +kernel
theorem dX2_settledAsFlow_30 : decode cX2_settledAsFlow 30 = .ok (.ireturn, 1) := by decide +kernel
theorem dX2_settledAsFlow_31 : decode cX2_settledAsFlow 31 = .ok (.iload_n 1, 1) := by decide +kernel
theorem dX2_settledAsFlow_32 : decode cX2_settledAsFlow 32 = .ok (.aload_n 0, 1) := by decide +kernel
theorem dX2_settledAsFlow_33 : decode cX2_settledAsFlow 33 = .ok (.getfield 18, 3) := by decide +kernel
theorem dX2_settledAsFlow_36 : decode cX2_settledAsFlow 36 = .ok (.bipush 23, 2) := by decide +kernel
theorem dX2_settledAsFlow_38 : decode cX2_settledAsFlow 38 = .ok (.iaload, 1) := by decide +kernel
theorem dX2_settledAsFlow_39 : decode cX2_settledAsFlow 39 = .ok (.if_icmp .ne 13, 3) := by decide +kernel
theorem dX2_settledAsFlow_42 : decode cX2_settledAsFlow 42 = .ok (.aload_n 0, 1) := by decide +kernel
theorem dX2_settledAsFlow_43 : decode cX2_settledAsFlow 43 = .ok (.getfield 42, 3) := by decide +kernel
theorem dX2_settledAsFlow_46 : decode cX2_settledAsFlow 46 = .ok (.iconst 0, 1) := by decide +kernel
theorem dX2_settledAsFlow_47 : decode cX2_settledAsFlow 47 = .ok (.putfield 229, 3) := by decide +kernel
theorem dX2_settledAsFlow_50 : decode cX2_settledAsFlow 50 = .ok (.iconst 1, 1) := by decide +kernel
theorem dX2_settledAsFlow_51 : decode cX2_settledAsFlow 51 = .ok (.ireturn, 1) := by decide +kernel
theorem dX2_settledAsFlow_52 : decode cX2_settledAsFlow 52 = .ok (.aload_n 0, 1) := by decide +kernel
theorem dX2_settledAsFlow_53 : decode cX2_settledAsFlow 53 = .ok (.iconst 5, 1) := by decide +kernel
theorem dX2_settledAsFlow_54 : decode cX2_settledAsFlow 54 = .ok (.invokevirtual 186, 3) := by decide +kernel
theorem dX2_settledAsFlow_57 : decode cX2_settledAsFlow 57 = .ok (.ifCond .eq 11, 3) := by decide +kernel
theorem dX2_settledAsFlow_60 : decode cX2_settledAsFlow 60 = .ok (.aload_n 0, 1) := by decide +kernel
theorem dX2_settledAsFlow_61 : decode cX2_settledAsFlow 61 = .ok (.getfield 42, 3) := by decide +kernel
theorem dX2_settledAsFlow_64 : decode cX2_settledAsFlow 64 = .ok (.iconst 0, 1) := by decide +kernel
theorem dX2_settledAsFlow_65 : decode cX2_settledAsFlow 65 = .ok (.putfield 229, 3) := by decide +kernel
theorem dX2_settledAsFlow_68 : decode cX2_settledAsFlow 68 = .ok (.iconst 0, 1) := by decide +kernel
theorem dX2_settledAsFlow_69 : decode cX2_settledAsFlow 69 = .ok (.ireturn, 1) := by decide +kernel
set_option maxRecDepth 20000 in
theorem ggX2_settledAsSignal_X2_isOn : GoodIn wsX2_settledAsSignal wsX2_isOn := goodIn_r _ [6, 1, 101, 102, 103, 104, 105, 106, 107, 108, 109, 110, 111, 112, 113, 114, 115] (by decide +kernel) (by decide +kernel)
set_option maxRecDepth 20000 in
theorem gX2_settledAsSignal_X2_isOn : GoodIn wsX2_settledAsSignal (wsV RX2 186 RX2 yX2_isOn wsX2_isOn) := goodIn_app (goodIn_of _ (by decide +kernel)) ggX2_settledAsSignal_X2_isOn
set_option maxRecDepth 20000 in
theorem ggX2_settledAsSignal_X2_signal : GoodIn wsX2_settledAsSignal wsX2_signal := goodIn_r _ [10, 11, 12, 13, 14, 15, 16, 17, 18, 19, 20, 21, 2, 3, 4, 5, 6, 1, 22, 23, 24, 25, 26, 27, 28, 29, 30, 31, 32, 33, 34, 35, 36, 37, 38, 39, 40, 41, 42, 43, 44, 45, 46, 47, 48, 49, 50, 51, 52, 53, 54, 55, 56, 57, 58, 59, 60, 61, 62, 63, 64, 65, 66, 67, 68, 69, 70, 71, 72, 73, 74, 75, 76, 77, 78, 79, 80, 81, 82, 83, 84, 85, 86, 87, 88, 89, 90, 91, 92, 93, 94, 95, 96, 97, 98, 99, 100, 101, 102, 103, 104, 105, 106, 107, 108, 109, 110, 111, 112, 113, 114, 115, 116, 117, 118, 119, 120, 121, 122, 123, 124, 125, 126, 127, 128, 129, 130, 131, 132, 133] (by decide +kernel) (by decide +kernel)
set_option maxRecDepth 20000 in
theorem gX2_settledAsSignal_X2_signal : GoodIn wsX2_settledAsSignal (wsV RX2 226 RX2 yX2_signal wsX2_signal) := goodIn_app (goodIn_of _ (by decide +kernel)) ggX2_settledAsSignal_X2_signal
theorem dX2_settledAsSignal_0 : decode cX2_settledAsSignal 0 = .ok (.aload_n 0, 1) := by decide +kernel
theorem dX2_settledAsSignal_1 : decode cX2_settledAsSignal 1 = .ok (.iconst 2, 1) := by decide +kernel
theorem dX2_settledAsSignal_2 : decode cX2_settledAsSignal 2 = .ok (.invokevirtual 186, 3) := by decide +kernel
theorem dX2_settledAsSignal_5 : decode cX2_settledAsSignal 5 = .ok (.ifCond .ne 5, 3) := by decide +kernel
theorem dX2_settledAsSignal_8 : decode cX2_settledAsSignal 8 = .ok (.iconst 0, 1) := by decide +kernel
theorem dX2_settledAsSignal_9 : decode cX2_settledAsSignal 9 = .ok (.ireturn, 1) := by decide +kernel
theorem dX2_settledAsSignal_10 : decode cX2_settledAsSignal 10 = .ok (.iload_n 1, 1) := by decide +kernel
theorem dX2_settledAsSignal_11 : decode cX2_settledAsSignal 11 = .ok (.aload_n 0, 1) := by decide +kernel
theorem dX2_settledAsSignal_12 : decode cX2_settledAsSignal 12 = .ok (.getfield 18, 3) := by decide +kernel
theorem dX2_settledAsSignal_15 : decode cX2_settledAsSignal 15 = .ok (.bipush 20, 2) := by decide +kernel
theorem dX2_settledAsSignal_17 : decode cX2_settledAsSignal 17 = .ok (.iaload, 1) := by decide +kernel
theorem dX2_settledAsSignal_18 : decode cX2_settledAsSignal 18 = .ok (.if_icmp .ne 12, 3) := by decide +kernel
theorem dX2_settledAsSignal_21 : decode cX2_settledAsSignal 21 = .ok (.aload_n 0, 1) := by decide +kernel
theorem dX2_settledAsSignal_22 : decode cX2_settledAsSignal 22 = .ok (.iconst 1, 1) := by decide +kernel
theorem dX2_settledAsSignal_23 : decode cX2_settledAsSignal 23 = .ok (.iload_n 1, 1) := by decide +kernel
theorem dX2_settledAsSignal_24 : decode cX2_settledAsSignal 24 = .ok (.invokevirtual 226, 3) := by decide +kernel
theorem dX2_settledAsSignal_27 : decode cX2_settledAsSignal 27 = .ok (.goto 45, 3) := by decide +kernel
theorem dX2_settledAsSignal_30 : decode cX2_settledAsSignal 30 = .ok (.iload_n 1, 1) := by decide +kernel
theorem dX2_settledAsSignal_31 : decode cX2_settledAsSignal 31 = .ok (.aload_n 0, 1) := by decide +kernel
theorem dX2_settledAsSignal_32 : decode cX2_settledAsSignal 32 = .ok (.getfield 18, 3) := by decide +kernel
theorem dX2_settledAsSignal_35 : decode cX2_settledAsSignal 35 = .ok (.bipush 21, 2) := by decide +kernel
theorem dX2_settledAsSignal_37 : decode cX2_settledAsSignal 37 = .ok (.iaload, 1) := by decide +kernel
theorem dX2_settledAsSignal_38 : decode cX2_settledAsSignal 38 = .ok (.if_icmp .ne 12, 3) := by decide +kernel
theorem dX2_settledAsSignal_41 : decode cX2_settledAsSignal 41 = .ok (.aload_n 0, 1) := by decide +kernel
theorem dX2_settledAsSignal_42 : decode cX2_settledAsSignal 42 = .ok (.iconst 2, 1) := by decide +kernel
theorem dX2_settledAsSignal_43 : decode cX2_settledAsSignal 43 = .ok (.iload_n 1, 1) := by decide +kernel
theorem dX2_settledAsSignal_44 : decode cX2_settledAsSignal 44 = .ok (.invokevirtual 226, 3) := by decide +kernel
theorem dX2_settledAsSignal_47 : decode cX2_settledAsSignal 47 = .ok (.goto 25, 3) := by decide +kernel
theorem dX2_settledAsSignal_50 : decode cX2_settledAsSignal 50 = .ok (.iload_n 1, 1) := by decide +kernel
theorem dX2_settledAsSignal_51 : decode cX2_settledAsSignal 51 = .ok (.aload_n 0, 1) := by decide +kernel
theorem dX2_settledAsSignal_52 : decode cX2_settledAsSignal 52 = .ok (.getfield 18, 3) := by decide +kernel
theorem dX2_settledAsSignal_55 : decode cX2_settledAsSignal 55 = .ok (.bipush 22, 2) := by decide +kernel
theorem dX2_settledAsSignal_57 : decode cX2_settledAsSignal 57 = .ok (.iaload, 1) := by decide +kernel
theorem dX2_settledAsSignal_58 : decode cX2_settledAsSignal 58 = .ok (.if_icmp .ne 12, 3) := by decide +kernel
theorem dX2_settledAsSignal_61 : decode cX2_settledAsSignal 61 = .ok (.aload_n 0, 1) := by decide +kernel
theorem dX2_settledAsSignal_62 : decode cX2_settledAsSignal 62 = .ok (.iconst 4, 1) := by decide +kernel
theorem dX2_settledAsSignal_63 : decode cX2_settledAsSignal 63 = .ok (.iload_n 1, 1) := by decide +kernel
theorem dX2_settledAsSignal_64 : decode cX2_settledAsSignal 64 = .ok (.invokevirtual 226, 3) := by decide +kernel
theorem dX2_settledAsSignal_67 : decode cX2_settledAsSignal 67 = .ok (.goto 5, 3) := by decide +kernel
theorem dX2_settledAsSignal_70 : decode cX2_settledAsSignal 70 = .ok (.iconst 0, 1) := by decide +kernel
theorem dX2_settledAsSignal_71 : decode cX2_settledAsSignal 71 = .ok (.ireturn, 1) := by decide +kernel
theorem dX2_settledAsSignal_72 : decode cX2_settledAsSignal 72 = .ok (.iconst 1, 1) := by decide +kernel
theorem dX2_settledAsSignal_73 : decode cX2_settledAsSignal 73 = .ok (.ireturn, 1) := by decide +kernel
set_option maxRecDepth 20000 in
theorem ggX2_signal_X0_raise : GoodIn wsX2_signal wsX0_raise := goodIn_r _ [9, 10, 11, 120, 121] (by decide +kernel) (by decide +kernel)
set_option maxRecDepth 20000 in
theorem gX2_signal_X0_raise : GoodIn wsX2_signal (wsV RX2 104 RX0 yX0_raise wsX0_raise) := goodIn_app (goodIn_of _ (by decide +kernel)) ggX2_signal_X0_raise
set_option maxRecDepth 20000 in
theorem ggX2_signal_X2_isOn : GoodIn wsX2_signal wsX2_isOn := goodIn_r _ [16, 17, 97, 98, 99, 100, 101, 102, 103, 104, 105, 106, 107, 108, 109, 110, 111] (by decide +kernel) (by decide +kernel)
set_option maxRecDepth 20000 in
theorem gX2_signal_X2_isOn : GoodIn wsX2_signal (wsV RX2 186 RX2 yX2_isOn wsX2_isOn) := goodIn_app (goodIn_of _ (by decide +kernel)) ggX2_signal_X2_isOn
set_option maxRecDepth 20000 in
theorem ggX2_signal_X2_emptyStore : GoodIn wsX2_signal wsX2_emptyStore := goodIn_r _ [21, 22, 23, 24, 25, 26, 27, 28, 29, 30, 31, 32, 33, 34, 35, 36, 37, 38, 15, 39, 40, 41, 97, 98, 99, 100, 101, 102, 103, 104, 105, 106, 107, 108, 109, 110, 111, 122, 123, 124, 117, 118, 119] (by decide +kernel) (by decide +kernel)
set_option maxRecDepth 20000 in
theorem gX2_signal_X2_emptyStore : GoodIn wsX2_signal (wsV RX2 162 RX2 yX2_emptyStore wsX2_emptyStore) := goodIn_app (goodIn_of _ (by decide +kernel)) ggX2_signal_X2_emptyStore
set_option maxRecDepth 20000 in
theorem ggX2_signal_X3_empty : GoodIn wsX2_signal wsX3_empty := goodIn_r _ [34, 35, 117, 118, 119] (by decide +kernel) (by decide +kernel)
set_option maxRecDepth 20000 in
theorem gX2_signal_X3_empty : GoodIn wsX2_signal (wsV RX2 134 RX3 yX3_empty wsX3_empty) := goodIn_app (goodIn_of _ (by decide +kernel)) ggX2_signal_X3_empty
set_option maxRecDepth 20000 in
theorem ggX2_signal_X5_onlyLeft : GoodIn wsX2_signal wsX5_onlyLeft := goodIn_r _ [47, 48, 49, 50, 51, 52, 53, 125, 126, 127, 128, 129] (by decide +kernel) (by decide +kernel)
set_option maxRecDepth 20000 in
theorem gX2_signal_X5_onlyLeft : GoodIn wsX2_signal (wsV RX2 138 RX5 yX5_onlyLeft wsX5_onlyLeft) := goodIn_app (goodIn_of _ (by decide +kernel)) ggX2_signal_X5_onlyLeft
set_option maxRecDepth 20000 in
theorem ggX2_signal_X2_draftForm : GoodIn wsX2_signal wsX2_draftForm := goodIn_r _ [57, 58, 42, 31, 32, 33, 34, 35, 59, 60, 61, 15, 62, 63, 64, 65, 66, 67, 68, 69, 70, 71, 97, 98, 99, 100, 101, 102, 103, 104, 105, 106, 107, 108, 109, 110, 111, 117, 118, 119] (by decide +kernel) (by decide +kernel)
set_option maxRecDepth 20000 in
theorem gX2_signal_X2_draftForm : GoodIn wsX2_signal (wsV RX2 232 RX2 yX2_draftForm wsX2_draftForm) := goodIn_app (goodIn_of _ (by decide +kernel)) ggX2_signal_X2_draftForm
set_option maxRecDepth 20000 in
theorem ggX2_signal_X2_echo : GoodIn wsX2_signal wsX2_echo := goodIn_r _ [75, 3, 58, 76, 12, 13, 14, 15, 16, 17, 77, 78, 79, 80, 81, 82, 83, 84, 85, 86, 33, 87, 70, 35, 88, 89, 90, 91, 71, 92, 67, 68, 69, 93, 94, 95, 96, 97, 98, 99, 100, 101, 102, 103, 104, 105, 106, 107, 108, 109, 110, 111, 117, 118, 119, 112, 113, 114, 115, 116] (by decide +kernel) (by decide +kernel)
set_option maxRecDepth 20000 in
theorem gX2_signal_X2_echo : GoodIn wsX2_signal (wsV RX2 235 RX2 yX2_echo wsX2_echo) := goodIn_app (goodIn_of _ (by decide +kernel)) ggX2_signal_X2_echo
theorem dX2_signal_0 : decode cX2_signal 0 = .ok (.aload_n 0, 1) := by decide +kernel
theorem dX2_signal_1 : decode cX2_signal 1 = .ok (.getfield 74, 3) := by decide +kernel
theorem dX2_signal_4 : decode cX2_signal 4 = .ok (.aload_n 0, 1) := by decide +kernel
theorem dX2_signal_5 : decode cX2_signal 5 = .ok (.getfield 67, 3) := by decide +kernel
theorem dX2_signal_8 : decode cX2_signal 8 = .ok (.iload_n 1, 1) := by decide +kernel
theorem dX2_signal_9 : decode cX2_signal 9 = .ok (.invokevirtual 104, 3) := by decide +kernel
theorem dX2_signal_12 : decode cX2_signal 12 = .ok (.aload_n 0, 1) := by decide +kernel
theorem dX2_signal_13 : decode cX2_signal 13 = .ok (.bipush 9, 2) := by decide +kernel
theorem dX2_signal_15 : decode cX2_signal 15 = .ok (.invokevirtual 186, 3) := by decide +kernel
theorem dX2_signal_18 : decode cX2_signal 18 = .ok (.ifCond .ne 39, 3) := by decide +kernel
theorem dX2_signal_21 : decode cX2_signal 21 = .ok (.aload_n 0, 1) := by decide +kernel
theorem dX2_signal_22 : decode cX2_signal 22 = .ok (.invokevirtual 162, 3) := by decide +kernel
theorem dX2_signal_25 : decode cX2_signal 25 = .ok (.iload_n 1, 1) := by decide +kernel
theorem dX2_signal_26 : decode cX2_signal 26 = .ok (.iconst 4, 1) := by decide +kernel
theorem dX2_signal_27 : decode cX2_signal 27 = .ok (.if_icmp .eq 30, 3) := by decide +kernel
theorem dX2_signal_30 : decode cX2_signal 30 = .ok (.aload_n 0, 1) := by decide +kernel
theorem dX2_signal_31 : decode cX2_signal 31 = .ok (.getfield 42, 3) := by decide +kernel
theorem dX2_signal_34 : decode cX2_signal 34 = .ok (.getfield 131, 3) := by decide +kernel
theorem dX2_signal_37 : decode cX2_signal 37 = .ok (.invokevirtual 134, 3) := by decide +kernel
theorem dX2_signal_40 : decode cX2_signal 40 = .ok (.aload_n 0, 1) := by decide +kernel
theorem dX2_signal_41 : decode cX2_signal 41 = .ok (.getfield 49, 3) := by decide +kernel
theorem dX2_signal_44 : decode cX2_signal 44 = .ok (.aload_n 0, 1) := by decide +kernel
theorem dX2_signal_45 : decode cX2_signal 45 = .ok (.getfield 42, 3) := by decide +kernel
theorem dX2_signal_48 : decode cX2_signal 48 = .ok (.getfield 135, 3) := by decide +kernel
theorem dX2_signal_51 : decode cX2_signal 51 = .ok (.getfield 147, 3) := by decide +kernel
theorem dX2_signal_54 : decode cX2_signal 54 = .ok (.invokevirtual 138, 3) := by decide +kernel
theorem dX2_signal_57 : decode cX2_signal 57 = .ok (.iload_n 2, 1) := by decide +kernel
theorem dX2_signal_58 : decode cX2_signal 58 = .ok (.sipush 256, 3) := by decide +kernel
theorem dX2_signal_61 : decode cX2_signal 61 = .ok (.if_icmp .eq 12, 3) := by decide +kernel
theorem dX2_signal_64 : decode cX2_signal 64 = .ok (.aload_n 0, 1) := by decide +kernel
theorem dX2_signal_65 : decode cX2_signal 65 = .ok (.iload_n 2, 1) := by decide +kernel
theorem dX2_signal_66 : decode cX2_signal 66 = .ok (.invokevirtual 232, 3) := by decide +kernel
theorem dX2_signal_69 : decode cX2_signal 69 = .ok (.aload_n 0, 1) := by decide +kernel
theorem dX2_signal_70 : decode cX2_signal 70 = .ok (.invokevirtual 235, 3) := by decide +kernel
theorem dX2_signal_73 : decode cX2_signal 73 = .ok (.return_, 1) := by decide +kernel
set_option maxRecDepth 20000 in
theorem ggX2_edit_X2_isOn : GoodIn wsX2_edit wsX2_isOn := goodIn_r _ [12, 1, 133, 134, 135, 136, 137, 138, 139, 140, 141, 142, 143, 144, 145, 146, 147] (by decide +kernel) (by decide +kernel)
set_option maxRecDepth 20000 in
theorem gX2_edit_X2_isOn : GoodIn wsX2_edit (wsV RX2 186 RX2 yX2_isOn wsX2_isOn) := goodIn_app (goodIn_of _ (by decide +kernel)) ggX2_edit_X2_isOn
set_option maxRecDepth 20000 in
theorem ggX2_edit_X2_keepAndEcho : GoodIn wsX2_edit wsX2_keepAndEcho := goodIn_r _ [16, 17, 18, 19, 11, 20, 2, 21, 22, 23, 8, 9, 10, 12, 1, 24, 25, 26, 27, 28, 29, 30, 31, 32, 33, 34, 35, 36, 37, 38, 39, 40, 41, 42, 43, 44, 45, 46, 47, 48, 5, 49, 50, 51, 52, 53, 54, 55, 56, 57, 58, 59, 60, 61, 62, 63, 64, 65, 66, 67, 68, 69, 70, 71, 72, 73, 74, 75, 76, 77, 78, 79, 80, 81, 82, 83, 84, 85, 86, 87, 88, 89, 90, 91, 92, 93, 133, 134, 135, 136, 137, 138, 139, 140, 141, 142, 143, 144, 145, 146, 147, 148, 149, 150, 151, 152, 153, 154, 155, 156, 157, 158] (by decide +kernel) (by decide +kernel)
set_option maxRecDepth 20000 in
theorem gX2_edit_X2_keepAndEcho : GoodIn wsX2_edit (wsV RX2 214 RX2 yX2_keepAndEcho wsX2_keepAndEcho) := goodIn_app (goodIn_of _ (by decide +kernel)) ggX2_edit_X2_keepAndEcho
set_option maxRecDepth 20000 in
theorem ggX2_edit_X4_openLine : GoodIn wsX2_edit wsX4_openLine := goodIn_r _ [97, 29, 54, 148, 149, 150, 151, 152, 153] (by decide +kernel) (by decide +kernel)
set_option maxRecDepth 20000 in
theorem gX2_edit_X4_openLine : GoodIn wsX2_edit (wsV RX2 238 RX4 yX4_openLine wsX4_openLine) := goodIn_app (goodIn_of _ (by decide +kernel)) ggX2_edit_X4_openLine
set_option maxRecDepth 20000 in
theorem ggX2_edit_X2_takeAway : GoodIn wsX2_edit wsX2_takeAway := goodIn_r _ [101, 59, 2, 60, 61, 62, 34, 63, 37, 102, 103, 104, 105, 106, 86, 87, 88, 42, 36, 68, 69, 11, 70, 71, 39, 40, 41, 72, 73, 74, 75, 76, 21, 8, 9, 10, 12, 1, 77, 78, 79, 80, 81, 82, 83, 84, 32, 33, 35, 85, 89, 90, 91, 92, 93, 107, 108, 109, 110, 22, 23, 133, 134, 135, 136, 137, 138, 139, 140, 141, 142, 143, 144, 145, 146, 147, 148, 149, 150, 151, 152, 153, 154, 155, 156, 157, 158] (by decide +kernel) (by decide +kernel)
set_option maxRecDepth 20000 in
theorem gX2_edit_X2_takeAway : GoodIn wsX2_edit (wsV RX2 244 RX2 yX2_takeAway wsX2_takeAway) := goodIn_app (goodIn_of _ (by decide +kernel)) ggX2_edit_X2_takeAway
set_option maxRecDepth 20000 in
theorem ggX2_edit_X4_lastWord : GoodIn wsX2_edit wsX4_lastWord := goodIn_r _ [114, 29, 115, 95, 96, 27, 97, 54, 116, 86, 87, 34, 88, 37, 42, 36, 117, 118, 119, 148, 149, 150, 151, 152, 153] (by decide +kernel) (by decide +kernel)
set_option maxRecDepth 20000 in
theorem gX2_edit_X4_lastWord : GoodIn wsX2_edit (wsV RX2 247 RX4 yX4_lastWord wsX4_lastWord) := goodIn_app (goodIn_of _ (by decide +kernel)) ggX2_edit_X4_lastWord
set_option maxRecDepth 20000 in
theorem ggX2_edit_X2_reprint : GoodIn wsX2_edit wsX2_reprint := goodIn_r _ [123, 59, 2, 55, 56, 57, 11, 58, 60, 61, 62, 34, 63, 37, 64, 65, 66, 67, 68, 69, 70, 71, 39, 40, 41, 36, 42, 124, 86, 87, 88, 72, 73, 74, 75, 76, 21, 8, 9, 10, 12, 1, 77, 78, 79, 80, 81, 82, 83, 84, 32, 33, 35, 85, 89, 90, 91, 92, 93, 133, 134, 135, 136, 137, 138, 139, 140, 141, 142, 143, 144, 145, 146, 147, 148, 149, 150, 151, 152, 153, 154, 155, 156, 157, 158] (by decide +kernel) (by decide +kernel)
set_option maxRecDepth 20000 in
theorem gX2_edit_X2_reprint : GoodIn wsX2_edit (wsV RX2 250 RX2 yX2_reprint wsX2_reprint) := goodIn_app (goodIn_of _ (by decide +kernel)) ggX2_edit_X2_reprint
set_option maxRecDepth 20000 in
theorem ggX2_edit_X2_endLine : GoodIn wsX2_edit wsX2_endLine := goodIn_r _ [128, 2, 17, 18, 19, 11, 20, 21, 22, 23, 8, 9, 10, 12, 1, 24, 25, 26, 27, 28, 29, 30, 31, 32, 33, 34, 35, 36, 37, 38, 39, 40, 41, 42, 43, 44, 45, 46, 47, 48, 5, 49, 50, 51, 52, 53, 54, 133, 134, 135, 136, 137, 138, 139, 140, 141, 142, 143, 144, 145, 146, 147, 148, 149, 150, 151, 152, 153] (by decide +kernel) (by decide +kernel)
set_option maxRecDepth 20000 in
theorem gX2_edit_X2_endLine : GoodIn wsX2_edit (wsV RX2 253 RX2 yX2_endLine wsX2_endLine) := goodIn_app (goodIn_of _ (by decide +kernel)) ggX2_edit_X2_endLine
set_option maxRecDepth 20000 in
theorem ggX2_edit_X2_draftNewline : GoodIn wsX2_edit wsX2_draftNewline := goodIn_r _ [132, 59, 60, 61, 62, 34, 63, 37, 71, 39, 40, 41, 36, 42, 133, 134, 135, 136, 137, 138, 139, 140, 141, 142, 143, 144, 145, 146, 147, 151, 152, 153] (by decide +kernel) (by decide +kernel)
set_option maxRecDepth 20000 in
theorem gX2_edit_X2_draftNewline : GoodIn wsX2_edit (wsV RX2 198 RX2 yX2_draftNewline wsX2_draftNewline) := goodIn_app (goodIn_of _ (by decide +kernel)) ggX2_edit_X2_draftNewline
set_option maxRecDepth 20000 in
theorem ggX2_edit_X2_echo : GoodIn wsX2_edit wsX2_echo := goodIn_r _ [75, 76, 59, 21, 8, 9, 10, 11, 12, 1, 77, 78, 79, 80, 81, 82, 83, 84, 32, 33, 34, 35, 36, 37, 85, 86, 87, 88, 42, 89, 39, 40, 41, 90, 91, 92, 93, 133, 134, 135, 136, 137, 138, 139, 140, 141, 142, 143, 144, 145, 146, 147, 151, 152, 153, 154, 155, 156, 157, 158] (by decide +kernel) (by decide +kernel)
set_option maxRecDepth 20000 in
theorem gX2_edit_X2_echo : GoodIn wsX2_edit (wsV RX2 235 RX2 yX2_echo wsX2_echo) := goodIn_app (goodIn_of _ (by decide +kernel)) ggX2_edit_X2_echo
theorem dX2_edit_0 : decode cX2_edit 0 = .ok (.aload_n 0, 1) := by decide +kernel
theorem dX2_edit_1 : decode cX2_edit 1 = .ok (.iconst 0, 1) := by decide +kernel
theorem dX2_edit_2 : decode cX2_edit 2 = .ok (.invokevirtual 186, 3) := by decide +kernel
theorem dX2_edit_5 : decode cX2_edit 5 = .ok (.ifCond .ne 11, 3) := by decide +kernel
theorem dX2_edit_8 : decode cX2_edit 8 = .ok (.aload_n 0, 1) := by decide +kernel
theorem dX2_edit_9 : decode cX2_edit 9 = .ok (.iload_n 1, 1) := by decide +kernel
theorem dX2_edit_10 : decode cX2_edit 10 = .ok (.invokevirtual 214, 3) := by decide +kernel
theorem dX2_edit_13 : decode cX2_edit 13 = .ok (.goto 173, 3) := by decide +kernel
theorem dX2_edit_16 : decode cX2_edit 16 = .ok (.iload_n 1, 1) := by decide +kernel
theorem dX2_edit_17 : decode cX2_edit 17 = .ok (.aload_n 0, 1) := by decide +kernel
theorem dX2_edit_18 : decode cX2_edit 18 = .ok (.getfield 18, 3) := by decide +kernel
theorem dX2_edit_21 : decode cX2_edit 21 = .ok (.bipush 14, 2) := by decide +kernel
theorem dX2_edit_23 : decode cX2_edit 23 = .ok (.iaload, 1) := by decide +kernel
theorem dX2_edit_24 : decode cX2_edit 24 = .ok (.if_icmp .ne 21, 3) := by decide +kernel
theorem dX2_edit_27 : decode cX2_edit 27 = .ok (.aload_n 0, 1) := by decide +kernel
theorem dX2_edit_28 : decode cX2_edit 28 = .ok (.iconst 1, 1) := by decide +kernel
theorem dX2_edit_29 : decode cX2_edit 29 = .ok (.aload_n 0, 1) := by decide +kernel
theorem dX2_edit_30 : decode cX2_edit 30 = .ok (.getfield 35, 3) := by decide +kernel
theorem dX2_edit_33 : decode cX2_edit 33 = .ok (.invokevirtual 238, 3) := by decide +kernel
theorem dX2_edit_36 : decode cX2_edit 36 = .ok (.invokestatic 241, 3) := by decide +kernel
theorem dX2_edit_39 : decode cX2_edit 39 = .ok (.invokevirtual 244, 3) := by decide +kernel
theorem dX2_edit_42 : decode cX2_edit 42 = .ok (.goto 144, 3) := by decide +kernel
theorem dX2_edit_45 : decode cX2_edit 45 = .ok (.iload_n 1, 1) := by decide +kernel
theorem dX2_edit_46 : decode cX2_edit 46 = .ok (.aload_n 0, 1) := by decide +kernel
theorem dX2_edit_47 : decode cX2_edit 47 = .ok (.getfield 18, 3) := by decide +kernel
theorem dX2_edit_50 : decode cX2_edit 50 = .ok (.bipush 15, 2) := by decide +kernel
theorem dX2_edit_52 : decode cX2_edit 52 = .ok (.iaload, 1) := by decide +kernel
theorem dX2_edit_53 : decode cX2_edit 53 = .ok (.if_icmp .ne 17, 3) := by decide +kernel
theorem dX2_edit_56 : decode cX2_edit 56 = .ok (.aload_n 0, 1) := by decide +kernel
theorem dX2_edit_57 : decode cX2_edit 57 = .ok (.aload_n 0, 1) := by decide +kernel
theorem dX2_edit_58 : decode cX2_edit 58 = .ok (.getfield 35, 3) := by decide +kernel
theorem dX2_edit_61 : decode cX2_edit 61 = .ok (.invokevirtual 247, 3) := by decide +kernel
theorem dX2_edit_64 : decode cX2_edit 64 = .ok (.invokevirtual 244, 3) := by decide +kernel
theorem dX2_edit_67 : decode cX2_edit 67 = .ok (.goto 119, 3) := by decide +kernel
theorem dX2_edit_70 : decode cX2_edit 70 = .ok (.iload_n 1, 1) := by decide +kernel
theorem dX2_edit_71 : decode cX2_edit 71 = .ok (.aload_n 0, 1) := by decide +kernel
theorem dX2_edit_72 : decode cX2_edit 72 = .ok (.getfield 18, 3) := by decide +kernel
theorem dX2_edit_75 : decode cX2_edit 75 = .ok (.bipush 16, 2) := by decide +kernel
theorem dX2_edit_77 : decode cX2_edit 77 = .ok (.iaload, 1) := by decide +kernel
theorem dX2_edit_78 : decode cX2_edit 78 = .ok (.if_icmp .ne 17, 3) := by decide +kernel
theorem dX2_edit_81 : decode cX2_edit 81 = .ok (.aload_n 0, 1) := by decide +kernel
theorem dX2_edit_82 : decode cX2_edit 82 = .ok (.aload_n 0, 1) := by decide +kernel
theorem dX2_edit_83 : decode cX2_edit 83 = .ok (.getfield 35, 3) := by decide +kernel
theorem dX2_edit_86 : decode cX2_edit 86 = .ok (.invokevirtual 238, 3) := by decide +kernel
theorem dX2_edit_89 : decode cX2_edit 89 = .ok (.invokevirtual 244, 3) := by decide +kernel
theorem dX2_edit_92 : decode cX2_edit 92 = .ok (.goto 94, 3) := by decide +kernel
theorem dX2_edit_95 : decode cX2_edit 95 = .ok (.iload_n 1, 1) := by decide +kernel
theorem dX2_edit_96 : decode cX2_edit 96 = .ok (.aload_n 0, 1) := by decide +kernel
theorem dX2_edit_97 : decode cX2_edit 97 = .ok (.getfield 18, 3) := by decide +kernel
theorem dX2_edit_100 : decode cX2_edit 100 = .ok (.bipush 17, 2) := by decide +kernel
theorem dX2_edit_102 : decode cX2_edit 102 = .ok (.iaload, 1) := by decide +kernel
theorem dX2_edit_103 : decode cX2_edit 103 = .ok (.if_icmp .ne 11, 3) := by decide +kernel
theorem dX2_edit_106 : decode cX2_edit 106 = .ok (.aload_n 0, 1) := by decide +kernel
theorem dX2_edit_107 : decode cX2_edit 107 = .ok (.iconst 1, 1) := by decide +kernel
theorem dX2_edit_108 : decode cX2_edit 108 = .ok (.putfield 211, 3) := by decide +kernel
theorem dX2_edit_111 : decode cX2_edit 111 = .ok (.goto 75, 3) := by decide +kernel
theorem dX2_edit_114 : decode cX2_edit 114 = .ok (.iload_n 1, 1) := by decide +kernel
theorem dX2_edit_115 : decode cX2_edit 115 = .ok (.aload_n 0, 1) := by decide +kernel
theorem dX2_edit_116 : decode cX2_edit 116 = .ok (.getfield 18, 3) := by decide +kernel
theorem dX2_edit_119 : decode cX2_edit 119 = .ok (.bipush 18, 2) := by decide +kernel
theorem dX2_edit_121 : decode cX2_edit 121 = .ok (.iaload, 1) := by decide +kernel
theorem dX2_edit_122 : decode cX2_edit 122 = .ok (.if_icmp .ne 11, 3) := by decide +kernel
theorem dX2_edit_125 : decode cX2_edit 125 = .ok (.aload_n 0, 1) := by decide +kernel
theorem dX2_edit_126 : decode cX2_edit 126 = .ok (.iload_n 1, 1) := by decide +kernel
theorem dX2_edit_127 : decode cX2_edit 127 = .ok (.invokevirtual 250, 3) := by decide +kernel
theorem dX2_edit_130 : decode cX2_edit 130 = .ok (.goto 56, 3) := by decide +kernel
theorem dX2_edit_133 : decode cX2_edit 133 = .ok (.iload_n 1, 1) := by decide +kernel
theorem dX2_edit_134 : decode cX2_edit 134 = .ok (.aload_n 0, 1) := by decide +kernel
theorem dX2_edit_135 : decode cX2_edit 135 = .ok (.getfield 18, 3) := by decide +kernel
theorem dX2_edit_138 : decode cX2_edit 138 = .ok (.bipush 19, 2) := by decide +kernel
theorem dX2_edit_140 : decode cX2_edit 140 = .ok (.iaload, 1) := by decide +kernel
theorem dX2_edit_141 : decode cX2_edit 141 = .ok (.if_icmp .ne 14, 3) := by decide +kernel
theorem dX2_edit_144 : decode cX2_edit 144 = .ok (.aload_n 0, 1) := by decide +kernel
theorem dX2_edit_145 : decode cX2_edit 145 = .ok (.sipush 256, 3) := by decide +kernel
theorem dX2_edit_148 : decode cX2_edit 148 = .ok (.invokevirtual 253, 3) := by decide +kernel
theorem dX2_edit_151 : decode cX2_edit 151 = .ok (.pop, 1) := by decide +kernel
theorem dX2_edit_152 : decode cX2_edit 152 = .ok (.goto 34, 3) := by decide +kernel
theorem dX2_edit_155 : decode cX2_edit 155 = .ok (.iload_n 1, 1) := by decide +kernel
theorem dX2_edit_156 : decode cX2_edit 156 = .ok (.bipush 10, 2) := by decide +kernel
theorem dX2_edit_158 : decode cX2_edit 158 = .ok (.if_icmp .ne 23, 3) := by decide +kernel
theorem dX2_edit_161 : decode cX2_edit 161 = .ok (.aload_n 0, 1) := by decide +kernel
theorem dX2_edit_162 : decode cX2_edit 162 = .ok (.bipush 10, 2) := by decide +kernel
theorem dX2_edit_164 : decode cX2_edit 164 = .ok (.invokevirtual 253, 3) := by decide +kernel
theorem dX2_edit_167 : decode cX2_edit 167 = .ok (.ifCond .eq 19, 3) := by decide +kernel
theorem dX2_edit_170 : decode cX2_edit 170 = .ok (.aload_n 0, 1) := by decide +kernel
theorem dX2_edit_171 : decode cX2_edit 171 = .ok (.invokevirtual 198, 3) := by decide +kernel
theorem dX2_edit_174 : decode cX2_edit 174 = .ok (.aload_n 0, 1) := by decide +kernel
theorem dX2_edit_175 : decode cX2_edit 175 = .ok (.invokevirtual 235, 3) := by decide +kernel
theorem dX2_edit_178 : decode cX2_edit 178 = .ok (.goto 8, 3) := by decide +kernel
theorem dX2_edit_181 : decode cX2_edit 181 = .ok (.aload_n 0, 1) := by decide +kernel
theorem dX2_edit_182 : decode cX2_edit 182 = .ok (.iload_n 1, 1) := by decide +kernel
theorem dX2_edit_183 : decode cX2_edit 183 = .ok (.invokevirtual 214, 3) := by decide +kernel
theorem dX2_edit_186 : decode cX2_edit 186 = .ok (.return_, 1) := by decide +kernel
set_option maxRecDepth 20000 in
theorem ggX2_keepAndEcho_X2_keep : GoodIn wsX2_keepAndEcho wsX2_keep := goodIn_r _ [5, 6, 7, 8, 9, 10, 11, 12, 4, 13, 14, 15, 16, 17, 18, 19, 20, 21, 22, 23, 24, 25, 26, 27, 28, 29, 30, 31, 32, 33, 34, 35, 36, 37, 38, 39, 40, 41, 42, 43, 44, 45, 46, 86, 87, 88, 89, 90, 91, 92, 93, 94, 95, 96, 97, 98, 99, 100, 101, 102, 103, 104, 105, 106] (by decide +kernel) (by decide +kernel)
set_option maxRecDepth 20000 in
theorem gX2_keepAndEcho_X2_keep : GoodIn wsX2_keepAndEcho (wsV RX2 256 RX2 yX2_keep wsX2_keep) := goodIn_app (goodIn_of _ (by decide +kernel)) ggX2_keepAndEcho_X2_keep
set_option maxRecDepth 20000 in
theorem ggX2_keepAndEcho_X2_draftForm : GoodIn wsX2_keepAndEcho wsX2_draftForm := goodIn_r _ [50, 51, 52, 53, 54, 25, 55, 28, 56, 57, 58, 4, 59, 60, 61, 62, 63, 30, 31, 32, 27, 33, 86, 87, 88, 89, 90, 91, 92, 93, 94, 95, 96, 97, 98, 99, 100, 104, 105, 106] (by decide +kernel) (by decide +kernel)
set_option maxRecDepth 20000 in
theorem gX2_keepAndEcho_X2_draftForm : GoodIn wsX2_keepAndEcho (wsV RX2 232 RX2 yX2_draftForm wsX2_draftForm) := goodIn_app (goodIn_of _ (by decide +kernel)) ggX2_keepAndEcho_X2_draftForm
set_option maxRecDepth 20000 in
theorem ggX2_keepAndEcho_X2_echo : GoodIn wsX2_keepAndEcho wsX2_echo := goodIn_r _ [67, 68, 51, 7, 10, 11, 12, 4, 13, 14, 69, 70, 71, 72, 73, 74, 75, 76, 23, 24, 25, 26, 27, 28, 77, 78, 79, 80, 33, 81, 30, 31, 32, 82, 83, 84, 85, 86, 87, 88, 89, 90, 91, 92, 93, 94, 95, 96, 97, 98, 99, 100, 104, 105, 106, 107, 108, 109, 110, 111] (by decide +kernel) (by decide +kernel)
set_option maxRecDepth 20000 in
theorem gX2_keepAndEcho_X2_echo : GoodIn wsX2_keepAndEcho (wsV RX2 235 RX2 yX2_echo wsX2_echo) := goodIn_app (goodIn_of _ (by decide +kernel)) ggX2_keepAndEcho_X2_echo
theorem dX2_keepAndEcho_0 : decode cX2_keepAndEcho 0 = .ok (.aload_n 0, 1) := by decide +kernel
theorem dX2_keepAndEcho_1 : decode cX2_keepAndEcho 1 = .ok (.iload_n 1, 1) := by decide +kernel
theorem dX2_keepAndEcho_2 : decode cX2_keepAndEcho 2 = .ok (.invokevirtual 256, 3) := by decide +kernel
theorem dX2_keepAndEcho_5 : decode cX2_keepAndEcho 5 = .ok (.ifCond .eq 12, 3) := by decide +kernel
theorem dX2_keepAndEcho_8 : decode cX2_keepAndEcho 8 = .ok (.aload_n 0, 1) := by decide +kernel
theorem dX2_keepAndEcho_9 : decode cX2_keepAndEcho 9 = .ok (.iload_n 1, 1) := by decide +kernel
theorem dX2_keepAndEcho_10 : decode cX2_keepAndEcho 10 = .ok (.invokevirtual 232, 3) := by decide +kernel
theorem dX2_keepAndEcho_13 : decode cX2_keepAndEcho 13 = .ok (.aload_n 0, 1) := by decide +kernel
theorem dX2_keepAndEcho_14 : decode cX2_keepAndEcho 14 = .ok (.invokevirtual 235, 3) := by decide +kernel
theorem dX2_keepAndEcho_17 : decode cX2_keepAndEcho 17 = .ok (.return_, 1) := by decide +kernel
set_option maxRecDepth 20000 in
theorem ggX2_endLine_X2_keep : GoodIn wsX2_endLine wsX2_keep := goodIn_r _ [6, 1, 7, 8, 9, 10, 11, 12, 5, 13, 14, 15, 16, 17, 18, 19, 20, 21, 22, 23, 24, 25, 26, 27, 28, 29, 30, 31, 32, 33, 34, 35, 36, 37, 38, 39, 40, 41, 42, 43, 44, 45, 46, 47, 48, 49, 50, 51, 52, 53, 54, 55, 56, 57, 58, 59, 60, 61, 62, 63, 64, 65, 66, 67] (by decide +kernel) (by decide +kernel)
set_option maxRecDepth 20000 in
theorem gX2_endLine_X2_keep : GoodIn wsX2_endLine (wsV RX2 256 RX2 yX2_keep wsX2_keep) := goodIn_app (goodIn_of _ (by decide +kernel)) ggX2_endLine_X2_keep
set_option maxRecDepth 20000 in
theorem ggX2_endLine_X4_releaseAll : GoodIn wsX2_endLine wsX4_releaseAll := goodIn_r _ [45, 20, 46, 62, 63, 64, 65, 66, 67] (by decide +kernel) (by decide +kernel)
set_option maxRecDepth 20000 in
theorem gX2_endLine_X4_releaseAll : GoodIn wsX2_endLine (wsV RX2 180 RX4 yX4_releaseAll wsX4_releaseAll) := goodIn_app (goodIn_of _ (by decide +kernel)) ggX2_endLine_X4_releaseAll
theorem dX2_endLine_0 : decode cX2_endLine 0 = .ok (.aload_n 0, 1) := by decide +kernel
theorem dX2_endLine_1 : decode cX2_endLine 1 = .ok (.iload_n 1, 1) := by decide +kernel
theorem dX2_endLine_2 : decode cX2_endLine 2 = .ok (.invokevirtual 256, 3) := by decide +kernel
theorem dX2_endLine_5 : decode cX2_endLine 5 = .ok (.istore_n 2, 1) := by decide +kernel
theorem dX2_endLine_6 : decode cX2_endLine 6 = .ok (.iload_n 2, 1) := by decide +kernel
theorem dX2_endLine_7 : decode cX2_endLine 7 = .ok (.ifCond .eq 10, 3) := by decide +kernel
theorem dX2_endLine_10 : decode cX2_endLine 10 = .ok (.aload_n 0, 1) := by decide +kernel
theorem dX2_endLine_11 : decode cX2_endLine 11 = .ok (.getfield 35, 3) := by decide +kernel
theorem dX2_endLine_14 : decode cX2_endLine 14 = .ok (.invokevirtual 180, 3) := by decide +kernel
theorem dX2_endLine_17 : decode cX2_endLine 17 = .ok (.iload_n 2, 1) := by decide +kernel
theorem dX2_endLine_18 : decode cX2_endLine 18 = .ok (.ireturn, 1) := by decide +kernel
set_option maxRecDepth 20000 in
theorem ggX2_keep_X2_isOn : GoodIn wsX2_keep wsX2_isOn := goodIn_r _ [9, 10, 43, 44, 45, 46, 47, 48, 49, 50, 51, 52, 53, 54, 55, 56, 57] (by decide +kernel) (by decide +kernel)
set_option maxRecDepth 20000 in
theorem gX2_keep_X2_isOn : GoodIn wsX2_keep (wsV RX2 186 RX2 yX2_isOn wsX2_isOn) := goodIn_app (goodIn_of _ (by decide +kernel)) ggX2_keep_X2_isOn
set_option maxRecDepth 20000 in
theorem ggX2_keep_X4_add : GoodIn wsX2_keep wsX4_add := goodIn_r _ [15, 16, 17, 18, 19, 20, 21, 22, 23, 24, 25, 26, 27, 28, 29, 58, 59, 60, 61, 62, 63] (by decide +kernel) (by decide +kernel)
set_option maxRecDepth 20000 in
theorem gX2_keep_X4_add : GoodIn wsX2_keep (wsV RX2 259 RX4 yX4_add wsX4_add) := goodIn_app (goodIn_of _ (by decide +kernel)) ggX2_keep_X4_add
set_option maxRecDepth 20000 in
theorem ggX2_keep_X2_releaseIfEnough : GoodIn wsX2_keep wsX2_releaseIfEnough := goodIn_r _ [33, 1, 10, 34, 35, 36, 37, 5, 6, 7, 8, 9, 38, 39, 40, 14, 41, 16, 42, 43, 44, 45, 46, 47, 48, 49, 50, 51, 52, 53, 54, 55, 56, 57, 58, 59, 60, 61, 62, 63] (by decide +kernel) (by decide +kernel)
set_option maxRecDepth 20000 in
theorem gX2_keep_X2_releaseIfEnough : GoodIn wsX2_keep (wsV RX2 183 RX2 yX2_releaseIfEnough wsX2_releaseIfEnough) := goodIn_app (goodIn_of _ (by decide +kernel)) ggX2_keep_X2_releaseIfEnough
theorem dX2_keep_0 : decode cX2_keep 0 = .ok (.aload_n 0, 1) := by decide +kernel
theorem dX2_keep_1 : decode cX2_keep 1 = .ok (.iconst 0, 1) := by decide +kernel
theorem dX2_keep_2 : decode cX2_keep 2 = .ok (.invokevirtual 186, 3) := by decide +kernel
theorem dX2_keep_5 : decode cX2_keep 5 = .ok (.ifCond .eq 20, 3) := by decide +kernel
theorem dX2_keep_8 : decode cX2_keep 8 = .ok (.iload_n 1, 1) := by decide +kernel
theorem dX2_keep_9 : decode cX2_keep 9 = .ok (.bipush 10, 2) := by decide +kernel
theorem dX2_keep_11 : decode cX2_keep 11 = .ok (.if_icmp .eq 10, 3) := by decide +kernel
theorem dX2_keep_14 : decode cX2_keep 14 = .ok (.iload_n 1, 1) := by decide +kernel
theorem dX2_keep_15 : decode cX2_keep 15 = .ok (.sipush 256, 3) := by decide +kernel
theorem dX2_keep_18 : decode cX2_keep 18 = .ok (.if_icmp .ne 7, 3) := by decide +kernel
theorem dX2_keep_21 : decode cX2_keep 21 = .ok (.iconst 1, 1) := by decide +kernel
theorem dX2_keep_22 : decode cX2_keep 22 = .ok (.goto 4, 3) := by decide +kernel
theorem dX2_keep_25 : decode cX2_keep 25 = .ok (.iconst 0, 1) := by decide +kernel
theorem dX2_keep_26 : decode cX2_keep 26 = .ok (.istore_n 2, 1) := by decide +kernel
theorem dX2_keep_27 : decode cX2_keep 27 = .ok (.aload_n 0, 1) := by decide +kernel
theorem dX2_keep_28 : decode cX2_keep 28 = .ok (.getfield 35, 3) := by decide +kernel
theorem dX2_keep_31 : decode cX2_keep 31 = .ok (.iload_n 1, 1) := by decide +kernel
theorem dX2_keep_32 : decode cX2_keep 32 = .ok (.iload_n 2, 1) := by decide +kernel
theorem dX2_keep_33 : decode cX2_keep 33 = .ok (.invokevirtual 259, 3) := by decide +kernel
theorem dX2_keep_36 : decode cX2_keep 36 = .ok (.ifCond .ne 15, 3) := by decide +kernel
theorem dX2_keep_39 : decode cX2_keep 39 = .ok (.aload_n 0, 1) := by decide +kernel
theorem dX2_keep_40 : decode cX2_keep 40 = .ok (.getfield 60, 3) := by decide +kernel
theorem dX2_keep_43 : decode cX2_keep 43 = .ok (.iconst 2, 1) := by decide +kernel
theorem dX2_keep_44 : decode cX2_keep 44 = .ok (.dup2, 1) := by decide +kernel
theorem dX2_keep_45 : decode cX2_keep 45 = .ok (.iaload, 1) := by decide +kernel
theorem dX2_keep_46 : decode cX2_keep 46 = .ok (.iconst 1, 1) := by decide +kernel
theorem dX2_keep_47 : decode cX2_keep 47 = .ok (.iadd, 1) := by decide +kernel
theorem dX2_keep_48 : decode cX2_keep 48 = .ok (.iastore, 1) := by decide +kernel
theorem dX2_keep_49 : decode cX2_keep 49 = .ok (.iconst 0, 1) := by decide +kernel
theorem dX2_keep_50 : decode cX2_keep 50 = .ok (.ireturn, 1) := by decide +kernel
theorem dX2_keep_51 : decode cX2_keep 51 = .ok (.aload_n 0, 1) := by decide +kernel
theorem dX2_keep_52 : decode cX2_keep 52 = .ok (.invokevirtual 183, 3) := by decide +kernel
theorem dX2_keep_55 : decode cX2_keep 55 = .ok (.aload_n 0, 1) := by decide +kernel
theorem dX2_keep_56 : decode cX2_keep 56 = .ok (.bipush 6, 2) := by decide +kernel
theorem dX2_keep_58 : decode cX2_keep 58 = .ok (.invokevirtual 186, 3) := by decide +kernel
theorem dX2_keep_61 : decode cX2_keep 61 = .ok (.ifCond .eq 36, 3) := by decide +kernel
theorem dX2_keep_64 : decode cX2_keep 64 = .ok (.aload_n 0, 1) := by decide +kernel
theorem dX2_keep_65 : decode cX2_keep 65 = .ok (.getfield 141, 3) := by decide +kernel
theorem dX2_keep_68 : decode cX2_keep 68 = .ok (.ifCond .ne 29, 3) := by decide +kernel
theorem dX2_keep_71 : decode cX2_keep 71 = .ok (.aload_n 0, 1) := by decide +kernel
theorem dX2_keep_72 : decode cX2_keep 72 = .ok (.getfield 35, 3) := by decide +kernel
theorem dX2_keep_75 : decode cX2_keep 75 = .ok (.getfield 144, 3) := by decide +kernel
theorem dX2_keep_78 : decode cX2_keep 78 = .ok (.getfield 147, 3) := by decide +kernel
theorem dX2_keep_81 : decode cX2_keep 81 = .ok (.bipush 48, 2) := by decide +kernel
theorem dX2_keep_83 : decode cX2_keep 83 = .ok (.if_icmp .le 14, 3) := by decide +kernel
theorem dX2_keep_86 : decode cX2_keep 86 = .ok (.aload_n 0, 1) := by decide +kernel
theorem dX2_keep_87 : decode cX2_keep 87 = .ok (.iconst 1, 1) := by decide +kernel
theorem dX2_keep_88 : decode cX2_keep 88 = .ok (.putfield 141, 3) := by decide +kernel
theorem dX2_keep_91 : decode cX2_keep 91 = .ok (.aload_n 0, 1) := by decide +kernel
theorem dX2_keep_92 : decode cX2_keep 92 = .ok (.bipush 24, 2) := by decide +kernel
theorem dX2_keep_94 : decode cX2_keep 94 = .ok (.putfield 71, 3) := by decide +kernel
theorem dX2_keep_97 : decode cX2_keep 97 = .ok (.iconst 1, 1) := by decide +kernel
theorem dX2_keep_98 : decode cX2_keep 98 = .ok (.ireturn, 1) := by decide +kernel
set_option maxRecDepth 20000 in
theorem ggX2_takeAway_X3_empty : GoodIn wsX2_takeAway wsX3_empty := goodIn_r _ [7, 8, 79, 80, 81] (by decide +kernel) (by decide +kernel)
set_option maxRecDepth 20000 in
theorem gX2_takeAway_X3_empty : GoodIn wsX2_takeAway (wsV RX2 134 RX3 yX3_empty wsX3_empty) := goodIn_app (goodIn_of _ (by decide +kernel)) ggX2_takeAway_X3_empty
set_option maxRecDepth 20000 in
theorem ggX2_takeAway_X3_takeLast : GoodIn wsX2_takeAway wsX3_takeLast := goodIn_r _ [12, 8, 13, 14, 15, 6, 16, 17, 18, 79, 80, 81] (by decide +kernel) (by decide +kernel)
set_option maxRecDepth 20000 in
theorem gX2_takeAway_X3_takeLast : GoodIn wsX2_takeAway (wsV RX2 262 RX3 yX3_takeLast wsX3_takeLast) := goodIn_app (goodIn_of _ (by decide +kernel)) ggX2_takeAway_X3_takeLast
set_option maxRecDepth 20000 in
theorem ggX2_takeAway_X2_isPlain : GoodIn wsX2_takeAway wsX2_isPlain := goodIn_r _ [22] (by decide +kernel) (by decide +kernel)
set_option maxRecDepth 20000 in
theorem gX2_takeAway_X2_isPlain : GoodIn wsX2_takeAway (va_wsS RX2 265 yX2_isPlain wsX2_isPlain) := goodIn_app (goodIn_of _ (by decide +kernel)) ggX2_takeAway_X2_isPlain
set_option maxRecDepth 20000 in
theorem ggX2_takeAway_X3_add : GoodIn wsX2_takeAway wsX3_add := goodIn_r _ [26, 8, 18, 17, 79, 80, 81] (by decide +kernel) (by decide +kernel)
set_option maxRecDepth 20000 in
theorem gX2_takeAway_X3_add : GoodIn wsX2_takeAway (wsV RX2 82 RX3 yX3_add wsX3_add) := goodIn_app (goodIn_of _ (by decide +kernel)) ggX2_takeAway_X3_add
set_option maxRecDepth 20000 in
theorem ggX2_takeAway_X2_echo : GoodIn wsX2_takeAway wsX2_echo := goodIn_r _ [30, 31, 1, 32, 33, 34, 35, 21, 36, 37, 38, 39, 40, 41, 42, 43, 44, 45, 46, 47, 6, 48, 18, 8, 49, 14, 15, 16, 17, 50, 24, 25, 26, 51, 52, 53, 54, 61, 62, 63, 64, 65, 66, 67, 68, 69, 70, 71, 72, 73, 74, 75, 79, 80, 81, 82, 83, 84, 85, 86] (by decide +kernel) (by decide +kernel)
set_option maxRecDepth 20000 in
theorem gX2_takeAway_X2_echo : GoodIn wsX2_takeAway (wsV RX2 235 RX2 yX2_echo wsX2_echo) := goodIn_app (goodIn_of _ (by decide +kernel)) ggX2_takeAway_X2_echo
set_option maxRecDepth 20000 in
theorem ggX2_takeAway_X2_relax : GoodIn wsX2_takeAway wsX2_relax := goodIn_r _ [58, 59, 2, 60, 61, 62, 63, 64, 65, 66, 67, 68, 69, 70, 71, 72, 73, 74, 75, 76, 77, 78, 79, 80, 81] (by decide +kernel) (by decide +kernel)
set_option maxRecDepth 20000 in
theorem gX2_takeAway_X2_relax : GoodIn wsX2_takeAway (wsV RX2 125 RX2 yX2_relax wsX2_relax) := goodIn_app (goodIn_of _ (by decide +kernel)) ggX2_takeAway_X2_relax
theorem dX2_takeAway_0 : decode cX2_takeAway 0 = .ok (.iconst 0, 1) := by decide +kernel
theorem dX2_takeAway_1 : decode cX2_takeAway 1 = .ok (.istore_n 2, 1) := by decide +kernel
theorem dX2_takeAway_2 : decode cX2_takeAway 2 = .ok (.iload_n 2, 1) := by decide +kernel
theorem dX2_takeAway_3 : decode cX2_takeAway 3 = .ok (.iload_n 1, 1) := by decide +kernel
theorem dX2_takeAway_4 : decode cX2_takeAway 4 = .ok (.if_icmp .ge 84, 3) := by decide +kernel
theorem dX2_takeAway_7 : decode cX2_takeAway 7 = .ok (.aload_n 0, 1) := by decide +kernel
theorem dX2_takeAway_8 : decode cX2_takeAway 8 = .ok (.getfield 53, 3) := by decide +kernel
theorem dX2_takeAway_11 : decode cX2_takeAway 11 = .ok (.invokevirtual 134, 3) := by decide +kernel
theorem dX2_takeAway_14 : decode cX2_takeAway 14 = .ok (.aload_n 0, 1) := by decide +kernel
theorem dX2_takeAway_15 : decode cX2_takeAway 15 = .ok (.getfield 35, 3) := by decide +kernel
theorem dX2_takeAway_18 : decode cX2_takeAway 18 = .ok (.getfield 144, 3) := by decide +kernel
theorem dX2_takeAway_21 : decode cX2_takeAway 21 = .ok (.invokevirtual 262, 3) := by decide +kernel
theorem dX2_takeAway_24 : decode cX2_takeAway 24 = .ok (.invokestatic 265, 3) := by decide +kernel
theorem dX2_takeAway_27 : decode cX2_takeAway 27 = .ok (.ifCond .eq 7, 3) := by decide +kernel
theorem dX2_takeAway_30 : decode cX2_takeAway 30 = .ok (.iconst 1, 1) := by decide +kernel
theorem dX2_takeAway_31 : decode cX2_takeAway 31 = .ok (.goto 4, 3) := by decide +kernel
theorem dX2_takeAway_34 : decode cX2_takeAway 34 = .ok (.iconst 2, 1) := by decide +kernel
theorem dX2_takeAway_35 : decode cX2_takeAway 35 = .ok (.istore_n 3, 1) := by decide +kernel
theorem dX2_takeAway_36 : decode cX2_takeAway 36 = .ok (.iconst 0, 1) := by decide +kernel
theorem dX2_takeAway_37 : decode cX2_takeAway 37 = .ok (.istore 4, 2) := by decide +kernel
theorem dX2_takeAway_39 : decode cX2_takeAway 39 = .ok (.iload 4, 2) := by decide +kernel
theorem dX2_takeAway_41 : decode cX2_takeAway 41 = .ok (.iload_n 3, 1) := by decide +kernel
theorem dX2_takeAway_42 : decode cX2_takeAway 42 = .ok (.if_icmp .ge 36, 3) := by decide +kernel
theorem dX2_takeAway_45 : decode cX2_takeAway 45 = .ok (.aload_n 0, 1) := by decide +kernel
theorem dX2_takeAway_46 : decode cX2_takeAway 46 = .ok (.getfield 53, 3) := by decide +kernel
theorem dX2_takeAway_49 : decode cX2_takeAway 49 = .ok (.bipush 8, 2) := by decide +kernel
theorem dX2_takeAway_51 : decode cX2_takeAway 51 = .ok (.invokevirtual 82, 3) := by decide +kernel
theorem dX2_takeAway_54 : decode cX2_takeAway 54 = .ok (.aload_n 0, 1) := by decide +kernel
theorem dX2_takeAway_55 : decode cX2_takeAway 55 = .ok (.getfield 53, 3) := by decide +kernel
theorem dX2_takeAway_58 : decode cX2_takeAway 58 = .ok (.bipush 32, 2) := by decide +kernel
theorem dX2_takeAway_60 : decode cX2_takeAway 60 = .ok (.invokevirtual 82, 3) := by decide +kernel
theorem dX2_takeAway_63 : decode cX2_takeAway 63 = .ok (.aload_n 0, 1) := by decide +kernel
theorem dX2_takeAway_64 : decode cX2_takeAway 64 = .ok (.getfield 53, 3) := by decide +kernel
theorem dX2_takeAway_67 : decode cX2_takeAway 67 = .ok (.bipush 8, 2) := by decide +kernel
theorem dX2_takeAway_69 : decode cX2_takeAway 69 = .ok (.invokevirtual 82, 3) := by decide +kernel
theorem dX2_takeAway_72 : decode cX2_takeAway 72 = .ok (.iinc 4 1, 3) := by decide +kernel
theorem dX2_takeAway_75 : decode cX2_takeAway 75 = .ok (.goto (-36), 3) := by decide +kernel
theorem dX2_takeAway_78 : decode cX2_takeAway 78 = .ok (.aload_n 0, 1) := by decide +kernel
theorem dX2_takeAway_79 : decode cX2_takeAway 79 = .ok (.invokevirtual 235, 3) := by decide +kernel
theorem dX2_takeAway_82 : decode cX2_takeAway 82 = .ok (.iinc 2 1, 3) := by decide +kernel
theorem dX2_takeAway_85 : decode cX2_takeAway 85 = .ok (.goto (-83), 3) := by decide +kernel
theorem dX2_takeAway_88 : decode cX2_takeAway 88 = .ok (.aload_n 0, 1) := by decide +kernel
theorem dX2_takeAway_89 : decode cX2_takeAway 89 = .ok (.invokevirtual 125, 3) := by decide +kernel
theorem dX2_takeAway_92 : decode cX2_takeAway 92 = .ok (.return_, 1) := by decide +kernel
set_option maxRecDepth 20000 in
theorem ggX2_reprint_X2_draftForm : GoodIn wsX2_reprint wsX2_draftForm := goodIn_r _ [7, 1, 8, 9, 10, 11, 12, 13, 14, 15, 16, 6, 17, 18, 19, 20, 21, 22, 23, 24, 25, 26, 59, 60, 61, 62, 63, 64, 65, 66, 67, 68, 69, 70, 71, 72, 73, 77, 78, 79] (by decide +kernel) (by decide +kernel)
set_option maxRecDepth 20000 in
theorem gX2_reprint_X2_draftForm : GoodIn wsX2_reprint (wsV RX2 232 RX2 yX2_draftForm wsX2_draftForm) := goodIn_app (goodIn_of _ (by decide +kernel)) ggX2_reprint_X2_draftForm
set_option maxRecDepth 20000 in
theorem ggX2_reprint_X3_add : GoodIn wsX2_reprint wsX3_add := goodIn_r _ [24, 13, 25, 26, 77, 78, 79] (by decide +kernel) (by decide +kernel)
set_option maxRecDepth 20000 in
theorem gX2_reprint_X3_add : GoodIn wsX2_reprint (wsV RX2 82 RX3 yX3_add wsX3_add) := goodIn_app (goodIn_of _ (by decide +kernel)) ggX2_reprint_X3_add
set_option maxRecDepth 20000 in
theorem ggX2_reprint_X3_at : GoodIn wsX2_reprint wsX3_at := goodIn_r _ [30, 13, 26, 25, 77, 78, 79] (by decide +kernel) (by decide +kernel)
set_option maxRecDepth 20000 in
theorem gX2_reprint_X3_at : GoodIn wsX2_reprint (wsV RX2 268 RX3 yX3_at wsX3_at) := goodIn_app (goodIn_of _ (by decide +kernel)) ggX2_reprint_X3_at
set_option maxRecDepth 20000 in
theorem ggX2_reprint_X2_addForm : GoodIn wsX2_reprint wsX2_addForm := goodIn_r _ [17, 1, 18, 19, 6, 20, 21, 22, 23, 11, 24, 13, 25, 26, 59, 60, 61, 62, 63, 64, 65, 66, 67, 68, 69, 70, 71, 72, 73, 77, 78, 79] (by decide +kernel) (by decide +kernel)
set_option maxRecDepth 20000 in
theorem gX2_reprint_X2_addForm : GoodIn wsX2_reprint (wsV RX2 272 RX2 yX2_addForm wsX2_addForm) := goodIn_app (goodIn_of _ (by decide +kernel)) ggX2_reprint_X2_addForm
set_option maxRecDepth 20000 in
theorem ggX2_reprint_X2_echo : GoodIn wsX2_reprint wsX2_echo := goodIn_r _ [34, 35, 1, 36, 37, 38, 39, 6, 40, 41, 42, 43, 44, 45, 46, 47, 48, 49, 50, 51, 11, 52, 25, 13, 53, 28, 29, 30, 26, 54, 22, 23, 24, 55, 56, 57, 58, 59, 60, 61, 62, 63, 64, 65, 66, 67, 68, 69, 70, 71, 72, 73, 77, 78, 79, 80, 81, 82, 83, 84] (by decide +kernel) (by decide +kernel)
set_option maxRecDepth 20000 in
theorem gX2_reprint_X2_echo : GoodIn wsX2_reprint (wsV RX2 235 RX2 yX2_echo wsX2_echo) := goodIn_app (goodIn_of _ (by decide +kernel)) ggX2_reprint_X2_echo
theorem dX2_reprint_0 : decode cX2_reprint 0 = .ok (.aload_n 0, 1) := by decide +kernel
theorem dX2_reprint_1 : decode cX2_reprint 1 = .ok (.iload_n 1, 1) := by decide +kernel
theorem dX2_reprint_2 : decode cX2_reprint 2 = .ok (.invokevirtual 232, 3) := by decide +kernel
theorem dX2_reprint_5 : decode cX2_reprint 5 = .ok (.aload_n 0, 1) := by decide +kernel
theorem dX2_reprint_6 : decode cX2_reprint 6 = .ok (.getfield 53, 3) := by decide +kernel
theorem dX2_reprint_9 : decode cX2_reprint 9 = .ok (.bipush 13, 2) := by decide +kernel
theorem dX2_reprint_11 : decode cX2_reprint 11 = .ok (.invokevirtual 82, 3) := by decide +kernel
theorem dX2_reprint_14 : decode cX2_reprint 14 = .ok (.aload_n 0, 1) := by decide +kernel
theorem dX2_reprint_15 : decode cX2_reprint 15 = .ok (.getfield 53, 3) := by decide +kernel
theorem dX2_reprint_18 : decode cX2_reprint 18 = .ok (.bipush 10, 2) := by decide +kernel
theorem dX2_reprint_20 : decode cX2_reprint 20 = .ok (.invokevirtual 82, 3) := by decide +kernel
theorem dX2_reprint_23 : decode cX2_reprint 23 = .ok (.aload_n 0, 1) := by decide +kernel
theorem dX2_reprint_24 : decode cX2_reprint 24 = .ok (.getfield 35, 3) := by decide +kernel
theorem dX2_reprint_27 : decode cX2_reprint 27 = .ok (.getfield 119, 3) := by decide +kernel
theorem dX2_reprint_30 : decode cX2_reprint 30 = .ok (.istore_n 2, 1) := by decide +kernel
theorem dX2_reprint_31 : decode cX2_reprint 31 = .ok (.iload_n 2, 1) := by decide +kernel
theorem dX2_reprint_32 : decode cX2_reprint 32 = .ok (.aload_n 0, 1) := by decide +kernel
theorem dX2_reprint_33 : decode cX2_reprint 33 = .ok (.getfield 35, 3) := by decide +kernel
theorem dX2_reprint_36 : decode cX2_reprint 36 = .ok (.getfield 144, 3) := by decide +kernel
theorem dX2_reprint_39 : decode cX2_reprint 39 = .ok (.getfield 147, 3) := by decide +kernel
theorem dX2_reprint_42 : decode cX2_reprint 42 = .ok (.if_icmp .ge 24, 3) := by decide +kernel
theorem dX2_reprint_45 : decode cX2_reprint 45 = .ok (.aload_n 0, 1) := by decide +kernel
theorem dX2_reprint_46 : decode cX2_reprint 46 = .ok (.aload_n 0, 1) := by decide +kernel
theorem dX2_reprint_47 : decode cX2_reprint 47 = .ok (.getfield 35, 3) := by decide +kernel
theorem dX2_reprint_50 : decode cX2_reprint 50 = .ok (.getfield 144, 3) := by decide +kernel
theorem dX2_reprint_53 : decode cX2_reprint 53 = .ok (.iload_n 2, 1) := by decide +kernel
theorem dX2_reprint_54 : decode cX2_reprint 54 = .ok (.invokevirtual 268, 3) := by decide +kernel
theorem dX2_reprint_57 : decode cX2_reprint 57 = .ok (.invokevirtual 272, 3) := by decide +kernel
theorem dX2_reprint_60 : decode cX2_reprint 60 = .ok (.iinc 2 1, 3) := by decide +kernel
theorem dX2_reprint_63 : decode cX2_reprint 63 = .ok (.goto (-32), 3) := by decide +kernel
theorem dX2_reprint_66 : decode cX2_reprint 66 = .ok (.aload_n 0, 1) := by decide +kernel
theorem dX2_reprint_67 : decode cX2_reprint 67 = .ok (.invokevirtual 235, 3) := by decide +kernel
theorem dX2_reprint_70 : decode cX2_reprint 70 = .ok (.return_, 1) := by decide +kernel
set_option maxRecDepth 20000 in
theorem ggX2_draftForm_X3_empty : GoodIn wsX2_draftForm wsX3_empty := goodIn_r _ [6, 7, 37, 38, 39] (by decide +kernel) (by decide +kernel)
set_option maxRecDepth 20000 in
theorem gX2_draftForm_X3_empty : GoodIn wsX2_draftForm (wsV RX2 134 RX3 yX3_empty wsX3_empty) := goodIn_app (goodIn_of _ (by decide +kernel)) ggX2_draftForm_X3_empty
set_option maxRecDepth 20000 in
theorem ggX2_draftForm_X2_addForm : GoodIn wsX2_draftForm wsX2_addForm := goodIn_r _ [12, 1, 13, 14, 11, 15, 16, 17, 18, 5, 19, 7, 20, 21, 22, 23, 24, 25, 26, 27, 28, 29, 30, 31, 32, 33, 34, 35, 36, 37, 38, 39] (by decide +kernel) (by decide +kernel)
set_option maxRecDepth 20000 in
theorem gX2_draftForm_X2_addForm : GoodIn wsX2_draftForm (wsV RX2 272 RX2 yX2_addForm wsX2_addForm) := goodIn_app (goodIn_of _ (by decide +kernel)) ggX2_draftForm_X2_addForm
theorem dX2_draftForm_0 : decode cX2_draftForm 0 = .ok (.aload_n 0, 1) := by decide +kernel
theorem dX2_draftForm_1 : decode cX2_draftForm 1 = .ok (.getfield 53, 3) := by decide +kernel
theorem dX2_draftForm_4 : decode cX2_draftForm 4 = .ok (.invokevirtual 134, 3) := by decide +kernel
theorem dX2_draftForm_7 : decode cX2_draftForm 7 = .ok (.aload_n 0, 1) := by decide +kernel
theorem dX2_draftForm_8 : decode cX2_draftForm 8 = .ok (.iload_n 1, 1) := by decide +kernel
theorem dX2_draftForm_9 : decode cX2_draftForm 9 = .ok (.invokevirtual 272, 3) := by decide +kernel
theorem dX2_draftForm_12 : decode cX2_draftForm 12 = .ok (.return_, 1) := by decide +kernel
set_option maxRecDepth 20000 in
theorem ggX2_draftNewline_X3_empty : GoodIn wsX2_draftNewline wsX3_empty := goodIn_r _ [6, 7, 29, 30, 31] (by decide +kernel) (by decide +kernel)
set_option maxRecDepth 20000 in
theorem gX2_draftNewline_X3_empty : GoodIn wsX2_draftNewline (wsV RX2 134 RX3 yX3_empty wsX3_empty) := goodIn_app (goodIn_of _ (by decide +kernel)) ggX2_draftNewline_X3_empty
set_option maxRecDepth 20000 in
theorem ggX2_draftNewline_X3_add : GoodIn wsX2_draftNewline wsX3_add := goodIn_r _ [11, 7, 12, 13, 29, 30, 31] (by decide +kernel) (by decide +kernel)
set_option maxRecDepth 20000 in
theorem gX2_draftNewline_X3_add : GoodIn wsX2_draftNewline (wsV RX2 82 RX3 yX3_add wsX3_add) := goodIn_app (goodIn_of _ (by decide +kernel)) ggX2_draftNewline_X3_add
theorem dX2_draftNewline_0 : decode cX2_draftNewline 0 = .ok (.aload_n 0, 1) := by decide +kernel
theorem dX2_draftNewline_1 : decode cX2_draftNewline 1 = .ok (.getfield 53, 3) := by decide +kernel
theorem dX2_draftNewline_4 : decode cX2_draftNewline 4 = .ok (.invokevirtual 134, 3) := by decide +kernel
theorem dX2_draftNewline_7 : decode cX2_draftNewline 7 = .ok (.aload_n 0, 1) := by decide +kernel
theorem dX2_draftNewline_8 : decode cX2_draftNewline 8 = .ok (.getfield 53, 3) := by decide +kernel
theorem dX2_draftNewline_11 : decode cX2_draftNewline 11 = .ok (.bipush 13, 2) := by decide +kernel
theorem dX2_draftNewline_13 : decode cX2_draftNewline 13 = .ok (.invokevirtual 82, 3) := by decide +kernel
theorem dX2_draftNewline_16 : decode cX2_draftNewline 16 = .ok (.aload_n 0, 1) := by decide +kernel
theorem dX2_draftNewline_17 : decode cX2_draftNewline 17 = .ok (.getfield 53, 3) := by decide +kernel
theorem dX2_draftNewline_20 : decode cX2_draftNewline 20 = .ok (.bipush 10, 2) := by decide +kernel
theorem dX2_draftNewline_22 : decode cX2_draftNewline 22 = .ok (.invokevirtual 82, 3) := by decide +kernel
theorem dX2_draftNewline_25 : decode cX2_draftNewline 25 = .ok (.return_, 1) := by decide +kernel
set_option maxRecDepth 20000 in
theorem ggX2_addForm_X2_isPlain : GoodIn wsX2_addForm wsX2_isPlain := goodIn_r _ [5] (by decide +kernel) (by decide +kernel)
set_option maxRecDepth 20000 in
theorem gX2_addForm_X2_isPlain : GoodIn wsX2_addForm (va_wsS RX2 265 yX2_isPlain wsX2_isPlain) := goodIn_app (goodIn_of _ (by decide +kernel)) ggX2_addForm_X2_isPlain
set_option maxRecDepth 20000 in
theorem ggX2_addForm_X3_add : GoodIn wsX2_addForm wsX3_add := goodIn_r _ [10, 11, 12, 13, 29, 30, 31] (by decide +kernel) (by decide +kernel)
set_option maxRecDepth 20000 in
theorem gX2_addForm_X3_add : GoodIn wsX2_addForm (wsV RX2 82 RX3 yX3_add wsX3_add) := goodIn_app (goodIn_of _ (by decide +kernel)) ggX2_addForm_X3_add
theorem dX2_addForm_0 : decode cX2_addForm 0 = .ok (.iload_n 1, 1) := by decide +kernel
theorem dX2_addForm_1 : decode cX2_addForm 1 = .ok (.invokestatic 265, 3) := by decide +kernel
theorem dX2_addForm_4 : decode cX2_addForm 4 = .ok (.ifCond .eq 14, 3) := by decide +kernel
theorem dX2_addForm_7 : decode cX2_addForm 7 = .ok (.aload_n 0, 1) := by decide +kernel
theorem dX2_addForm_8 : decode cX2_addForm 8 = .ok (.getfield 53, 3) := by decide +kernel
theorem dX2_addForm_11 : decode cX2_addForm 11 = .ok (.iload_n 1, 1) := by decide +kernel
theorem dX2_addForm_12 : decode cX2_addForm 12 = .ok (.invokevirtual 82, 3) := by decide +kernel
theorem dX2_addForm_15 : decode cX2_addForm 15 = .ok (.goto 34, 3) := by decide +kernel
theorem dX2_addForm_18 : decode cX2_addForm 18 = .ok (.aload_n 0, 1) := by decide +kernel
theorem dX2_addForm_19 : decode cX2_addForm 19 = .ok (.getfield 53, 3) := by decide +kernel
theorem dX2_addForm_22 : decode cX2_addForm 22 = .ok (.bipush 94, 2) := by decide +kernel
theorem dX2_addForm_24 : decode cX2_addForm 24 = .ok (.invokevirtual 82, 3) := by decide +kernel
theorem dX2_addForm_27 : decode cX2_addForm 27 = .ok (.aload_n 0, 1) := by decide +kernel
theorem dX2_addForm_28 : decode cX2_addForm 28 = .ok (.getfield 53, 3) := by decide +kernel
theorem dX2_addForm_31 : decode cX2_addForm 31 = .ok (.iload_n 1, 1) := by decide +kernel
theorem dX2_addForm_32 : decode cX2_addForm 32 = .ok (.bipush 127, 2) := by decide +kernel
theorem dX2_addForm_34 : decode cX2_addForm 34 = .ok (.if_icmp .ne 8, 3) := by decide +kernel
theorem dX2_addForm_37 : decode cX2_addForm 37 = .ok (.bipush 63, 2) := by decide +kernel
theorem dX2_addForm_39 : decode cX2_addForm 39 = .ok (.goto 7, 3) := by decide +kernel
theorem dX2_addForm_42 : decode cX2_addForm 42 = .ok (.iload_n 1, 1) := by decide +kernel
theorem dX2_addForm_43 : decode cX2_addForm 43 = .ok (.bipush 64, 2) := by decide +kernel
theorem dX2_addForm_45 : decode cX2_addForm 45 = .ok (.iadd, 1) := by decide +kernel
theorem dX2_addForm_46 : decode cX2_addForm 46 = .ok (.invokevirtual 82, 3) := by decide +kernel
theorem dX2_addForm_49 : decode cX2_addForm 49 = .ok (.return_, 1) := by decide +kernel
theorem dX2_isPlain_0 : decode cX2_isPlain 0 = .ok (.iload_n 0, 1) := by decide +kernel
theorem dX2_isPlain_1 : decode cX2_isPlain 1 = .ok (.bipush 32, 2) := by decide +kernel
theorem dX2_isPlain_3 : decode cX2_isPlain 3 = .ok (.if_icmp .lt 13, 3) := by decide +kernel
theorem dX2_isPlain_6 : decode cX2_isPlain 6 = .ok (.iload_n 0, 1) := by decide +kernel
theorem dX2_isPlain_7 : decode cX2_isPlain 7 = .ok (.bipush 127, 2) := by decide +kernel
theorem dX2_isPlain_9 : decode cX2_isPlain 9 = .ok (.if_icmp .eq 7, 3) := by decide +kernel
theorem dX2_isPlain_12 : decode cX2_isPlain 12 = .ok (.iconst 1, 1) := by decide +kernel
theorem dX2_isPlain_13 : decode cX2_isPlain 13 = .ok (.goto 4, 3) := by decide +kernel
theorem dX2_isPlain_16 : decode cX2_isPlain 16 = .ok (.iconst 0, 1) := by decide +kernel
theorem dX2_isPlain_17 : decode cX2_isPlain 17 = .ok (.ireturn, 1) := by decide +kernel
set_option maxRecDepth 20000 in
theorem ggX2_echo_X2_isOn : GoodIn wsX2_echo wsX2_isOn := goodIn_r _ [8, 9, 37, 38, 39, 40, 41, 42, 43, 44, 45, 46, 47, 48, 49, 50, 51] (by decide +kernel) (by decide +kernel)
set_option maxRecDepth 20000 in
theorem gX2_echo_X2_isOn : GoodIn wsX2_echo (wsV RX2 186 RX2 yX2_isOn wsX2_isOn) := goodIn_app (goodIn_of _ (by decide +kernel)) ggX2_echo_X2_isOn
set_option maxRecDepth 20000 in
theorem ggX2_echo_X1_accept : GoodIn wsX2_echo wsX1_accept := goodIn_r _ [14, 15, 16, 17, 18, 19, 20, 21, 22, 23, 24, 25, 26, 27, 28, 29, 30, 31, 32, 33, 34, 35, 13, 36, 55, 56, 57, 58, 59, 52, 53, 54] (by decide +kernel) (by decide +kernel)
set_option maxRecDepth 20000 in
theorem gX2_echo_X1_accept : GoodIn wsX2_echo (wsV RX2 275 RX1 yX1_accept wsX1_accept) := goodIn_app (goodIn_of _ (by decide +kernel)) ggX2_echo_X1_accept
theorem dX2_echo_0 : decode cX2_echo 0 = .ok (.aload_n 0, 1) := by decide +kernel
theorem dX2_echo_1 : decode cX2_echo 1 = .ok (.iconst 1, 1) := by decide +kernel
theorem dX2_echo_2 : decode cX2_echo 2 = .ok (.invokevirtual 186, 3) := by decide +kernel
theorem dX2_echo_5 : decode cX2_echo 5 = .ok (.ifCond .eq 33, 3) := by decide +kernel
theorem dX2_echo_8 : decode cX2_echo 8 = .ok (.aload_n 0, 1) := by decide +kernel
theorem dX2_echo_9 : decode cX2_echo 9 = .ok (.getfield 42, 3) := by decide +kernel
theorem dX2_echo_12 : decode cX2_echo 12 = .ok (.aload_n 0, 1) := by decide +kernel
theorem dX2_echo_13 : decode cX2_echo 13 = .ok (.getfield 53, 3) := by decide +kernel
theorem dX2_echo_16 : decode cX2_echo 16 = .ok (.invokevirtual 275, 3) := by decide +kernel
theorem dX2_echo_19 : decode cX2_echo 19 = .ok (.ifCond .eq 19, 3) := by decide +kernel
theorem dX2_echo_22 : decode cX2_echo 22 = .ok (.aload_n 0, 1) := by decide +kernel
theorem dX2_echo_23 : decode cX2_echo 23 = .ok (.getfield 60, 3) := by decide +kernel
theorem dX2_echo_26 : decode cX2_echo 26 = .ok (.iconst 3, 1) := by decide +kernel
theorem dX2_echo_27 : decode cX2_echo 27 = .ok (.dup2, 1) := by decide +kernel
theorem dX2_echo_28 : decode cX2_echo 28 = .ok (.iaload, 1) := by decide +kernel
theorem dX2_echo_29 : decode cX2_echo 29 = .ok (.aload_n 0, 1) := by decide +kernel
theorem dX2_echo_30 : decode cX2_echo 30 = .ok (.getfield 53, 3) := by decide +kernel
theorem dX2_echo_33 : decode cX2_echo 33 = .ok (.getfield 147, 3) := by decide +kernel
theorem dX2_echo_36 : decode cX2_echo 36 = .ok (.iadd, 1) := by decide +kernel
theorem dX2_echo_37 : decode cX2_echo 37 = .ok (.iastore, 1) := by decide +kernel
theorem dX2_echo_38 : decode cX2_echo 38 = .ok (.return_, 1) := by decide +kernel
theorem dX3_init_0 : decode cX3_init 0 = .ok (.aload_n 0, 1) := by decide +kernel
theorem dX3_init_1 : decode cX3_init 1 = .ok (.invokespecial 3, 3) := by decide +kernel
theorem dX3_init_4 : decode cX3_init 4 = .ok (.aload_n 0, 1) := by decide +kernel
theorem dX3_init_5 : decode cX3_init 5 = .ok (.iload_n 1, 1) := by decide +kernel
theorem dX3_init_6 : decode cX3_init 6 = .ok (.newarray .int, 2) := by decide +kernel
theorem dX3_init_8 : decode cX3_init 8 = .ok (.putfield 9, 3) := by decide +kernel
theorem dX3_init_11 : decode cX3_init 11 = .ok (.return_, 1) := by decide +kernel
theorem dX3_fits_0 : decode cX3_fits 0 = .ok (.iload_n 1, 1) := by decide +kernel
theorem dX3_fits_1 : decode cX3_fits 1 = .ok (.aload_n 0, 1) := by decide +kernel
theorem dX3_fits_2 : decode cX3_fits 2 = .ok (.getfield 9, 3) := by decide +kernel
theorem dX3_fits_5 : decode cX3_fits 5 = .ok (.arraylength, 1) := by decide +kernel
theorem dX3_fits_6 : decode cX3_fits 6 = .ok (.aload_n 0, 1) := by decide +kernel
theorem dX3_fits_7 : decode cX3_fits 7 = .ok (.getfield 15, 3) := by decide +kernel
theorem dX3_fits_10 : decode cX3_fits 10 = .ok (.isub, 1) := by decide +kernel
theorem dX3_fits_11 : decode cX3_fits 11 = .ok (.if_icmp .gt 7, 3) := by decide +kernel
theorem dX3_fits_14 : decode cX3_fits 14 = .ok (.iconst 1, 1) := by decide +kernel
theorem dX3_fits_15 : decode cX3_fits 15 = .ok (.goto 4, 3) := by decide +kernel
theorem dX3_fits_18 : decode cX3_fits 18 = .ok (.iconst 0, 1) := by decide +kernel
theorem dX3_fits_19 : decode cX3_fits 19 = .ok (.ireturn, 1) := by decide +kernel
theorem dX3_add_0 : decode cX3_add 0 = .ok (.aload_n 0, 1) := by decide +kernel
theorem dX3_add_1 : decode cX3_add 1 = .ok (.getfield 15, 3) := by decide +kernel
theorem dX3_add_4 : decode cX3_add 4 = .ok (.aload_n 0, 1) := by decide +kernel
theorem dX3_add_5 : decode cX3_add 5 = .ok (.getfield 9, 3) := by decide +kernel
theorem dX3_add_8 : decode cX3_add 8 = .ok (.arraylength, 1) := by decide +kernel
theorem dX3_add_9 : decode cX3_add 9 = .ok (.if_icmp .ge 49, 3) := by decide +kernel
theorem dX3_add_12 : decode cX3_add 12 = .ok (.aload_n 0, 1) := by decide +kernel
theorem dX3_add_13 : decode cX3_add 13 = .ok (.getfield 19, 3) := by decide +kernel
theorem dX3_add_16 : decode cX3_add 16 = .ok (.aload_n 0, 1) := by decide +kernel
theorem dX3_add_17 : decode cX3_add 17 = .ok (.getfield 15, 3) := by decide +kernel
theorem dX3_add_20 : decode cX3_add 20 = .ok (.iadd, 1) := by decide +kernel
theorem dX3_add_21 : decode cX3_add 21 = .ok (.istore_n 2, 1) := by decide +kernel
theorem dX3_add_22 : decode cX3_add 22 = .ok (.aload_n 0, 1) := by decide +kernel
theorem dX3_add_23 : decode cX3_add 23 = .ok (.getfield 9, 3) := by decide +kernel
theorem dX3_add_26 : decode cX3_add 26 = .ok (.iload_n 2, 1) := by decide +kernel
theorem dX3_add_27 : decode cX3_add 27 = .ok (.aload_n 0, 1) := by decide +kernel
theorem dX3_add_28 : decode cX3_add 28 = .ok (.getfield 9, 3) := by decide +kernel
theorem dX3_add_31 : decode cX3_add 31 = .ok (.arraylength, 1) := by decide +kernel
theorem dX3_add_32 : decode cX3_add 32 = .ok (.if_icmp .ge 7, 3) := by decide +kernel
theorem dX3_add_35 : decode cX3_add 35 = .ok (.iload_n 2, 1) := by decide +kernel
theorem dX3_add_36 : decode cX3_add 36 = .ok (.goto 10, 3) := by decide +kernel
theorem dX3_add_39 : decode cX3_add 39 = .ok (.iload_n 2, 1) := by decide +kernel
theorem dX3_add_40 : decode cX3_add 40 = .ok (.aload_n 0, 1) := by decide +kernel
theorem dX3_add_41 : decode cX3_add 41 = .ok (.getfield 9, 3) := by decide +kernel
theorem dX3_add_44 : decode cX3_add 44 = .ok (.arraylength, 1) := by decide +kernel
theorem dX3_add_45 : decode cX3_add 45 = .ok (.isub, 1) := by decide +kernel
theorem dX3_add_46 : decode cX3_add 46 = .ok (.iload_n 1, 1) := by decide +kernel
theorem dX3_add_47 : decode cX3_add 47 = .ok (.iastore, 1) := by decide +kernel
theorem dX3_add_48 : decode cX3_add 48 = .ok (.aload_n 0, 1) := by decide +kernel
theorem dX3_add_49 : decode cX3_add 49 = .ok (.dup, 1) := by decide +kernel
theorem dX3_add_50 : decode cX3_add 50 = .ok (.getfield 15, 3) := by decide +kernel
theorem dX3_add_53 : decode cX3_add 53 = .ok (.iconst 1, 1) := by decide +kernel
theorem dX3_add_54 : decode cX3_add 54 = .ok (.iadd, 1) := by decide +kernel
theorem dX3_add_55 : decode cX3_add 55 = .ok (.putfield 15, 3) := by decide +kernel
theorem dX3_add_58 : decode cX3_add 58 = .ok (.return_, 1) := by decide +kernel
theorem dX3_at_0 : decode cX3_at 0 = .ok (.iload_n 1, 1) := by decide +kernel
theorem dX3_at_1 : decode cX3_at 1 = .ok (.ifCond .lt 11, 3) := by decide +kernel
theorem dX3_at_4 : decode cX3_at 4 = .ok (.iload_n 1, 1) := by decide +kernel
theorem dX3_at_5 : decode cX3_at 5 = .ok (.aload_n 0, 1) := by decide +kernel
theorem dX3_at_6 : decode cX3_at 6 = .ok (.getfield 15, 3) := by decide +kernel
theorem dX3_at_9 : decode cX3_at 9 = .ok (.if_icmp .lt 5, 3) := by decide +kernel
theorem dX3_at_12 : decode cX3_at 12 = .ok (.iconst (-1), 1) := by decide +kernel
theorem dX3_at_13 : decode cX3_at 13 = .ok (.ireturn, 1) := by decide +kernel
theorem dX3_at_14 : decode cX3_at 14 = .ok (.aload_n 0, 1) := by decide +kernel
theorem dX3_at_15 : decode cX3_at 15 = .ok (.getfield 19, 3) := by decide +kernel
theorem dX3_at_18 : decode cX3_at 18 = .ok (.iload_n 1, 1) := by decide +kernel
theorem dX3_at_19 : decode cX3_at 19 = .ok (.iadd, 1) := by decide +kernel
theorem dX3_at_20 : decode cX3_at 20 = .ok (.istore_n 2, 1) := by decide +kernel
theorem dX3_at_21 : decode cX3_at 21 = .ok (.aload_n 0, 1) := by decide +kernel
theorem dX3_at_22 : decode cX3_at 22 = .ok (.getfield 9, 3) := by decide +kernel
theorem dX3_at_25 : decode cX3_at 25 = .ok (.iload_n 2, 1) := by decide +kernel
theorem dX3_at_26 : decode cX3_at 26 = .ok (.aload_n 0, 1) := by decide +kernel
theorem dX3_at_27 : decode cX3_at 27 = .ok (.getfield 9, 3) := by decide +kernel
theorem dX3_at_30 : decode cX3_at 30 = .ok (.arraylength, 1) := by decide +kernel
theorem dX3_at_31 : decode cX3_at 31 = .ok (.if_icmp .ge 7, 3) := by decide +kernel
theorem dX3_at_34 : decode cX3_at 34 = .ok (.iload_n 2, 1) := by decide +kernel
theorem dX3_at_35 : decode cX3_at 35 = .ok (.goto 10, 3) := by decide +kernel
theorem dX3_at_38 : decode cX3_at 38 = .ok (.iload_n 2, 1) := by decide +kernel
theorem dX3_at_39 : decode cX3_at 39 = .ok (.aload_n 0, 1) := by decide +kernel
theorem dX3_at_40 : decode cX3_at 40 = .ok (.getfield 9, 3) := by decide +kernel
theorem dX3_at_43 : decode cX3_at 43 = .ok (.arraylength, 1) := by decide +kernel
theorem dX3_at_44 : decode cX3_at 44 = .ok (.isub, 1) := by decide +kernel
theorem dX3_at_45 : decode cX3_at 45 = .ok (.iaload, 1) := by decide +kernel
theorem dX3_at_46 : decode cX3_at 46 = .ok (.ireturn, 1) := by decide +kernel
theorem dX3_takeFirst_0 : decode cX3_takeFirst 0 = .ok (.aload_n 0, 1) := by decide +kernel
theorem dX3_takeFirst_1 : decode cX3_takeFirst 1 = .ok (.getfield 15, 3) := by decide +kernel
theorem dX3_takeFirst_4 : decode cX3_takeFirst 4 = .ok (.ifCond .ne 5, 3) := by decide +kernel
theorem dX3_takeFirst_7 : decode cX3_takeFirst 7 = .ok (.iconst (-1), 1) := by decide +kernel
theorem dX3_takeFirst_8 : decode cX3_takeFirst 8 = .ok (.ireturn, 1) := by decide +kernel
theorem dX3_takeFirst_9 : decode cX3_takeFirst 9 = .ok (.aload_n 0, 1) := by decide +kernel
theorem dX3_takeFirst_10 : decode cX3_takeFirst 10 = .ok (.getfield 9, 3) := by decide +kernel
theorem dX3_takeFirst_13 : decode cX3_takeFirst 13 = .ok (.aload_n 0, 1) := by decide +kernel
theorem dX3_takeFirst_14 : decode cX3_takeFirst 14 = .ok (.getfield 19, 3) := by decide +kernel
theorem dX3_takeFirst_17 : decode cX3_takeFirst 17 = .ok (.iaload, 1) := by decide +kernel
theorem dX3_takeFirst_18 : decode cX3_takeFirst 18 = .ok (.istore_n 1, 1) := by decide +kernel
theorem dX3_takeFirst_19 : decode cX3_takeFirst 19 = .ok (.aload_n 0, 1) := by decide +kernel
theorem dX3_takeFirst_20 : decode cX3_takeFirst 20 = .ok (.aload_n 0, 1) := by decide +kernel
theorem dX3_takeFirst_21 : decode cX3_takeFirst 21 = .ok (.getfield 19, 3) := by decide +kernel
theorem dX3_takeFirst_24 : decode cX3_takeFirst 24 = .ok (.iconst 1, 1) := by decide +kernel
theorem dX3_takeFirst_25 : decode cX3_takeFirst 25 = .ok (.iadd, 1) := by decide +kernel
theorem dX3_takeFirst_26 : decode cX3_takeFirst 26 = .ok (.aload_n 0, 1) := by decide +kernel
theorem dX3_takeFirst_27 : decode cX3_takeFirst 27 = .ok (.getfield 9, 3) := by decide +kernel
theorem dX3_takeFirst_30 : decode cX3_takeFirst 30 = .ok (.arraylength, 1) := by decide +kernel
theorem dX3_takeFirst_31 : decode cX3_takeFirst 31 = .ok (.if_icmp .ge 12, 3) := by decide +kernel
theorem dX3_takeFirst_34 : decode cX3_takeFirst 34 = .ok (.aload_n 0, 1) := by decide +kernel
theorem dX3_takeFirst_35 : decode cX3_takeFirst 35 = .ok (.getfield 19, 3) := by decide +kernel
theorem dX3_takeFirst_38 : decode cX3_takeFirst 38 = .ok (.iconst 1, 1) := by decide +kernel
theorem dX3_takeFirst_39 : decode cX3_takeFirst 39 = .ok (.iadd, 1) := by decide +kernel
theorem dX3_takeFirst_40 : decode cX3_takeFirst 40 = .ok (.goto 4, 3) := by decide +kernel
theorem dX3_takeFirst_43 : decode cX3_takeFirst 43 = .ok (.iconst 0, 1) := by decide +kernel
theorem dX3_takeFirst_44 : decode cX3_takeFirst 44 = .ok (.putfield 19, 3) := by decide +kernel
theorem dX3_takeFirst_47 : decode cX3_takeFirst 47 = .ok (.aload_n 0, 1) := by decide +kernel
theorem dX3_takeFirst_48 : decode cX3_takeFirst 48 = .ok (.dup, 1) := by decide +kernel
theorem dX3_takeFirst_49 : decode cX3_takeFirst 49 = .ok (.getfield 15, 3) := by decide +kernel
theorem dX3_takeFirst_52 : decode cX3_takeFirst 52 = .ok (.iconst 1, 1) := by decide +kernel
theorem dX3_takeFirst_53 : decode cX3_takeFirst 53 = .ok (.isub, 1) := by decide +kernel
theorem dX3_takeFirst_54 : decode cX3_takeFirst 54 = .ok (.putfield 15, 3) := by decide +kernel
theorem dX3_takeFirst_57 : decode cX3_takeFirst 57 = .ok (.iload_n 1, 1) := by decide +kernel
theorem dX3_takeFirst_58 : decode cX3_takeFirst 58 = .ok (.ireturn, 1) := by decide +kernel
set_option maxRecDepth 20000 in
theorem ggX3_takeLast_X3_at : GoodIn wsX3_takeLast wsX3_at := goodIn_r _ [6, 1, 7, 8, 9, 10, 11] (by decide +kernel) (by decide +kernel)
set_option maxRecDepth 20000 in
theorem gX3_takeLast_X3_at : GoodIn wsX3_takeLast (wsV RX3 22 RX3 yX3_at wsX3_at) := goodIn_app (goodIn_of _ (by decide +kernel)) ggX3_takeLast_X3_at
theorem dX3_takeLast_0 : decode cX3_takeLast 0 = .ok (.aload_n 0, 1) := by decide +kernel
theorem dX3_takeLast_1 : decode cX3_takeLast 1 = .ok (.aload_n 0, 1) := by decide +kernel
theorem dX3_takeLast_2 : decode cX3_takeLast 2 = .ok (.getfield 15, 3) := by decide +kernel
theorem dX3_takeLast_5 : decode cX3_takeLast 5 = .ok (.iconst 1, 1) := by decide +kernel
theorem dX3_takeLast_6 : decode cX3_takeLast 6 = .ok (.isub, 1) := by decide +kernel
theorem dX3_takeLast_7 : decode cX3_takeLast 7 = .ok (.invokevirtual 22, 3) := by decide +kernel
theorem dX3_takeLast_10 : decode cX3_takeLast 10 = .ok (.istore_n 1, 1) := by decide +kernel
theorem dX3_takeLast_11 : decode cX3_takeLast 11 = .ok (.aload_n 0, 1) := by decide +kernel
theorem dX3_takeLast_12 : decode cX3_takeLast 12 = .ok (.getfield 15, 3) := by decide +kernel
theorem dX3_takeLast_15 : decode cX3_takeLast 15 = .ok (.ifCond .le 13, 3) := by decide +kernel
theorem dX3_takeLast_18 : decode cX3_takeLast 18 = .ok (.aload_n 0, 1) := by decide +kernel
theorem dX3_takeLast_19 : decode cX3_takeLast 19 = .ok (.dup, 1) := by decide +kernel
theorem dX3_takeLast_20 : decode cX3_takeLast 20 = .ok (.getfield 15, 3) := by decide +kernel
theorem dX3_takeLast_23 : decode cX3_takeLast 23 = .ok (.iconst 1, 1) := by decide +kernel
theorem dX3_takeLast_24 : decode cX3_takeLast 24 = .ok (.isub, 1) := by decide +kernel
theorem dX3_takeLast_25 : decode cX3_takeLast 25 = .ok (.putfield 15, 3) := by decide +kernel
theorem dX3_takeLast_28 : decode cX3_takeLast 28 = .ok (.iload_n 1, 1) := by decide +kernel
theorem dX3_takeLast_29 : decode cX3_takeLast 29 = .ok (.ireturn, 1) := by decide +kernel
theorem dX3_empty_0 : decode cX3_empty 0 = .ok (.aload_n 0, 1) := by decide +kernel
theorem dX3_empty_1 : decode cX3_empty 1 = .ok (.iconst 0, 1) := by decide +kernel
theorem dX3_empty_2 : decode cX3_empty 2 = .ok (.putfield 15, 3) := by decide +kernel
theorem dX3_empty_5 : decode cX3_empty 5 = .ok (.return_, 1) := by decide +kernel
set_option maxRecDepth 20000 in
theorem ggX4_init_X3_init : GoodIn wsX4_init wsX3_init := goodIn_r _ [10, 11, 2, 3, 12, 13, 14, 15, 16] (by decide +kernel) (by decide +kernel)
set_option maxRecDepth 20000 in
theorem gX4_init_X3_init : GoodIn wsX4_init (wsX3_init) := ggX4_init_X3_init
theorem dX4_init_0 : decode cX4_init 0 = .ok (.aload_n 0, 1) := by decide +kernel
theorem dX4_init_1 : decode cX4_init 1 = .ok (.invokespecial 3, 3) := by decide +kernel
theorem dX4_init_4 : decode cX4_init 4 = .ok (.aload_n 0, 1) := by decide +kernel
theorem dX4_init_5 : decode cX4_init 5 = .ok (.new 9, 3) := by decide +kernel
theorem dX4_init_8 : decode cX4_init 8 = .ok (.dup, 1) := by decide +kernel
theorem dX4_init_9 : decode cX4_init 9 = .ok (.bipush 65, 2) := by decide +kernel
theorem dX4_init_11 : decode cX4_init 11 = .ok (.invokespecial 11, 3) := by decide +kernel
theorem dX4_init_14 : decode cX4_init 14 = .ok (.putfield 14, 3) := by decide +kernel
theorem dX4_init_17 : decode cX4_init 17 = .ok (.return_, 1) := by decide +kernel
set_option maxRecDepth 20000 in
theorem ggX4_add_X3_fits : GoodIn wsX4_add wsX3_fits := goodIn_r _ [7, 8, 9, 18, 19, 20] (by decide +kernel) (by decide +kernel)
set_option maxRecDepth 20000 in
theorem gX4_add_X3_fits : GoodIn wsX4_add (wsV RX4 24 RX3 yX3_fits wsX3_fits) := goodIn_app (goodIn_of _ (by decide +kernel)) ggX4_add_X3_fits
set_option maxRecDepth 20000 in
theorem ggX4_add_X3_add : GoodIn wsX4_add wsX3_add := goodIn_r _ [13, 9, 8, 14, 18, 19, 20] (by decide +kernel) (by decide +kernel)
set_option maxRecDepth 20000 in
theorem gX4_add_X3_add : GoodIn wsX4_add (wsV RX4 28 RX3 yX3_add wsX3_add) := goodIn_app (goodIn_of _ (by decide +kernel)) ggX4_add_X3_add
theorem dX4_add_0 : decode cX4_add 0 = .ok (.aload_n 0, 1) := by decide +kernel
theorem dX4_add_1 : decode cX4_add 1 = .ok (.getfield 14, 3) := by decide +kernel
theorem dX4_add_4 : decode cX4_add 4 = .ok (.getfield 20, 3) := by decide +kernel
theorem dX4_add_7 : decode cX4_add 7 = .ok (.bipush 64, 2) := by decide +kernel
theorem dX4_add_9 : decode cX4_add 9 = .ok (.if_icmp .lt 7, 3) := by decide +kernel
theorem dX4_add_12 : decode cX4_add 12 = .ok (.iload_n 2, 1) := by decide +kernel
theorem dX4_add_13 : decode cX4_add 13 = .ok (.ifCond .eq 14, 3) := by decide +kernel
theorem dX4_add_16 : decode cX4_add 16 = .ok (.aload_n 0, 1) := by decide +kernel
theorem dX4_add_17 : decode cX4_add 17 = .ok (.getfield 14, 3) := by decide +kernel
theorem dX4_add_20 : decode cX4_add 20 = .ok (.iconst 1, 1) := by decide +kernel
theorem dX4_add_21 : decode cX4_add 21 = .ok (.invokevirtual 24, 3) := by decide +kernel
theorem dX4_add_24 : decode cX4_add 24 = .ok (.ifCond .ne 5, 3) := by decide +kernel
theorem dX4_add_27 : decode cX4_add 27 = .ok (.iconst 0, 1) := by decide +kernel
theorem dX4_add_28 : decode cX4_add 28 = .ok (.ireturn, 1) := by decide +kernel
theorem dX4_add_29 : decode cX4_add 29 = .ok (.aload_n 0, 1) := by decide +kernel
theorem dX4_add_30 : decode cX4_add 30 = .ok (.getfield 14, 3) := by decide +kernel
theorem dX4_add_33 : decode cX4_add 33 = .ok (.iload_n 1, 1) := by decide +kernel
theorem dX4_add_34 : decode cX4_add 34 = .ok (.invokevirtual 28, 3) := by decide +kernel
theorem dX4_add_37 : decode cX4_add 37 = .ok (.aload_n 0, 1) := by decide +kernel
theorem dX4_add_38 : decode cX4_add 38 = .ok (.iconst 0, 1) := by decide +kernel
theorem dX4_add_39 : decode cX4_add 39 = .ok (.putfield 31, 3) := by decide +kernel
theorem dX4_add_42 : decode cX4_add 42 = .ok (.iconst 1, 1) := by decide +kernel
theorem dX4_add_43 : decode cX4_add 43 = .ok (.ireturn, 1) := by decide +kernel
theorem dX4_openLine_0 : decode cX4_openLine 0 = .ok (.aload_n 0, 1) := by decide +kernel
theorem dX4_openLine_1 : decode cX4_openLine 1 = .ok (.getfield 14, 3) := by decide +kernel
theorem dX4_openLine_4 : decode cX4_openLine 4 = .ok (.getfield 20, 3) := by decide +kernel
theorem dX4_openLine_7 : decode cX4_openLine 7 = .ok (.aload_n 0, 1) := by decide +kernel
theorem dX4_openLine_8 : decode cX4_openLine 8 = .ok (.getfield 34, 3) := by decide +kernel
theorem dX4_openLine_11 : decode cX4_openLine 11 = .ok (.isub, 1) := by decide +kernel
theorem dX4_openLine_12 : decode cX4_openLine 12 = .ok (.ireturn, 1) := by decide +kernel
theorem dX4_releaseAll_0 : decode cX4_releaseAll 0 = .ok (.aload_n 0, 1) := by decide +kernel
theorem dX4_releaseAll_1 : decode cX4_releaseAll 1 = .ok (.aload_n 0, 1) := by decide +kernel
theorem dX4_releaseAll_2 : decode cX4_releaseAll 2 = .ok (.getfield 14, 3) := by decide +kernel
theorem dX4_releaseAll_5 : decode cX4_releaseAll 5 = .ok (.getfield 20, 3) := by decide +kernel
theorem dX4_releaseAll_8 : decode cX4_releaseAll 8 = .ok (.putfield 34, 3) := by decide +kernel
theorem dX4_releaseAll_11 : decode cX4_releaseAll 11 = .ok (.return_, 1) := by decide +kernel
set_option maxRecDepth 20000 in
theorem ggX4_takeReleased_X3_takeFirst : GoodIn wsX4_takeReleased wsX3_takeFirst := goodIn_r _ [7, 8, 9, 10, 14, 15, 16] (by decide +kernel) (by decide +kernel)
set_option maxRecDepth 20000 in
theorem gX4_takeReleased_X3_takeFirst : GoodIn wsX4_takeReleased (wsV RX4 37 RX3 yX3_takeFirst wsX3_takeFirst) := goodIn_app (goodIn_of _ (by decide +kernel)) ggX4_takeReleased_X3_takeFirst
theorem dX4_takeReleased_0 : decode cX4_takeReleased 0 = .ok (.aload_n 0, 1) := by decide +kernel
theorem dX4_takeReleased_1 : decode cX4_takeReleased 1 = .ok (.getfield 34, 3) := by decide +kernel
theorem dX4_takeReleased_4 : decode cX4_takeReleased 4 = .ok (.ifCond .le 13, 3) := by decide +kernel
theorem dX4_takeReleased_7 : decode cX4_takeReleased 7 = .ok (.aload_n 0, 1) := by decide +kernel
theorem dX4_takeReleased_8 : decode cX4_takeReleased 8 = .ok (.dup, 1) := by decide +kernel
theorem dX4_takeReleased_9 : decode cX4_takeReleased 9 = .ok (.getfield 34, 3) := by decide +kernel
theorem dX4_takeReleased_12 : decode cX4_takeReleased 12 = .ok (.iconst 1, 1) := by decide +kernel
theorem dX4_takeReleased_13 : decode cX4_takeReleased 13 = .ok (.isub, 1) := by decide +kernel
theorem dX4_takeReleased_14 : decode cX4_takeReleased 14 = .ok (.putfield 34, 3) := by decide +kernel
theorem dX4_takeReleased_17 : decode cX4_takeReleased 17 = .ok (.aload_n 0, 1) := by decide +kernel
theorem dX4_takeReleased_18 : decode cX4_takeReleased 18 = .ok (.getfield 14, 3) := by decide +kernel
theorem dX4_takeReleased_21 : decode cX4_takeReleased 21 = .ok (.invokevirtual 37, 3) := by decide +kernel
theorem dX4_takeReleased_24 : decode cX4_takeReleased 24 = .ok (.ireturn, 1) := by decide +kernel
set_option maxRecDepth 20000 in
theorem ggX4_empty_X3_empty : GoodIn wsX4_empty wsX3_empty := goodIn_r _ [7, 8, 12, 13, 14] (by decide +kernel) (by decide +kernel)
set_option maxRecDepth 20000 in
theorem gX4_empty_X3_empty : GoodIn wsX4_empty (wsV RX4 41 RX3 yX3_empty wsX3_empty) := goodIn_app (goodIn_of _ (by decide +kernel)) ggX4_empty_X3_empty
theorem dX4_empty_0 : decode cX4_empty 0 = .ok (.aload_n 0, 1) := by decide +kernel
theorem dX4_empty_1 : decode cX4_empty 1 = .ok (.getfield 14, 3) := by decide +kernel
theorem dX4_empty_4 : decode cX4_empty 4 = .ok (.invokevirtual 41, 3) := by decide +kernel
theorem dX4_empty_7 : decode cX4_empty 7 = .ok (.aload_n 0, 1) := by decide +kernel
theorem dX4_empty_8 : decode cX4_empty 8 = .ok (.iconst 0, 1) := by decide +kernel
theorem dX4_empty_9 : decode cX4_empty 9 = .ok (.putfield 34, 3) := by decide +kernel
theorem dX4_empty_12 : decode cX4_empty 12 = .ok (.return_, 1) := by decide +kernel
set_option maxRecDepth 20000 in
theorem ggX4_dropEndMarks_X3_takeFirst : GoodIn wsX4_dropEndMarks wsX3_takeFirst := goodIn_r _ [6, 7, 8, 9, 17, 18, 19] (by decide +kernel) (by decide +kernel)
set_option maxRecDepth 20000 in
theorem gX4_dropEndMarks_X3_takeFirst : GoodIn wsX4_dropEndMarks (wsV RX4 37 RX3 yX3_takeFirst wsX3_takeFirst) := goodIn_app (goodIn_of _ (by decide +kernel)) ggX4_dropEndMarks_X3_takeFirst
set_option maxRecDepth 20000 in
theorem ggX4_dropEndMarks_X3_add : GoodIn wsX4_dropEndMarks wsX3_add := goodIn_r _ [13, 7, 8, 9, 17, 18, 19] (by decide +kernel) (by decide +kernel)
set_option maxRecDepth 20000 in
theorem gX4_dropEndMarks_X3_add : GoodIn wsX4_dropEndMarks (wsV RX4 28 RX3 yX3_add wsX3_add) := goodIn_app (goodIn_of _ (by decide +kernel)) ggX4_dropEndMarks_X3_add
theorem dX4_dropEndMarks_0 : decode cX4_dropEndMarks 0 = .ok (.aload_n 0, 1) := by decide +kernel
theorem dX4_dropEndMarks_1 : decode cX4_dropEndMarks 1 = .ok (.getfield 14, 3) := by decide +kernel
theorem dX4_dropEndMarks_4 : decode cX4_dropEndMarks 4 = .ok (.getfield 20, 3) := by decide +kernel
theorem dX4_dropEndMarks_7 : decode cX4_dropEndMarks 7 = .ok (.istore_n 1, 1) := by decide +kernel
theorem dX4_dropEndMarks_8 : decode cX4_dropEndMarks 8 = .ok (.iconst 0, 1) := by decide +kernel
theorem dX4_dropEndMarks_9 : decode cX4_dropEndMarks 9 = .ok (.istore_n 2, 1) := by decide +kernel
theorem dX4_dropEndMarks_10 : decode cX4_dropEndMarks 10 = .ok (.iload_n 2, 1) := by decide +kernel
theorem dX4_dropEndMarks_11 : decode cX4_dropEndMarks 11 = .ok (.iload_n 1, 1) := by decide +kernel
theorem dX4_dropEndMarks_12 : decode cX4_dropEndMarks 12 = .ok (.if_icmp .ge 32, 3) := by decide +kernel
theorem dX4_dropEndMarks_15 : decode cX4_dropEndMarks 15 = .ok (.aload_n 0, 1) := by decide +kernel
theorem dX4_dropEndMarks_16 : decode cX4_dropEndMarks 16 = .ok (.getfield 14, 3) := by decide +kernel
theorem dX4_dropEndMarks_19 : decode cX4_dropEndMarks 19 = .ok (.invokevirtual 37, 3) := by decide +kernel
theorem dX4_dropEndMarks_22 : decode cX4_dropEndMarks 22 = .ok (.istore_n 3, 1) := by decide +kernel
theorem dX4_dropEndMarks_23 : decode cX4_dropEndMarks 23 = .ok (.iload_n 3, 1) := by decide +kernel
theorem dX4_dropEndMarks_24 : decode cX4_dropEndMarks 24 = .ok (.sipush 256, 3) := by decide +kernel
theorem dX4_dropEndMarks_27 : decode cX4_dropEndMarks 27 = .ok (.if_icmp .eq 11, 3) := by decide +kernel
theorem dX4_dropEndMarks_30 : decode cX4_dropEndMarks 30 = .ok (.aload_n 0, 1) := by decide +kernel
theorem dX4_dropEndMarks_31 : decode cX4_dropEndMarks 31 = .ok (.getfield 14, 3) := by decide +kernel
theorem dX4_dropEndMarks_34 : decode cX4_dropEndMarks 34 = .ok (.iload_n 3, 1) := by decide +kernel
theorem dX4_dropEndMarks_35 : decode cX4_dropEndMarks 35 = .ok (.invokevirtual 28, 3) := by decide +kernel
theorem dX4_dropEndMarks_38 : decode cX4_dropEndMarks 38 = .ok (.iinc 2 1, 3) := by decide +kernel
theorem dX4_dropEndMarks_41 : decode cX4_dropEndMarks 41 = .ok (.goto (-31), 3) := by decide +kernel
theorem dX4_dropEndMarks_44 : decode cX4_dropEndMarks 44 = .ok (.return_, 1) := by decide +kernel
set_option maxRecDepth 20000 in
theorem ggX4_lastWord_X4_openLine : GoodIn wsX4_lastWord wsX4_openLine := goodIn_r _ [6, 1, 7, 19, 20, 21, 22, 23, 24] (by decide +kernel) (by decide +kernel)
set_option maxRecDepth 20000 in
theorem gX4_lastWord_X4_openLine : GoodIn wsX4_lastWord (wsV RX4 44 RX4 yX4_openLine wsX4_openLine) := goodIn_app (goodIn_of _ (by decide +kernel)) ggX4_lastWord_X4_openLine
set_option maxRecDepth 20000 in
theorem ggX4_lastWord_X3_at : GoodIn wsX4_lastWord wsX3_at := goodIn_r _ [12, 13, 14, 15, 22, 23, 24] (by decide +kernel) (by decide +kernel)
set_option maxRecDepth 20000 in
theorem gX4_lastWord_X3_at : GoodIn wsX4_lastWord (wsV RX4 47 RX3 yX3_at wsX3_at) := goodIn_app (goodIn_of _ (by decide +kernel)) ggX4_lastWord_X3_at
set_option maxRecDepth 20000 in
theorem ggX4_lastWord_X4_isBlank : GoodIn wsX4_lastWord wsX4_isBlank := goodIn_r _ [18] (by decide +kernel) (by decide +kernel)
set_option maxRecDepth 20000 in
theorem gX4_lastWord_X4_isBlank : GoodIn wsX4_lastWord (va_wsS RX4 51 yX4_isBlank wsX4_isBlank) := goodIn_app (goodIn_of _ (by decide +kernel)) ggX4_lastWord_X4_isBlank
theorem dX4_lastWord_0 : decode cX4_lastWord 0 = .ok (.aload_n 0, 1) := by decide +kernel
theorem dX4_lastWord_1 : decode cX4_lastWord 1 = .ok (.invokevirtual 44, 3) := by decide +kernel
theorem dX4_lastWord_4 : decode cX4_lastWord 4 = .ok (.istore_n 1, 1) := by decide +kernel
theorem dX4_lastWord_5 : decode cX4_lastWord 5 = .ok (.iconst 0, 1) := by decide +kernel
theorem dX4_lastWord_6 : decode cX4_lastWord 6 = .ok (.istore_n 2, 1) := by decide +kernel
theorem dX4_lastWord_7 : decode cX4_lastWord 7 = .ok (.iload_n 2, 1) := by decide +kernel
theorem dX4_lastWord_8 : decode cX4_lastWord 8 = .ok (.iload_n 1, 1) := by decide +kernel
theorem dX4_lastWord_9 : decode cX4_lastWord 9 = .ok (.if_icmp .ge 33, 3) := by decide +kernel
theorem dX4_lastWord_12 : decode cX4_lastWord 12 = .ok (.aload_n 0, 1) := by decide +kernel
theorem dX4_lastWord_13 : decode cX4_lastWord 13 = .ok (.getfield 14, 3) := by decide +kernel
theorem dX4_lastWord_16 : decode cX4_lastWord 16 = .ok (.aload_n 0, 1) := by decide +kernel
theorem dX4_lastWord_17 : decode cX4_lastWord 17 = .ok (.getfield 14, 3) := by decide +kernel
theorem dX4_lastWord_20 : decode cX4_lastWord 20 = .ok (.getfield 20, 3) := by decide +kernel
theorem dX4_lastWord_23 : decode cX4_lastWord 23 = .ok (.iconst 1, 1) := by decide +kernel
theorem dX4_lastWord_24 : decode cX4_lastWord 24 = .ok (.isub, 1) := by decide +kernel
theorem dX4_lastWord_25 : decode cX4_lastWord 25 = .ok (.iload_n 2, 1) := by decide +kernel
theorem dX4_lastWord_26 : decode cX4_lastWord 26 = .ok (.isub, 1) := by decide +kernel
theorem dX4_lastWord_27 : decode cX4_lastWord 27 = .ok (.invokevirtual 47, 3) := by decide +kernel
theorem dX4_lastWord_30 : decode cX4_lastWord 30 = .ok (.invokestatic 51, 3) := by decide +kernel
theorem dX4_lastWord_33 : decode cX4_lastWord 33 = .ok (.ifCond .eq 9, 3) := by decide +kernel
theorem dX4_lastWord_36 : decode cX4_lastWord 36 = .ok (.iinc 2 1, 3) := by decide +kernel
theorem dX4_lastWord_39 : decode cX4_lastWord 39 = .ok (.goto (-32), 3) := by decide +kernel
theorem dX4_lastWord_42 : decode cX4_lastWord 42 = .ok (.iload_n 2, 1) := by decide +kernel
theorem dX4_lastWord_43 : decode cX4_lastWord 43 = .ok (.iload_n 1, 1) := by decide +kernel
theorem dX4_lastWord_44 : decode cX4_lastWord 44 = .ok (.if_icmp .ge 33, 3) := by decide +kernel
theorem dX4_lastWord_47 : decode cX4_lastWord 47 = .ok (.aload_n 0, 1) := by decide +kernel
theorem dX4_lastWord_48 : decode cX4_lastWord 48 = .ok (.getfield 14, 3) := by decide +kernel
theorem dX4_lastWord_51 : decode cX4_lastWord 51 = .ok (.aload_n 0, 1) := by decide +kernel
theorem dX4_lastWord_52 : decode cX4_lastWord 52 = .ok (.getfield 14, 3) := by decide +kernel
theorem dX4_lastWord_55 : decode cX4_lastWord 55 = .ok (.getfield 20, 3) := by decide +kernel
theorem dX4_lastWord_58 : decode cX4_lastWord 58 = .ok (.iconst 1, 1) := by decide +kernel
theorem dX4_lastWord_59 : decode cX4_lastWord 59 = .ok (.isub, 1) := by decide +kernel
theorem dX4_lastWord_60 : decode cX4_lastWord 60 = .ok (.iload_n 2, 1) := by decide +kernel
theorem dX4_lastWord_61 : decode cX4_lastWord 61 = .ok (.isub, 1) := by decide +kernel
theorem dX4_lastWord_62 : decode cX4_lastWord 62 = .ok (.invokevirtual 47, 3) := by decide +kernel
theorem dX4_lastWord_65 : decode cX4_lastWord 65 = .ok (.invokestatic 51, 3) := by decide +kernel
theorem dX4_lastWord_68 : decode cX4_lastWord 68 = .ok (.ifCond .ne 9, 3) := by decide +kernel
theorem dX4_lastWord_71 : decode cX4_lastWord 71 = .ok (.iinc 2 1, 3) := by decide +kernel
theorem dX4_lastWord_74 : decode cX4_lastWord 74 = .ok (.goto (-32), 3) := by decide +kernel
theorem dX4_lastWord_77 : decode cX4_lastWord 77 = .ok (.iload_n 2, 1) := by decide +kernel
theorem dX4_lastWord_78 : decode cX4_lastWord 78 = .ok (.ireturn, 1) := by decide +kernel
theorem dX4_isBlank_0 : decode cX4_isBlank 0 = .ok (.iload_n 0, 1) := by decide +kernel
theorem dX4_isBlank_1 : decode cX4_isBlank 1 = .ok (.bipush 32, 2) := by decide +kernel
theorem dX4_isBlank_3 : decode cX4_isBlank 3 = .ok (.if_icmp .eq 9, 3) := by decide +kernel
theorem dX4_isBlank_6 : decode cX4_isBlank 6 = .ok (.iload_n 0, 1) := by decide +kernel
theorem dX4_isBlank_7 : decode cX4_isBlank 7 = .ok (.bipush 9, 2) := by decide +kernel
theorem dX4_isBlank_9 : decode cX4_isBlank 9 = .ok (.if_icmp .ne 7, 3) := by decide +kernel
theorem dX4_isBlank_12 : decode cX4_isBlank 12 = .ok (.iconst 1, 1) := by decide +kernel
theorem dX4_isBlank_13 : decode cX4_isBlank 13 = .ok (.goto 4, 3) := by decide +kernel
theorem dX4_isBlank_16 : decode cX4_isBlank 16 = .ok (.iconst 0, 1) := by decide +kernel
theorem dX4_isBlank_17 : decode cX4_isBlank 17 = .ok (.ireturn, 1) := by decide +kernel
theorem dX5_init_0 : decode cX5_init 0 = .ok (.aload_n 0, 1) := by decide +kernel
theorem dX5_init_1 : decode cX5_init 1 = .ok (.invokespecial 3, 3) := by decide +kernel
theorem dX5_init_4 : decode cX5_init 4 = .ok (.aload_n 0, 1) := by decide +kernel
theorem dX5_init_5 : decode cX5_init 5 = .ok (.iconst 3, 1) := by decide +kernel
theorem dX5_init_6 : decode cX5_init 6 = .ok (.newarray .int, 2) := by decide +kernel
theorem dX5_init_8 : decode cX5_init 8 = .ok (.putfield 9, 3) := by decide +kernel
theorem dX5_init_11 : decode cX5_init 11 = .ok (.aload_n 0, 1) := by decide +kernel
theorem dX5_init_12 : decode cX5_init 12 = .ok (.iconst 3, 1) := by decide +kernel
theorem dX5_init_13 : decode cX5_init 13 = .ok (.newarray .int, 2) := by decide +kernel
theorem dX5_init_15 : decode cX5_init 15 = .ok (.putfield 15, 3) := by decide +kernel
theorem dX5_init_18 : decode cX5_init 18 = .ok (.aload_n 0, 1) := by decide +kernel
theorem dX5_init_19 : decode cX5_init 19 = .ok (.iconst 3, 1) := by decide +kernel
theorem dX5_init_20 : decode cX5_init 20 = .ok (.newarray .boolean, 2) := by decide +kernel
theorem dX5_init_22 : decode cX5_init 22 = .ok (.putfield 18, 3) := by decide +kernel
theorem dX5_init_25 : decode cX5_init 25 = .ok (.aload_n 0, 1) := by decide +kernel
theorem dX5_init_26 : decode cX5_init 26 = .ok (.iconst 3, 1) := by decide +kernel
theorem dX5_init_27 : decode cX5_init 27 = .ok (.newarray .int, 2) := by decide +kernel
theorem dX5_init_29 : decode cX5_init 29 = .ok (.putfield 22, 3) := by decide +kernel
theorem dX5_init_32 : decode cX5_init 32 = .ok (.return_, 1) := by decide +kernel
theorem dX5_add_0 : decode cX5_add 0 = .ok (.aload_n 0, 1) := by decide +kernel
theorem dX5_add_1 : decode cX5_add 1 = .ok (.getfield 25, 3) := by decide +kernel
theorem dX5_add_4 : decode cX5_add 4 = .ok (.iconst 3, 1) := by decide +kernel
theorem dX5_add_5 : decode cX5_add 5 = .ok (.if_icmp .lt 5, 3) := by decide +kernel
theorem dX5_add_8 : decode cX5_add 8 = .ok (.iconst 0, 1) := by decide +kernel
theorem dX5_add_9 : decode cX5_add 9 = .ok (.ireturn, 1) := by decide +kernel
theorem dX5_add_10 : decode cX5_add 10 = .ok (.aload_n 0, 1) := by decide +kernel
theorem dX5_add_11 : decode cX5_add 11 = .ok (.getfield 9, 3) := by decide +kernel
theorem dX5_add_14 : decode cX5_add 14 = .ok (.aload_n 0, 1) := by decide +kernel
theorem dX5_add_15 : decode cX5_add 15 = .ok (.getfield 25, 3) := by decide +kernel
theorem dX5_add_18 : decode cX5_add 18 = .ok (.iload_n 1, 1) := by decide +kernel
theorem dX5_add_19 : decode cX5_add 19 = .ok (.iastore, 1) := by decide +kernel
theorem dX5_add_20 : decode cX5_add 20 = .ok (.aload_n 0, 1) := by decide +kernel
theorem dX5_add_21 : decode cX5_add 21 = .ok (.getfield 15, 3) := by decide +kernel
theorem dX5_add_24 : decode cX5_add 24 = .ok (.aload_n 0, 1) := by decide +kernel
theorem dX5_add_25 : decode cX5_add 25 = .ok (.getfield 25, 3) := by decide +kernel
theorem dX5_add_28 : decode cX5_add 28 = .ok (.iload_n 2, 1) := by decide +kernel
theorem dX5_add_29 : decode cX5_add 29 = .ok (.iastore, 1) := by decide +kernel
theorem dX5_add_30 : decode cX5_add 30 = .ok (.aload_n 0, 1) := by decide +kernel
theorem dX5_add_31 : decode cX5_add 31 = .ok (.getfield 18, 3) := by decide +kernel
theorem dX5_add_34 : decode cX5_add 34 = .ok (.aload_n 0, 1) := by decide +kernel
theorem dX5_add_35 : decode cX5_add 35 = .ok (.getfield 25, 3) := by decide +kernel
theorem dX5_add_38 : decode cX5_add 38 = .ok (.iload_n 3, 1) := by decide +kernel
theorem dX5_add_39 : decode cX5_add 39 = .ok (.bastore, 1) := by decide +kernel
theorem dX5_add_40 : decode cX5_add 40 = .ok (.aload_n 0, 1) := by decide +kernel
theorem dX5_add_41 : decode cX5_add 41 = .ok (.getfield 22, 3) := by decide +kernel
theorem dX5_add_44 : decode cX5_add 44 = .ok (.aload_n 0, 1) := by decide +kernel
theorem dX5_add_45 : decode cX5_add 45 = .ok (.getfield 25, 3) := by decide +kernel
theorem dX5_add_48 : decode cX5_add 48 = .ok (.iload 4, 2) := by decide +kernel
theorem dX5_add_50 : decode cX5_add 50 = .ok (.iastore, 1) := by decide +kernel
theorem dX5_add_51 : decode cX5_add 51 = .ok (.aload_n 0, 1) := by decide +kernel
theorem dX5_add_52 : decode cX5_add 52 = .ok (.dup, 1) := by decide +kernel
theorem dX5_add_53 : decode cX5_add 53 = .ok (.getfield 25, 3) := by decide +kernel
theorem dX5_add_56 : decode cX5_add 56 = .ok (.iconst 1, 1) := by decide +kernel
theorem dX5_add_57 : decode cX5_add 57 = .ok (.iadd, 1) := by decide +kernel
theorem dX5_add_58 : decode cX5_add 58 = .ok (.putfield 25, 3) := by decide +kernel
theorem dX5_add_61 : decode cX5_add 61 = .ok (.iconst 1, 1) := by decide +kernel
theorem dX5_add_62 : decode cX5_add 62 = .ok (.ireturn, 1) := by decide +kernel
theorem dX5_isFirstDue_0 : decode cX5_isFirstDue 0 = .ok (.aload_n 0, 1) := by decide +kernel
theorem dX5_isFirstDue_1 : decode cX5_isFirstDue 1 = .ok (.getfield 25, 3) := by decide +kernel
theorem dX5_isFirstDue_4 : decode cX5_isFirstDue 4 = .ok (.ifCond .le 16, 3) := by decide +kernel
theorem dX5_isFirstDue_7 : decode cX5_isFirstDue 7 = .ok (.aload_n 0, 1) := by decide +kernel
theorem dX5_isFirstDue_8 : decode cX5_isFirstDue 8 = .ok (.getfield 22, 3) := by decide +kernel
theorem dX5_isFirstDue_11 : decode cX5_isFirstDue 11 = .ok (.iconst 0, 1) := by decide +kernel
theorem dX5_isFirstDue_12 : decode cX5_isFirstDue 12 = .ok (.iaload, 1) := by decide +kernel
theorem dX5_isFirstDue_13 : decode cX5_isFirstDue 13 = .ok (.ifCond .ne 7, 3) := by decide +kernel
theorem dX5_isFirstDue_16 : decode cX5_isFirstDue 16 = .ok (.iconst 1, 1) := by decide +kernel
theorem dX5_isFirstDue_17 : decode cX5_isFirstDue 17 = .ok (.goto 4, 3) := by decide +kernel
theorem dX5_isFirstDue_20 : decode cX5_isFirstDue 20 = .ok (.iconst 0, 1) := by decide +kernel
theorem dX5_isFirstDue_21 : decode cX5_isFirstDue 21 = .ok (.ireturn, 1) := by decide +kernel
theorem dX5_removeFirst_0 : decode cX5_removeFirst 0 = .ok (.iconst 1, 1) := by decide +kernel
theorem dX5_removeFirst_1 : decode cX5_removeFirst 1 = .ok (.istore_n 1, 1) := by decide +kernel
theorem dX5_removeFirst_2 : decode cX5_removeFirst 2 = .ok (.iload_n 1, 1) := by decide +kernel
theorem dX5_removeFirst_3 : decode cX5_removeFirst 3 = .ok (.aload_n 0, 1) := by decide +kernel
theorem dX5_removeFirst_4 : decode cX5_removeFirst 4 = .ok (.getfield 25, 3) := by decide +kernel
theorem dX5_removeFirst_7 : decode cX5_removeFirst 7 = .ok (.if_icmp .ge 65, 3) := by decide +kernel
theorem dX5_removeFirst_10 : decode cX5_removeFirst 10 = .ok (.aload_n 0, 1) := by decide +kernel
theorem dX5_removeFirst_11 : decode cX5_removeFirst 11 = .ok (.getfield 9, 3) := by decide +kernel
theorem dX5_removeFirst_14 : decode cX5_removeFirst 14 = .ok (.iload_n 1, 1) := by decide +kernel
theorem dX5_removeFirst_15 : decode cX5_removeFirst 15 = .ok (.iconst 1, 1) := by decide +kernel
theorem dX5_removeFirst_16 : decode cX5_removeFirst 16 = .ok (.isub, 1) := by decide +kernel
theorem dX5_removeFirst_17 : decode cX5_removeFirst 17 = .ok (.aload_n 0, 1) := by decide +kernel
theorem dX5_removeFirst_18 : decode cX5_removeFirst 18 = .ok (.getfield 9, 3) := by decide +kernel
theorem dX5_removeFirst_21 : decode cX5_removeFirst 21 = .ok (.iload_n 1, 1) := by decide +kernel
theorem dX5_removeFirst_22 : decode cX5_removeFirst 22 = .ok (.iaload, 1) := by decide +kernel
theorem dX5_removeFirst_23 : decode cX5_removeFirst 23 = .ok (.iastore, 1) := by decide +kernel
theorem dX5_removeFirst_24 : decode cX5_removeFirst 24 = .ok (.aload_n 0, 1) := by decide +kernel
theorem dX5_removeFirst_25 : decode cX5_removeFirst 25 = .ok (.getfield 15, 3) := by decide +kernel
theorem dX5_removeFirst_28 : decode cX5_removeFirst 28 = .ok (.iload_n 1, 1) := by decide +kernel
theorem dX5_removeFirst_29 : decode cX5_removeFirst 29 = .ok (.iconst 1, 1) := by decide +kernel
theorem dX5_removeFirst_30 : decode cX5_removeFirst 30 = .ok (.isub, 1) := by decide +kernel
theorem dX5_removeFirst_31 : decode cX5_removeFirst 31 = .ok (.aload_n 0, 1) := by decide +kernel
theorem dX5_removeFirst_32 : decode cX5_removeFirst 32 = .ok (.getfield 15, 3) := by decide +kernel
theorem dX5_removeFirst_35 : decode cX5_removeFirst 35 = .ok (.iload_n 1, 1) := by decide +kernel
theorem dX5_removeFirst_36 : decode cX5_removeFirst 36 = .ok (.iaload, 1) := by decide +kernel
theorem dX5_removeFirst_37 : decode cX5_removeFirst 37 = .ok (.iastore, 1) := by decide +kernel
theorem dX5_removeFirst_38 : decode cX5_removeFirst 38 = .ok (.aload_n 0, 1) := by decide +kernel
theorem dX5_removeFirst_39 : decode cX5_removeFirst 39 = .ok (.getfield 18, 3) := by decide +kernel
theorem dX5_removeFirst_42 : decode cX5_removeFirst 42 = .ok (.iload_n 1, 1) := by decide +kernel
theorem dX5_removeFirst_43 : decode cX5_removeFirst 43 = .ok (.iconst 1, 1) := by decide +kernel
theorem dX5_removeFirst_44 : decode cX5_removeFirst 44 = .ok (.isub, 1) := by decide +kernel
theorem dX5_removeFirst_45 : decode cX5_removeFirst 45 = .ok (.aload_n 0, 1) := by decide +kernel
theorem dX5_removeFirst_46 : decode cX5_removeFirst 46 = .ok (.getfield 18, 3) := by decide +kernel
theorem dX5_removeFirst_49 : decode cX5_removeFirst 49 = .ok (.iload_n 1, 1) := by decide +kernel
theorem dX5_removeFirst_50 : decode cX5_removeFirst 50 = .ok (.baload, 1) := by decide +kernel
theorem dX5_removeFirst_51 : decode cX5_removeFirst 51 = .ok (.bastore, 1) := by decide +kernel
theorem dX5_removeFirst_52 : decode cX5_removeFirst 52 = .ok (.aload_n 0, 1) := by decide +kernel
theorem dX5_removeFirst_53 : decode cX5_removeFirst 53 = .ok (.getfield 22, 3) := by decide +kernel
theorem dX5_removeFirst_56 : decode cX5_removeFirst 56 = .ok (.iload_n 1, 1) := by decide +kernel
theorem dX5_removeFirst_57 : decode cX5_removeFirst 57 = .ok (.iconst 1, 1) := by decide +kernel
theorem dX5_removeFirst_58 : decode cX5_removeFirst 58 = .ok (.isub, 1) := by decide +kernel
theorem dX5_removeFirst_59 : decode cX5_removeFirst 59 = .ok (.aload_n 0, 1) := by decide +kernel
theorem dX5_removeFirst_60 : decode cX5_removeFirst 60 = .ok (.getfield 22, 3) := by decide +kernel
theorem dX5_removeFirst_63 : decode cX5_removeFirst 63 = .ok (.iload_n 1, 1) := by decide +kernel
theorem dX5_removeFirst_64 : decode cX5_removeFirst 64 = .ok (.iaload, 1) := by decide +kernel
theorem dX5_removeFirst_65 : decode cX5_removeFirst 65 = .ok (.iastore, 1) := by decide +kernel
theorem dX5_removeFirst_66 : decode cX5_removeFirst 66 = .ok (.iinc 1 1, 3) := by decide +kernel
theorem dX5_removeFirst_69 : decode cX5_removeFirst 69 = .ok (.goto (-67), 3) := by decide +kernel
theorem dX5_removeFirst_72 : decode cX5_removeFirst 72 = .ok (.aload_n 0, 1) := by decide +kernel
theorem dX5_removeFirst_73 : decode cX5_removeFirst 73 = .ok (.iconst 0, 1) := by decide +kernel
theorem dX5_removeFirst_74 : decode cX5_removeFirst 74 = .ok (.aload_n 0, 1) := by decide +kernel
theorem dX5_removeFirst_75 : decode cX5_removeFirst 75 = .ok (.getfield 25, 3) := by decide +kernel
theorem dX5_removeFirst_78 : decode cX5_removeFirst 78 = .ok (.iconst 1, 1) := by decide +kernel
theorem dX5_removeFirst_79 : decode cX5_removeFirst 79 = .ok (.isub, 1) := by decide +kernel
theorem dX5_removeFirst_80 : decode cX5_removeFirst 80 = .ok (.invokestatic 29, 3) := by decide +kernel
theorem dX5_removeFirst_83 : decode cX5_removeFirst 83 = .ok (.putfield 25, 3) := by decide +kernel
theorem dX5_removeFirst_86 : decode cX5_removeFirst 86 = .ok (.return_, 1) := by decide +kernel
theorem dX5_byteHasGone_0 : decode cX5_byteHasGone 0 = .ok (.iconst 0, 1) := by decide +kernel
theorem dX5_byteHasGone_1 : decode cX5_byteHasGone 1 = .ok (.istore_n 1, 1) := by decide +kernel
theorem dX5_byteHasGone_2 : decode cX5_byteHasGone 2 = .ok (.iload_n 1, 1) := by decide +kernel
theorem dX5_byteHasGone_3 : decode cX5_byteHasGone 3 = .ok (.aload_n 0, 1) := by decide +kernel
theorem dX5_byteHasGone_4 : decode cX5_byteHasGone 4 = .ok (.getfield 25, 3) := by decide +kernel
theorem dX5_byteHasGone_7 : decode cX5_byteHasGone 7 = .ok (.if_icmp .ge 27, 3) := by decide +kernel
theorem dX5_byteHasGone_10 : decode cX5_byteHasGone 10 = .ok (.aload_n 0, 1) := by decide +kernel
theorem dX5_byteHasGone_11 : decode cX5_byteHasGone 11 = .ok (.getfield 22, 3) := by decide +kernel
theorem dX5_byteHasGone_14 : decode cX5_byteHasGone 14 = .ok (.iload_n 1, 1) := by decide +kernel
theorem dX5_byteHasGone_15 : decode cX5_byteHasGone 15 = .ok (.iconst 0, 1) := by decide +kernel
theorem dX5_byteHasGone_16 : decode cX5_byteHasGone 16 = .ok (.aload_n 0, 1) := by decide +kernel
theorem dX5_byteHasGone_17 : decode cX5_byteHasGone 17 = .ok (.getfield 22, 3) := by decide +kernel
theorem dX5_byteHasGone_20 : decode cX5_byteHasGone 20 = .ok (.iload_n 1, 1) := by decide +kernel
theorem dX5_byteHasGone_21 : decode cX5_byteHasGone 21 = .ok (.iaload, 1) := by decide +kernel
theorem dX5_byteHasGone_22 : decode cX5_byteHasGone 22 = .ok (.iconst 1, 1) := by decide +kernel
theorem dX5_byteHasGone_23 : decode cX5_byteHasGone 23 = .ok (.isub, 1) := by decide +kernel
theorem dX5_byteHasGone_24 : decode cX5_byteHasGone 24 = .ok (.invokestatic 29, 3) := by decide +kernel
theorem dX5_byteHasGone_27 : decode cX5_byteHasGone 27 = .ok (.iastore, 1) := by decide +kernel
theorem dX5_byteHasGone_28 : decode cX5_byteHasGone 28 = .ok (.iinc 1 1, 3) := by decide +kernel
theorem dX5_byteHasGone_31 : decode cX5_byteHasGone 31 = .ok (.goto (-29), 3) := by decide +kernel
theorem dX5_byteHasGone_34 : decode cX5_byteHasGone 34 = .ok (.return_, 1) := by decide +kernel
theorem dX5_onlyLeft_0 : decode cX5_onlyLeft 0 = .ok (.iconst 0, 1) := by decide +kernel
theorem dX5_onlyLeft_1 : decode cX5_onlyLeft 1 = .ok (.istore_n 2, 1) := by decide +kernel
theorem dX5_onlyLeft_2 : decode cX5_onlyLeft 2 = .ok (.iload_n 2, 1) := by decide +kernel
theorem dX5_onlyLeft_3 : decode cX5_onlyLeft 3 = .ok (.aload_n 0, 1) := by decide +kernel
theorem dX5_onlyLeft_4 : decode cX5_onlyLeft 4 = .ok (.getfield 25, 3) := by decide +kernel
theorem dX5_onlyLeft_7 : decode cX5_onlyLeft 7 = .ok (.if_icmp .ge 25, 3) := by decide +kernel
theorem dX5_onlyLeft_10 : decode cX5_onlyLeft 10 = .ok (.aload_n 0, 1) := by decide +kernel
theorem dX5_onlyLeft_11 : decode cX5_onlyLeft 11 = .ok (.getfield 22, 3) := by decide +kernel
theorem dX5_onlyLeft_14 : decode cX5_onlyLeft 14 = .ok (.iload_n 2, 1) := by decide +kernel
theorem dX5_onlyLeft_15 : decode cX5_onlyLeft 15 = .ok (.aload_n 0, 1) := by decide +kernel
theorem dX5_onlyLeft_16 : decode cX5_onlyLeft 16 = .ok (.getfield 22, 3) := by decide +kernel
theorem dX5_onlyLeft_19 : decode cX5_onlyLeft 19 = .ok (.iload_n 2, 1) := by decide +kernel
theorem dX5_onlyLeft_20 : decode cX5_onlyLeft 20 = .ok (.iaload, 1) := by decide +kernel
theorem dX5_onlyLeft_21 : decode cX5_onlyLeft 21 = .ok (.iload_n 1, 1) := by decide +kernel
theorem dX5_onlyLeft_22 : decode cX5_onlyLeft 22 = .ok (.invokestatic 35, 3) := by decide +kernel
theorem dX5_onlyLeft_25 : decode cX5_onlyLeft 25 = .ok (.iastore, 1) := by decide +kernel
theorem dX5_onlyLeft_26 : decode cX5_onlyLeft 26 = .ok (.iinc 2 1, 3) := by decide +kernel
theorem dX5_onlyLeft_29 : decode cX5_onlyLeft 29 = .ok (.goto (-27), 3) := by decide +kernel
theorem dX5_onlyLeft_32 : decode cX5_onlyLeft 32 = .ok (.return_, 1) := by decide +kernel
end
section
set_option maxRecDepth 100000 in
set_option maxHeartbeats 4000000 in
theorem c_X3_fits (l : Launch) (D : va_G) (g : GA) (hg : Inj g) (x : St) (hI : Inv x) (c n : Nat) (hr : IsRow g c n) (more : Int32) : Met l yX3_fits wsX3_fits ({ frames := 0, cells := 0, slots := 0, locals := 0 } : Room) (va_Pc [.ref (g.1 c), .int more] (WI D g x)) (va_Qi (fun r x2 => x2 = x ∧ ((r.toInt = 1 ∧ more.toInt ≤ n - (x c 2).toInt) ∨ (r.toInt = 0 ∧ n - (x c 2).toInt < more.toInt))) (WO D g) (AQ g)) 0 0 (AQ g) := by
  refine w_met (cc := cX3_fits) (maxL := 2) (ret := (some .boolean)) (own := RX3) (by decide) rfl rfl (Nat.le_of_ble_eq_true rfl) (fun p e s m below meth co S hr0 hlk hK hN hP hS ls hl => ?_)
  have hts := S.2.2.2.2
  have hl : lv_has ls 2 [(0, .ref (g.1 c)), (1, .int more)] := hl
  have hn := hr.2.2.2.1
  refine lv_iload_n S.1 S.2.1 dX3_fits_0 rfl (lv_at hl 1 rfl) ?_
  refine lv_aload_n S.1 S.2.1 dX3_fits_1 rfl (lv_at hl 0 rfl) ?_
  refine w_get (C := RX3) (T := TX3) (N := 3) S (fun _ h => List.mem_cons_of_mem _ (List.mem_append_right _ h)) hK hP c hr.lt (hr.2.1 _) rfl 0 (by decide) (hts _ (List.mem_of_getElem? (i := 1) rfl)) (v := .ref (g.1 (c + 1))) rfl dX3_fits_2 ?_
  refine w_alen S hK hP (c + 1) hr.lt1 hr.2.2.1 (by have := hr.2.2.2.1; omega) dX3_fits_5 (fun v1 hv1 => ?_)
  refine lv_aload_n S.1 S.2.1 dX3_fits_6 rfl (lv_at hl 0 rfl) ?_
  refine w_get (C := RX3) (T := TX3) (N := 3) S (fun _ h => List.mem_cons_of_mem _ (List.mem_append_right _ h)) hK hP c hr.lt (hr.2.1 _) rfl 2 (by decide) (hts _ (List.mem_of_getElem? (i := 2) rfl)) (v := .int (x c 2)) rfl dX3_fits_7 ?_
  refine lv_topi (fun v2 ev2 => ?_)
  have wv2 : v2.toInt = (x c 2).toInt := by rw [ev2]
  have rv2 := hr.size hI; rw [← ev2] at rv2
  refine w_isub S dX3_fits_10 (by omega) (by omega) (fun v3 hv3 => ?_)
  refine w_icmp_gt (tgt := 18) S dX3_fits_11 (by decide) (fun hb4 => ?_) (fun hb4 => ?_)
  · refine w_iconst S dX3_fits_18 (by decide) (fun k5 hk5 => ?_)
    exact w_zret S hr0 hlk hP hS dX3_fits_19 (z01 (by omega) (by omega)) (⟨rfl, by omega⟩)
  · refine w_iconst S dX3_fits_14 (by decide) (fun k6 hk6 => ?_)
    refine lv_goto (tgt := 19) S.1 S.2.1 dX3_fits_15 (by decide) ?_
    exact w_zret S hr0 hlk hP hS dX3_fits_19 (z01 (by omega) (by omega)) (⟨rfl, by omega⟩)
set_option maxRecDepth 100000 in
set_option maxHeartbeats 4000000 in
theorem c_X3_add (l : Launch) (D : va_G) (g : GA) (hg : Inj g) (x : St) (hI : Inv x) (c n : Nat) (hr : IsRow g c n) (b : Int32) : Met l yX3_add wsX3_add ({ frames := 0, cells := 0, slots := 0, locals := 0 } : Room) (va_Pc [.ref (g.1 c), .int b] (WI D g x)) (va_Qv (fun x2 => Inv x2 ∧ Same (TR c) x x2 ∧ ((x c 2).toInt < n → (x2 c 2).toInt = (x c 2).toInt + 1) ∧ ((x c 2).toInt = n → (x2 c 2).toInt = (x c 2).toInt)) (WO D g) (AQ g)) 0 0 (AQ g) := by
  refine w_met (cc := cX3_add) (maxL := 3) (ret := none) (own := RX3) (by decide) rfl rfl (Nat.le_of_ble_eq_true rfl) (fun p e s m below meth co S hr0 hlk hK hN hP hS ls hl => ?_)
  have hts := S.2.2.2.2
  have hl : lv_has ls 3 [(0, .ref (g.1 c)), (1, .int b)] := hl
  have hT : Same (TR c) x x := Same.rf
  have hn := hr.2.2.2.1
  refine lv_aload_n S.1 S.2.1 dX3_add_0 rfl (lv_at hl 0 rfl) ?_
  refine w_get (C := RX3) (T := TX3) (N := 3) S (fun _ h => List.mem_cons_of_mem _ (List.mem_append_right _ h)) hK hP c hr.lt (hr.2.1 _) rfl 2 (by decide) (hts _ (List.mem_of_getElem? (i := 1) rfl)) (v := .int (x c 2)) rfl dX3_add_1 ?_
  refine lv_topi (fun v1 ev1 => ?_)
  have wv1 : v1.toInt = (x c 2).toInt := by rw [ev1]
  have rv1 := hr.size hI; rw [← ev1] at rv1
  refine lv_aload_n S.1 S.2.1 dX3_add_4 rfl (lv_at hl 0 rfl) ?_
  refine w_get (C := RX3) (T := TX3) (N := 3) S (fun _ h => List.mem_cons_of_mem _ (List.mem_append_right _ h)) hK hP c hr.lt (hr.2.1 _) rfl 0 (by decide) (hts _ (List.mem_of_getElem? (i := 2) rfl)) (v := .ref (g.1 (c + 1))) rfl dX3_add_5 ?_
  refine w_alen S hK hP (c + 1) hr.lt1 hr.2.2.1 (by have := hr.2.2.2.1; omega) dX3_add_8 (fun v2 hv2 => ?_)
  refine w_icmp_ge (tgt := 58) S dX3_add_9 (by decide) (fun hb3 => ?_) (fun hb3 => ?_)
  · exact w_vret S hr0 hlk hP hS dX3_add_58 (⟨hI, hT, by omega, by omega⟩)
  · refine lv_aload_n S.1 S.2.1 dX3_add_12 rfl (lv_at hl 0 rfl) ?_
    refine w_get (C := RX3) (T := TX3) (N := 3) S (fun _ h => List.mem_cons_of_mem _ (List.mem_append_right _ h)) hK hP c hr.lt (hr.2.1 _) rfl 1 (by decide) (hts _ (List.mem_of_getElem? (i := 3) rfl)) (v := .int (x c 1)) rfl dX3_add_13 ?_
    refine lv_topi (fun v4 ev4 => ?_)
    have wv4 : v4.toInt = (x c 1).toInt := by rw [ev4]
    have rv4 := hr.first hI; rw [← ev4] at rv4
    refine lv_aload_n S.1 S.2.1 dX3_add_16 rfl (lv_at hl 0 rfl) ?_
    refine w_get (C := RX3) (T := TX3) (N := 3) S (fun _ h => List.mem_cons_of_mem _ (List.mem_append_right _ h)) hK hP c hr.lt (hr.2.1 _) rfl 2 (by decide) (hts _ (List.mem_of_getElem? (i := 1) rfl)) (v := .int (x c 2)) rfl dX3_add_17 ?_
    refine lv_topi (fun v5 ev5 => ?_)
    have wv5 : v5.toInt = (x c 2).toInt := by rw [ev5]
    have rv5 := hr.size hI; rw [← ev5] at rv5
    refine w_iadd S dX3_add_20 (by omega) (by omega) (fun v6 hv6 => ?_)
    refine lv_istore_n (lv' := [(2, .int v6), (0, .ref (g.1 c)), (1, .int b)]) S.1 S.2.1 dX3_add_21 rfl hl (by decide) rfl (fun ls hl => ?_)
    refine lv_aload_n S.1 S.2.1 dX3_add_22 rfl (lv_at hl 1 rfl) ?_
    refine w_get (C := RX3) (T := TX3) (N := 3) S (fun _ h => List.mem_cons_of_mem _ (List.mem_append_right _ h)) hK hP c hr.lt (hr.2.1 _) rfl 0 (by decide) (hts _ (List.mem_of_getElem? (i := 2) rfl)) (v := .ref (g.1 (c + 1))) rfl dX3_add_23 ?_
    refine lv_iload_n S.1 S.2.1 dX3_add_26 rfl (lv_at hl 0 rfl) ?_
    refine lv_aload_n S.1 S.2.1 dX3_add_27 rfl (lv_at hl 1 rfl) ?_
    refine w_get (C := RX3) (T := TX3) (N := 3) S (fun _ h => List.mem_cons_of_mem _ (List.mem_append_right _ h)) hK hP c hr.lt (hr.2.1 _) rfl 0 (by decide) (hts _ (List.mem_of_getElem? (i := 2) rfl)) (v := .ref (g.1 (c + 1))) rfl dX3_add_28 ?_
    refine w_alen S hK hP (c + 1) hr.lt1 hr.2.2.1 (by have := hr.2.2.2.1; omega) dX3_add_31 (fun v7 hv7 => ?_)
    refine w_icmp_ge (tgt := 39) S dX3_add_32 (by decide) (fun hb8 => ?_) (fun hb8 => ?_)
    · refine lv_iload_n S.1 S.2.1 dX3_add_39 rfl (lv_at hl 0 rfl) ?_
      refine lv_aload_n S.1 S.2.1 dX3_add_40 rfl (lv_at hl 1 rfl) ?_
      refine w_get (C := RX3) (T := TX3) (N := 3) S (fun _ h => List.mem_cons_of_mem _ (List.mem_append_right _ h)) hK hP c hr.lt (hr.2.1 _) rfl 0 (by decide) (hts _ (List.mem_of_getElem? (i := 2) rfl)) (v := .ref (g.1 (c + 1))) rfl dX3_add_41 ?_
      refine w_alen S hK hP (c + 1) hr.lt1 hr.2.2.1 (by have := hr.2.2.2.1; omega) dX3_add_44 (fun v9 hv9 => ?_)
      refine w_isub S dX3_add_45 (by omega) (by omega) (fun v10 hv10 => ?_)
      refine lv_iload_n S.1 S.2.1 dX3_add_46 rfl (lv_at hl 2 rfl) ?_
      refine w_iast S hK hg hP hS (c + 1) hr.lt1 hr.2.2.1 (by omega) (by omega) dX3_add_47 (fun x11 H locs ex11 hP hS => ?_)
      have hI12 : Inv x11 := by rw [ex11]; exact hr.upA hI
      have hT13 : Same (TR c) x x11 := by rw [ex11]; exact hT.up (by unfold TR; omega)
      have u14 : (x11 c 1).toInt = (x c 1).toInt := by rw [ex11, up2_ne _ _ (by omega)]
      have u15 : (x11 c 2).toInt = (x c 2).toInt := by rw [ex11, up2_ne _ _ (by omega)]
      refine lv_aload_n S.1 S.2.1 dX3_add_48 rfl (lv_at hl 1 rfl) ?_
      refine lv_dup S.1 S.2.1 dX3_add_49 rfl ?_
      refine w_get (C := RX3) (T := TX3) (N := 3) S (fun _ h => List.mem_cons_of_mem _ (List.mem_append_right _ h)) hK hP c hr.lt (hr.2.1 _) rfl 2 (by decide) (hts _ (List.mem_of_getElem? (i := 1) rfl)) (v := .int (x11 c 2)) rfl dX3_add_50 ?_
      refine lv_topi (fun v16 ev16 => ?_)
      have wv16 : v16.toInt = (x11 c 2).toInt := by rw [ev16]
      have rv16 := hr.size hI12; rw [← ev16] at rv16
      refine w_iconst S dX3_add_53 (by decide) (fun k17 hk17 => ?_)
      refine w_iadd S dX3_add_54 (by omega) (by omega) (fun v18 hv18 => ?_)
      refine w_put (C := RX3) (T := TX3) (N := 3) (F := FRow g (c + 1)) S (fun _ h => List.mem_cons_of_mem _ (List.mem_append_right _ h)) tyX3_ok nmX3 hK hg hP hS c hr.lt hr.2.1 rfl 2 (by decide) (hts _ (List.mem_of_getElem? (i := 1) rfl)) rfl rfl rfl (fun _ => Nat.le_of_ble_eq_true rfl) (fun _ => rfl) dX3_add_55 (fun x19 H locs ex19 hP hS => ?_)
      have hI20 : Inv x19 := by rw [ex19]; exact hr.upS hI12 (by omega) (by omega)
      have hT21 : Same (TR c) x x19 := by rw [ex19]; exact hT13.up (by unfold TR; omega)
      have u22 : (x19 c 1).toInt = (x11 c 1).toInt := by rw [ex19, up2_ne _ _ (by omega)]
      have u23 : (x19 c 2).toInt = v18.toInt := by rw [ex19, up2_at]
      exact w_vret S hr0 hlk hP hS dX3_add_58 (⟨hI20, hT21, by omega, by omega⟩)
    · refine lv_iload_n S.1 S.2.1 dX3_add_35 rfl (lv_at hl 0 rfl) ?_
      refine lv_goto (tgt := 46) S.1 S.2.1 dX3_add_36 (by decide) ?_
      refine lv_iload_n S.1 S.2.1 dX3_add_46 rfl (lv_at hl 2 rfl) ?_
      refine w_iast S hK hg hP hS (c + 1) hr.lt1 hr.2.2.1 (by omega) (by omega) dX3_add_47 (fun x24 H locs ex24 hP hS => ?_)
      have hI25 : Inv x24 := by rw [ex24]; exact hr.upA hI
      have hT26 : Same (TR c) x x24 := by rw [ex24]; exact hT.up (by unfold TR; omega)
      have u27 : (x24 c 1).toInt = (x c 1).toInt := by rw [ex24, up2_ne _ _ (by omega)]
      have u28 : (x24 c 2).toInt = (x c 2).toInt := by rw [ex24, up2_ne _ _ (by omega)]
      refine lv_aload_n S.1 S.2.1 dX3_add_48 rfl (lv_at hl 1 rfl) ?_
      refine lv_dup S.1 S.2.1 dX3_add_49 rfl ?_
      refine w_get (C := RX3) (T := TX3) (N := 3) S (fun _ h => List.mem_cons_of_mem _ (List.mem_append_right _ h)) hK hP c hr.lt (hr.2.1 _) rfl 2 (by decide) (hts _ (List.mem_of_getElem? (i := 1) rfl)) (v := .int (x24 c 2)) rfl dX3_add_50 ?_
      refine lv_topi (fun v29 ev29 => ?_)
      have wv29 : v29.toInt = (x24 c 2).toInt := by rw [ev29]
      have rv29 := hr.size hI25; rw [← ev29] at rv29
      refine w_iconst S dX3_add_53 (by decide) (fun k30 hk30 => ?_)
      refine w_iadd S dX3_add_54 (by omega) (by omega) (fun v31 hv31 => ?_)
      refine w_put (C := RX3) (T := TX3) (N := 3) (F := FRow g (c + 1)) S (fun _ h => List.mem_cons_of_mem _ (List.mem_append_right _ h)) tyX3_ok nmX3 hK hg hP hS c hr.lt hr.2.1 rfl 2 (by decide) (hts _ (List.mem_of_getElem? (i := 1) rfl)) rfl rfl rfl (fun _ => Nat.le_of_ble_eq_true rfl) (fun _ => rfl) dX3_add_55 (fun x32 H locs ex32 hP hS => ?_)
      have hI33 : Inv x32 := by rw [ex32]; exact hr.upS hI25 (by omega) (by omega)
      have hT34 : Same (TR c) x x32 := by rw [ex32]; exact hT26.up (by unfold TR; omega)
      have u35 : (x32 c 1).toInt = (x24 c 1).toInt := by rw [ex32, up2_ne _ _ (by omega)]
      have u36 : (x32 c 2).toInt = v31.toInt := by rw [ex32, up2_at]
      exact w_vret S hr0 hlk hP hS dX3_add_58 (⟨hI33, hT34, by omega, by omega⟩)
set_option maxRecDepth 100000 in
set_option maxHeartbeats 4000000 in
theorem c_X3_at (l : Launch) (D : va_G) (g : GA) (hg : Inj g) (x : St) (hI : Inv x) (c n : Nat) (hr : IsRow g c n) (k : Int32) : Met l yX3_at wsX3_at ({ frames := 0, cells := 0, slots := 0, locals := 0 } : Room) (va_Pc [.ref (g.1 c), .int k] (WI D g x)) (va_Qi (fun _ x2 => x2 = x ∧ True) (WO D g) (AQ g)) 0 0 (AQ g) := by
  refine w_met (cc := cX3_at) (maxL := 3) (ret := (some .int)) (own := RX3) (by decide) rfl rfl (Nat.le_of_ble_eq_true rfl) (fun p e s m below meth co S hr0 hlk hK hN hP hS ls hl => ?_)
  have hts := S.2.2.2.2
  have hl : lv_has ls 3 [(0, .ref (g.1 c)), (1, .int k)] := hl
  have hn := hr.2.2.2.1
  refine lv_iload_n S.1 S.2.1 dX3_at_0 rfl (lv_at hl 1 rfl) ?_
  refine w_if_lt (tgt := 12) S dX3_at_1 (by decide) (fun hb1 => ?_) (fun hb1 => ?_)
  · refine w_iconst S dX3_at_12 (by decide) (fun k2 hk2 => ?_)
    exact w_iret S hr0 hlk hP hS dX3_at_13 (⟨rfl, trivial⟩)
  · refine lv_iload_n S.1 S.2.1 dX3_at_4 rfl (lv_at hl 1 rfl) ?_
    refine lv_aload_n S.1 S.2.1 dX3_at_5 rfl (lv_at hl 0 rfl) ?_
    refine w_get (C := RX3) (T := TX3) (N := 3) S (fun _ h => List.mem_cons_of_mem _ (List.mem_append_right _ h)) hK hP c hr.lt (hr.2.1 _) rfl 2 (by decide) (hts _ (List.mem_of_getElem? (i := 1) rfl)) (v := .int (x c 2)) rfl dX3_at_6 ?_
    refine lv_topi (fun v3 ev3 => ?_)
    have wv3 : v3.toInt = (x c 2).toInt := by rw [ev3]
    have rv3 := hr.size hI; rw [← ev3] at rv3
    refine w_icmp_lt (tgt := 14) S dX3_at_9 (by decide) (fun hb4 => ?_) (fun hb4 => ?_)
    · refine lv_aload_n S.1 S.2.1 dX3_at_14 rfl (lv_at hl 0 rfl) ?_
      refine w_get (C := RX3) (T := TX3) (N := 3) S (fun _ h => List.mem_cons_of_mem _ (List.mem_append_right _ h)) hK hP c hr.lt (hr.2.1 _) rfl 1 (by decide) (hts _ (List.mem_of_getElem? (i := 2) rfl)) (v := .int (x c 1)) rfl dX3_at_15 ?_
      refine lv_topi (fun v5 ev5 => ?_)
      have wv5 : v5.toInt = (x c 1).toInt := by rw [ev5]
      have rv5 := hr.first hI; rw [← ev5] at rv5
      refine lv_iload_n S.1 S.2.1 dX3_at_18 rfl (lv_at hl 1 rfl) ?_
      refine w_iadd S dX3_at_19 (by omega) (by omega) (fun v6 hv6 => ?_)
      refine lv_istore_n (lv' := [(2, .int v6), (0, .ref (g.1 c)), (1, .int k)]) S.1 S.2.1 dX3_at_20 rfl hl (by decide) rfl (fun ls hl => ?_)
      refine lv_aload_n S.1 S.2.1 dX3_at_21 rfl (lv_at hl 1 rfl) ?_
      refine w_get (C := RX3) (T := TX3) (N := 3) S (fun _ h => List.mem_cons_of_mem _ (List.mem_append_right _ h)) hK hP c hr.lt (hr.2.1 _) rfl 0 (by decide) (hts _ (List.mem_of_getElem? (i := 3) rfl)) (v := .ref (g.1 (c + 1))) rfl dX3_at_22 ?_
      refine lv_iload_n S.1 S.2.1 dX3_at_25 rfl (lv_at hl 0 rfl) ?_
      refine lv_aload_n S.1 S.2.1 dX3_at_26 rfl (lv_at hl 1 rfl) ?_
      refine w_get (C := RX3) (T := TX3) (N := 3) S (fun _ h => List.mem_cons_of_mem _ (List.mem_append_right _ h)) hK hP c hr.lt (hr.2.1 _) rfl 0 (by decide) (hts _ (List.mem_of_getElem? (i := 3) rfl)) (v := .ref (g.1 (c + 1))) rfl dX3_at_27 ?_
      refine w_alen S hK hP (c + 1) hr.lt1 hr.2.2.1 (by have := hr.2.2.2.1; omega) dX3_at_30 (fun v7 hv7 => ?_)
      refine w_icmp_ge (tgt := 38) S dX3_at_31 (by decide) (fun hb8 => ?_) (fun hb8 => ?_)
      · refine lv_iload_n S.1 S.2.1 dX3_at_38 rfl (lv_at hl 0 rfl) ?_
        refine lv_aload_n S.1 S.2.1 dX3_at_39 rfl (lv_at hl 1 rfl) ?_
        refine w_get (C := RX3) (T := TX3) (N := 3) S (fun _ h => List.mem_cons_of_mem _ (List.mem_append_right _ h)) hK hP c hr.lt (hr.2.1 _) rfl 0 (by decide) (hts _ (List.mem_of_getElem? (i := 3) rfl)) (v := .ref (g.1 (c + 1))) rfl dX3_at_40 ?_
        refine w_alen S hK hP (c + 1) hr.lt1 hr.2.2.1 (by have := hr.2.2.2.1; omega) dX3_at_43 (fun v9 hv9 => ?_)
        refine w_isub S dX3_at_44 (by omega) (by omega) (fun v10 hv10 => ?_)
        refine w_iald S hK hP (c + 1) hr.lt1 hr.2.2.1 (by omega) (by omega) dX3_at_45 (fun v11 ev11 => ?_)
        have wv11 : v11.toInt = (x (c + 1) v10.toInt.toNat).toInt := by rw [ev11]
        exact w_iret S hr0 hlk hP hS dX3_at_46 (⟨rfl, trivial⟩)
      · refine lv_iload_n S.1 S.2.1 dX3_at_34 rfl (lv_at hl 0 rfl) ?_
        refine lv_goto (tgt := 45) S.1 S.2.1 dX3_at_35 (by decide) ?_
        refine w_iald S hK hP (c + 1) hr.lt1 hr.2.2.1 (by omega) (by omega) dX3_at_45 (fun v12 ev12 => ?_)
        have wv12 : v12.toInt = (x (c + 1) v6.toInt.toNat).toInt := by rw [ev12]
        exact w_iret S hr0 hlk hP hS dX3_at_46 (⟨rfl, trivial⟩)
    · refine w_iconst S dX3_at_12 (by decide) (fun k13 hk13 => ?_)
      exact w_iret S hr0 hlk hP hS dX3_at_13 (⟨rfl, trivial⟩)
set_option maxRecDepth 100000 in
set_option maxHeartbeats 4000000 in
theorem c_X3_takeFirst (l : Launch) (D : va_G) (g : GA) (hg : Inj g) (x : St) (hI : Inv x) (c n : Nat) (hr : IsRow g c n) : Met l yX3_takeFirst wsX3_takeFirst ({ frames := 0, cells := 0, slots := 0, locals := 0 } : Room) (va_Pc [.ref (g.1 c)] (WI D g x)) (va_Qi (fun r x2 => Inv x2 ∧ Same (TR c) x x2 ∧ ((x c 2).toInt = 0 → r.toInt = -1 ∧ (x2 c 2).toInt = 0) ∧ (0 < (x c 2).toInt → (x2 c 2).toInt = (x c 2).toInt - 1)) (WO D g) (AQ g)) 0 0 (AQ g) := by
  refine w_met (cc := cX3_takeFirst) (maxL := 2) (ret := (some .int)) (own := RX3) (by decide) rfl rfl (Nat.le_of_ble_eq_true rfl) (fun p e s m below meth co S hr0 hlk hK hN hP hS ls hl => ?_)
  have hts := S.2.2.2.2
  have hl : lv_has ls 2 [(0, .ref (g.1 c))] := hl
  have hT : Same (TR c) x x := Same.rf
  have hn := hr.2.2.2.1
  refine lv_aload_n S.1 S.2.1 dX3_takeFirst_0 rfl (lv_at hl 0 rfl) ?_
  refine w_get (C := RX3) (T := TX3) (N := 3) S (fun _ h => List.mem_cons_of_mem _ (List.mem_append_right _ h)) hK hP c hr.lt (hr.2.1 _) rfl 2 (by decide) (hts _ (List.mem_of_getElem? (i := 1) rfl)) (v := .int (x c 2)) rfl dX3_takeFirst_1 ?_
  refine lv_topi (fun v1 ev1 => ?_)
  have wv1 : v1.toInt = (x c 2).toInt := by rw [ev1]
  have rv1 := hr.size hI; rw [← ev1] at rv1
  refine w_if_ne (tgt := 9) S dX3_takeFirst_4 (by decide) (fun hb2 => ?_) (fun hb2 => ?_)
  · refine lv_aload_n S.1 S.2.1 dX3_takeFirst_9 rfl (lv_at hl 0 rfl) ?_
    refine w_get (C := RX3) (T := TX3) (N := 3) S (fun _ h => List.mem_cons_of_mem _ (List.mem_append_right _ h)) hK hP c hr.lt (hr.2.1 _) rfl 0 (by decide) (hts _ (List.mem_of_getElem? (i := 2) rfl)) (v := .ref (g.1 (c + 1))) rfl dX3_takeFirst_10 ?_
    refine lv_aload_n S.1 S.2.1 dX3_takeFirst_13 rfl (lv_at hl 0 rfl) ?_
    refine w_get (C := RX3) (T := TX3) (N := 3) S (fun _ h => List.mem_cons_of_mem _ (List.mem_append_right _ h)) hK hP c hr.lt (hr.2.1 _) rfl 1 (by decide) (hts _ (List.mem_of_getElem? (i := 3) rfl)) (v := .int (x c 1)) rfl dX3_takeFirst_14 ?_
    refine lv_topi (fun v3 ev3 => ?_)
    have wv3 : v3.toInt = (x c 1).toInt := by rw [ev3]
    have rv3 := hr.first hI; rw [← ev3] at rv3
    refine w_iald S hK hP (c + 1) hr.lt1 hr.2.2.1 (by omega) (by omega) dX3_takeFirst_17 (fun v4 ev4 => ?_)
    have wv4 : v4.toInt = (x (c + 1) v3.toInt.toNat).toInt := by rw [ev4]
    refine lv_istore_n (lv' := [(1, .int v4), (0, .ref (g.1 c))]) S.1 S.2.1 dX3_takeFirst_18 rfl hl (by decide) rfl (fun ls hl => ?_)
    refine lv_aload_n S.1 S.2.1 dX3_takeFirst_19 rfl (lv_at hl 1 rfl) ?_
    refine lv_aload_n S.1 S.2.1 dX3_takeFirst_20 rfl (lv_at hl 1 rfl) ?_
    refine w_get (C := RX3) (T := TX3) (N := 3) S (fun _ h => List.mem_cons_of_mem _ (List.mem_append_right _ h)) hK hP c hr.lt (hr.2.1 _) rfl 1 (by decide) (hts _ (List.mem_of_getElem? (i := 3) rfl)) (v := .int (x c 1)) rfl dX3_takeFirst_21 ?_
    refine lv_topi (fun v5 ev5 => ?_)
    have wv5 : v5.toInt = (x c 1).toInt := by rw [ev5]
    have rv5 := hr.first hI; rw [← ev5] at rv5
    refine w_iconst S dX3_takeFirst_24 (by decide) (fun k6 hk6 => ?_)
    refine w_iadd S dX3_takeFirst_25 (by omega) (by omega) (fun v7 hv7 => ?_)
    refine lv_aload_n S.1 S.2.1 dX3_takeFirst_26 rfl (lv_at hl 1 rfl) ?_
    refine w_get (C := RX3) (T := TX3) (N := 3) S (fun _ h => List.mem_cons_of_mem _ (List.mem_append_right _ h)) hK hP c hr.lt (hr.2.1 _) rfl 0 (by decide) (hts _ (List.mem_of_getElem? (i := 2) rfl)) (v := .ref (g.1 (c + 1))) rfl dX3_takeFirst_27 ?_
    refine w_alen S hK hP (c + 1) hr.lt1 hr.2.2.1 (by have := hr.2.2.2.1; omega) dX3_takeFirst_30 (fun v8 hv8 => ?_)
    refine w_icmp_ge (tgt := 43) S dX3_takeFirst_31 (by decide) (fun hb9 => ?_) (fun hb9 => ?_)
    · refine w_iconst S dX3_takeFirst_43 (by decide) (fun k10 hk10 => ?_)
      refine w_put (C := RX3) (T := TX3) (N := 3) (F := FRow g (c + 1)) S (fun _ h => List.mem_cons_of_mem _ (List.mem_append_right _ h)) tyX3_ok nmX3 hK hg hP hS c hr.lt hr.2.1 rfl 1 (by decide) (hts _ (List.mem_of_getElem? (i := 3) rfl)) rfl rfl rfl (fun _ => Nat.le_of_ble_eq_true rfl) (fun _ => rfl) dX3_takeFirst_44 (fun x11 H locs ex11 hP hS => ?_)
      have hI12 : Inv x11 := by rw [ex11]; exact hr.upF hI (by omega) (by omega)
      have hT13 : Same (TR c) x x11 := by rw [ex11]; exact hT.up (by unfold TR; omega)
      have u14 : (x11 c 1).toInt = k10.toInt := by rw [ex11, up2_at]
      have u15 : (x11 c 2).toInt = (x c 2).toInt := by rw [ex11, up2_ne _ _ (by omega)]
      refine lv_aload_n S.1 S.2.1 dX3_takeFirst_47 rfl (lv_at hl 1 rfl) ?_
      refine lv_dup S.1 S.2.1 dX3_takeFirst_48 rfl ?_
      refine w_get (C := RX3) (T := TX3) (N := 3) S (fun _ h => List.mem_cons_of_mem _ (List.mem_append_right _ h)) hK hP c hr.lt (hr.2.1 _) rfl 2 (by decide) (hts _ (List.mem_of_getElem? (i := 1) rfl)) (v := .int (x11 c 2)) rfl dX3_takeFirst_49 ?_
      refine lv_topi (fun v16 ev16 => ?_)
      have wv16 : v16.toInt = (x11 c 2).toInt := by rw [ev16]
      have rv16 := hr.size hI12; rw [← ev16] at rv16
      refine w_iconst S dX3_takeFirst_52 (by decide) (fun k17 hk17 => ?_)
      refine w_isub S dX3_takeFirst_53 (by omega) (by omega) (fun v18 hv18 => ?_)
      refine w_put (C := RX3) (T := TX3) (N := 3) (F := FRow g (c + 1)) S (fun _ h => List.mem_cons_of_mem _ (List.mem_append_right _ h)) tyX3_ok nmX3 hK hg hP hS c hr.lt hr.2.1 rfl 2 (by decide) (hts _ (List.mem_of_getElem? (i := 1) rfl)) rfl rfl rfl (fun _ => Nat.le_of_ble_eq_true rfl) (fun _ => rfl) dX3_takeFirst_54 (fun x19 H locs ex19 hP hS => ?_)
      have hI20 : Inv x19 := by rw [ex19]; exact hr.upS hI12 (by omega) (by omega)
      have hT21 : Same (TR c) x x19 := by rw [ex19]; exact hT13.up (by unfold TR; omega)
      have u22 : (x19 c 1).toInt = (x11 c 1).toInt := by rw [ex19, up2_ne _ _ (by omega)]
      have u23 : (x19 c 2).toInt = v18.toInt := by rw [ex19, up2_at]
      refine lv_iload_n S.1 S.2.1 dX3_takeFirst_57 rfl (lv_at hl 0 rfl) ?_
      exact w_iret S hr0 hlk hP hS dX3_takeFirst_58 (⟨hI20, hT21, by omega, by omega⟩)
    · refine lv_aload_n S.1 S.2.1 dX3_takeFirst_34 rfl (lv_at hl 1 rfl) ?_
      refine w_get (C := RX3) (T := TX3) (N := 3) S (fun _ h => List.mem_cons_of_mem _ (List.mem_append_right _ h)) hK hP c hr.lt (hr.2.1 _) rfl 1 (by decide) (hts _ (List.mem_of_getElem? (i := 3) rfl)) (v := .int (x c 1)) rfl dX3_takeFirst_35 ?_
      refine lv_topi (fun v24 ev24 => ?_)
      have wv24 : v24.toInt = (x c 1).toInt := by rw [ev24]
      have rv24 := hr.first hI; rw [← ev24] at rv24
      refine w_iconst S dX3_takeFirst_38 (by decide) (fun k25 hk25 => ?_)
      refine w_iadd S dX3_takeFirst_39 (by omega) (by omega) (fun v26 hv26 => ?_)
      refine lv_goto (tgt := 44) S.1 S.2.1 dX3_takeFirst_40 (by decide) ?_
      refine w_put (C := RX3) (T := TX3) (N := 3) (F := FRow g (c + 1)) S (fun _ h => List.mem_cons_of_mem _ (List.mem_append_right _ h)) tyX3_ok nmX3 hK hg hP hS c hr.lt hr.2.1 rfl 1 (by decide) (hts _ (List.mem_of_getElem? (i := 3) rfl)) rfl rfl rfl (fun _ => Nat.le_of_ble_eq_true rfl) (fun _ => rfl) dX3_takeFirst_44 (fun x27 H locs ex27 hP hS => ?_)
      have hI28 : Inv x27 := by rw [ex27]; exact hr.upF hI (by omega) (by omega)
      have hT29 : Same (TR c) x x27 := by rw [ex27]; exact hT.up (by unfold TR; omega)
      have u30 : (x27 c 1).toInt = v26.toInt := by rw [ex27, up2_at]
      have u31 : (x27 c 2).toInt = (x c 2).toInt := by rw [ex27, up2_ne _ _ (by omega)]
      refine lv_aload_n S.1 S.2.1 dX3_takeFirst_47 rfl (lv_at hl 1 rfl) ?_
      refine lv_dup S.1 S.2.1 dX3_takeFirst_48 rfl ?_
      refine w_get (C := RX3) (T := TX3) (N := 3) S (fun _ h => List.mem_cons_of_mem _ (List.mem_append_right _ h)) hK hP c hr.lt (hr.2.1 _) rfl 2 (by decide) (hts _ (List.mem_of_getElem? (i := 1) rfl)) (v := .int (x27 c 2)) rfl dX3_takeFirst_49 ?_
      refine lv_topi (fun v32 ev32 => ?_)
      have wv32 : v32.toInt = (x27 c 2).toInt := by rw [ev32]
      have rv32 := hr.size hI28; rw [← ev32] at rv32
      refine w_iconst S dX3_takeFirst_52 (by decide) (fun k33 hk33 => ?_)
      refine w_isub S dX3_takeFirst_53 (by omega) (by omega) (fun v34 hv34 => ?_)
      refine w_put (C := RX3) (T := TX3) (N := 3) (F := FRow g (c + 1)) S (fun _ h => List.mem_cons_of_mem _ (List.mem_append_right _ h)) tyX3_ok nmX3 hK hg hP hS c hr.lt hr.2.1 rfl 2 (by decide) (hts _ (List.mem_of_getElem? (i := 1) rfl)) rfl rfl rfl (fun _ => Nat.le_of_ble_eq_true rfl) (fun _ => rfl) dX3_takeFirst_54 (fun x35 H locs ex35 hP hS => ?_)
      have hI36 : Inv x35 := by rw [ex35]; exact hr.upS hI28 (by omega) (by omega)
      have hT37 : Same (TR c) x x35 := by rw [ex35]; exact hT29.up (by unfold TR; omega)
      have u38 : (x35 c 1).toInt = (x27 c 1).toInt := by rw [ex35, up2_ne _ _ (by omega)]
      have u39 : (x35 c 2).toInt = v34.toInt := by rw [ex35, up2_at]
      refine lv_iload_n S.1 S.2.1 dX3_takeFirst_57 rfl (lv_at hl 0 rfl) ?_
      exact w_iret S hr0 hlk hP hS dX3_takeFirst_58 (⟨hI36, hT37, by omega, by omega⟩)
  · refine w_iconst S dX3_takeFirst_7 (by decide) (fun k40 hk40 => ?_)
    exact w_iret S hr0 hlk hP hS dX3_takeFirst_8 (⟨hI, hT, by omega, by omega⟩)
set_option maxRecDepth 100000 in
set_option maxHeartbeats 4000000 in
theorem c_X3_takeLast (l : Launch) (D : va_G) (g : GA) (hg : Inj g) (x : St) (hI : Inv x) (c n : Nat) (hr : IsRow g c n) : Met l yX3_takeLast wsX3_takeLast ({ frames := 1, cells := 0, slots := 0, locals := 22 } : Room) (va_Pc [.ref (g.1 c)] (WI D g x)) (va_Qi (fun _ x2 => Inv x2 ∧ Same (TR c) x x2 ∧ True) (WO D g) (AQ g)) 0 0 (AQ g) := by
  refine w_met (cc := cX3_takeLast) (maxL := 2) (ret := (some .int)) (own := RX3) (by decide) rfl rfl (Nat.le_of_ble_eq_true rfl) (fun p e s m below meth co S hr0 hlk hK hN hP hS ls hl => ?_)
  have hts := S.2.2.2.2
  have hl : lv_has ls 2 [(0, .ref (g.1 c))] := hl
  have hT : Same (TR c) x x := Same.rf
  have hn := hr.2.2.2.1
  refine lv_aload_n S.1 S.2.1 dX3_takeLast_0 rfl (lv_at hl 0 rfl) ?_
  refine lv_aload_n S.1 S.2.1 dX3_takeLast_1 rfl (lv_at hl 0 rfl) ?_
  refine w_get (C := RX3) (T := TX3) (N := 3) S (fun _ h => List.mem_cons_of_mem _ (List.mem_append_right _ h)) hK hP c hr.lt (hr.2.1 _) rfl 2 (by decide) (hts _ (List.mem_of_getElem? (i := 1) rfl)) (v := .int (x c 2)) rfl dX3_takeLast_2 ?_
  refine lv_topi (fun v1 ev1 => ?_)
  have wv1 : v1.toInt = (x c 2).toInt := by rw [ev1]
  have rv1 := hr.size hI; rw [← ev1] at rv1
  refine w_iconst S dX3_takeLast_5 (by decide) (fun k2 hk2 => ?_)
  refine w_isub S dX3_takeLast_6 (by omega) (by omega) (fun v3 hv3 => ?_)
  refine w_cVi (As := [.int v3]) (rest := []) S hK hN hP hS hl c hr.lt (hr.2.1 _) rfl (c_X3_at l D g hg x hI c n hr v3) (cwV 1 hts gX3_takeLast_X3_at rfl rfl rfl (by decide +kernel) ⟨Nat.le_of_ble_eq_true rfl, Nat.le_of_ble_eq_true rfl⟩) rfl rfl (Nat.le_of_ble_eq_true rfl) dX3_takeLast_7 ⟨Nat.zero_le _, Nat.zero_le _⟩ (fun r5 x4 H locs hq6 hP hS => ?_)
  obtain ⟨ex7, hf8⟩ := hq6
  rw [ex7] at hP
  refine lv_istore_n (lv' := [(1, .int r5), (0, .ref (g.1 c))]) S.1 S.2.1 dX3_takeLast_10 rfl hl (by decide) rfl (fun ls hl => ?_)
  refine lv_aload_n S.1 S.2.1 dX3_takeLast_11 rfl (lv_at hl 1 rfl) ?_
  refine w_get (C := RX3) (T := TX3) (N := 3) S (fun _ h => List.mem_cons_of_mem _ (List.mem_append_right _ h)) hK hP c hr.lt (hr.2.1 _) rfl 2 (by decide) (hts _ (List.mem_of_getElem? (i := 1) rfl)) (v := .int (x c 2)) rfl dX3_takeLast_12 ?_
  refine lv_topi (fun v9 ev9 => ?_)
  have wv9 : v9.toInt = (x c 2).toInt := by rw [ev9]
  have rv9 := hr.size hI; rw [← ev9] at rv9
  refine w_if_le (tgt := 28) S dX3_takeLast_15 (by decide) (fun hb10 => ?_) (fun hb10 => ?_)
  · refine lv_iload_n S.1 S.2.1 dX3_takeLast_28 rfl (lv_at hl 0 rfl) ?_
    exact w_iret S hr0 hlk hP hS dX3_takeLast_29 (⟨hI, hT, trivial⟩)
  · refine lv_aload_n S.1 S.2.1 dX3_takeLast_18 rfl (lv_at hl 1 rfl) ?_
    refine lv_dup S.1 S.2.1 dX3_takeLast_19 rfl ?_
    refine w_get (C := RX3) (T := TX3) (N := 3) S (fun _ h => List.mem_cons_of_mem _ (List.mem_append_right _ h)) hK hP c hr.lt (hr.2.1 _) rfl 2 (by decide) (hts _ (List.mem_of_getElem? (i := 1) rfl)) (v := .int (x c 2)) rfl dX3_takeLast_20 ?_
    refine lv_topi (fun v11 ev11 => ?_)
    have wv11 : v11.toInt = (x c 2).toInt := by rw [ev11]
    have rv11 := hr.size hI; rw [← ev11] at rv11
    refine w_iconst S dX3_takeLast_23 (by decide) (fun k12 hk12 => ?_)
    refine w_isub S dX3_takeLast_24 (by omega) (by omega) (fun v13 hv13 => ?_)
    refine w_put (C := RX3) (T := TX3) (N := 3) (F := FRow g (c + 1)) S (fun _ h => List.mem_cons_of_mem _ (List.mem_append_right _ h)) tyX3_ok nmX3 hK hg hP hS c hr.lt hr.2.1 rfl 2 (by decide) (hts _ (List.mem_of_getElem? (i := 1) rfl)) rfl rfl rfl (fun _ => Nat.le_of_ble_eq_true rfl) (fun _ => rfl) dX3_takeLast_25 (fun x14 H locs ex14 hP hS => ?_)
    have hI15 : Inv x14 := by rw [ex14]; exact hr.upS hI (by omega) (by omega)
    have hT16 : Same (TR c) x x14 := by rw [ex14]; exact hT.up (by unfold TR; omega)
    have u17 : (x14 c 1).toInt = (x c 1).toInt := by rw [ex14, up2_ne _ _ (by omega)]
    have u18 : (x14 c 2).toInt = v13.toInt := by rw [ex14, up2_at]
    refine lv_iload_n S.1 S.2.1 dX3_takeLast_28 rfl (lv_at hl 0 rfl) ?_
    exact w_iret S hr0 hlk hP hS dX3_takeLast_29 (⟨hI15, hT16, trivial⟩)
set_option maxRecDepth 100000 in
set_option maxHeartbeats 4000000 in
theorem c_X3_empty (l : Launch) (D : va_G) (g : GA) (hg : Inj g) (x : St) (hI : Inv x) (c n : Nat) (hr : IsRow g c n) : Met l yX3_empty wsX3_empty ({ frames := 0, cells := 0, slots := 0, locals := 0 } : Room) (va_Pc [.ref (g.1 c)] (WI D g x)) (va_Qv (fun x2 => Inv x2 ∧ Same (TR c) x x2 ∧ (x2 c 2).toInt = 0) (WO D g) (AQ g)) 0 0 (AQ g) := by
  refine w_met (cc := cX3_empty) (maxL := 1) (ret := none) (own := RX3) (by decide) rfl rfl (Nat.le_of_ble_eq_true rfl) (fun p e s m below meth co S hr0 hlk hK hN hP hS ls hl => ?_)
  have hts := S.2.2.2.2
  have hl : lv_has ls 1 [(0, .ref (g.1 c))] := hl
  have hT : Same (TR c) x x := Same.rf
  have hn := hr.2.2.2.1
  refine lv_aload_n S.1 S.2.1 dX3_empty_0 rfl (lv_at hl 0 rfl) ?_
  refine w_iconst S dX3_empty_1 (by decide) (fun k1 hk1 => ?_)
  refine w_put (C := RX3) (T := TX3) (N := 3) (F := FRow g (c + 1)) S (fun _ h => List.mem_cons_of_mem _ (List.mem_append_right _ h)) tyX3_ok nmX3 hK hg hP hS c hr.lt hr.2.1 rfl 2 (by decide) (hts _ (List.mem_of_getElem? (i := 1) rfl)) rfl rfl rfl (fun _ => Nat.le_of_ble_eq_true rfl) (fun _ => rfl) dX3_empty_2 (fun x2 H locs ex2 hP hS => ?_)
  have hI3 : Inv x2 := by rw [ex2]; exact hr.upS hI (by omega) (by omega)
  have hT4 : Same (TR c) x x2 := by rw [ex2]; exact hT.up (by unfold TR; omega)
  have u5 : (x2 c 1).toInt = (x c 1).toInt := by rw [ex2, up2_ne _ _ (by omega)]
  have u6 : (x2 c 2).toInt = k1.toInt := by rw [ex2, up2_at]
  exact w_vret S hr0 hlk hP hS dX3_empty_5 (⟨hI3, hT4, by omega⟩)
set_option maxRecDepth 100000 in
set_option maxHeartbeats 4000000 in
theorem c_X0_raise (l : Launch) (D : va_G) (g : GA) (hg : Inj g) (x : St) (hI : Inv x) (a b : Int32) : Met l yX0_raise wsX0_raise ({ frames := 0, cells := 0, slots := 0, locals := 0 } : Room) (va_Pc [.ref (g.1 2), .int a, .int b] (WI D g x)) (va_Qv (fun x2 => Inv x2 ∧ Same TC x x2 ∧ True) (WO D g) (AQ g)) 0 0 (AQ g) := by
  refine w_met (cc := cX0_raise) (maxL := 4) (ret := none) (own := RX0) (by decide) rfl rfl (Nat.le_of_ble_eq_true rfl) (fun p e s m below meth co S hr0 hlk hK hN hP hS ls hl => ?_)
  have hts := S.2.2.2.2
  have hl : lv_has ls 4 [(0, .ref (g.1 2)), (1, .int a), (2, .int b)] := hl
  have hT : Same (TC) x x := Same.rf
  have J2 : ∀ (n0 : Nat) (x_2 : St) (H : Heap) (locs : List Loc) (ls : Array Slot) (y2_3 : Int32), Inv x_2 → Same (TC) x x_2 → (0 ≤ y2_3.toInt) → (y2_3.toInt ≤ 8) → (8 - y2_3.toInt).toNat < n0 → va_P D vwCl (WL g x_2) H → va_S (AQ g) s.heap H locs → lv_has ls 4 [(0, .ref (g.1 2)), (1, .int a), (2, .int b), (3, .int y2_3)] → W p l e ({ frames := 0, cells := 0, slots := 0, locals := 0 } : Room) s m ([.ref (g.1 2), .int a, .int b] : List Value).toArray below meth co H locs 0 0 (MQ below (va_Qv (fun x2 => Inv x2 ∧ Same TC x x2 ∧ True) (WO D g) (AQ g)) ([.ref (g.1 2), .int a, .int b] : List Value).toArray s 0 0 (AQ g)) (F0 m 2 ls []) := by
    intro n0
    induction n0 with
    | zero => intro x_2 H locs ls y2_3 hI_2 hT_2 hf2_0 hf2_1 hm_2 hP hS hl; exact absurd hm_2 (Nat.not_lt_zero _)
    | succ n0 ih2 =>
      intro x_2 H locs ls y2_3 hI_2 hT_2 hf2_0 hf2_1 hm_2 hP hS hl
      refine lv_iload_n S.1 S.2.1 dX0_raise_2 rfl (lv_at hl 3 rfl) ?_
      refine w_bipush S dX0_raise_3 (by decide) (fun k1 hk1 => ?_)
      refine w_icmp_ge (tgt := 34) S dX0_raise_5 (by decide) (fun hb2 => ?_) (fun hb2 => ?_)
      · exact w_vret S hr0 hlk hP hS dX0_raise_34 (⟨hI_2, hT_2, trivial⟩)
      · refine lv_aload_n S.1 S.2.1 dX0_raise_8 rfl (lv_at hl 0 rfl) ?_
        refine w_get (C := RX0) (T := TX0) (N := 2) S (fun _ h => List.mem_cons_of_mem _ (List.mem_append_right _ h)) hK hP 2 (by decide) (ceK2 _) rfl 0 (by decide) (hts _ (List.mem_of_getElem? (i := 1) rfl)) (v := .ref (g.1 3)) rfl dX0_raise_9 ?_
        refine lv_iload_n S.1 S.2.1 dX0_raise_12 rfl (lv_at hl 3 rfl) ?_
        refine w_iald S hK hP 3 (by decide) ceK3 (by omega) (by omega) dX0_raise_13 (fun v3 ev3 => ?_)
        have wv3 : v3.toInt = (x_2 3 y2_3.toInt.toNat).toInt := by rw [ev3]
        refine lv_iload_n S.1 S.2.1 dX0_raise_14 rfl (lv_at hl 1 rfl) ?_
        refine w_icmp_ne (tgt := 28) S dX0_raise_15 (by decide) (fun hb4 => ?_) (fun hb4 => ?_)
        · refine w_iinc (lv' := [(0, .ref (g.1 2)), (1, .int a), (2, .int b)]) S dX0_raise_28 hl (k := 3) rfl (by decide) (by decide) (by omega) (by omega) (fun _ => rfl) (fun v5 ls hv5 hl => ?_)
          refine lv_goto (tgt := 2) S.1 S.2.1 dX0_raise_31 (by decide) ?_
          exact ih2 _ _ _ _ v5 hI_2 hT_2 (by omega) (by omega) (by omega) hP hS (lv_sub hl [1, 2, 3, 0] rfl)
        · refine lv_aload_n S.1 S.2.1 dX0_raise_18 rfl (lv_at hl 0 rfl) ?_
          refine w_get (C := RX0) (T := TX0) (N := 2) S (fun _ h => List.mem_cons_of_mem _ (List.mem_append_right _ h)) hK hP 2 (by decide) (ceK2 _) rfl 1 (by decide) (hts _ (List.mem_of_getElem? (i := 2) rfl)) (v := .ref (g.1 4)) rfl dX0_raise_19 ?_
          refine lv_iload_n S.1 S.2.1 dX0_raise_22 rfl (lv_at hl 3 rfl) ?_
          refine lv_dup2_11 S.1 S.2.1 dX0_raise_23 rfl rfl ?_
          refine w_iald S hK hP 4 (by decide) ceK4 (by omega) (by omega) dX0_raise_24 (fun v6 ev6 => ?_)
          have wv6 : v6.toInt = (x_2 4 y2_3.toInt.toNat).toInt := by rw [ev6]
          refine lv_iload_n S.1 S.2.1 dX0_raise_25 rfl (lv_at hl 2 rfl) ?_
          refine lv_ior S.1 S.2.1 dX0_raise_26 ?_
          refine w_any1 (fun v7 => ?_)
          refine w_iast S hK hg hP hS 4 (by decide) ceK4 (by omega) (by omega) dX0_raise_27 (fun x8 H locs ex8 hP hS => ?_)
          have hI9 : Inv x8 := by rw [ex8]; exact hI_2.up (i_ge _) (i_le _)
          have hT10 : Same (TC) x x8 := by rw [ex8]; exact hT_2.up (by unfold TC TrC; omega)
          refine w_iinc (lv' := [(0, .ref (g.1 2)), (1, .int a), (2, .int b)]) S dX0_raise_28 hl (k := 3) rfl (by decide) (by decide) (by omega) (by omega) (fun _ => rfl) (fun v11 ls hv11 hl => ?_)
          refine lv_goto (tgt := 2) S.1 S.2.1 dX0_raise_31 (by decide) ?_
          exact ih2 _ _ _ _ v11 hI9 hT10 (by omega) (by omega) (by omega) hP hS (lv_sub hl [1, 2, 3, 0] rfl)
  refine w_iconst S dX0_raise_0 (by decide) (fun k12 hk12 => ?_)
  refine lv_istore_n (lv' := [(3, .int k12), (0, .ref (g.1 2)), (1, .int a), (2, .int b)]) S.1 S.2.1 dX0_raise_1 rfl hl (by decide) rfl (fun ls hl => ?_)
  exact J2 _ _ _ _ _ k12 hI hT (by omega) (by omega) (Nat.lt_succ_self _) hP hS (lv_sub hl [1, 2, 3, 0] rfl)
set_option maxRecDepth 100000 in
set_option maxHeartbeats 4000000 in
theorem c_X4_add (l : Launch) (D : va_G) (g : GA) (hg : Inj g) (x : St) (hI : Inv x) (i : Nat) (h4 : i < 4) (b : Int32) (may : Int32) : Met l yX4_add wsX4_add ({ frames := 1, cells := 0, slots := 0, locals := 22 } : Room) (va_Pc [.ref (g.1 (5 + 21 * i + 4)), .int b, .int may] (WI D g x)) (va_Qi (fun r x2 => Inv x2 ∧ Same TC x x2 ∧ (0 ≤ r.toInt ∧ r.toInt ≤ 1)) (WO D g) (AQ g)) 0 0 (AQ g) := by
  refine w_met (cc := cX4_add) (maxL := 3) (ret := (some .boolean)) (own := RX4) (by decide) rfl rfl (Nat.le_of_ble_eq_true rfl) (fun p e s m below meth co S hr0 hlk hK hN hP hS ls hl => ?_)
  have hts := S.2.2.2.2
  have hl : lv_has ls 3 [(0, .ref (g.1 (5 + 21 * i + 4))), (1, .int b), (2, .int may)] := hl
  have hT : Same (TC) x x := Same.rf
  have J16 : ∀ (H : Heap) (locs : List Loc) (ls : Array Slot), va_P D vwCl (WL g x) H → va_S (AQ g) s.heap H locs → lv_has ls 3 [(0, .ref (g.1 (5 + 21 * i + 4))), (1, .int b), (2, .int may)] → W p l e ({ frames := 1, cells := 0, slots := 0, locals := 22 } : Room) s m ([.ref (g.1 (5 + 21 * i + 4)), .int b, .int may] : List Value).toArray below meth co H locs 0 0 (MQ below (va_Qi (fun r x2 => Inv x2 ∧ Same TC x x2 ∧ (0 ≤ r.toInt ∧ r.toInt ≤ 1)) (WO D g) (AQ g)) ([.ref (g.1 (5 + 21 * i + 4)), .int b, .int may] : List Value).toArray s 0 0 (AQ g)) (F0 m 16 ls []) := by
    intro H locs ls hP hS hl
    refine lv_aload_n S.1 S.2.1 dX4_add_16 rfl (lv_at hl 0 rfl) ?_
    refine w_get (C := RX4) (T := TX4) (N := 3) S (fun _ h => List.mem_cons_of_mem _ (List.mem_append_left _ (List.mem_append_right _ h))) hK hP (5 + 21 * i + 4) (by have := h4; omega) ((ceP4 h4) _) rfl 0 (by decide) (hts _ (List.mem_of_getElem? (i := 1) rfl)) (v := .ref (g.1 (5 + 21 * i + 5))) rfl dX4_add_17 ?_
    refine w_iconst S dX4_add_20 (by decide) (fun k1 hk1 => ?_)
    refine w_cVi (As := [.int k1]) (rest := []) S hK hN hP hS hl (5 + 21 * i + 5) (by have := h4; omega) ((ceP5 h4) _) rfl (c_X3_fits l D g hg x hI (5 + 21 * i + 5) 65 (isRow5 h4) k1) (cwV 1 hts gX4_add_X3_fits rfl rfl rfl (by decide +kernel) ⟨Nat.le_of_ble_eq_true rfl, Nat.le_of_ble_eq_true rfl⟩) rfl rfl (Nat.le_of_ble_eq_true rfl) dX4_add_21 ⟨Nat.zero_le _, Nat.zero_le _⟩ (fun r3 x2 H locs hq4 hP hS => ?_)
    obtain ⟨ex5, hf6⟩ := hq4
    rw [ex5] at hP
    refine w_if_ne (tgt := 29) S dX4_add_24 (by decide) (fun hb7 => ?_) (fun hb7 => ?_)
    · refine lv_aload_n S.1 S.2.1 dX4_add_29 rfl (lv_at hl 0 rfl) ?_
      refine w_get (C := RX4) (T := TX4) (N := 3) S (fun _ h => List.mem_cons_of_mem _ (List.mem_append_left _ (List.mem_append_right _ h))) hK hP (5 + 21 * i + 4) (by have := h4; omega) ((ceP4 h4) _) rfl 0 (by decide) (hts _ (List.mem_of_getElem? (i := 1) rfl)) (v := .ref (g.1 (5 + 21 * i + 5))) rfl dX4_add_30 ?_
      refine lv_iload_n S.1 S.2.1 dX4_add_33 rfl (lv_at hl 1 rfl) ?_
      refine w_cVv (As := [.int b]) (rest := []) S hK hN hP hS hl (5 + 21 * i + 5) (by have := h4; omega) ((ceP5 h4) _) rfl (c_X3_add l D g hg x hI (5 + 21 * i + 5) 65 (isRow5 h4) b) (cwV 1 hts gX4_add_X3_add rfl rfl rfl (by decide +kernel) ⟨Nat.le_of_ble_eq_true rfl, Nat.le_of_ble_eq_true rfl⟩) rfl rfl (Nat.le_of_ble_eq_true rfl) dX4_add_34 ⟨Nat.zero_le _, Nat.zero_le _⟩ (fun x8 H locs hq10 hP hS => ?_)
      obtain ⟨hI11, hT12, hf13⟩ := hq10
      have hT14 : Same (TC) x x8 := hT.tr hT12 (fun c0 k0 h => by unfold TC TrC at h; unfold TR; omega)
      refine lv_aload_n S.1 S.2.1 dX4_add_37 rfl (lv_at hl 0 rfl) ?_
      refine w_iconst S dX4_add_38 (by decide) (fun k15 hk15 => ?_)
      refine w_put (C := RX4) (T := TX4) (N := 3) (F := FStore g (5 + 21 * i)) S (fun _ h => List.mem_cons_of_mem _ (List.mem_append_left _ (List.mem_append_right _ h))) tyX4_ok nmX4 hK hg hP hS (5 + 21 * i + 4) (by have := h4; omega) (ceP4 h4) rfl 2 (by decide) (hts _ (List.mem_of_getElem? (i := 2) rfl)) rfl rfl rfl (fun _ => Nat.le_of_ble_eq_true rfl) (fun _ => rfl) dX4_add_39 (fun x16 H locs ex16 hP hS => ?_)
      have hI17 : Inv x16 := by rw [ex16]; exact hI11.upP (j := 4) h4 (by decide) (i_ge _) (i_le _)
      have hT18 : Same (TC) x x16 := by rw [ex16]; exact hT14.up (by unfold TC TrC; omega)
      refine w_iconst S dX4_add_42 (by decide) (fun k19 hk19 => ?_)
      exact w_zret S hr0 hlk hP hS dX4_add_43 (z01 (by omega) (by omega)) (⟨hI17, hT18, by omega⟩)
    · refine w_iconst S dX4_add_27 (by decide) (fun k20 hk20 => ?_)
      exact w_zret S hr0 hlk hP hS dX4_add_28 (z01 (by omega) (by omega)) (⟨hI, hT, by omega⟩)
  refine lv_aload_n S.1 S.2.1 dX4_add_0 rfl (lv_at hl 0 rfl) ?_
  refine w_get (C := RX4) (T := TX4) (N := 3) S (fun _ h => List.mem_cons_of_mem _ (List.mem_append_left _ (List.mem_append_right _ h))) hK hP (5 + 21 * i + 4) (by have := h4; omega) ((ceP4 h4) _) rfl 0 (by decide) (hts _ (List.mem_of_getElem? (i := 1) rfl)) (v := .ref (g.1 (5 + 21 * i + 5))) rfl dX4_add_1 ?_
  refine w_getN (C := RX3) (T := TX3) (N := 3) S (fun _ h => List.mem_cons_of_mem _ (List.mem_append_right _ h)) hK hP (5 + 21 * i + 5) (by have := h4; omega) ((ceP5 h4) _) rfl 2 (by decide) (hN.1 _ (List.mem_of_getElem? (i := 5) rfl)) (v := .int (x (5 + 21 * i + 5) 2)) rfl dX4_add_4 ?_
  refine lv_topi (fun v21 ev21 => ?_)
  have wv21 : v21.toInt = (x (5 + 21 * i + 5) 2).toInt := by rw [ev21]
  have rv21 : (0 : Int) ≤ v21.toInt ∧ v21.toInt ≤ (65 : Int) := by rw [ev21]; exact hI.atP (j := 5) (k := 2) h4 (by decide)
  refine w_bipush S dX4_add_7 (by decide) (fun k22 hk22 => ?_)
  refine w_icmp_lt (tgt := 16) S dX4_add_9 (by decide) (fun hb23 => ?_) (fun hb23 => ?_)
  · exact J16 _ _ _ hP hS (lv_sub hl [0, 1, 2] rfl)
  · refine lv_iload_n S.1 S.2.1 dX4_add_12 rfl (lv_at hl 2 rfl) ?_
    refine w_if_eq (tgt := 27) S dX4_add_13 (by decide) (fun hb24 => ?_) (fun hb24 => ?_)
    · refine w_iconst S dX4_add_27 (by decide) (fun k25 hk25 => ?_)
      exact w_zret S hr0 hlk hP hS dX4_add_28 (z01 (by omega) (by omega)) (⟨hI, hT, by omega⟩)
    · exact J16 _ _ _ hP hS (lv_sub hl [0, 1, 2] rfl)
set_option maxRecDepth 100000 in
set_option maxHeartbeats 4000000 in
theorem c_X4_openLine (l : Launch) (D : va_G) (g : GA) (hg : Inj g) (x : St) (hI : Inv x) (i : Nat) (h4 : i < 4) : Met l yX4_openLine wsX4_openLine ({ frames := 0, cells := 0, slots := 0, locals := 0 } : Room) (va_Pc [.ref (g.1 (5 + 21 * i + 4))] (WI D g x)) (va_Qi (fun _ x2 => x2 = x ∧ True) (WO D g) (AQ g)) 0 0 (AQ g) := by
  refine w_met (cc := cX4_openLine) (maxL := 1) (ret := (some .int)) (own := RX4) (by decide) rfl rfl (Nat.le_of_ble_eq_true rfl) (fun p e s m below meth co S hr0 hlk hK hN hP hS ls hl => ?_)
  have hts := S.2.2.2.2
  have hl : lv_has ls 1 [(0, .ref (g.1 (5 + 21 * i + 4)))] := hl
  refine lv_aload_n S.1 S.2.1 dX4_openLine_0 rfl (lv_at hl 0 rfl) ?_
  refine w_get (C := RX4) (T := TX4) (N := 3) S (fun _ h => List.mem_cons_of_mem _ (List.mem_append_left _ (List.mem_append_right _ h))) hK hP (5 + 21 * i + 4) (by have := h4; omega) ((ceP4 h4) _) rfl 0 (by decide) (hts _ (List.mem_of_getElem? (i := 1) rfl)) (v := .ref (g.1 (5 + 21 * i + 5))) rfl dX4_openLine_1 ?_
  refine w_getN (C := RX3) (T := TX3) (N := 3) S (fun _ h => List.mem_cons_of_mem _ (List.mem_append_right _ h)) hK hP (5 + 21 * i + 5) (by have := h4; omega) ((ceP5 h4) _) rfl 2 (by decide) (hN.1 _ (List.mem_of_getElem? (i := 5) rfl)) (v := .int (x (5 + 21 * i + 5) 2)) rfl dX4_openLine_4 ?_
  refine lv_topi (fun v1 ev1 => ?_)
  have wv1 : v1.toInt = (x (5 + 21 * i + 5) 2).toInt := by rw [ev1]
  have rv1 : (0 : Int) ≤ v1.toInt ∧ v1.toInt ≤ (65 : Int) := by rw [ev1]; exact hI.atP (j := 5) (k := 2) h4 (by decide)
  refine lv_aload_n S.1 S.2.1 dX4_openLine_7 rfl (lv_at hl 0 rfl) ?_
  refine w_get (C := RX4) (T := TX4) (N := 3) S (fun _ h => List.mem_cons_of_mem _ (List.mem_append_left _ (List.mem_append_right _ h))) hK hP (5 + 21 * i + 4) (by have := h4; omega) ((ceP4 h4) _) rfl 1 (by decide) (hts _ (List.mem_of_getElem? (i := 2) rfl)) (v := .int (x (5 + 21 * i + 4) 1)) rfl dX4_openLine_8 ?_
  refine lv_topi (fun v2 ev2 => ?_)
  have wv2 : v2.toInt = (x (5 + 21 * i + 4) 1).toInt := by rw [ev2]
  refine lv_isub S.1 S.2.1 dX4_openLine_11 ?_
  refine w_any1 (fun v3 => ?_)
  exact w_iret S hr0 hlk hP hS dX4_openLine_12 (⟨rfl, trivial⟩)
set_option maxRecDepth 100000 in
set_option maxHeartbeats 4000000 in
theorem c_X4_releaseAll (l : Launch) (D : va_G) (g : GA) (hg : Inj g) (x : St) (hI : Inv x) (i : Nat) (h4 : i < 4) : Met l yX4_releaseAll wsX4_releaseAll ({ frames := 0, cells := 0, slots := 0, locals := 0 } : Room) (va_Pc [.ref (g.1 (5 + 21 * i + 4))] (WI D g x)) (va_Qv (fun x2 => Inv x2 ∧ Same TC x x2 ∧ True) (WO D g) (AQ g)) 0 0 (AQ g) := by
  refine w_met (cc := cX4_releaseAll) (maxL := 1) (ret := none) (own := RX4) (by decide) rfl rfl (Nat.le_of_ble_eq_true rfl) (fun p e s m below meth co S hr0 hlk hK hN hP hS ls hl => ?_)
  have hts := S.2.2.2.2
  have hl : lv_has ls 1 [(0, .ref (g.1 (5 + 21 * i + 4)))] := hl
  have hT : Same (TC) x x := Same.rf
  refine lv_aload_n S.1 S.2.1 dX4_releaseAll_0 rfl (lv_at hl 0 rfl) ?_
  refine lv_aload_n S.1 S.2.1 dX4_releaseAll_1 rfl (lv_at hl 0 rfl) ?_
  refine w_get (C := RX4) (T := TX4) (N := 3) S (fun _ h => List.mem_cons_of_mem _ (List.mem_append_left _ (List.mem_append_right _ h))) hK hP (5 + 21 * i + 4) (by have := h4; omega) ((ceP4 h4) _) rfl 0 (by decide) (hts _ (List.mem_of_getElem? (i := 1) rfl)) (v := .ref (g.1 (5 + 21 * i + 5))) rfl dX4_releaseAll_2 ?_
  refine w_getN (C := RX3) (T := TX3) (N := 3) S (fun _ h => List.mem_cons_of_mem _ (List.mem_append_right _ h)) hK hP (5 + 21 * i + 5) (by have := h4; omega) ((ceP5 h4) _) rfl 2 (by decide) (hN.1 _ (List.mem_of_getElem? (i := 5) rfl)) (v := .int (x (5 + 21 * i + 5) 2)) rfl dX4_releaseAll_5 ?_
  refine lv_topi (fun v1 ev1 => ?_)
  have wv1 : v1.toInt = (x (5 + 21 * i + 5) 2).toInt := by rw [ev1]
  have rv1 : (0 : Int) ≤ v1.toInt ∧ v1.toInt ≤ (65 : Int) := by rw [ev1]; exact hI.atP (j := 5) (k := 2) h4 (by decide)
  refine w_put (C := RX4) (T := TX4) (N := 3) (F := FStore g (5 + 21 * i)) S (fun _ h => List.mem_cons_of_mem _ (List.mem_append_left _ (List.mem_append_right _ h))) tyX4_ok nmX4 hK hg hP hS (5 + 21 * i + 4) (by have := h4; omega) (ceP4 h4) rfl 1 (by decide) (hts _ (List.mem_of_getElem? (i := 2) rfl)) rfl rfl rfl (fun _ => Nat.le_of_ble_eq_true rfl) (fun _ => rfl) dX4_releaseAll_8 (fun x2 H locs ex2 hP hS => ?_)
  have hI3 : Inv x2 := by rw [ex2]; exact hI.upP (j := 4) h4 (by decide) (i_ge _) (i_le _)
  have hT4 : Same (TC) x x2 := by rw [ex2]; exact hT.up (by unfold TC TrC; omega)
  exact w_vret S hr0 hlk hP hS dX4_releaseAll_11 (⟨hI3, hT4, trivial⟩)
set_option maxRecDepth 100000 in
set_option maxHeartbeats 4000000 in
theorem c_X4_takeReleased (l : Launch) (D : va_G) (g : GA) (hg : Inj g) (x : St) (hI : Inv x) (i : Nat) (h4 : i < 4) : Met l yX4_takeReleased wsX4_takeReleased ({ frames := 1, cells := 0, slots := 0, locals := 21 } : Room) (va_Pc [.ref (g.1 (5 + 21 * i + 4))] (WI D g x)) (va_Qi (fun _ x2 => Inv x2 ∧ Same TC x x2 ∧ True) (WO D g) (AQ g)) 0 0 (AQ g) := by
  refine w_met (cc := cX4_takeReleased) (maxL := 1) (ret := (some .int)) (own := RX4) (by decide) rfl rfl (Nat.le_of_ble_eq_true rfl) (fun p e s m below meth co S hr0 hlk hK hN hP hS ls hl => ?_)
  have hts := S.2.2.2.2
  have hl : lv_has ls 1 [(0, .ref (g.1 (5 + 21 * i + 4)))] := hl
  have hT : Same (TC) x x := Same.rf
  refine lv_aload_n S.1 S.2.1 dX4_takeReleased_0 rfl (lv_at hl 0 rfl) ?_
  refine w_get (C := RX4) (T := TX4) (N := 3) S (fun _ h => List.mem_cons_of_mem _ (List.mem_append_left _ (List.mem_append_right _ h))) hK hP (5 + 21 * i + 4) (by have := h4; omega) ((ceP4 h4) _) rfl 1 (by decide) (hts _ (List.mem_of_getElem? (i := 1) rfl)) (v := .int (x (5 + 21 * i + 4) 1)) rfl dX4_takeReleased_1 ?_
  refine lv_topi (fun v1 ev1 => ?_)
  have wv1 : v1.toInt = (x (5 + 21 * i + 4) 1).toInt := by rw [ev1]
  refine w_if_le (tgt := 17) S dX4_takeReleased_4 (by decide) (fun hb2 => ?_) (fun hb2 => ?_)
  · refine lv_aload_n S.1 S.2.1 dX4_takeReleased_17 rfl (lv_at hl 0 rfl) ?_
    refine w_get (C := RX4) (T := TX4) (N := 3) S (fun _ h => List.mem_cons_of_mem _ (List.mem_append_left _ (List.mem_append_right _ h))) hK hP (5 + 21 * i + 4) (by have := h4; omega) ((ceP4 h4) _) rfl 0 (by decide) (hts _ (List.mem_of_getElem? (i := 2) rfl)) (v := .ref (g.1 (5 + 21 * i + 5))) rfl dX4_takeReleased_18 ?_
    refine w_cVi (As := []) (rest := []) S hK hN hP hS hl (5 + 21 * i + 5) (by have := h4; omega) ((ceP5 h4) _) rfl (c_X3_takeFirst l D g hg x hI (5 + 21 * i + 5) 65 (isRow5 h4)) (cwV 0 hts gX4_takeReleased_X3_takeFirst rfl rfl rfl (by decide +kernel) ⟨Nat.le_of_ble_eq_true rfl, Nat.le_of_ble_eq_true rfl⟩) rfl rfl (Nat.le_of_ble_eq_true rfl) dX4_takeReleased_21 ⟨Nat.zero_le _, Nat.zero_le _⟩ (fun r4 x3 H locs hq5 hP hS => ?_)
    obtain ⟨hI6, hT7, hf8⟩ := hq5
    have hT9 : Same (TC) x x3 := hT.tr hT7 (fun c0 k0 h => by unfold TC TrC at h; unfold TR; omega)
    exact w_iret S hr0 hlk hP hS dX4_takeReleased_24 (⟨hI6, hT9, trivial⟩)
  · refine lv_aload_n S.1 S.2.1 dX4_takeReleased_7 rfl (lv_at hl 0 rfl) ?_
    refine lv_dup S.1 S.2.1 dX4_takeReleased_8 rfl ?_
    refine w_get (C := RX4) (T := TX4) (N := 3) S (fun _ h => List.mem_cons_of_mem _ (List.mem_append_left _ (List.mem_append_right _ h))) hK hP (5 + 21 * i + 4) (by have := h4; omega) ((ceP4 h4) _) rfl 1 (by decide) (hts _ (List.mem_of_getElem? (i := 1) rfl)) (v := .int (x (5 + 21 * i + 4) 1)) rfl dX4_takeReleased_9 ?_
    refine lv_topi (fun v10 ev10 => ?_)
    have wv10 : v10.toInt = (x (5 + 21 * i + 4) 1).toInt := by rw [ev10]
    refine w_iconst S dX4_takeReleased_12 (by decide) (fun k11 hk11 => ?_)
    refine lv_isub S.1 S.2.1 dX4_takeReleased_13 ?_
    refine w_any1 (fun v12 => ?_)
    refine w_put (C := RX4) (T := TX4) (N := 3) (F := FStore g (5 + 21 * i)) S (fun _ h => List.mem_cons_of_mem _ (List.mem_append_left _ (List.mem_append_right _ h))) tyX4_ok nmX4 hK hg hP hS (5 + 21 * i + 4) (by have := h4; omega) (ceP4 h4) rfl 1 (by decide) (hts _ (List.mem_of_getElem? (i := 1) rfl)) rfl rfl rfl (fun _ => Nat.le_of_ble_eq_true rfl) (fun _ => rfl) dX4_takeReleased_14 (fun x13 H locs ex13 hP hS => ?_)
    have hI14 : Inv x13 := by rw [ex13]; exact hI.upP (j := 4) h4 (by decide) (i_ge _) (i_le _)
    have hT15 : Same (TC) x x13 := by rw [ex13]; exact hT.up (by unfold TC TrC; omega)
    refine lv_aload_n S.1 S.2.1 dX4_takeReleased_17 rfl (lv_at hl 0 rfl) ?_
    refine w_get (C := RX4) (T := TX4) (N := 3) S (fun _ h => List.mem_cons_of_mem _ (List.mem_append_left _ (List.mem_append_right _ h))) hK hP (5 + 21 * i + 4) (by have := h4; omega) ((ceP4 h4) _) rfl 0 (by decide) (hts _ (List.mem_of_getElem? (i := 2) rfl)) (v := .ref (g.1 (5 + 21 * i + 5))) rfl dX4_takeReleased_18 ?_
    refine w_cVi (As := []) (rest := []) S hK hN hP hS hl (5 + 21 * i + 5) (by have := h4; omega) ((ceP5 h4) _) rfl (c_X3_takeFirst l D g hg x13 hI14 (5 + 21 * i + 5) 65 (isRow5 h4)) (cwV 0 hts gX4_takeReleased_X3_takeFirst rfl rfl rfl (by decide +kernel) ⟨Nat.le_of_ble_eq_true rfl, Nat.le_of_ble_eq_true rfl⟩) rfl rfl (Nat.le_of_ble_eq_true rfl) dX4_takeReleased_21 ⟨Nat.zero_le _, Nat.zero_le _⟩ (fun r17 x16 H locs hq18 hP hS => ?_)
    obtain ⟨hI19, hT20, hf21⟩ := hq18
    have hT22 : Same (TC) x x16 := hT15.tr hT20 (fun c0 k0 h => by unfold TC TrC at h; unfold TR; omega)
    exact w_iret S hr0 hlk hP hS dX4_takeReleased_24 (⟨hI19, hT22, trivial⟩)
set_option maxRecDepth 100000 in
set_option maxHeartbeats 4000000 in
theorem c_X4_empty (l : Launch) (D : va_G) (g : GA) (hg : Inj g) (x : St) (hI : Inv x) (i : Nat) (h4 : i < 4) : Met l yX4_empty wsX4_empty ({ frames := 1, cells := 0, slots := 0, locals := 20 } : Room) (va_Pc [.ref (g.1 (5 + 21 * i + 4))] (WI D g x)) (va_Qv (fun x2 => Inv x2 ∧ Same TC x x2 ∧ True) (WO D g) (AQ g)) 0 0 (AQ g) := by
  refine w_met (cc := cX4_empty) (maxL := 1) (ret := none) (own := RX4) (by decide) rfl rfl (Nat.le_of_ble_eq_true rfl) (fun p e s m below meth co S hr0 hlk hK hN hP hS ls hl => ?_)
  have hts := S.2.2.2.2
  have hl : lv_has ls 1 [(0, .ref (g.1 (5 + 21 * i + 4)))] := hl
  have hT : Same (TC) x x := Same.rf
  refine lv_aload_n S.1 S.2.1 dX4_empty_0 rfl (lv_at hl 0 rfl) ?_
  refine w_get (C := RX4) (T := TX4) (N := 3) S (fun _ h => List.mem_cons_of_mem _ (List.mem_append_left _ (List.mem_append_right _ h))) hK hP (5 + 21 * i + 4) (by have := h4; omega) ((ceP4 h4) _) rfl 0 (by decide) (hts _ (List.mem_of_getElem? (i := 1) rfl)) (v := .ref (g.1 (5 + 21 * i + 5))) rfl dX4_empty_1 ?_
  refine w_cVv (As := []) (rest := []) S hK hN hP hS hl (5 + 21 * i + 5) (by have := h4; omega) ((ceP5 h4) _) rfl (c_X3_empty l D g hg x hI (5 + 21 * i + 5) 65 (isRow5 h4)) (cwV 0 hts gX4_empty_X3_empty rfl rfl rfl (by decide +kernel) ⟨Nat.le_of_ble_eq_true rfl, Nat.le_of_ble_eq_true rfl⟩) rfl rfl (Nat.le_of_ble_eq_true rfl) dX4_empty_4 ⟨Nat.zero_le _, Nat.zero_le _⟩ (fun x1 H locs hq3 hP hS => ?_)
  obtain ⟨hI4, hT5, hf6⟩ := hq3
  have hT7 : Same (TC) x x1 := hT.tr hT5 (fun c0 k0 h => by unfold TC TrC at h; unfold TR; omega)
  refine lv_aload_n S.1 S.2.1 dX4_empty_7 rfl (lv_at hl 0 rfl) ?_
  refine w_iconst S dX4_empty_8 (by decide) (fun k8 hk8 => ?_)
  refine w_put (C := RX4) (T := TX4) (N := 3) (F := FStore g (5 + 21 * i)) S (fun _ h => List.mem_cons_of_mem _ (List.mem_append_left _ (List.mem_append_right _ h))) tyX4_ok nmX4 hK hg hP hS (5 + 21 * i + 4) (by have := h4; omega) (ceP4 h4) rfl 1 (by decide) (hts _ (List.mem_of_getElem? (i := 2) rfl)) rfl rfl rfl (fun _ => Nat.le_of_ble_eq_true rfl) (fun _ => rfl) dX4_empty_9 (fun x9 H locs ex9 hP hS => ?_)
  have hI10 : Inv x9 := by rw [ex9]; exact hI4.upP (j := 4) h4 (by decide) (i_ge _) (i_le _)
  have hT11 : Same (TC) x x9 := by rw [ex9]; exact hT7.up (by unfold TC TrC; omega)
  exact w_vret S hr0 hlk hP hS dX4_empty_12 (⟨hI10, hT11, trivial⟩)
set_option maxRecDepth 100000 in
set_option maxHeartbeats 4000000 in
theorem c_X4_dropEndMarks (l : Launch) (D : va_G) (g : GA) (hg : Inj g) (x : St) (hI : Inv x) (i : Nat) (h4 : i < 4) : Met l yX4_dropEndMarks wsX4_dropEndMarks ({ frames := 1, cells := 0, slots := 0, locals := 22 } : Room) (va_Pc [.ref (g.1 (5 + 21 * i + 4))] (WI D g x)) (va_Qv (fun x2 => Inv x2 ∧ Same TC x x2 ∧ True) (WO D g) (AQ g)) 0 0 (AQ g) := by
  refine w_met (cc := cX4_dropEndMarks) (maxL := 4) (ret := none) (own := RX4) (by decide) rfl rfl (Nat.le_of_ble_eq_true rfl) (fun p e s m below meth co S hr0 hlk hK hN hP hS ls hl => ?_)
  have hts := S.2.2.2.2
  have hl : lv_has ls 4 [(0, .ref (g.1 (5 + 21 * i + 4)))] := hl
  have hT : Same (TC) x x := Same.rf
  have J10 : ∀ (n0 : Nat) (x_10 : St) (H : Heap) (locs : List Loc) (ls : Array Slot) (y10_1 : Int32) (y10_2 : Int32), Inv x_10 → Same (TC) x x_10 → (0 ≤ y10_2.toInt) → (y10_1.toInt - y10_2.toInt).toNat < n0 → va_P D vwCl (WL g x_10) H → va_S (AQ g) s.heap H locs → lv_has ls 4 [(0, .ref (g.1 (5 + 21 * i + 4))), (1, .int y10_1), (2, .int y10_2)] → W p l e ({ frames := 1, cells := 0, slots := 0, locals := 22 } : Room) s m ([.ref (g.1 (5 + 21 * i + 4))] : List Value).toArray below meth co H locs 0 0 (MQ below (va_Qv (fun x2 => Inv x2 ∧ Same TC x x2 ∧ True) (WO D g) (AQ g)) ([.ref (g.1 (5 + 21 * i + 4))] : List Value).toArray s 0 0 (AQ g)) (F0 m 10 ls []) := by
    intro n0
    induction n0 with
    | zero => intro x_10 H locs ls y10_1 y10_2 hI_10 hT_10 hf10_0 hm_10 hP hS hl; exact absurd hm_10 (Nat.not_lt_zero _)
    | succ n0 ih10 =>
      intro x_10 H locs ls y10_1 y10_2 hI_10 hT_10 hf10_0 hm_10 hP hS hl
      have hb_ := i_le y10_1
      refine lv_iload_n S.1 S.2.1 dX4_dropEndMarks_10 rfl (lv_at hl 2 rfl) ?_
      refine lv_iload_n S.1 S.2.1 dX4_dropEndMarks_11 rfl (lv_at hl 1 rfl) ?_
      refine w_icmp_ge (tgt := 44) S dX4_dropEndMarks_12 (by decide) (fun hb1 => ?_) (fun hb1 => ?_)
      · exact w_vret S hr0 hlk hP hS dX4_dropEndMarks_44 (⟨hI_10, hT_10, trivial⟩)
      · refine lv_aload_n S.1 S.2.1 dX4_dropEndMarks_15 rfl (lv_at hl 0 rfl) ?_
        refine w_get (C := RX4) (T := TX4) (N := 3) S (fun _ h => List.mem_cons_of_mem _ (List.mem_append_left _ (List.mem_append_right _ h))) hK hP (5 + 21 * i + 4) (by have := h4; omega) ((ceP4 h4) _) rfl 0 (by decide) (hts _ (List.mem_of_getElem? (i := 1) rfl)) (v := .ref (g.1 (5 + 21 * i + 5))) rfl dX4_dropEndMarks_16 ?_
        refine w_cVi (As := []) (rest := []) S hK hN hP hS hl (5 + 21 * i + 5) (by have := h4; omega) ((ceP5 h4) _) rfl (c_X3_takeFirst l D g hg x_10 hI_10 (5 + 21 * i + 5) 65 (isRow5 h4)) (cwV 0 hts gX4_dropEndMarks_X3_takeFirst rfl rfl rfl (by decide +kernel) ⟨Nat.le_of_ble_eq_true rfl, Nat.le_of_ble_eq_true rfl⟩) rfl rfl (Nat.le_of_ble_eq_true rfl) dX4_dropEndMarks_19 ⟨Nat.zero_le _, Nat.zero_le _⟩ (fun r3 x2 H locs hq4 hP hS => ?_)
        obtain ⟨hI5, hT6, hf7⟩ := hq4
        have hT8 : Same (TC) x x2 := hT_10.tr hT6 (fun c0 k0 h => by unfold TC TrC at h; unfold TR; omega)
        refine lv_istore_n (lv' := [(3, .int r3), (0, .ref (g.1 (5 + 21 * i + 4))), (1, .int y10_1), (2, .int y10_2)]) S.1 S.2.1 dX4_dropEndMarks_22 rfl hl (by decide) rfl (fun ls hl => ?_)
        refine lv_iload_n S.1 S.2.1 dX4_dropEndMarks_23 rfl (lv_at hl 0 rfl) ?_
        refine w_sipush S dX4_dropEndMarks_24 (by decide) (fun k9 hk9 => ?_)
        refine w_icmp_eq (tgt := 38) S dX4_dropEndMarks_27 (by decide) (fun hb10 => ?_) (fun hb10 => ?_)
        · refine w_iinc (lv' := [(3, .int r3), (0, .ref (g.1 (5 + 21 * i + 4))), (1, .int y10_1)]) S dX4_dropEndMarks_38 hl (k := 3) rfl (by decide) (by decide) (by omega) (by omega) (fun _ => rfl) (fun v11 ls hv11 hl => ?_)
          refine lv_goto (tgt := 10) S.1 S.2.1 dX4_dropEndMarks_41 (by decide) ?_
          exact ih10 _ _ _ _ y10_1 v11 hI5 hT8 (by omega) (by omega) hP hS (lv_sub hl [2, 3, 0] rfl)
        · refine lv_aload_n S.1 S.2.1 dX4_dropEndMarks_30 rfl (lv_at hl 1 rfl) ?_
          refine w_get (C := RX4) (T := TX4) (N := 3) S (fun _ h => List.mem_cons_of_mem _ (List.mem_append_left _ (List.mem_append_right _ h))) hK hP (5 + 21 * i + 4) (by have := h4; omega) ((ceP4 h4) _) rfl 0 (by decide) (hts _ (List.mem_of_getElem? (i := 1) rfl)) (v := .ref (g.1 (5 + 21 * i + 5))) rfl dX4_dropEndMarks_31 ?_
          refine lv_iload_n S.1 S.2.1 dX4_dropEndMarks_34 rfl (lv_at hl 0 rfl) ?_
          refine w_cVv (As := [.int r3]) (rest := []) S hK hN hP hS hl (5 + 21 * i + 5) (by have := h4; omega) ((ceP5 h4) _) rfl (c_X3_add l D g hg x2 hI5 (5 + 21 * i + 5) 65 (isRow5 h4) r3) (cwV 1 hts gX4_dropEndMarks_X3_add rfl rfl rfl (by decide +kernel) ⟨Nat.le_of_ble_eq_true rfl, Nat.le_of_ble_eq_true rfl⟩) rfl rfl (Nat.le_of_ble_eq_true rfl) dX4_dropEndMarks_35 ⟨Nat.zero_le _, Nat.zero_le _⟩ (fun x12 H locs hq14 hP hS => ?_)
          obtain ⟨hI15, hT16, hf17⟩ := hq14
          have hT18 : Same (TC) x x12 := hT8.tr hT16 (fun c0 k0 h => by unfold TC TrC at h; unfold TR; omega)
          refine w_iinc (lv' := [(3, .int r3), (0, .ref (g.1 (5 + 21 * i + 4))), (1, .int y10_1)]) S dX4_dropEndMarks_38 hl (k := 3) rfl (by decide) (by decide) (by omega) (by omega) (fun _ => rfl) (fun v19 ls hv19 hl => ?_)
          refine lv_goto (tgt := 10) S.1 S.2.1 dX4_dropEndMarks_41 (by decide) ?_
          exact ih10 _ _ _ _ y10_1 v19 hI15 hT18 (by omega) (by omega) hP hS (lv_sub hl [2, 3, 0] rfl)
  refine lv_aload_n S.1 S.2.1 dX4_dropEndMarks_0 rfl (lv_at hl 0 rfl) ?_
  refine w_get (C := RX4) (T := TX4) (N := 3) S (fun _ h => List.mem_cons_of_mem _ (List.mem_append_left _ (List.mem_append_right _ h))) hK hP (5 + 21 * i + 4) (by have := h4; omega) ((ceP4 h4) _) rfl 0 (by decide) (hts _ (List.mem_of_getElem? (i := 1) rfl)) (v := .ref (g.1 (5 + 21 * i + 5))) rfl dX4_dropEndMarks_1 ?_
  refine w_getN (C := RX3) (T := TX3) (N := 3) S (fun _ h => List.mem_cons_of_mem _ (List.mem_append_right _ h)) hK hP (5 + 21 * i + 5) (by have := h4; omega) ((ceP5 h4) _) rfl 2 (by decide) (hN.1 _ (List.mem_of_getElem? (i := 5) rfl)) (v := .int (x (5 + 21 * i + 5) 2)) rfl dX4_dropEndMarks_4 ?_
  refine lv_topi (fun v20 ev20 => ?_)
  have wv20 : v20.toInt = (x (5 + 21 * i + 5) 2).toInt := by rw [ev20]
  have rv20 : (0 : Int) ≤ v20.toInt ∧ v20.toInt ≤ (65 : Int) := by rw [ev20]; exact hI.atP (j := 5) (k := 2) h4 (by decide)
  refine lv_istore_n (lv' := [(1, .int v20), (0, .ref (g.1 (5 + 21 * i + 4)))]) S.1 S.2.1 dX4_dropEndMarks_7 rfl hl (by decide) rfl (fun ls hl => ?_)
  refine w_iconst S dX4_dropEndMarks_8 (by decide) (fun k21 hk21 => ?_)
  refine lv_istore_n (lv' := [(2, .int k21), (1, .int v20), (0, .ref (g.1 (5 + 21 * i + 4)))]) S.1 S.2.1 dX4_dropEndMarks_9 rfl hl (by decide) rfl (fun ls hl => ?_)
  exact J10 _ _ _ _ _ v20 k21 hI hT (by omega) (Nat.lt_succ_self _) hP hS (lv_sub hl [2, 1, 0] rfl)
set_option maxRecDepth 100000 in
set_option maxHeartbeats 4000000 in
theorem c_X4_isBlank (l : Launch) (D : va_G) (g : GA) (hg : Inj g) (x : St) (hI : Inv x) (a : Int32) : Met l yX4_isBlank wsX4_isBlank ({ frames := 0, cells := 0, slots := 0, locals := 0 } : Room) (va_Pc [.int a] (WI D g x)) (va_Qi (fun r x2 => x2 = x ∧ (0 ≤ r.toInt ∧ r.toInt ≤ 1)) (WO D g) (AQ g)) 0 0 (AQ g) := by
  refine w_met (cc := cX4_isBlank) (maxL := 1) (ret := (some .boolean)) (own := RX4) (by decide) rfl rfl (Nat.le_of_ble_eq_true rfl) (fun p e s m below meth co S hr0 hlk hK hN hP hS ls hl => ?_)
  have hts := S.2.2.2.2
  have hl : lv_has ls 1 [(0, .int a)] := hl
  refine lv_iload_n S.1 S.2.1 dX4_isBlank_0 rfl (lv_at hl 0 rfl) ?_
  refine w_bipush S dX4_isBlank_1 (by decide) (fun k1 hk1 => ?_)
  refine w_icmp_eq (tgt := 12) S dX4_isBlank_3 (by decide) (fun hb2 => ?_) (fun hb2 => ?_)
  · refine w_iconst S dX4_isBlank_12 (by decide) (fun k3 hk3 => ?_)
    refine lv_goto (tgt := 17) S.1 S.2.1 dX4_isBlank_13 (by decide) ?_
    exact w_zret S hr0 hlk hP hS dX4_isBlank_17 (z01 (by omega) (by omega)) (⟨rfl, by omega⟩)
  · refine lv_iload_n S.1 S.2.1 dX4_isBlank_6 rfl (lv_at hl 0 rfl) ?_
    refine w_bipush S dX4_isBlank_7 (by decide) (fun k4 hk4 => ?_)
    refine w_icmp_ne (tgt := 16) S dX4_isBlank_9 (by decide) (fun hb5 => ?_) (fun hb5 => ?_)
    · refine w_iconst S dX4_isBlank_16 (by decide) (fun k6 hk6 => ?_)
      exact w_zret S hr0 hlk hP hS dX4_isBlank_17 (z01 (by omega) (by omega)) (⟨rfl, by omega⟩)
    · refine w_iconst S dX4_isBlank_12 (by decide) (fun k7 hk7 => ?_)
      refine lv_goto (tgt := 17) S.1 S.2.1 dX4_isBlank_13 (by decide) ?_
      exact w_zret S hr0 hlk hP hS dX4_isBlank_17 (z01 (by omega) (by omega)) (⟨rfl, by omega⟩)
set_option maxRecDepth 100000 in
set_option maxHeartbeats 4000000 in
theorem c_X4_lastWord (l : Launch) (D : va_G) (g : GA) (hg : Inj g) (x : St) (hI : Inv x) (i : Nat) (h4 : i < 4) : Met l yX4_lastWord wsX4_lastWord ({ frames := 1, cells := 0, slots := 0, locals := 22 } : Room) (va_Pc [.ref (g.1 (5 + 21 * i + 4))] (WI D g x)) (va_Qi (fun _ x2 => x2 = x ∧ True) (WO D g) (AQ g)) 0 0 (AQ g) := by
  refine w_met (cc := cX4_lastWord) (maxL := 3) (ret := (some .int)) (own := RX4) (by decide) rfl rfl (Nat.le_of_ble_eq_true rfl) (fun p e s m below meth co S hr0 hlk hK hN hP hS ls hl => ?_)
  have hts := S.2.2.2.2
  have hl : lv_has ls 3 [(0, .ref (g.1 (5 + 21 * i + 4)))] := hl
  have J42 : ∀ (n0 : Nat) (H : Heap) (locs : List Loc) (ls : Array Slot) (y42_1 : Int32) (y42_2 : Int32), (0 ≤ y42_2.toInt) → (y42_1.toInt - y42_2.toInt).toNat < n0 → va_P D vwCl (WL g x) H → va_S (AQ g) s.heap H locs → lv_has ls 3 [(0, .ref (g.1 (5 + 21 * i + 4))), (1, .int y42_1), (2, .int y42_2)] → W p l e ({ frames := 1, cells := 0, slots := 0, locals := 22 } : Room) s m ([.ref (g.1 (5 + 21 * i + 4))] : List Value).toArray below meth co H locs 0 0 (MQ below (va_Qi (fun _ x2 => x2 = x ∧ True) (WO D g) (AQ g)) ([.ref (g.1 (5 + 21 * i + 4))] : List Value).toArray s 0 0 (AQ g)) (F0 m 42 ls []) := by
    intro n0
    induction n0 with
    | zero => intro H locs ls y42_1 y42_2 hf42_0 hm_42 hP hS hl; exact absurd hm_42 (Nat.not_lt_zero _)
    | succ n0 ih42 =>
      intro H locs ls y42_1 y42_2 hf42_0 hm_42 hP hS hl
      have hb_ := i_le y42_1
      refine lv_iload_n S.1 S.2.1 dX4_lastWord_42 rfl (lv_at hl 2 rfl) ?_
      refine lv_iload_n S.1 S.2.1 dX4_lastWord_43 rfl (lv_at hl 1 rfl) ?_
      refine w_icmp_ge (tgt := 77) S dX4_lastWord_44 (by decide) (fun hb1 => ?_) (fun hb1 => ?_)
      · refine lv_iload_n S.1 S.2.1 dX4_lastWord_77 rfl (lv_at hl 2 rfl) ?_
        exact w_iret S hr0 hlk hP hS dX4_lastWord_78 (⟨rfl, trivial⟩)
      · refine lv_aload_n S.1 S.2.1 dX4_lastWord_47 rfl (lv_at hl 0 rfl) ?_
        refine w_get (C := RX4) (T := TX4) (N := 3) S (fun _ h => List.mem_cons_of_mem _ (List.mem_append_left _ (List.mem_append_right _ h))) hK hP (5 + 21 * i + 4) (by have := h4; omega) ((ceP4 h4) _) rfl 0 (by decide) (hts _ (List.mem_of_getElem? (i := 1) rfl)) (v := .ref (g.1 (5 + 21 * i + 5))) rfl dX4_lastWord_48 ?_
        refine lv_aload_n S.1 S.2.1 dX4_lastWord_51 rfl (lv_at hl 0 rfl) ?_
        refine w_get (C := RX4) (T := TX4) (N := 3) S (fun _ h => List.mem_cons_of_mem _ (List.mem_append_left _ (List.mem_append_right _ h))) hK hP (5 + 21 * i + 4) (by have := h4; omega) ((ceP4 h4) _) rfl 0 (by decide) (hts _ (List.mem_of_getElem? (i := 1) rfl)) (v := .ref (g.1 (5 + 21 * i + 5))) rfl dX4_lastWord_52 ?_
        refine w_getN (C := RX3) (T := TX3) (N := 3) S (fun _ h => List.mem_cons_of_mem _ (List.mem_append_right _ h)) hK hP (5 + 21 * i + 5) (by have := h4; omega) ((ceP5 h4) _) rfl 2 (by decide) (hN.1 _ (List.mem_of_getElem? (i := 5) rfl)) (v := .int (x (5 + 21 * i + 5) 2)) rfl dX4_lastWord_55 ?_
        refine lv_topi (fun v2 ev2 => ?_)
        have wv2 : v2.toInt = (x (5 + 21 * i + 5) 2).toInt := by rw [ev2]
        have rv2 : (0 : Int) ≤ v2.toInt ∧ v2.toInt ≤ (65 : Int) := by rw [ev2]; exact hI.atP (j := 5) (k := 2) h4 (by decide)
        refine w_iconst S dX4_lastWord_58 (by decide) (fun k3 hk3 => ?_)
        refine w_isub S dX4_lastWord_59 (by omega) (by omega) (fun v4 hv4 => ?_)
        refine lv_iload_n S.1 S.2.1 dX4_lastWord_60 rfl (lv_at hl 2 rfl) ?_
        refine w_isub S dX4_lastWord_61 (by omega) (by omega) (fun v5 hv5 => ?_)
        refine w_cVi (As := [.int v5]) (rest := []) S hK hN hP hS hl (5 + 21 * i + 5) (by have := h4; omega) ((ceP5 h4) _) rfl (c_X3_at l D g hg x hI (5 + 21 * i + 5) 65 (isRow5 h4) v5) (cwV 1 hts gX4_lastWord_X3_at rfl rfl rfl (by decide +kernel) ⟨Nat.le_of_ble_eq_true rfl, Nat.le_of_ble_eq_true rfl⟩) rfl rfl (Nat.le_of_ble_eq_true rfl) dX4_lastWord_62 ⟨Nat.zero_le _, Nat.zero_le _⟩ (fun r7 x6 H locs hq8 hP hS => ?_)
        obtain ⟨ex9, hf10⟩ := hq8
        rw [ex9] at hP
        refine w_cSi (As := [.int r7]) (rest := []) S hK hN hP hS hl (c_X4_isBlank l D g hg x hI r7) (va_cwS 1 hts gX4_lastWord_X4_isBlank rfl rfl rfl (by decide +kernel) ⟨Nat.le_of_ble_eq_true rfl, Nat.le_of_ble_eq_true rfl⟩) rfl rfl (Nat.le_of_ble_eq_true rfl) dX4_lastWord_65 ⟨Nat.zero_le _, Nat.zero_le _⟩ (fun r12 x11 H locs hq13 hP hS => ?_)
        obtain ⟨ex14, hf15⟩ := hq13
        rw [ex14] at hP
        refine w_if_ne (tgt := 77) S dX4_lastWord_68 (by decide) (fun hb16 => ?_) (fun hb16 => ?_)
        · refine lv_iload_n S.1 S.2.1 dX4_lastWord_77 rfl (lv_at hl 2 rfl) ?_
          exact w_iret S hr0 hlk hP hS dX4_lastWord_78 (⟨rfl, trivial⟩)
        · refine w_iinc (lv' := [(0, .ref (g.1 (5 + 21 * i + 4))), (1, .int y42_1)]) S dX4_lastWord_71 hl (k := 2) rfl (by decide) (by decide) (by omega) (by omega) (fun _ => rfl) (fun v17 ls hv17 hl => ?_)
          refine lv_goto (tgt := 42) S.1 S.2.1 dX4_lastWord_74 (by decide) ?_
          exact ih42 _ _ _ y42_1 v17 (by omega) (by omega) hP hS (lv_sub hl [1, 2, 0] rfl)
  have J7 : ∀ (n0 : Nat) (H : Heap) (locs : List Loc) (ls : Array Slot) (y7_1 : Int32) (y7_2 : Int32), (0 ≤ y7_2.toInt) → (y7_1.toInt - y7_2.toInt).toNat < n0 → va_P D vwCl (WL g x) H → va_S (AQ g) s.heap H locs → lv_has ls 3 [(0, .ref (g.1 (5 + 21 * i + 4))), (1, .int y7_1), (2, .int y7_2)] → W p l e ({ frames := 1, cells := 0, slots := 0, locals := 22 } : Room) s m ([.ref (g.1 (5 + 21 * i + 4))] : List Value).toArray below meth co H locs 0 0 (MQ below (va_Qi (fun _ x2 => x2 = x ∧ True) (WO D g) (AQ g)) ([.ref (g.1 (5 + 21 * i + 4))] : List Value).toArray s 0 0 (AQ g)) (F0 m 7 ls []) := by
    intro n0
    induction n0 with
    | zero => intro H locs ls y7_1 y7_2 hf7_0 hm_7 hP hS hl; exact absurd hm_7 (Nat.not_lt_zero _)
    | succ n0 ih7 =>
      intro H locs ls y7_1 y7_2 hf7_0 hm_7 hP hS hl
      have hb_ := i_le y7_1
      refine lv_iload_n S.1 S.2.1 dX4_lastWord_7 rfl (lv_at hl 2 rfl) ?_
      refine lv_iload_n S.1 S.2.1 dX4_lastWord_8 rfl (lv_at hl 1 rfl) ?_
      refine w_icmp_ge (tgt := 42) S dX4_lastWord_9 (by decide) (fun hb18 => ?_) (fun hb18 => ?_)
      · exact J42 _ _ _ _ y7_1 y7_2 (by omega) (Nat.lt_succ_self _) hP hS (lv_sub hl [0, 1, 2] rfl)
      · refine lv_aload_n S.1 S.2.1 dX4_lastWord_12 rfl (lv_at hl 0 rfl) ?_
        refine w_get (C := RX4) (T := TX4) (N := 3) S (fun _ h => List.mem_cons_of_mem _ (List.mem_append_left _ (List.mem_append_right _ h))) hK hP (5 + 21 * i + 4) (by have := h4; omega) ((ceP4 h4) _) rfl 0 (by decide) (hts _ (List.mem_of_getElem? (i := 1) rfl)) (v := .ref (g.1 (5 + 21 * i + 5))) rfl dX4_lastWord_13 ?_
        refine lv_aload_n S.1 S.2.1 dX4_lastWord_16 rfl (lv_at hl 0 rfl) ?_
        refine w_get (C := RX4) (T := TX4) (N := 3) S (fun _ h => List.mem_cons_of_mem _ (List.mem_append_left _ (List.mem_append_right _ h))) hK hP (5 + 21 * i + 4) (by have := h4; omega) ((ceP4 h4) _) rfl 0 (by decide) (hts _ (List.mem_of_getElem? (i := 1) rfl)) (v := .ref (g.1 (5 + 21 * i + 5))) rfl dX4_lastWord_17 ?_
        refine w_getN (C := RX3) (T := TX3) (N := 3) S (fun _ h => List.mem_cons_of_mem _ (List.mem_append_right _ h)) hK hP (5 + 21 * i + 5) (by have := h4; omega) ((ceP5 h4) _) rfl 2 (by decide) (hN.1 _ (List.mem_of_getElem? (i := 5) rfl)) (v := .int (x (5 + 21 * i + 5) 2)) rfl dX4_lastWord_20 ?_
        refine lv_topi (fun v19 ev19 => ?_)
        have wv19 : v19.toInt = (x (5 + 21 * i + 5) 2).toInt := by rw [ev19]
        have rv19 : (0 : Int) ≤ v19.toInt ∧ v19.toInt ≤ (65 : Int) := by rw [ev19]; exact hI.atP (j := 5) (k := 2) h4 (by decide)
        refine w_iconst S dX4_lastWord_23 (by decide) (fun k20 hk20 => ?_)
        refine w_isub S dX4_lastWord_24 (by omega) (by omega) (fun v21 hv21 => ?_)
        refine lv_iload_n S.1 S.2.1 dX4_lastWord_25 rfl (lv_at hl 2 rfl) ?_
        refine w_isub S dX4_lastWord_26 (by omega) (by omega) (fun v22 hv22 => ?_)
        refine w_cVi (As := [.int v22]) (rest := []) S hK hN hP hS hl (5 + 21 * i + 5) (by have := h4; omega) ((ceP5 h4) _) rfl (c_X3_at l D g hg x hI (5 + 21 * i + 5) 65 (isRow5 h4) v22) (cwV 1 hts gX4_lastWord_X3_at rfl rfl rfl (by decide +kernel) ⟨Nat.le_of_ble_eq_true rfl, Nat.le_of_ble_eq_true rfl⟩) rfl rfl (Nat.le_of_ble_eq_true rfl) dX4_lastWord_27 ⟨Nat.zero_le _, Nat.zero_le _⟩ (fun r24 x23 H locs hq25 hP hS => ?_)
        obtain ⟨ex26, hf27⟩ := hq25
        rw [ex26] at hP
        refine w_cSi (As := [.int r24]) (rest := []) S hK hN hP hS hl (c_X4_isBlank l D g hg x hI r24) (va_cwS 1 hts gX4_lastWord_X4_isBlank rfl rfl rfl (by decide +kernel) ⟨Nat.le_of_ble_eq_true rfl, Nat.le_of_ble_eq_true rfl⟩) rfl rfl (Nat.le_of_ble_eq_true rfl) dX4_lastWord_30 ⟨Nat.zero_le _, Nat.zero_le _⟩ (fun r29 x28 H locs hq30 hP hS => ?_)
        obtain ⟨ex31, hf32⟩ := hq30
        rw [ex31] at hP
        refine w_if_eq (tgt := 42) S dX4_lastWord_33 (by decide) (fun hb33 => ?_) (fun hb33 => ?_)
        · exact J42 _ _ _ _ y7_1 y7_2 (by omega) (Nat.lt_succ_self _) hP hS (lv_sub hl [0, 1, 2] rfl)
        · refine w_iinc (lv' := [(0, .ref (g.1 (5 + 21 * i + 4))), (1, .int y7_1)]) S dX4_lastWord_36 hl (k := 2) rfl (by decide) (by decide) (by omega) (by omega) (fun _ => rfl) (fun v34 ls hv34 hl => ?_)
          refine lv_goto (tgt := 7) S.1 S.2.1 dX4_lastWord_39 (by decide) ?_
          exact ih7 _ _ _ y7_1 v34 (by omega) (by omega) hP hS (lv_sub hl [1, 2, 0] rfl)
  refine lv_aload_n S.1 S.2.1 dX4_lastWord_0 rfl (lv_at hl 0 rfl) ?_
  refine w_cVi (As := []) (rest := []) S hK hN hP hS hl (5 + 21 * i + 4) (by have := h4; omega) ((ceP4 h4) _) rfl (c_X4_openLine l D g hg x hI i h4) (cwV 0 hts gX4_lastWord_X4_openLine rfl rfl rfl (by decide +kernel) ⟨Nat.le_of_ble_eq_true rfl, Nat.le_of_ble_eq_true rfl⟩) rfl rfl (Nat.le_of_ble_eq_true rfl) dX4_lastWord_1 ⟨Nat.zero_le _, Nat.zero_le _⟩ (fun r36 x35 H locs hq37 hP hS => ?_)
  obtain ⟨ex38, hf39⟩ := hq37
  rw [ex38] at hP
  refine lv_istore_n (lv' := [(1, .int r36), (0, .ref (g.1 (5 + 21 * i + 4)))]) S.1 S.2.1 dX4_lastWord_4 rfl hl (by decide) rfl (fun ls hl => ?_)
  refine w_iconst S dX4_lastWord_5 (by decide) (fun k40 hk40 => ?_)
  refine lv_istore_n (lv' := [(2, .int k40), (1, .int r36), (0, .ref (g.1 (5 + 21 * i + 4)))]) S.1 S.2.1 dX4_lastWord_6 rfl hl (by decide) rfl (fun ls hl => ?_)
  exact J7 _ _ _ _ r36 k40 (by omega) (Nat.lt_succ_self _) hP hS (lv_sub hl [2, 1, 0] rfl)
set_option maxRecDepth 100000 in
set_option maxHeartbeats 4000000 in
theorem c_X1_size (l : Launch) (D : va_G) (g : GA) (hg : Inj g) (x : St) (hI : Inv x) (i : Nat) (h4 : i < 4) : Met l yX1_size wsX1_size ({ frames := 0, cells := 0, slots := 0, locals := 0 } : Room) (va_Pc [.ref (g.1 (5 + 21 * i + 7))] (WI D g x)) (va_Qi (fun r x2 => x2 = x ∧ r.toInt = (x (5 + 21 * i + 8) 2).toInt + (x (5 + 21 * i + 10) 2).toInt) (WO D g) (AQ g)) 0 0 (AQ g) := by
  refine w_met (cc := cX1_size) (maxL := 1) (ret := (some .int)) (own := RX1) (by decide) rfl rfl (Nat.le_of_ble_eq_true rfl) (fun p e s m below meth co S hr0 hlk hK hN hP hS ls hl => ?_)
  have hts := S.2.2.2.2
  have hl : lv_has ls 1 [(0, .ref (g.1 (5 + 21 * i + 7)))] := hl
  refine lv_aload_n S.1 S.2.1 dX1_size_0 rfl (lv_at hl 0 rfl) ?_
  refine w_get (C := RX1) (T := TX1) (N := 5) S (fun _ h => List.mem_cons_of_mem _ (List.mem_append_left _ (List.mem_append_right _ h))) hK hP (5 + 21 * i + 7) (by have := h4; omega) ((ceP7 h4) _) rfl 0 (by decide) (hts _ (List.mem_of_getElem? (i := 1) rfl)) (v := .ref (g.1 (5 + 21 * i + 8))) rfl dX1_size_1 ?_
  refine w_getN (C := RX3) (T := TX3) (N := 3) S (fun _ h => List.mem_cons_of_mem _ (List.mem_append_right _ h)) hK hP (5 + 21 * i + 8) (by have := h4; omega) ((ceP8 h4) _) rfl 2 (by decide) (hN.1 _ (List.mem_of_getElem? (i := 4) rfl)) (v := .int (x (5 + 21 * i + 8) 2)) rfl dX1_size_4 ?_
  refine lv_topi (fun v1 ev1 => ?_)
  have wv1 : v1.toInt = (x (5 + 21 * i + 8) 2).toInt := by rw [ev1]
  have rv1 : (0 : Int) ≤ v1.toInt ∧ v1.toInt ≤ (64 : Int) := by rw [ev1]; exact hI.atP (j := 8) (k := 2) h4 (by decide)
  refine lv_aload_n S.1 S.2.1 dX1_size_7 rfl (lv_at hl 0 rfl) ?_
  refine w_get (C := RX1) (T := TX1) (N := 5) S (fun _ h => List.mem_cons_of_mem _ (List.mem_append_left _ (List.mem_append_right _ h))) hK hP (5 + 21 * i + 7) (by have := h4; omega) ((ceP7 h4) _) rfl 1 (by decide) (hts _ (List.mem_of_getElem? (i := 2) rfl)) (v := .ref (g.1 (5 + 21 * i + 10))) rfl dX1_size_8 ?_
  refine w_getN (C := RX3) (T := TX3) (N := 3) S (fun _ h => List.mem_cons_of_mem _ (List.mem_append_right _ h)) hK hP (5 + 21 * i + 10) (by have := h4; omega) ((ceP10 h4) _) rfl 2 (by decide) (hN.1 _ (List.mem_of_getElem? (i := 4) rfl)) (v := .int (x (5 + 21 * i + 10) 2)) rfl dX1_size_11 ?_
  refine lv_topi (fun v2 ev2 => ?_)
  have wv2 : v2.toInt = (x (5 + 21 * i + 10) 2).toInt := by rw [ev2]
  have rv2 : (0 : Int) ≤ v2.toInt ∧ v2.toInt ≤ (8 : Int) := by rw [ev2]; exact hI.atP (j := 10) (k := 2) h4 (by decide)
  refine w_iadd S dX1_size_14 (by omega) (by omega) (fun v3 hv3 => ?_)
  exact w_iret S hr0 hlk hP hS dX1_size_15 (⟨rfl, by omega⟩)
set_option maxRecDepth 100000 in
set_option maxHeartbeats 4000000 in
theorem c_X1_columnBehind (l : Launch) (D : va_G) (g : GA) (hg : Inj g) (x : St) (hI : Inv x) (i : Nat) (h4 : i < 4) (b : Int32) : Met l yX1_columnBehind wsX1_columnBehind ({ frames := 0, cells := 0, slots := 0, locals := 0 } : Room) (va_Pc [.ref (g.1 (5 + 21 * i + 7)), .int b] (WI D g x)) (va_Qi (fun _ x2 => x2 = x ∧ True) (WO D g) (AQ g)) 0 0 (AQ g) := by
  refine w_met (cc := cX1_columnBehind) (maxL := 2) (ret := (some .int)) (own := RX1) (by decide) rfl rfl (Nat.le_of_ble_eq_true rfl) (fun p e s m below meth co S hr0 hlk hK hN hP hS ls hl => ?_)
  have hts := S.2.2.2.2
  have hl : lv_has ls 2 [(0, .ref (g.1 (5 + 21 * i + 7))), (1, .int b)] := hl
  refine lv_iload_n S.1 S.2.1 dX1_columnBehind_0 rfl (lv_at hl 1 rfl) ?_
  refine w_bipush S dX1_columnBehind_1 (by decide) (fun k1 hk1 => ?_)
  refine w_icmp_ne (tgt := 8) S dX1_columnBehind_3 (by decide) (fun hb2 => ?_) (fun hb2 => ?_)
  · refine lv_iload_n S.1 S.2.1 dX1_columnBehind_8 rfl (lv_at hl 1 rfl) ?_
    refine w_bipush S dX1_columnBehind_9 (by decide) (fun k3 hk3 => ?_)
    refine w_icmp_ne (tgt := 32) S dX1_columnBehind_11 (by decide) (fun hb4 => ?_) (fun hb4 => ?_)
    · refine lv_iload_n S.1 S.2.1 dX1_columnBehind_32 rfl (lv_at hl 1 rfl) ?_
      refine w_bipush S dX1_columnBehind_33 (by decide) (fun k5 hk5 => ?_)
      refine w_icmp_ne (tgt := 51) S dX1_columnBehind_35 (by decide) (fun hb6 => ?_) (fun hb6 => ?_)
      · refine lv_iload_n S.1 S.2.1 dX1_columnBehind_51 rfl (lv_at hl 1 rfl) ?_
        refine w_bipush S dX1_columnBehind_52 (by decide) (fun k7 hk7 => ?_)
        refine w_icmp_lt (tgt := 72) S dX1_columnBehind_54 (by decide) (fun hb8 => ?_) (fun hb8 => ?_)
        · refine lv_aload_n S.1 S.2.1 dX1_columnBehind_72 rfl (lv_at hl 0 rfl) ?_
          refine w_get (C := RX1) (T := TX1) (N := 5) S (fun _ h => List.mem_cons_of_mem _ (List.mem_append_right _ h)) hK hP (5 + 21 * i + 7) (by have := h4; omega) ((ceP7 h4) _) rfl 2 (by decide) (hts _ (List.mem_of_getElem? (i := 1) rfl)) (v := .int (x (5 + 21 * i + 7) 2)) rfl dX1_columnBehind_73 ?_
          refine lv_topi (fun v9 ev9 => ?_)
          have wv9 : v9.toInt = (x (5 + 21 * i + 7) 2).toInt := by rw [ev9]
          exact w_iret S hr0 hlk hP hS dX1_columnBehind_76 (⟨rfl, trivial⟩)
        · refine lv_iload_n S.1 S.2.1 dX1_columnBehind_57 rfl (lv_at hl 1 rfl) ?_
          refine w_bipush S dX1_columnBehind_58 (by decide) (fun k10 hk10 => ?_)
          refine w_icmp_eq (tgt := 72) S dX1_columnBehind_60 (by decide) (fun hb11 => ?_) (fun hb11 => ?_)
          · refine lv_aload_n S.1 S.2.1 dX1_columnBehind_72 rfl (lv_at hl 0 rfl) ?_
            refine w_get (C := RX1) (T := TX1) (N := 5) S (fun _ h => List.mem_cons_of_mem _ (List.mem_append_right _ h)) hK hP (5 + 21 * i + 7) (by have := h4; omega) ((ceP7 h4) _) rfl 2 (by decide) (hts _ (List.mem_of_getElem? (i := 1) rfl)) (v := .int (x (5 + 21 * i + 7) 2)) rfl dX1_columnBehind_73 ?_
            refine lv_topi (fun v12 ev12 => ?_)
            have wv12 : v12.toInt = (x (5 + 21 * i + 7) 2).toInt := by rw [ev12]
            exact w_iret S hr0 hlk hP hS dX1_columnBehind_76 (⟨rfl, trivial⟩)
          · refine lv_aload_n S.1 S.2.1 dX1_columnBehind_63 rfl (lv_at hl 0 rfl) ?_
            refine w_get (C := RX1) (T := TX1) (N := 5) S (fun _ h => List.mem_cons_of_mem _ (List.mem_append_right _ h)) hK hP (5 + 21 * i + 7) (by have := h4; omega) ((ceP7 h4) _) rfl 2 (by decide) (hts _ (List.mem_of_getElem? (i := 1) rfl)) (v := .int (x (5 + 21 * i + 7) 2)) rfl dX1_columnBehind_64 ?_
            refine lv_topi (fun v13 ev13 => ?_)
            have wv13 : v13.toInt = (x (5 + 21 * i + 7) 2).toInt := by rw [ev13]
            refine w_iconst S dX1_columnBehind_67 (by decide) (fun k14 hk14 => ?_)
            refine lv_iadd S.1 S.2.1 dX1_columnBehind_68 ?_
            refine w_any1 (fun v15 => ?_)
            refine lv_goto (tgt := 76) S.1 S.2.1 dX1_columnBehind_69 (by decide) ?_
            exact w_iret S hr0 hlk hP hS dX1_columnBehind_76 (⟨rfl, trivial⟩)
      · refine lv_aload_n S.1 S.2.1 dX1_columnBehind_38 rfl (lv_at hl 0 rfl) ?_
        refine w_get (C := RX1) (T := TX1) (N := 5) S (fun _ h => List.mem_cons_of_mem _ (List.mem_append_right _ h)) hK hP (5 + 21 * i + 7) (by have := h4; omega) ((ceP7 h4) _) rfl 2 (by decide) (hts _ (List.mem_of_getElem? (i := 1) rfl)) (v := .int (x (5 + 21 * i + 7) 2)) rfl dX1_columnBehind_39 ?_
        refine lv_topi (fun v16 ev16 => ?_)
        have wv16 : v16.toInt = (x (5 + 21 * i + 7) 2).toInt := by rw [ev16]
        refine w_bipush S dX1_columnBehind_42 (by decide) (fun k17 hk17 => ?_)
        refine lv_idiv S.1 S.2.1 dX1_columnBehind_44 (by intro e0; rw [e0] at hk17; exact absurd hk17 (by decide)) ?_
        refine w_any1 (fun v18 => ?_)
        refine w_iconst S dX1_columnBehind_45 (by decide) (fun k19 hk19 => ?_)
        refine lv_iadd S.1 S.2.1 dX1_columnBehind_46 ?_
        refine w_any1 (fun v20 => ?_)
        refine w_bipush S dX1_columnBehind_47 (by decide) (fun k21 hk21 => ?_)
        refine lv_imul S.1 S.2.1 dX1_columnBehind_49 ?_
        refine w_any1 (fun v22 => ?_)
        exact w_iret S hr0 hlk hP hS dX1_columnBehind_50 (⟨rfl, trivial⟩)
    · refine lv_aload_n S.1 S.2.1 dX1_columnBehind_14 rfl (lv_at hl 0 rfl) ?_
      refine w_get (C := RX1) (T := TX1) (N := 5) S (fun _ h => List.mem_cons_of_mem _ (List.mem_append_right _ h)) hK hP (5 + 21 * i + 7) (by have := h4; omega) ((ceP7 h4) _) rfl 2 (by decide) (hts _ (List.mem_of_getElem? (i := 1) rfl)) (v := .int (x (5 + 21 * i + 7) 2)) rfl dX1_columnBehind_15 ?_
      refine lv_topi (fun v23 ev23 => ?_)
      have wv23 : v23.toInt = (x (5 + 21 * i + 7) 2).toInt := by rw [ev23]
      refine w_if_le (tgt := 30) S dX1_columnBehind_18 (by decide) (fun hb24 => ?_) (fun hb24 => ?_)
      · refine w_iconst S dX1_columnBehind_30 (by decide) (fun k25 hk25 => ?_)
        exact w_iret S hr0 hlk hP hS dX1_columnBehind_31 (⟨rfl, trivial⟩)
      · refine lv_aload_n S.1 S.2.1 dX1_columnBehind_21 rfl (lv_at hl 0 rfl) ?_
        refine w_get (C := RX1) (T := TX1) (N := 5) S (fun _ h => List.mem_cons_of_mem _ (List.mem_append_right _ h)) hK hP (5 + 21 * i + 7) (by have := h4; omega) ((ceP7 h4) _) rfl 2 (by decide) (hts _ (List.mem_of_getElem? (i := 1) rfl)) (v := .int (x (5 + 21 * i + 7) 2)) rfl dX1_columnBehind_22 ?_
        refine lv_topi (fun v26 ev26 => ?_)
        have wv26 : v26.toInt = (x (5 + 21 * i + 7) 2).toInt := by rw [ev26]
        refine w_iconst S dX1_columnBehind_25 (by decide) (fun k27 hk27 => ?_)
        refine lv_isub S.1 S.2.1 dX1_columnBehind_26 ?_
        refine w_any1 (fun v28 => ?_)
        refine lv_goto (tgt := 31) S.1 S.2.1 dX1_columnBehind_27 (by decide) ?_
        exact w_iret S hr0 hlk hP hS dX1_columnBehind_31 (⟨rfl, trivial⟩)
  · refine w_iconst S dX1_columnBehind_6 (by decide) (fun k29 hk29 => ?_)
    exact w_iret S hr0 hlk hP hS dX1_columnBehind_7 (⟨rfl, trivial⟩)
set_option maxRecDepth 100000 in
set_option maxHeartbeats 4000000 in
theorem c_X1_blanksOfTab (l : Launch) (D : va_G) (g : GA) (hg : Inj g) (x : St) (hI : Inv x) (i : Nat) (h4 : i < 4) : Met l yX1_blanksOfTab wsX1_blanksOfTab ({ frames := 0, cells := 0, slots := 0, locals := 0 } : Room) (va_Pc [.ref (g.1 (5 + 21 * i + 7))] (WI D g x)) (va_Qi (fun _ x2 => x2 = x ∧ True) (WO D g) (AQ g)) 0 0 (AQ g) := by
  refine w_met (cc := cX1_blanksOfTab) (maxL := 1) (ret := (some .int)) (own := RX1) (by decide) rfl rfl (Nat.le_of_ble_eq_true rfl) (fun p e s m below meth co S hr0 hlk hK hN hP hS ls hl => ?_)
  have hts := S.2.2.2.2
  have hl : lv_has ls 1 [(0, .ref (g.1 (5 + 21 * i + 7)))] := hl
  refine w_bipush S dX1_blanksOfTab_0 (by decide) (fun k1 hk1 => ?_)
  refine lv_aload_n S.1 S.2.1 dX1_blanksOfTab_2 rfl (lv_at hl 0 rfl) ?_
  refine w_get (C := RX1) (T := TX1) (N := 5) S (fun _ h => List.mem_cons_of_mem _ (List.mem_append_right _ h)) hK hP (5 + 21 * i + 7) (by have := h4; omega) ((ceP7 h4) _) rfl 2 (by decide) (hts _ (List.mem_of_getElem? (i := 1) rfl)) (v := .int (x (5 + 21 * i + 7) 2)) rfl dX1_blanksOfTab_3 ?_
  refine lv_topi (fun v2 ev2 => ?_)
  have wv2 : v2.toInt = (x (5 + 21 * i + 7) 2).toInt := by rw [ev2]
  refine w_bipush S dX1_blanksOfTab_6 (by decide) (fun k3 hk3 => ?_)
  refine lv_irem S.1 S.2.1 dX1_blanksOfTab_8 (by intro e0; rw [e0] at hk3; exact absurd hk3 (by decide)) ?_
  refine w_any1 (fun v4 => ?_)
  refine lv_isub S.1 S.2.1 dX1_blanksOfTab_9 ?_
  refine w_any1 (fun v5 => ?_)
  exact w_iret S hr0 hlk hP hS dX1_blanksOfTab_10 (⟨rfl, trivial⟩)
set_option maxRecDepth 100000 in
set_option maxHeartbeats 4000000 in
theorem c_X1_accept (l : Launch) (D : va_G) (g : GA) (hg : Inj g) (x : St) (hI : Inv x) (i : Nat) (h4 : i < 4) : Met l yX1_accept wsX1_accept ({ frames := 1, cells := 0, slots := 0, locals := 22 } : Room) (va_Pc [.ref (g.1 (5 + 21 * i + 7)), .ref (g.1 (5 + 21 * i + 17))] (WI D g x)) (va_Qi (fun r x2 => Inv x2 ∧ Same TC x x2 ∧ (0 ≤ r.toInt ∧ r.toInt ≤ 1)) (WO D g) (AQ g)) 0 0 (AQ g) := by
  refine w_met (cc := cX1_accept) (maxL := 4) (ret := (some .boolean)) (own := RX1) (by decide) rfl rfl (Nat.le_of_ble_eq_true rfl) (fun p e s m below meth co S hr0 hlk hK hN hP hS ls hl => ?_)
  have hts := S.2.2.2.2
  have hl : lv_has ls 4 [(0, .ref (g.1 (5 + 21 * i + 7))), (1, .ref (g.1 (5 + 21 * i + 17)))] := hl
  have hT : Same (TC) x x := Same.rf
  have J18 : ∀ (n0 : Nat) (x_18 : St) (H : Heap) (locs : List Loc) (ls : Array Slot) (y18_2 : Int32), Inv x_18 → Same (TC) x x_18 → (0 ≤ y18_2.toInt) → (y18_2.toInt ≤ 134) → (134 - y18_2.toInt).toNat < n0 → va_P D vwCl (WL g x_18) H → va_S (AQ g) s.heap H locs → lv_has ls 4 [(0, .ref (g.1 (5 + 21 * i + 7))), (1, .ref (g.1 (5 + 21 * i + 17))), (2, .int y18_2)] → W p l e ({ frames := 1, cells := 0, slots := 0, locals := 22 } : Room) s m ([.ref (g.1 (5 + 21 * i + 7)), .ref (g.1 (5 + 21 * i + 17))] : List Value).toArray below meth co H locs 0 0 (MQ below (va_Qi (fun r x2 => Inv x2 ∧ Same TC x x2 ∧ (0 ≤ r.toInt ∧ r.toInt ≤ 1)) (WO D g) (AQ g)) ([.ref (g.1 (5 + 21 * i + 7)), .ref (g.1 (5 + 21 * i + 17))] : List Value).toArray s 0 0 (AQ g)) (F0 m 18 ls []) := by
    intro n0
    induction n0 with
    | zero => intro x_18 H locs ls y18_2 hI_18 hT_18 hf18_0 hf18_1 hm_18 hP hS hl; exact absurd hm_18 (Nat.not_lt_zero _)
    | succ n0 ih18 =>
      intro x_18 H locs ls y18_2 hI_18 hT_18 hf18_0 hf18_1 hm_18 hP hS hl
      refine lv_iload_n S.1 S.2.1 dX1_accept_18 rfl (lv_at hl 2 rfl) ?_
      refine lv_aload_n S.1 S.2.1 dX1_accept_19 rfl (lv_at hl 1 rfl) ?_
      refine w_getN (C := RX3) (T := TX3) (N := 3) S (fun _ h => List.mem_cons_of_mem _ (List.mem_append_right _ h)) hK hP (5 + 21 * i + 17) (by have := h4; omega) ((ceP17 h4) _) rfl 2 (by decide) (hN.1 _ (List.mem_of_getElem? (i := 4) rfl)) (v := .int (x_18 (5 + 21 * i + 17) 2)) rfl dX1_accept_20 ?_
      refine lv_topi (fun v1 ev1 => ?_)
      have wv1 : v1.toInt = (x_18 (5 + 21 * i + 17) 2).toInt := by rw [ev1]
      have rv1 : (0 : Int) ≤ v1.toInt ∧ v1.toInt ≤ (134 : Int) := by rw [ev1]; exact hI_18.atP (j := 17) (k := 2) h4 (by decide)
      refine w_icmp_ge (tgt := 55) S dX1_accept_23 (by decide) (fun hb2 => ?_) (fun hb2 => ?_)
      · refine w_iconst S dX1_accept_55 (by decide) (fun k3 hk3 => ?_)
        exact w_zret S hr0 hlk hP hS dX1_accept_56 (z01 (by omega) (by omega)) (⟨hI_18, hT_18, by omega⟩)
      · refine lv_aload_n S.1 S.2.1 dX1_accept_26 rfl (lv_at hl 1 rfl) ?_
        refine lv_iload_n S.1 S.2.1 dX1_accept_27 rfl (lv_at hl 2 rfl) ?_
        refine w_cVi (As := [.int y18_2]) (rest := []) S hK hN hP hS hl (5 + 21 * i + 17) (by have := h4; omega) ((ceP17 h4) _) rfl (c_X3_at l D g hg x_18 hI_18 (5 + 21 * i + 17) 134 (isRow17 h4) y18_2) (cwV 1 hts gX1_accept_X3_at rfl rfl rfl (by decide +kernel) ⟨Nat.le_of_ble_eq_true rfl, Nat.le_of_ble_eq_true rfl⟩) rfl rfl (Nat.le_of_ble_eq_true rfl) dX1_accept_28 ⟨Nat.zero_le _, Nat.zero_le _⟩ (fun r5 x4 H locs hq6 hP hS => ?_)
        obtain ⟨ex7, hf8⟩ := hq6
        rw [ex7] at hP
        refine lv_istore_n (lv' := [(3, .int r5), (0, .ref (g.1 (5 + 21 * i + 7))), (1, .ref (g.1 (5 + 21 * i + 17))), (2, .int y18_2)]) S.1 S.2.1 dX1_accept_31 rfl hl (by decide) rfl (fun ls hl => ?_)
        refine lv_aload_n S.1 S.2.1 dX1_accept_32 rfl (lv_at hl 1 rfl) ?_
        refine w_get (C := RX1) (T := TX1) (N := 5) S (fun _ h => List.mem_cons_of_mem _ (List.mem_append_left _ (List.mem_append_right _ h))) hK hP (5 + 21 * i + 7) (by have := h4; omega) ((ceP7 h4) _) rfl 0 (by decide) (hts _ (List.mem_of_getElem? (i := 1) rfl)) (v := .ref (g.1 (5 + 21 * i + 8))) rfl dX1_accept_33 ?_
        refine lv_iload_n S.1 S.2.1 dX1_accept_36 rfl (lv_at hl 0 rfl) ?_
        refine w_cVv (As := [.int r5]) (rest := []) S hK hN hP hS hl (5 + 21 * i + 8) (by have := h4; omega) ((ceP8 h4) _) rfl (c_X3_add l D g hg x_18 hI_18 (5 + 21 * i + 8) 64 (isRow8 h4) r5) (cwV 1 hts gX1_accept_X3_add rfl rfl rfl (by decide +kernel) ⟨Nat.le_of_ble_eq_true rfl, Nat.le_of_ble_eq_true rfl⟩) rfl rfl (Nat.le_of_ble_eq_true rfl) dX1_accept_37 ⟨Nat.zero_le _, Nat.zero_le _⟩ (fun x9 H locs hq11 hP hS => ?_)
        obtain ⟨hI12, hT13, hf14⟩ := hq11
        have hT15 : Same (TC) x x9 := hT_18.tr hT13 (fun c0 k0 h => by unfold TC TrC at h; unfold TR; omega)
        refine lv_aload_n S.1 S.2.1 dX1_accept_40 rfl (lv_at hl 1 rfl) ?_
        refine lv_aload_n S.1 S.2.1 dX1_accept_41 rfl (lv_at hl 1 rfl) ?_
        refine lv_iload_n S.1 S.2.1 dX1_accept_42 rfl (lv_at hl 0 rfl) ?_
        refine w_cVi (As := [.int r5]) (rest := [.ref (g.1 (5 + 21 * i + 7))]) S hK hN hP hS hl (5 + 21 * i + 7) (by have := h4; omega) ((ceP7 h4) _) rfl (c_X1_columnBehind l D g hg x9 hI12 i h4 r5) (cwV 1 hts gX1_accept_X1_columnBehind rfl rfl rfl (by decide +kernel) ⟨Nat.le_of_ble_eq_true rfl, Nat.le_of_ble_eq_true rfl⟩) rfl rfl (Nat.le_of_ble_eq_true rfl) dX1_accept_43 ⟨Nat.zero_le _, Nat.zero_le _⟩ (fun r17 x16 H locs hq18 hP hS => ?_)
        obtain ⟨ex19, hf20⟩ := hq18
        rw [ex19] at hP
        refine w_put (C := RX1) (T := TX1) (N := 5) (F := FOut g (5 + 21 * i)) S (fun _ h => List.mem_cons_of_mem _ (List.mem_append_left _ (List.mem_append_right _ h))) tyX1_ok nmX1 hK hg hP hS (5 + 21 * i + 7) (by have := h4; omega) (ceP7 h4) rfl 2 (by decide) (hts _ (List.mem_of_getElem? (i := 2) rfl)) rfl rfl rfl (fun _ => Nat.le_of_ble_eq_true rfl) (fun _ => rfl) dX1_accept_46 (fun x21 H locs ex21 hP hS => ?_)
        have hI22 : Inv x21 := by rw [ex21]; exact hI12.upP (j := 7) h4 (by decide) (i_ge _) (i_le _)
        have hT23 : Same (TC) x x21 := by rw [ex21]; exact hT15.up (by unfold TC TrC; omega)
        refine w_iinc (lv' := [(3, .int r5), (0, .ref (g.1 (5 + 21 * i + 7))), (1, .ref (g.1 (5 + 21 * i + 17)))]) S dX1_accept_49 hl (k := 3) rfl (by decide) (by decide) (by omega) (by omega) (fun _ => rfl) (fun v24 ls hv24 hl => ?_)
        refine lv_goto (tgt := 18) S.1 S.2.1 dX1_accept_52 (by decide) ?_
        exact ih18 _ _ _ _ v24 hI22 hT23 (by omega) (by omega) (by omega) hP hS (lv_sub hl [2, 3, 0] rfl)
  refine lv_aload_n S.1 S.2.1 dX1_accept_0 rfl (lv_at hl 0 rfl) ?_
  refine w_get (C := RX1) (T := TX1) (N := 5) S (fun _ h => List.mem_cons_of_mem _ (List.mem_append_left _ (List.mem_append_right _ h))) hK hP (5 + 21 * i + 7) (by have := h4; omega) ((ceP7 h4) _) rfl 0 (by decide) (hts _ (List.mem_of_getElem? (i := 1) rfl)) (v := .ref (g.1 (5 + 21 * i + 8))) rfl dX1_accept_1 ?_
  refine lv_aload_n S.1 S.2.1 dX1_accept_4 rfl (lv_at hl 1 rfl) ?_
  refine w_getN (C := RX3) (T := TX3) (N := 3) S (fun _ h => List.mem_cons_of_mem _ (List.mem_append_right _ h)) hK hP (5 + 21 * i + 17) (by have := h4; omega) ((ceP17 h4) _) rfl 2 (by decide) (hN.1 _ (List.mem_of_getElem? (i := 4) rfl)) (v := .int (x (5 + 21 * i + 17) 2)) rfl dX1_accept_5 ?_
  refine lv_topi (fun v25 ev25 => ?_)
  have wv25 : v25.toInt = (x (5 + 21 * i + 17) 2).toInt := by rw [ev25]
  have rv25 : (0 : Int) ≤ v25.toInt ∧ v25.toInt ≤ (134 : Int) := by rw [ev25]; exact hI.atP (j := 17) (k := 2) h4 (by decide)
  refine w_cVi (As := [.int v25]) (rest := []) S hK hN hP hS hl (5 + 21 * i + 8) (by have := h4; omega) ((ceP8 h4) _) rfl (c_X3_fits l D g hg x hI (5 + 21 * i + 8) 64 (isRow8 h4) v25) (cwV 1 hts gX1_accept_X3_fits rfl rfl rfl (by decide +kernel) ⟨Nat.le_of_ble_eq_true rfl, Nat.le_of_ble_eq_true rfl⟩) rfl rfl (Nat.le_of_ble_eq_true rfl) dX1_accept_8 ⟨Nat.zero_le _, Nat.zero_le _⟩ (fun r27 x26 H locs hq28 hP hS => ?_)
  obtain ⟨ex29, hf30⟩ := hq28
  rw [ex29] at hP
  refine w_if_ne (tgt := 16) S dX1_accept_11 (by decide) (fun hb31 => ?_) (fun hb31 => ?_)
  · refine w_iconst S dX1_accept_16 (by decide) (fun k32 hk32 => ?_)
    refine lv_istore_n (lv' := [(2, .int k32), (0, .ref (g.1 (5 + 21 * i + 7))), (1, .ref (g.1 (5 + 21 * i + 17)))]) S.1 S.2.1 dX1_accept_17 rfl hl (by decide) rfl (fun ls hl => ?_)
    exact J18 _ _ _ _ _ k32 hI hT (by omega) (by omega) (Nat.lt_succ_self _) hP hS (lv_sub hl [1, 2, 0] rfl)
  · refine w_iconst S dX1_accept_14 (by decide) (fun k33 hk33 => ?_)
    exact w_zret S hr0 hlk hP hS dX1_accept_15 (z01 (by omega) (by omega)) (⟨hI, hT, by omega⟩)
set_option maxRecDepth 100000 in
set_option maxHeartbeats 4000000 in
theorem c_X1_push (l : Launch) (D : va_G) (g : GA) (hg : Inj g) (x : St) (hI : Inv x) (i : Nat) (h4 : i < 4) : Met l yX1_push wsX1_push ({ frames := 1, cells := 0, slots := 0, locals := 22 } : Room) (va_Pc [.ref (g.1 (5 + 21 * i + 7))] (WI D g x)) (va_Qv (fun x2 => Inv x2 ∧ Same TC x x2 ∧ ((x (5 + 21 * i + 8) 2).toInt = 0 → x2 = x)) (WO D g) (AQ g)) 0 0 (AQ g) := by
  refine w_met (cc := cX1_push) (maxL := 2) (ret := none) (own := RX1) (by decide) rfl rfl (Nat.le_of_ble_eq_true rfl) (fun p e s m below meth co S hr0 hlk hK hN hP hS ls hl => ?_)
  have hts := S.2.2.2.2
  have hl : lv_has ls 2 [(0, .ref (g.1 (5 + 21 * i + 7)))] := hl
  have hT : Same (TC) x x := Same.rf
  have J2 : ∀ (n0 : Nat) (x_2 : St) (H : Heap) (locs : List Loc) (ls : Array Slot) (y2_1 : Int32), Inv x_2 → Same (TC) x x_2 → (0 ≤ y2_1.toInt) → (y2_1.toInt ≤ 8) → ((x (5 + 21 * i + 8) 2).toInt = 0 → x_2 = x) → (8 - y2_1.toInt).toNat < n0 → va_P D vwCl (WL g x_2) H → va_S (AQ g) s.heap H locs → lv_has ls 2 [(0, .ref (g.1 (5 + 21 * i + 7))), (1, .int y2_1)] → W p l e ({ frames := 1, cells := 0, slots := 0, locals := 22 } : Room) s m ([.ref (g.1 (5 + 21 * i + 7))] : List Value).toArray below meth co H locs 0 0 (MQ below (va_Qv (fun x2 => Inv x2 ∧ Same TC x x2 ∧ ((x (5 + 21 * i + 8) 2).toInt = 0 → x2 = x)) (WO D g) (AQ g)) ([.ref (g.1 (5 + 21 * i + 7))] : List Value).toArray s 0 0 (AQ g)) (F0 m 2 ls []) := by
    intro n0
    induction n0 with
    | zero => intro x_2 H locs ls y2_1 hI_2 hT_2 hf2_0 hf2_1 hf2_2 hm_2 hP hS hl; exact absurd hm_2 (Nat.not_lt_zero _)
    | succ n0 ih2 =>
      intro x_2 H locs ls y2_1 hI_2 hT_2 hf2_0 hf2_1 hf2_2 hm_2 hP hS hl
      refine lv_iload_n S.1 S.2.1 dX1_push_2 rfl (lv_at hl 1 rfl) ?_
      refine w_bipush S dX1_push_3 (by decide) (fun k1 hk1 => ?_)
      refine w_icmp_ge (tgt := 49) S dX1_push_5 (by decide) (fun hb2 => ?_) (fun hb2 => ?_)
      · exact w_vret S hr0 hlk hP hS dX1_push_49 (⟨hI_2, hT_2, by assumption⟩)
      · refine lv_aload_n S.1 S.2.1 dX1_push_8 rfl (lv_at hl 0 rfl) ?_
        refine w_get (C := RX1) (T := TX1) (N := 5) S (fun _ h => List.mem_cons_of_mem _ (List.mem_append_left _ (List.mem_append_right _ h))) hK hP (5 + 21 * i + 7) (by have := h4; omega) ((ceP7 h4) _) rfl 1 (by decide) (hts _ (List.mem_of_getElem? (i := 1) rfl)) (v := .ref (g.1 (5 + 21 * i + 10))) rfl dX1_push_9 ?_
        refine w_iconst S dX1_push_12 (by decide) (fun k3 hk3 => ?_)
        refine w_cVi (As := [.int k3]) (rest := []) S hK hN hP hS hl (5 + 21 * i + 10) (by have := h4; omega) ((ceP10 h4) _) rfl (c_X3_fits l D g hg x_2 hI_2 (5 + 21 * i + 10) 8 (isRow10 h4) k3) (cwV 1 hts gX1_push_X3_fits rfl rfl rfl (by decide +kernel) ⟨Nat.le_of_ble_eq_true rfl, Nat.le_of_ble_eq_true rfl⟩) rfl rfl (Nat.le_of_ble_eq_true rfl) dX1_push_13 ⟨Nat.zero_le _, Nat.zero_le _⟩ (fun r5 x4 H locs hq6 hP hS => ?_)
        obtain ⟨ex7, hf8⟩ := hq6
        rw [ex7] at hP
        refine w_if_eq (tgt := 49) S dX1_push_16 (by decide) (fun hb9 => ?_) (fun hb9 => ?_)
        · exact w_vret S hr0 hlk hP hS dX1_push_49 (⟨hI_2, hT_2, by assumption⟩)
        · refine lv_aload_n S.1 S.2.1 dX1_push_19 rfl (lv_at hl 0 rfl) ?_
          refine w_get (C := RX1) (T := TX1) (N := 5) S (fun _ h => List.mem_cons_of_mem _ (List.mem_append_left _ (List.mem_append_right _ h))) hK hP (5 + 21 * i + 7) (by have := h4; omega) ((ceP7 h4) _) rfl 0 (by decide) (hts _ (List.mem_of_getElem? (i := 2) rfl)) (v := .ref (g.1 (5 + 21 * i + 8))) rfl dX1_push_20 ?_
          refine w_getN (C := RX3) (T := TX3) (N := 3) S (fun _ h => List.mem_cons_of_mem _ (List.mem_append_right _ h)) hK hP (5 + 21 * i + 8) (by have := h4; omega) ((ceP8 h4) _) rfl 2 (by decide) (hN.1 _ (List.mem_of_getElem? (i := 4) rfl)) (v := .int (x_2 (5 + 21 * i + 8) 2)) rfl dX1_push_23 ?_
          refine lv_topi (fun v10 ev10 => ?_)
          have wv10 : v10.toInt = (x_2 (5 + 21 * i + 8) 2).toInt := by rw [ev10]
          have rv10 : (0 : Int) ≤ v10.toInt ∧ v10.toInt ≤ (64 : Int) := by rw [ev10]; exact hI_2.atP (j := 8) (k := 2) h4 (by decide)
          refine w_if_le (tgt := 49) S dX1_push_26 (by decide) (fun hb11 => ?_) (fun hb11 => ?_)
          · exact w_vret S hr0 hlk hP hS dX1_push_49 (⟨hI_2, hT_2, by assumption⟩)
          · refine lv_aload_n S.1 S.2.1 dX1_push_29 rfl (lv_at hl 0 rfl) ?_
            refine w_get (C := RX1) (T := TX1) (N := 5) S (fun _ h => List.mem_cons_of_mem _ (List.mem_append_left _ (List.mem_append_right _ h))) hK hP (5 + 21 * i + 7) (by have := h4; omega) ((ceP7 h4) _) rfl 1 (by decide) (hts _ (List.mem_of_getElem? (i := 1) rfl)) (v := .ref (g.1 (5 + 21 * i + 10))) rfl dX1_push_30 ?_
            refine lv_aload_n S.1 S.2.1 dX1_push_33 rfl (lv_at hl 0 rfl) ?_
            refine w_get (C := RX1) (T := TX1) (N := 5) S (fun _ h => List.mem_cons_of_mem _ (List.mem_append_left _ (List.mem_append_right _ h))) hK hP (5 + 21 * i + 7) (by have := h4; omega) ((ceP7 h4) _) rfl 0 (by decide) (hts _ (List.mem_of_getElem? (i := 2) rfl)) (v := .ref (g.1 (5 + 21 * i + 8))) rfl dX1_push_34 ?_
            refine w_cVi (As := []) (rest := [.ref (g.1 (5 + 21 * i + 10))]) S hK hN hP hS hl (5 + 21 * i + 8) (by have := h4; omega) ((ceP8 h4) _) rfl (c_X3_takeFirst l D g hg x_2 hI_2 (5 + 21 * i + 8) 64 (isRow8 h4)) (cwV 0 hts gX1_push_X3_takeFirst rfl rfl rfl (by decide +kernel) ⟨Nat.le_of_ble_eq_true rfl, Nat.le_of_ble_eq_true rfl⟩) rfl rfl (Nat.le_of_ble_eq_true rfl) dX1_push_37 ⟨Nat.zero_le _, Nat.zero_le _⟩ (fun r13 x12 H locs hq14 hP hS => ?_)
            obtain ⟨hI15, hT16, hf17⟩ := hq14
            have hT18 : Same (TC) x x12 := hT_2.tr hT16 (fun c0 k0 h => by unfold TC TrC at h; unfold TR; omega)
            refine w_cVv (As := [.int r13]) (rest := []) S hK hN hP hS hl (5 + 21 * i + 10) (by have := h4; omega) ((ceP10 h4) _) rfl (c_X3_add l D g hg x12 hI15 (5 + 21 * i + 10) 8 (isRow10 h4) r13) (cwV 1 hts gX1_push_X3_add rfl rfl rfl (by decide +kernel) ⟨Nat.le_of_ble_eq_true rfl, Nat.le_of_ble_eq_true rfl⟩) rfl rfl (Nat.le_of_ble_eq_true rfl) dX1_push_40 ⟨Nat.zero_le _, Nat.zero_le _⟩ (fun x19 H locs hq21 hP hS => ?_)
            obtain ⟨hI22, hT23, hf24⟩ := hq21
            have hT25 : Same (TC) x x19 := hT18.tr hT23 (fun c0 k0 h => by unfold TC TrC at h; unfold TR; omega)
            refine w_iinc (lv' := [(0, .ref (g.1 (5 + 21 * i + 7)))]) S dX1_push_43 hl (k := 1) rfl (by decide) (by decide) (by omega) (by omega) (fun _ => rfl) (fun v26 ls hv26 hl => ?_)
            refine lv_goto (tgt := 2) S.1 S.2.1 dX1_push_46 (by decide) ?_
            exact ih2 _ _ _ _ v26 hI22 hT25 (by omega) (by omega) (by first | exact fun _ => rfl | (intro h0; exfalso; have e9 := hf2_2 h0; subst e9; omega)) (by omega) hP hS (lv_sub hl [1, 0] rfl)
  refine w_iconst S dX1_push_0 (by decide) (fun k27 hk27 => ?_)
  refine lv_istore_n (lv' := [(1, .int k27), (0, .ref (g.1 (5 + 21 * i + 7)))]) S.1 S.2.1 dX1_push_1 rfl hl (by decide) rfl (fun ls hl => ?_)
  exact J2 _ _ _ _ _ k27 hI hT (by omega) (by omega) (by first | exact fun _ => rfl | (intro h0; exfalso; have e9 := hf2_2 h0; subst e9; omega)) (Nat.lt_succ_self _) hP hS (lv_sub hl [1, 0] rfl)
set_option maxRecDepth 100000 in
set_option maxHeartbeats 4000000 in
theorem c_X1_takeFromSender (l : Launch) (D : va_G) (g : GA) (hg : Inj g) (x : St) (hI : Inv x) (i : Nat) (h4 : i < 4) : Met l yX1_takeFromSender wsX1_takeFromSender ({ frames := 1, cells := 0, slots := 0, locals := 21 } : Room) (va_Pc [.ref (g.1 (5 + 21 * i + 7))] (WI D g x)) (va_Qi (fun r x2 => Inv x2 ∧ Same TC x x2 ∧ ((x (5 + 21 * i + 10) 2).toInt = 0 → r.toInt = -1)) (WO D g) (AQ g)) 0 0 (AQ g) := by
  refine w_met (cc := cX1_takeFromSender) (maxL := 1) (ret := (some .int)) (own := RX1) (by decide) rfl rfl (Nat.le_of_ble_eq_true rfl) (fun p e s m below meth co S hr0 hlk hK hN hP hS ls hl => ?_)
  have hts := S.2.2.2.2
  have hl : lv_has ls 1 [(0, .ref (g.1 (5 + 21 * i + 7)))] := hl
  have hT : Same (TC) x x := Same.rf
  refine lv_aload_n S.1 S.2.1 dX1_takeFromSender_0 rfl (lv_at hl 0 rfl) ?_
  refine w_get (C := RX1) (T := TX1) (N := 5) S (fun _ h => List.mem_cons_of_mem _ (List.mem_append_left _ (List.mem_append_right _ h))) hK hP (5 + 21 * i + 7) (by have := h4; omega) ((ceP7 h4) _) rfl 3 (by decide) (hts _ (List.mem_of_getElem? (i := 1) rfl)) (v := .int (x (5 + 21 * i + 7) 3)) rfl dX1_takeFromSender_1 ?_
  refine lv_topi (fun v1 ev1 => ?_)
  have wv1 : v1.toInt = (x (5 + 21 * i + 7) 3).toInt := by rw [ev1]
  have rv1 : (0 : Int) ≤ v1.toInt ∧ v1.toInt ≤ (1 : Int) := by rw [ev1]; exact hI.atP (j := 7) (k := 3) h4 (by decide)
  refine w_if_ne (tgt := 14) S dX1_takeFromSender_4 (by decide) (fun hb2 => ?_) (fun hb2 => ?_)
  · refine w_iconst S dX1_takeFromSender_14 (by decide) (fun k3 hk3 => ?_)
    refine lv_goto (tgt := 25) S.1 S.2.1 dX1_takeFromSender_15 (by decide) ?_
    exact w_iret S hr0 hlk hP hS dX1_takeFromSender_25 (⟨hI, hT, by omega⟩)
  · refine lv_aload_n S.1 S.2.1 dX1_takeFromSender_7 rfl (lv_at hl 0 rfl) ?_
    refine w_get (C := RX1) (T := TX1) (N := 5) S (fun _ h => List.mem_cons_of_mem _ (List.mem_append_left _ (List.mem_append_right _ h))) hK hP (5 + 21 * i + 7) (by have := h4; omega) ((ceP7 h4) _) rfl 4 (by decide) (hts _ (List.mem_of_getElem? (i := 2) rfl)) (v := .int (x (5 + 21 * i + 7) 4)) rfl dX1_takeFromSender_8 ?_
    refine lv_topi (fun v4 ev4 => ?_)
    have wv4 : v4.toInt = (x (5 + 21 * i + 7) 4).toInt := by rw [ev4]
    have rv4 : (0 : Int) ≤ v4.toInt ∧ v4.toInt ≤ (1 : Int) := by rw [ev4]; exact hI.atP (j := 7) (k := 4) h4 (by decide)
    refine w_if_ne (tgt := 18) S dX1_takeFromSender_11 (by decide) (fun hb5 => ?_) (fun hb5 => ?_)
    · refine lv_aload_n S.1 S.2.1 dX1_takeFromSender_18 rfl (lv_at hl 0 rfl) ?_
      refine w_get (C := RX1) (T := TX1) (N := 5) S (fun _ h => List.mem_cons_of_mem _ (List.mem_append_left _ (List.mem_append_right _ h))) hK hP (5 + 21 * i + 7) (by have := h4; omega) ((ceP7 h4) _) rfl 1 (by decide) (hts _ (List.mem_of_getElem? (i := 3) rfl)) (v := .ref (g.1 (5 + 21 * i + 10))) rfl dX1_takeFromSender_19 ?_
      refine w_cVi (As := []) (rest := []) S hK hN hP hS hl (5 + 21 * i + 10) (by have := h4; omega) ((ceP10 h4) _) rfl (c_X3_takeFirst l D g hg x hI (5 + 21 * i + 10) 8 (isRow10 h4)) (cwV 0 hts gX1_takeFromSender_X3_takeFirst rfl rfl rfl (by decide +kernel) ⟨Nat.le_of_ble_eq_true rfl, Nat.le_of_ble_eq_true rfl⟩) rfl rfl (Nat.le_of_ble_eq_true rfl) dX1_takeFromSender_22 ⟨Nat.zero_le _, Nat.zero_le _⟩ (fun r7 x6 H locs hq8 hP hS => ?_)
      obtain ⟨hI9, hT10, hf11⟩ := hq8
      have hT12 : Same (TC) x x6 := hT.tr hT10 (fun c0 k0 h => by unfold TC TrC at h; unfold TR; omega)
      exact w_iret S hr0 hlk hP hS dX1_takeFromSender_25 (⟨hI9, hT12, by omega⟩)
    · refine w_iconst S dX1_takeFromSender_14 (by decide) (fun k13 hk13 => ?_)
      refine lv_goto (tgt := 25) S.1 S.2.1 dX1_takeFromSender_15 (by decide) ?_
      exact w_iret S hr0 hlk hP hS dX1_takeFromSender_25 (⟨hI, hT, by omega⟩)
set_option maxRecDepth 100000 in
set_option maxHeartbeats 4000000 in
theorem c_X5_add (l : Launch) (D : va_G) (g : GA) (hg : Inj g) (x : St) (hI : Inv x) (i : Nat) (h4 : i < 4) (md : Int32) (nv : Int32) (tk : Int32) (by_ : Int32) (hm : 0 ≤ md.toInt ∧ md.toInt ≤ 24) (hz : 0 ≤ tk.toInt ∧ tk.toInt ≤ 1) : Met l yX5_add wsX5_add ({ frames := 0, cells := 0, slots := 0, locals := 0 } : Room) (va_Pc [.ref (g.1 (5 + 21 * i + 12)), .int md, .int nv, .int tk, .int by_] (WI D g x)) (va_Qi (fun r x2 => Inv x2 ∧ Same TC x x2 ∧ ((x (5 + 21 * i + 12) 4).toInt < 3 → r.toInt = 1) ∧ 0 ≤ r.toInt ∧ r.toInt ≤ 1) (WO D g) (AQ g)) 0 0 (AQ g) := by
  refine w_met (cc := cX5_add) (maxL := 5) (ret := (some .boolean)) (own := RX5) (by decide) rfl rfl (Nat.le_of_ble_eq_true rfl) (fun p e s m below meth co S hr0 hlk hK hN hP hS ls hl => ?_)
  have hts := S.2.2.2.2
  have hl : lv_has ls 5 [(0, .ref (g.1 (5 + 21 * i + 12))), (1, .int md), (2, .int nv), (3, .int tk), (4, .int by_)] := hl
  have hT : Same (TC) x x := Same.rf
  refine lv_aload_n S.1 S.2.1 dX5_add_0 rfl (lv_at hl 0 rfl) ?_
  refine w_get (C := RX5) (T := TX5) (N := 5) S (fun _ h => List.mem_cons_of_mem _ (List.mem_append_right _ h)) hK hP (5 + 21 * i + 12) (by have := h4; omega) ((ceP12 h4) _) rfl 4 (by decide) (hts _ (List.mem_of_getElem? (i := 1) rfl)) (v := .int (x (5 + 21 * i + 12) 4)) rfl dX5_add_1 ?_
  refine lv_topi (fun v1 ev1 => ?_)
  have wv1 : v1.toInt = (x (5 + 21 * i + 12) 4).toInt := by rw [ev1]
  have rv1 : (0 : Int) ≤ v1.toInt ∧ v1.toInt ≤ (3 : Int) := by rw [ev1]; exact hI.atP (j := 12) (k := 4) h4 (by decide)
  refine w_iconst S dX5_add_4 (by decide) (fun k2 hk2 => ?_)
  refine w_icmp_lt (tgt := 10) S dX5_add_5 (by decide) (fun hb3 => ?_) (fun hb3 => ?_)
  · refine lv_aload_n S.1 S.2.1 dX5_add_10 rfl (lv_at hl 0 rfl) ?_
    refine w_get (C := RX5) (T := TX5) (N := 5) S (fun _ h => List.mem_cons_of_mem _ (List.mem_append_right _ h)) hK hP (5 + 21 * i + 12) (by have := h4; omega) ((ceP12 h4) _) rfl 0 (by decide) (hts _ (List.mem_of_getElem? (i := 2) rfl)) (v := .ref (g.1 (5 + 21 * i + 13))) rfl dX5_add_11 ?_
    refine lv_aload_n S.1 S.2.1 dX5_add_14 rfl (lv_at hl 0 rfl) ?_
    refine w_get (C := RX5) (T := TX5) (N := 5) S (fun _ h => List.mem_cons_of_mem _ (List.mem_append_right _ h)) hK hP (5 + 21 * i + 12) (by have := h4; omega) ((ceP12 h4) _) rfl 4 (by decide) (hts _ (List.mem_of_getElem? (i := 1) rfl)) (v := .int (x (5 + 21 * i + 12) 4)) rfl dX5_add_15 ?_
    refine lv_topi (fun v4 ev4 => ?_)
    have wv4 : v4.toInt = (x (5 + 21 * i + 12) 4).toInt := by rw [ev4]
    have rv4 : (0 : Int) ≤ v4.toInt ∧ v4.toInt ≤ (3 : Int) := by rw [ev4]; exact hI.atP (j := 12) (k := 4) h4 (by decide)
    refine lv_iload_n S.1 S.2.1 dX5_add_18 rfl (lv_at hl 1 rfl) ?_
    refine w_iast S hK hg hP hS (5 + 21 * i + 13) (by have := h4; omega) (ceP13 h4) (by omega) (by omega) dX5_add_19 (fun x5 H locs ex5 hP hS => ?_)
    have hI6 : Inv x5 := by rw [ex5]; exact hI.upP (j := 13) h4 (by decide) (show (0 : Int) ≤ _ by omega) (show _ ≤ (24 : Int) by omega)
    have hT7 : Same (TC) x x5 := by rw [ex5]; exact hT.up (by unfold TC TrC; omega)
    have u8 : (x5 (5 + 21 * i + 12) 4).toInt = (x (5 + 21 * i + 12) 4).toInt := by rw [ex5, up2_ne _ _ (by omega)]
    refine lv_aload_n S.1 S.2.1 dX5_add_20 rfl (lv_at hl 0 rfl) ?_
    refine w_get (C := RX5) (T := TX5) (N := 5) S (fun _ h => List.mem_cons_of_mem _ (List.mem_append_right _ h)) hK hP (5 + 21 * i + 12) (by have := h4; omega) ((ceP12 h4) _) rfl 1 (by decide) (hts _ (List.mem_of_getElem? (i := 3) rfl)) (v := .ref (g.1 (5 + 21 * i + 14))) rfl dX5_add_21 ?_
    refine lv_aload_n S.1 S.2.1 dX5_add_24 rfl (lv_at hl 0 rfl) ?_
    refine w_get (C := RX5) (T := TX5) (N := 5) S (fun _ h => List.mem_cons_of_mem _ (List.mem_append_right _ h)) hK hP (5 + 21 * i + 12) (by have := h4; omega) ((ceP12 h4) _) rfl 4 (by decide) (hts _ (List.mem_of_getElem? (i := 1) rfl)) (v := .int (x5 (5 + 21 * i + 12) 4)) rfl dX5_add_25 ?_
    refine lv_topi (fun v9 ev9 => ?_)
    have wv9 : v9.toInt = (x5 (5 + 21 * i + 12) 4).toInt := by rw [ev9]
    have rv9 : (0 : Int) ≤ v9.toInt ∧ v9.toInt ≤ (3 : Int) := by rw [ev9]; exact hI6.atP (j := 12) (k := 4) h4 (by decide)
    refine lv_iload_n S.1 S.2.1 dX5_add_28 rfl (lv_at hl 2 rfl) ?_
    refine w_iast S hK hg hP hS (5 + 21 * i + 14) (by have := h4; omega) (ceP14 h4) (by omega) (by omega) dX5_add_29 (fun x10 H locs ex10 hP hS => ?_)
    have hI11 : Inv x10 := by rw [ex10]; exact hI6.upP (j := 14) h4 (by decide) (i_ge _) (i_le _)
    have hT12 : Same (TC) x x10 := by rw [ex10]; exact hT7.up (by unfold TC TrC; omega)
    have u13 : (x10 (5 + 21 * i + 12) 4).toInt = (x5 (5 + 21 * i + 12) 4).toInt := by rw [ex10, up2_ne _ _ (by omega)]
    refine lv_aload_n S.1 S.2.1 dX5_add_30 rfl (lv_at hl 0 rfl) ?_
    refine w_get (C := RX5) (T := TX5) (N := 5) S (fun _ h => List.mem_cons_of_mem _ (List.mem_append_right _ h)) hK hP (5 + 21 * i + 12) (by have := h4; omega) ((ceP12 h4) _) rfl 2 (by decide) (hts _ (List.mem_of_getElem? (i := 4) rfl)) (v := .ref (g.1 (5 + 21 * i + 15))) rfl dX5_add_31 ?_
    refine lv_aload_n S.1 S.2.1 dX5_add_34 rfl (lv_at hl 0 rfl) ?_
    refine w_get (C := RX5) (T := TX5) (N := 5) S (fun _ h => List.mem_cons_of_mem _ (List.mem_append_right _ h)) hK hP (5 + 21 * i + 12) (by have := h4; omega) ((ceP12 h4) _) rfl 4 (by decide) (hts _ (List.mem_of_getElem? (i := 1) rfl)) (v := .int (x10 (5 + 21 * i + 12) 4)) rfl dX5_add_35 ?_
    refine lv_topi (fun v14 ev14 => ?_)
    have wv14 : v14.toInt = (x10 (5 + 21 * i + 12) 4).toInt := by rw [ev14]
    have rv14 : (0 : Int) ≤ v14.toInt ∧ v14.toInt ≤ (3 : Int) := by rw [ev14]; exact hI11.atP (j := 12) (k := 4) h4 (by decide)
    refine lv_iload_n S.1 S.2.1 dX5_add_38 rfl (lv_at hl 3 rfl) ?_
    refine w_zast S hK hg hP hS (5 + 21 * i + 15) (by have := h4; omega) (ceP15 h4) (z01 (by omega) (by omega)) (by omega) (by omega) dX5_add_39 (fun x15 H locs ex15 hP hS => ?_)
    have hI16 : Inv x15 := by rw [ex15]; exact hI11.upP (j := 15) h4 (by decide) (show (0 : Int) ≤ _ by omega) (show _ ≤ (1 : Int) by omega)
    have hT17 : Same (TC) x x15 := by rw [ex15]; exact hT12.up (by unfold TC TrC; omega)
    have u18 : (x15 (5 + 21 * i + 12) 4).toInt = (x10 (5 + 21 * i + 12) 4).toInt := by rw [ex15, up2_ne _ _ (by omega)]
    refine lv_aload_n S.1 S.2.1 dX5_add_40 rfl (lv_at hl 0 rfl) ?_
    refine w_get (C := RX5) (T := TX5) (N := 5) S (fun _ h => List.mem_cons_of_mem _ (List.mem_append_right _ h)) hK hP (5 + 21 * i + 12) (by have := h4; omega) ((ceP12 h4) _) rfl 3 (by decide) (hts _ (List.mem_of_getElem? (i := 5) rfl)) (v := .ref (g.1 (5 + 21 * i + 16))) rfl dX5_add_41 ?_
    refine lv_aload_n S.1 S.2.1 dX5_add_44 rfl (lv_at hl 0 rfl) ?_
    refine w_get (C := RX5) (T := TX5) (N := 5) S (fun _ h => List.mem_cons_of_mem _ (List.mem_append_right _ h)) hK hP (5 + 21 * i + 12) (by have := h4; omega) ((ceP12 h4) _) rfl 4 (by decide) (hts _ (List.mem_of_getElem? (i := 1) rfl)) (v := .int (x15 (5 + 21 * i + 12) 4)) rfl dX5_add_45 ?_
    refine lv_topi (fun v19 ev19 => ?_)
    have wv19 : v19.toInt = (x15 (5 + 21 * i + 12) 4).toInt := by rw [ev19]
    have rv19 : (0 : Int) ≤ v19.toInt ∧ v19.toInt ≤ (3 : Int) := by rw [ev19]; exact hI16.atP (j := 12) (k := 4) h4 (by decide)
    refine lv_iload S.1 S.2.1 dX5_add_48 (lv_at hl 4 rfl) ?_
    refine w_iast S hK hg hP hS (5 + 21 * i + 16) (by have := h4; omega) (ceP16 h4) (by omega) (by omega) dX5_add_50 (fun x20 H locs ex20 hP hS => ?_)
    have hI21 : Inv x20 := by rw [ex20]; exact hI16.upP (j := 16) h4 (by decide) (i_ge _) (i_le _)
    have hT22 : Same (TC) x x20 := by rw [ex20]; exact hT17.up (by unfold TC TrC; omega)
    have u23 : (x20 (5 + 21 * i + 12) 4).toInt = (x15 (5 + 21 * i + 12) 4).toInt := by rw [ex20, up2_ne _ _ (by omega)]
    refine lv_aload_n S.1 S.2.1 dX5_add_51 rfl (lv_at hl 0 rfl) ?_
    refine lv_dup S.1 S.2.1 dX5_add_52 rfl ?_
    refine w_get (C := RX5) (T := TX5) (N := 5) S (fun _ h => List.mem_cons_of_mem _ (List.mem_append_right _ h)) hK hP (5 + 21 * i + 12) (by have := h4; omega) ((ceP12 h4) _) rfl 4 (by decide) (hts _ (List.mem_of_getElem? (i := 1) rfl)) (v := .int (x20 (5 + 21 * i + 12) 4)) rfl dX5_add_53 ?_
    refine lv_topi (fun v24 ev24 => ?_)
    have wv24 : v24.toInt = (x20 (5 + 21 * i + 12) 4).toInt := by rw [ev24]
    have rv24 : (0 : Int) ≤ v24.toInt ∧ v24.toInt ≤ (3 : Int) := by rw [ev24]; exact hI21.atP (j := 12) (k := 4) h4 (by decide)
    refine w_iconst S dX5_add_56 (by decide) (fun k25 hk25 => ?_)
    refine w_iadd S dX5_add_57 (by omega) (by omega) (fun v26 hv26 => ?_)
    refine w_put (C := RX5) (T := TX5) (N := 5) (F := FWait g (5 + 21 * i)) S (fun _ h => List.mem_cons_of_mem _ (List.mem_append_right _ h)) tyX5_ok nmX5 hK hg hP hS (5 + 21 * i + 12) (by have := h4; omega) (ceP12 h4) rfl 4 (by decide) (hts _ (List.mem_of_getElem? (i := 1) rfl)) rfl rfl rfl (fun _ => Nat.le_of_ble_eq_true rfl) (fun _ => rfl) dX5_add_58 (fun x27 H locs ex27 hP hS => ?_)
    have hI28 : Inv x27 := by rw [ex27]; exact hI21.upP (j := 12) h4 (by decide) (show (0 : Int) ≤ _ by omega) (show _ ≤ (3 : Int) by omega)
    have hT29 : Same (TC) x x27 := by rw [ex27]; exact hT22.up (by unfold TC TrC; omega)
    have u30 : (x27 (5 + 21 * i + 12) 4).toInt = v26.toInt := by rw [ex27, up2_at]
    refine w_iconst S dX5_add_61 (by decide) (fun k31 hk31 => ?_)
    exact w_zret S hr0 hlk hP hS dX5_add_62 (z01 (by omega) (by omega)) (⟨hI28, hT29, by omega, by omega⟩)
  · refine w_iconst S dX5_add_8 (by decide) (fun k32 hk32 => ?_)
    exact w_zret S hr0 hlk hP hS dX5_add_9 (z01 (by omega) (by omega)) (⟨hI, hT, by omega, by omega⟩)
set_option maxRecDepth 100000 in
set_option maxHeartbeats 4000000 in
theorem c_X5_isFirstDue (l : Launch) (D : va_G) (g : GA) (hg : Inj g) (x : St) (hI : Inv x) (i : Nat) (h4 : i < 4) : Met l yX5_isFirstDue wsX5_isFirstDue ({ frames := 0, cells := 0, slots := 0, locals := 0 } : Room) (va_Pc [.ref (g.1 (5 + 21 * i + 12))] (WI D g x)) (va_Qi (fun r x2 => x2 = x ∧ (r.toInt = 1 → 0 < (x (5 + 21 * i + 12) 4).toInt) ∧ 0 ≤ r.toInt ∧ r.toInt ≤ 1) (WO D g) (AQ g)) 0 0 (AQ g) := by
  refine w_met (cc := cX5_isFirstDue) (maxL := 1) (ret := (some .boolean)) (own := RX5) (by decide) rfl rfl (Nat.le_of_ble_eq_true rfl) (fun p e s m below meth co S hr0 hlk hK hN hP hS ls hl => ?_)
  have hts := S.2.2.2.2
  have hl : lv_has ls 1 [(0, .ref (g.1 (5 + 21 * i + 12)))] := hl
  refine lv_aload_n S.1 S.2.1 dX5_isFirstDue_0 rfl (lv_at hl 0 rfl) ?_
  refine w_get (C := RX5) (T := TX5) (N := 5) S (fun _ h => List.mem_cons_of_mem _ (List.mem_append_right _ h)) hK hP (5 + 21 * i + 12) (by have := h4; omega) ((ceP12 h4) _) rfl 4 (by decide) (hts _ (List.mem_of_getElem? (i := 1) rfl)) (v := .int (x (5 + 21 * i + 12) 4)) rfl dX5_isFirstDue_1 ?_
  refine lv_topi (fun v1 ev1 => ?_)
  have wv1 : v1.toInt = (x (5 + 21 * i + 12) 4).toInt := by rw [ev1]
  have rv1 : (0 : Int) ≤ v1.toInt ∧ v1.toInt ≤ (3 : Int) := by rw [ev1]; exact hI.atP (j := 12) (k := 4) h4 (by decide)
  refine w_if_le (tgt := 20) S dX5_isFirstDue_4 (by decide) (fun hb2 => ?_) (fun hb2 => ?_)
  · refine w_iconst S dX5_isFirstDue_20 (by decide) (fun k3 hk3 => ?_)
    exact w_zret S hr0 hlk hP hS dX5_isFirstDue_21 (z01 (by omega) (by omega)) (⟨rfl, by omega, by omega⟩)
  · refine lv_aload_n S.1 S.2.1 dX5_isFirstDue_7 rfl (lv_at hl 0 rfl) ?_
    refine w_get (C := RX5) (T := TX5) (N := 5) S (fun _ h => List.mem_cons_of_mem _ (List.mem_append_right _ h)) hK hP (5 + 21 * i + 12) (by have := h4; omega) ((ceP12 h4) _) rfl 3 (by decide) (hts _ (List.mem_of_getElem? (i := 2) rfl)) (v := .ref (g.1 (5 + 21 * i + 16))) rfl dX5_isFirstDue_8 ?_
    refine w_iconst S dX5_isFirstDue_11 (by decide) (fun k4 hk4 => ?_)
    refine w_iald S hK hP (5 + 21 * i + 16) (by have := h4; omega) (ceP16 h4) (by omega) (by omega) dX5_isFirstDue_12 (fun v5 ev5 => ?_)
    have wv5 : v5.toInt = (x (5 + 21 * i + 16) k4.toInt.toNat).toInt := by rw [ev5]
    refine w_if_ne (tgt := 20) S dX5_isFirstDue_13 (by decide) (fun hb6 => ?_) (fun hb6 => ?_)
    · refine w_iconst S dX5_isFirstDue_20 (by decide) (fun k7 hk7 => ?_)
      exact w_zret S hr0 hlk hP hS dX5_isFirstDue_21 (z01 (by omega) (by omega)) (⟨rfl, by omega, by omega⟩)
    · refine w_iconst S dX5_isFirstDue_16 (by decide) (fun k8 hk8 => ?_)
      refine lv_goto (tgt := 21) S.1 S.2.1 dX5_isFirstDue_17 (by decide) ?_
      exact w_zret S hr0 hlk hP hS dX5_isFirstDue_21 (z01 (by omega) (by omega)) (⟨rfl, by omega, by omega⟩)
set_option maxRecDepth 100000 in
set_option maxHeartbeats 4000000 in
theorem c_X5_removeFirst (l : Launch) (D : va_G) (g : GA) (hg : Inj g) (x : St) (hI : Inv x) (i : Nat) (h4 : i < 4) : Met l yX5_removeFirst wsX5_removeFirst ({ frames := 1, cells := 0, slots := 0, locals := 21 } : Room) (va_Pc [.ref (g.1 (5 + 21 * i + 12))] (WI D g x)) (va_Qv (fun x2 => Inv x2 ∧ Same TC x x2 ∧ True) (WO D g) (AQ g)) 0 0 (AQ g) := by
  refine w_met (cc := cX5_removeFirst) (maxL := 2) (ret := none) (own := RX5) (by decide) rfl rfl (Nat.le_of_ble_eq_true rfl) (fun p e s m below meth co S hr0 hlk hK hN hP hS ls hl => ?_)
  have hts := S.2.2.2.2
  have hl : lv_has ls 2 [(0, .ref (g.1 (5 + 21 * i + 12)))] := hl
  have hT : Same (TC) x x := Same.rf
  have J2 : ∀ (n0 : Nat) (x_2 : St) (H : Heap) (locs : List Loc) (ls : Array Slot) (y2_1 : Int32), Inv x_2 → Same (TC) x x_2 → (1 ≤ y2_1.toInt) → (y2_1.toInt ≤ 3) → (3 - y2_1.toInt).toNat < n0 → va_P D vwCl (WL g x_2) H → va_S (AQ g) s.heap H locs → lv_has ls 2 [(0, .ref (g.1 (5 + 21 * i + 12))), (1, .int y2_1)] → W p l e ({ frames := 1, cells := 0, slots := 0, locals := 21 } : Room) s m ([.ref (g.1 (5 + 21 * i + 12))] : List Value).toArray below meth co H locs 0 0 (MQ below (va_Qv (fun x2 => Inv x2 ∧ Same TC x x2 ∧ True) (WO D g) (AQ g)) ([.ref (g.1 (5 + 21 * i + 12))] : List Value).toArray s 0 0 (AQ g)) (F0 m 2 ls []) := by
    intro n0
    induction n0 with
    | zero => intro x_2 H locs ls y2_1 hI_2 hT_2 hf2_0 hf2_1 hm_2 hP hS hl; exact absurd hm_2 (Nat.not_lt_zero _)
    | succ n0 ih2 =>
      intro x_2 H locs ls y2_1 hI_2 hT_2 hf2_0 hf2_1 hm_2 hP hS hl
      refine lv_iload_n S.1 S.2.1 dX5_removeFirst_2 rfl (lv_at hl 1 rfl) ?_
      refine lv_aload_n S.1 S.2.1 dX5_removeFirst_3 rfl (lv_at hl 0 rfl) ?_
      refine w_get (C := RX5) (T := TX5) (N := 5) S (fun _ h => List.mem_cons_of_mem _ (List.mem_append_right _ h)) hK hP (5 + 21 * i + 12) (by have := h4; omega) ((ceP12 h4) _) rfl 4 (by decide) (hts _ (List.mem_of_getElem? (i := 1) rfl)) (v := .int (x_2 (5 + 21 * i + 12) 4)) rfl dX5_removeFirst_4 ?_
      refine lv_topi (fun v1 ev1 => ?_)
      have wv1 : v1.toInt = (x_2 (5 + 21 * i + 12) 4).toInt := by rw [ev1]
      have rv1 : (0 : Int) ≤ v1.toInt ∧ v1.toInt ≤ (3 : Int) := by rw [ev1]; exact hI_2.atP (j := 12) (k := 4) h4 (by decide)
      refine w_icmp_ge (tgt := 72) S dX5_removeFirst_7 (by decide) (fun hb2 => ?_) (fun hb2 => ?_)
      · refine lv_aload_n S.1 S.2.1 dX5_removeFirst_72 rfl (lv_at hl 0 rfl) ?_
        refine w_iconst S dX5_removeFirst_73 (by decide) (fun k3 hk3 => ?_)
        refine lv_aload_n S.1 S.2.1 dX5_removeFirst_74 rfl (lv_at hl 0 rfl) ?_
        refine w_get (C := RX5) (T := TX5) (N := 5) S (fun _ h => List.mem_cons_of_mem _ (List.mem_append_right _ h)) hK hP (5 + 21 * i + 12) (by have := h4; omega) ((ceP12 h4) _) rfl 4 (by decide) (hts _ (List.mem_of_getElem? (i := 1) rfl)) (v := .int (x_2 (5 + 21 * i + 12) 4)) rfl dX5_removeFirst_75 ?_
        refine lv_topi (fun v4 ev4 => ?_)
        have wv4 : v4.toInt = (x_2 (5 + 21 * i + 12) 4).toInt := by rw [ev4]
        have rv4 : (0 : Int) ≤ v4.toInt ∧ v4.toInt ≤ (3 : Int) := by rw [ev4]; exact hI_2.atP (j := 12) (k := 4) h4 (by decide)
        refine w_iconst S dX5_removeFirst_78 (by decide) (fun k5 hk5 => ?_)
        refine w_isub S dX5_removeFirst_79 (by omega) (by omega) (fun v6 hv6 => ?_)
        refine va_mmax S.1 S.2.1 (by rw [S.2.2.1]; exact hl.1.symm) S.2.2.2.1 (hts _ (List.mem_of_getElem? (i := 6) rfl)) (hts _ (List.mem_of_getElem? (i := 7) rfl)) (hts _ (List.mem_of_getElem? (i := 8) rfl)) (hts _ (List.mem_of_getElem? (i := 9) rfl)) (Nat.le_of_ble_eq_true rfl) (Nat.le_of_ble_eq_true rfl) (Nat.zero_le _) (Nat.zero_le _) dX5_removeFirst_80 ?_
        refine lv_topi (fun v7 ev7 => ?_)
        have hv7 := t_max ev7
        refine w_put (C := RX5) (T := TX5) (N := 5) (F := FWait g (5 + 21 * i)) S (fun _ h => List.mem_cons_of_mem _ (List.mem_append_right _ h)) tyX5_ok nmX5 hK hg hP hS (5 + 21 * i + 12) (by have := h4; omega) (ceP12 h4) rfl 4 (by decide) (hts _ (List.mem_of_getElem? (i := 1) rfl)) rfl rfl rfl (fun _ => Nat.le_of_ble_eq_true rfl) (fun _ => rfl) dX5_removeFirst_83 (fun x8 H locs ex8 hP hS => ?_)
        have hI9 : Inv x8 := by rw [ex8]; exact hI_2.upP (j := 12) h4 (by decide) (show (0 : Int) ≤ _ by omega) (show _ ≤ (3 : Int) by omega)
        have hT10 : Same (TC) x x8 := by rw [ex8]; exact hT_2.up (by unfold TC TrC; omega)
        have u11 : (x8 (5 + 21 * i + 12) 4).toInt = v7.toInt := by rw [ex8, up2_at]
        exact w_vret S hr0 hlk hP hS dX5_removeFirst_86 (⟨hI9, hT10, trivial⟩)
      · refine lv_aload_n S.1 S.2.1 dX5_removeFirst_10 rfl (lv_at hl 0 rfl) ?_
        refine w_get (C := RX5) (T := TX5) (N := 5) S (fun _ h => List.mem_cons_of_mem _ (List.mem_append_right _ h)) hK hP (5 + 21 * i + 12) (by have := h4; omega) ((ceP12 h4) _) rfl 0 (by decide) (hts _ (List.mem_of_getElem? (i := 2) rfl)) (v := .ref (g.1 (5 + 21 * i + 13))) rfl dX5_removeFirst_11 ?_
        refine lv_iload_n S.1 S.2.1 dX5_removeFirst_14 rfl (lv_at hl 1 rfl) ?_
        refine w_iconst S dX5_removeFirst_15 (by decide) (fun k12 hk12 => ?_)
        refine w_isub S dX5_removeFirst_16 (by omega) (by omega) (fun v13 hv13 => ?_)
        refine lv_aload_n S.1 S.2.1 dX5_removeFirst_17 rfl (lv_at hl 0 rfl) ?_
        refine w_get (C := RX5) (T := TX5) (N := 5) S (fun _ h => List.mem_cons_of_mem _ (List.mem_append_right _ h)) hK hP (5 + 21 * i + 12) (by have := h4; omega) ((ceP12 h4) _) rfl 0 (by decide) (hts _ (List.mem_of_getElem? (i := 2) rfl)) (v := .ref (g.1 (5 + 21 * i + 13))) rfl dX5_removeFirst_18 ?_
        refine lv_iload_n S.1 S.2.1 dX5_removeFirst_21 rfl (lv_at hl 1 rfl) ?_
        refine w_iald S hK hP (5 + 21 * i + 13) (by have := h4; omega) (ceP13 h4) (by omega) (by omega) dX5_removeFirst_22 (fun v14 ev14 => ?_)
        have wv14 : v14.toInt = (x_2 (5 + 21 * i + 13) y2_1.toInt.toNat).toInt := by rw [ev14]
        have rv14 : (0 : Int) ≤ v14.toInt ∧ v14.toInt ≤ (24 : Int) := by rw [ev14]; exact hI_2.atP (j := 13) (k := _) h4 (by decide)
        refine w_iast S hK hg hP hS (5 + 21 * i + 13) (by have := h4; omega) (ceP13 h4) (by omega) (by omega) dX5_removeFirst_23 (fun x15 H locs ex15 hP hS => ?_)
        have hI16 : Inv x15 := by rw [ex15]; exact hI_2.upP (j := 13) h4 (by decide) (show (0 : Int) ≤ _ by omega) (show _ ≤ (24 : Int) by omega)
        have hT17 : Same (TC) x x15 := by rw [ex15]; exact hT_2.up (by unfold TC TrC; omega)
        have u18 : (x15 (5 + 21 * i + 12) 4).toInt = (x_2 (5 + 21 * i + 12) 4).toInt := by rw [ex15, up2_ne _ _ (by omega)]
        refine lv_aload_n S.1 S.2.1 dX5_removeFirst_24 rfl (lv_at hl 0 rfl) ?_
        refine w_get (C := RX5) (T := TX5) (N := 5) S (fun _ h => List.mem_cons_of_mem _ (List.mem_append_right _ h)) hK hP (5 + 21 * i + 12) (by have := h4; omega) ((ceP12 h4) _) rfl 1 (by decide) (hts _ (List.mem_of_getElem? (i := 3) rfl)) (v := .ref (g.1 (5 + 21 * i + 14))) rfl dX5_removeFirst_25 ?_
        refine lv_iload_n S.1 S.2.1 dX5_removeFirst_28 rfl (lv_at hl 1 rfl) ?_
        refine w_iconst S dX5_removeFirst_29 (by decide) (fun k19 hk19 => ?_)
        refine w_isub S dX5_removeFirst_30 (by omega) (by omega) (fun v20 hv20 => ?_)
        refine lv_aload_n S.1 S.2.1 dX5_removeFirst_31 rfl (lv_at hl 0 rfl) ?_
        refine w_get (C := RX5) (T := TX5) (N := 5) S (fun _ h => List.mem_cons_of_mem _ (List.mem_append_right _ h)) hK hP (5 + 21 * i + 12) (by have := h4; omega) ((ceP12 h4) _) rfl 1 (by decide) (hts _ (List.mem_of_getElem? (i := 3) rfl)) (v := .ref (g.1 (5 + 21 * i + 14))) rfl dX5_removeFirst_32 ?_
        refine lv_iload_n S.1 S.2.1 dX5_removeFirst_35 rfl (lv_at hl 1 rfl) ?_
        refine w_iald S hK hP (5 + 21 * i + 14) (by have := h4; omega) (ceP14 h4) (by omega) (by omega) dX5_removeFirst_36 (fun v21 ev21 => ?_)
        have wv21 : v21.toInt = (x15 (5 + 21 * i + 14) y2_1.toInt.toNat).toInt := by rw [ev21]
        refine w_iast S hK hg hP hS (5 + 21 * i + 14) (by have := h4; omega) (ceP14 h4) (by omega) (by omega) dX5_removeFirst_37 (fun x22 H locs ex22 hP hS => ?_)
        have hI23 : Inv x22 := by rw [ex22]; exact hI16.upP (j := 14) h4 (by decide) (i_ge _) (i_le _)
        have hT24 : Same (TC) x x22 := by rw [ex22]; exact hT17.up (by unfold TC TrC; omega)
        have u25 : (x22 (5 + 21 * i + 12) 4).toInt = (x15 (5 + 21 * i + 12) 4).toInt := by rw [ex22, up2_ne _ _ (by omega)]
        refine lv_aload_n S.1 S.2.1 dX5_removeFirst_38 rfl (lv_at hl 0 rfl) ?_
        refine w_get (C := RX5) (T := TX5) (N := 5) S (fun _ h => List.mem_cons_of_mem _ (List.mem_append_right _ h)) hK hP (5 + 21 * i + 12) (by have := h4; omega) ((ceP12 h4) _) rfl 2 (by decide) (hts _ (List.mem_of_getElem? (i := 4) rfl)) (v := .ref (g.1 (5 + 21 * i + 15))) rfl dX5_removeFirst_39 ?_
        refine lv_iload_n S.1 S.2.1 dX5_removeFirst_42 rfl (lv_at hl 1 rfl) ?_
        refine w_iconst S dX5_removeFirst_43 (by decide) (fun k26 hk26 => ?_)
        refine w_isub S dX5_removeFirst_44 (by omega) (by omega) (fun v27 hv27 => ?_)
        refine lv_aload_n S.1 S.2.1 dX5_removeFirst_45 rfl (lv_at hl 0 rfl) ?_
        refine w_get (C := RX5) (T := TX5) (N := 5) S (fun _ h => List.mem_cons_of_mem _ (List.mem_append_right _ h)) hK hP (5 + 21 * i + 12) (by have := h4; omega) ((ceP12 h4) _) rfl 2 (by decide) (hts _ (List.mem_of_getElem? (i := 4) rfl)) (v := .ref (g.1 (5 + 21 * i + 15))) rfl dX5_removeFirst_46 ?_
        refine lv_iload_n S.1 S.2.1 dX5_removeFirst_49 rfl (lv_at hl 1 rfl) ?_
        refine w_zald S hK hP (5 + 21 * i + 15) (by have := h4; omega) (ceP15 h4) (by omega) (by omega) dX5_removeFirst_50 (fun v28 ev28 => ?_)
        have wv28 : v28.toInt = (x22 (5 + 21 * i + 15) y2_1.toInt.toNat).toInt := by rw [ev28]
        have rv28 : (0 : Int) ≤ v28.toInt ∧ v28.toInt ≤ (1 : Int) := by rw [ev28]; exact hI23.atP (j := 15) (k := _) h4 (by decide)
        refine w_zast S hK hg hP hS (5 + 21 * i + 15) (by have := h4; omega) (ceP15 h4) (z01 (by omega) (by omega)) (by omega) (by omega) dX5_removeFirst_51 (fun x29 H locs ex29 hP hS => ?_)
        have hI30 : Inv x29 := by rw [ex29]; exact hI23.upP (j := 15) h4 (by decide) (show (0 : Int) ≤ _ by omega) (show _ ≤ (1 : Int) by omega)
        have hT31 : Same (TC) x x29 := by rw [ex29]; exact hT24.up (by unfold TC TrC; omega)
        have u32 : (x29 (5 + 21 * i + 12) 4).toInt = (x22 (5 + 21 * i + 12) 4).toInt := by rw [ex29, up2_ne _ _ (by omega)]
        refine lv_aload_n S.1 S.2.1 dX5_removeFirst_52 rfl (lv_at hl 0 rfl) ?_
        refine w_get (C := RX5) (T := TX5) (N := 5) S (fun _ h => List.mem_cons_of_mem _ (List.mem_append_right _ h)) hK hP (5 + 21 * i + 12) (by have := h4; omega) ((ceP12 h4) _) rfl 3 (by decide) (hts _ (List.mem_of_getElem? (i := 5) rfl)) (v := .ref (g.1 (5 + 21 * i + 16))) rfl dX5_removeFirst_53 ?_
        refine lv_iload_n S.1 S.2.1 dX5_removeFirst_56 rfl (lv_at hl 1 rfl) ?_
        refine w_iconst S dX5_removeFirst_57 (by decide) (fun k33 hk33 => ?_)
        refine w_isub S dX5_removeFirst_58 (by omega) (by omega) (fun v34 hv34 => ?_)
        refine lv_aload_n S.1 S.2.1 dX5_removeFirst_59 rfl (lv_at hl 0 rfl) ?_
        refine w_get (C := RX5) (T := TX5) (N := 5) S (fun _ h => List.mem_cons_of_mem _ (List.mem_append_right _ h)) hK hP (5 + 21 * i + 12) (by have := h4; omega) ((ceP12 h4) _) rfl 3 (by decide) (hts _ (List.mem_of_getElem? (i := 5) rfl)) (v := .ref (g.1 (5 + 21 * i + 16))) rfl dX5_removeFirst_60 ?_
        refine lv_iload_n S.1 S.2.1 dX5_removeFirst_63 rfl (lv_at hl 1 rfl) ?_
        refine w_iald S hK hP (5 + 21 * i + 16) (by have := h4; omega) (ceP16 h4) (by omega) (by omega) dX5_removeFirst_64 (fun v35 ev35 => ?_)
        have wv35 : v35.toInt = (x29 (5 + 21 * i + 16) y2_1.toInt.toNat).toInt := by rw [ev35]
        refine w_iast S hK hg hP hS (5 + 21 * i + 16) (by have := h4; omega) (ceP16 h4) (by omega) (by omega) dX5_removeFirst_65 (fun x36 H locs ex36 hP hS => ?_)
        have hI37 : Inv x36 := by rw [ex36]; exact hI30.upP (j := 16) h4 (by decide) (i_ge _) (i_le _)
        have hT38 : Same (TC) x x36 := by rw [ex36]; exact hT31.up (by unfold TC TrC; omega)
        have u39 : (x36 (5 + 21 * i + 12) 4).toInt = (x29 (5 + 21 * i + 12) 4).toInt := by rw [ex36, up2_ne _ _ (by omega)]
        refine w_iinc (lv' := [(0, .ref (g.1 (5 + 21 * i + 12)))]) S dX5_removeFirst_66 hl (k := 1) rfl (by decide) (by decide) (by omega) (by omega) (fun _ => rfl) (fun v40 ls hv40 hl => ?_)
        refine lv_goto (tgt := 2) S.1 S.2.1 dX5_removeFirst_69 (by decide) ?_
        exact ih2 _ _ _ _ v40 hI37 hT38 (by omega) (by omega) (by omega) hP hS (lv_sub hl [1, 0] rfl)
  refine w_iconst S dX5_removeFirst_0 (by decide) (fun k41 hk41 => ?_)
  refine lv_istore_n (lv' := [(1, .int k41), (0, .ref (g.1 (5 + 21 * i + 12)))]) S.1 S.2.1 dX5_removeFirst_1 rfl hl (by decide) rfl (fun ls hl => ?_)
  exact J2 _ _ _ _ _ k41 hI hT (by omega) (by omega) (Nat.lt_succ_self _) hP hS (lv_sub hl [1, 0] rfl)
set_option maxRecDepth 100000 in
set_option maxHeartbeats 4000000 in
theorem c_X5_byteHasGone (l : Launch) (D : va_G) (g : GA) (hg : Inj g) (x : St) (hI : Inv x) (i : Nat) (h4 : i < 4) : Met l yX5_byteHasGone wsX5_byteHasGone ({ frames := 1, cells := 0, slots := 0, locals := 21 } : Room) (va_Pc [.ref (g.1 (5 + 21 * i + 12))] (WI D g x)) (va_Qv (fun x2 => Inv x2 ∧ Same TC x x2 ∧ True) (WO D g) (AQ g)) 0 0 (AQ g) := by
  refine w_met (cc := cX5_byteHasGone) (maxL := 2) (ret := none) (own := RX5) (by decide) rfl rfl (Nat.le_of_ble_eq_true rfl) (fun p e s m below meth co S hr0 hlk hK hN hP hS ls hl => ?_)
  have hts := S.2.2.2.2
  have hl : lv_has ls 2 [(0, .ref (g.1 (5 + 21 * i + 12)))] := hl
  have hT : Same (TC) x x := Same.rf
  have J2 : ∀ (n0 : Nat) (x_2 : St) (H : Heap) (locs : List Loc) (ls : Array Slot) (y2_1 : Int32), Inv x_2 → Same (TC) x x_2 → (0 ≤ y2_1.toInt) → (y2_1.toInt ≤ 3) → (3 - y2_1.toInt).toNat < n0 → va_P D vwCl (WL g x_2) H → va_S (AQ g) s.heap H locs → lv_has ls 2 [(0, .ref (g.1 (5 + 21 * i + 12))), (1, .int y2_1)] → W p l e ({ frames := 1, cells := 0, slots := 0, locals := 21 } : Room) s m ([.ref (g.1 (5 + 21 * i + 12))] : List Value).toArray below meth co H locs 0 0 (MQ below (va_Qv (fun x2 => Inv x2 ∧ Same TC x x2 ∧ True) (WO D g) (AQ g)) ([.ref (g.1 (5 + 21 * i + 12))] : List Value).toArray s 0 0 (AQ g)) (F0 m 2 ls []) := by
    intro n0
    induction n0 with
    | zero => intro x_2 H locs ls y2_1 hI_2 hT_2 hf2_0 hf2_1 hm_2 hP hS hl; exact absurd hm_2 (Nat.not_lt_zero _)
    | succ n0 ih2 =>
      intro x_2 H locs ls y2_1 hI_2 hT_2 hf2_0 hf2_1 hm_2 hP hS hl
      refine lv_iload_n S.1 S.2.1 dX5_byteHasGone_2 rfl (lv_at hl 1 rfl) ?_
      refine lv_aload_n S.1 S.2.1 dX5_byteHasGone_3 rfl (lv_at hl 0 rfl) ?_
      refine w_get (C := RX5) (T := TX5) (N := 5) S (fun _ h => List.mem_cons_of_mem _ (List.mem_append_right _ h)) hK hP (5 + 21 * i + 12) (by have := h4; omega) ((ceP12 h4) _) rfl 4 (by decide) (hts _ (List.mem_of_getElem? (i := 1) rfl)) (v := .int (x_2 (5 + 21 * i + 12) 4)) rfl dX5_byteHasGone_4 ?_
      refine lv_topi (fun v1 ev1 => ?_)
      have wv1 : v1.toInt = (x_2 (5 + 21 * i + 12) 4).toInt := by rw [ev1]
      have rv1 : (0 : Int) ≤ v1.toInt ∧ v1.toInt ≤ (3 : Int) := by rw [ev1]; exact hI_2.atP (j := 12) (k := 4) h4 (by decide)
      refine w_icmp_ge (tgt := 34) S dX5_byteHasGone_7 (by decide) (fun hb2 => ?_) (fun hb2 => ?_)
      · exact w_vret S hr0 hlk hP hS dX5_byteHasGone_34 (⟨hI_2, hT_2, trivial⟩)
      · refine lv_aload_n S.1 S.2.1 dX5_byteHasGone_10 rfl (lv_at hl 0 rfl) ?_
        refine w_get (C := RX5) (T := TX5) (N := 5) S (fun _ h => List.mem_cons_of_mem _ (List.mem_append_right _ h)) hK hP (5 + 21 * i + 12) (by have := h4; omega) ((ceP12 h4) _) rfl 3 (by decide) (hts _ (List.mem_of_getElem? (i := 2) rfl)) (v := .ref (g.1 (5 + 21 * i + 16))) rfl dX5_byteHasGone_11 ?_
        refine lv_iload_n S.1 S.2.1 dX5_byteHasGone_14 rfl (lv_at hl 1 rfl) ?_
        refine w_iconst S dX5_byteHasGone_15 (by decide) (fun k3 hk3 => ?_)
        refine lv_aload_n S.1 S.2.1 dX5_byteHasGone_16 rfl (lv_at hl 0 rfl) ?_
        refine w_get (C := RX5) (T := TX5) (N := 5) S (fun _ h => List.mem_cons_of_mem _ (List.mem_append_right _ h)) hK hP (5 + 21 * i + 12) (by have := h4; omega) ((ceP12 h4) _) rfl 3 (by decide) (hts _ (List.mem_of_getElem? (i := 2) rfl)) (v := .ref (g.1 (5 + 21 * i + 16))) rfl dX5_byteHasGone_17 ?_
        refine lv_iload_n S.1 S.2.1 dX5_byteHasGone_20 rfl (lv_at hl 1 rfl) ?_
        refine w_iald S hK hP (5 + 21 * i + 16) (by have := h4; omega) (ceP16 h4) (by omega) (by omega) dX5_byteHasGone_21 (fun v4 ev4 => ?_)
        have wv4 : v4.toInt = (x_2 (5 + 21 * i + 16) y2_1.toInt.toNat).toInt := by rw [ev4]
        refine w_iconst S dX5_byteHasGone_22 (by decide) (fun k5 hk5 => ?_)
        refine lv_isub S.1 S.2.1 dX5_byteHasGone_23 ?_
        refine w_any1 (fun v6 => ?_)
        refine va_mmax S.1 S.2.1 (by rw [S.2.2.1]; exact hl.1.symm) S.2.2.2.1 (hts _ (List.mem_of_getElem? (i := 3) rfl)) (hts _ (List.mem_of_getElem? (i := 4) rfl)) (hts _ (List.mem_of_getElem? (i := 5) rfl)) (hts _ (List.mem_of_getElem? (i := 6) rfl)) (Nat.le_of_ble_eq_true rfl) (Nat.le_of_ble_eq_true rfl) (Nat.zero_le _) (Nat.zero_le _) dX5_byteHasGone_24 ?_
        refine lv_topi (fun v7 ev7 => ?_)
        have hv7 := t_max ev7
        refine w_iast S hK hg hP hS (5 + 21 * i + 16) (by have := h4; omega) (ceP16 h4) (by omega) (by omega) dX5_byteHasGone_27 (fun x8 H locs ex8 hP hS => ?_)
        have hI9 : Inv x8 := by rw [ex8]; exact hI_2.upP (j := 16) h4 (by decide) (i_ge _) (i_le _)
        have hT10 : Same (TC) x x8 := by rw [ex8]; exact hT_2.up (by unfold TC TrC; omega)
        refine w_iinc (lv' := [(0, .ref (g.1 (5 + 21 * i + 12)))]) S dX5_byteHasGone_28 hl (k := 1) rfl (by decide) (by decide) (by omega) (by omega) (fun _ => rfl) (fun v11 ls hv11 hl => ?_)
        refine lv_goto (tgt := 2) S.1 S.2.1 dX5_byteHasGone_31 (by decide) ?_
        exact ih2 _ _ _ _ v11 hI9 hT10 (by omega) (by omega) (by omega) hP hS (lv_sub hl [1, 0] rfl)
  refine w_iconst S dX5_byteHasGone_0 (by decide) (fun k12 hk12 => ?_)
  refine lv_istore_n (lv' := [(1, .int k12), (0, .ref (g.1 (5 + 21 * i + 12)))]) S.1 S.2.1 dX5_byteHasGone_1 rfl hl (by decide) rfl (fun ls hl => ?_)
  exact J2 _ _ _ _ _ k12 hI hT (by omega) (by omega) (Nat.lt_succ_self _) hP hS (lv_sub hl [1, 0] rfl)
set_option maxRecDepth 100000 in
set_option maxHeartbeats 4000000 in
theorem c_X5_onlyLeft (l : Launch) (D : va_G) (g : GA) (hg : Inj g) (x : St) (hI : Inv x) (i : Nat) (h4 : i < 4) (lim : Int32) : Met l yX5_onlyLeft wsX5_onlyLeft ({ frames := 1, cells := 0, slots := 0, locals := 21 } : Room) (va_Pc [.ref (g.1 (5 + 21 * i + 12)), .int lim] (WI D g x)) (va_Qv (fun x2 => Inv x2 ∧ Same TC x x2 ∧ True) (WO D g) (AQ g)) 0 0 (AQ g) := by
  refine w_met (cc := cX5_onlyLeft) (maxL := 3) (ret := none) (own := RX5) (by decide) rfl rfl (Nat.le_of_ble_eq_true rfl) (fun p e s m below meth co S hr0 hlk hK hN hP hS ls hl => ?_)
  have hts := S.2.2.2.2
  have hl : lv_has ls 3 [(0, .ref (g.1 (5 + 21 * i + 12))), (1, .int lim)] := hl
  have hT : Same (TC) x x := Same.rf
  have J2 : ∀ (n0 : Nat) (x_2 : St) (H : Heap) (locs : List Loc) (ls : Array Slot) (y2_2 : Int32), Inv x_2 → Same (TC) x x_2 → (0 ≤ y2_2.toInt) → (y2_2.toInt ≤ 3) → (3 - y2_2.toInt).toNat < n0 → va_P D vwCl (WL g x_2) H → va_S (AQ g) s.heap H locs → lv_has ls 3 [(0, .ref (g.1 (5 + 21 * i + 12))), (1, .int lim), (2, .int y2_2)] → W p l e ({ frames := 1, cells := 0, slots := 0, locals := 21 } : Room) s m ([.ref (g.1 (5 + 21 * i + 12)), .int lim] : List Value).toArray below meth co H locs 0 0 (MQ below (va_Qv (fun x2 => Inv x2 ∧ Same TC x x2 ∧ True) (WO D g) (AQ g)) ([.ref (g.1 (5 + 21 * i + 12)), .int lim] : List Value).toArray s 0 0 (AQ g)) (F0 m 2 ls []) := by
    intro n0
    induction n0 with
    | zero => intro x_2 H locs ls y2_2 hI_2 hT_2 hf2_0 hf2_1 hm_2 hP hS hl; exact absurd hm_2 (Nat.not_lt_zero _)
    | succ n0 ih2 =>
      intro x_2 H locs ls y2_2 hI_2 hT_2 hf2_0 hf2_1 hm_2 hP hS hl
      refine lv_iload_n S.1 S.2.1 dX5_onlyLeft_2 rfl (lv_at hl 2 rfl) ?_
      refine lv_aload_n S.1 S.2.1 dX5_onlyLeft_3 rfl (lv_at hl 0 rfl) ?_
      refine w_get (C := RX5) (T := TX5) (N := 5) S (fun _ h => List.mem_cons_of_mem _ (List.mem_append_right _ h)) hK hP (5 + 21 * i + 12) (by have := h4; omega) ((ceP12 h4) _) rfl 4 (by decide) (hts _ (List.mem_of_getElem? (i := 1) rfl)) (v := .int (x_2 (5 + 21 * i + 12) 4)) rfl dX5_onlyLeft_4 ?_
      refine lv_topi (fun v1 ev1 => ?_)
      have wv1 : v1.toInt = (x_2 (5 + 21 * i + 12) 4).toInt := by rw [ev1]
      have rv1 : (0 : Int) ≤ v1.toInt ∧ v1.toInt ≤ (3 : Int) := by rw [ev1]; exact hI_2.atP (j := 12) (k := 4) h4 (by decide)
      refine w_icmp_ge (tgt := 32) S dX5_onlyLeft_7 (by decide) (fun hb2 => ?_) (fun hb2 => ?_)
      · exact w_vret S hr0 hlk hP hS dX5_onlyLeft_32 (⟨hI_2, hT_2, trivial⟩)
      · refine lv_aload_n S.1 S.2.1 dX5_onlyLeft_10 rfl (lv_at hl 0 rfl) ?_
        refine w_get (C := RX5) (T := TX5) (N := 5) S (fun _ h => List.mem_cons_of_mem _ (List.mem_append_right _ h)) hK hP (5 + 21 * i + 12) (by have := h4; omega) ((ceP12 h4) _) rfl 3 (by decide) (hts _ (List.mem_of_getElem? (i := 2) rfl)) (v := .ref (g.1 (5 + 21 * i + 16))) rfl dX5_onlyLeft_11 ?_
        refine lv_iload_n S.1 S.2.1 dX5_onlyLeft_14 rfl (lv_at hl 2 rfl) ?_
        refine lv_aload_n S.1 S.2.1 dX5_onlyLeft_15 rfl (lv_at hl 0 rfl) ?_
        refine w_get (C := RX5) (T := TX5) (N := 5) S (fun _ h => List.mem_cons_of_mem _ (List.mem_append_right _ h)) hK hP (5 + 21 * i + 12) (by have := h4; omega) ((ceP12 h4) _) rfl 3 (by decide) (hts _ (List.mem_of_getElem? (i := 2) rfl)) (v := .ref (g.1 (5 + 21 * i + 16))) rfl dX5_onlyLeft_16 ?_
        refine lv_iload_n S.1 S.2.1 dX5_onlyLeft_19 rfl (lv_at hl 2 rfl) ?_
        refine w_iald S hK hP (5 + 21 * i + 16) (by have := h4; omega) (ceP16 h4) (by omega) (by omega) dX5_onlyLeft_20 (fun v3 ev3 => ?_)
        have wv3 : v3.toInt = (x_2 (5 + 21 * i + 16) y2_2.toInt.toNat).toInt := by rw [ev3]
        refine lv_iload_n S.1 S.2.1 dX5_onlyLeft_21 rfl (lv_at hl 1 rfl) ?_
        refine va_mmin S.1 S.2.1 (by rw [S.2.2.1]; exact hl.1.symm) S.2.2.2.1 (hts _ (List.mem_of_getElem? (i := 3) rfl)) (hts _ (List.mem_of_getElem? (i := 4) rfl)) (hts _ (List.mem_of_getElem? (i := 5) rfl)) (hts _ (List.mem_of_getElem? (i := 6) rfl)) (Nat.le_of_ble_eq_true rfl) (Nat.le_of_ble_eq_true rfl) (Nat.zero_le _) (Nat.zero_le _) dX5_onlyLeft_22 ?_
        refine lv_topi (fun v4 ev4 => ?_)
        have hv4 := t_min ev4
        refine w_iast S hK hg hP hS (5 + 21 * i + 16) (by have := h4; omega) (ceP16 h4) (by omega) (by omega) dX5_onlyLeft_25 (fun x5 H locs ex5 hP hS => ?_)
        have hI6 : Inv x5 := by rw [ex5]; exact hI_2.upP (j := 16) h4 (by decide) (i_ge _) (i_le _)
        have hT7 : Same (TC) x x5 := by rw [ex5]; exact hT_2.up (by unfold TC TrC; omega)
        refine w_iinc (lv' := [(0, .ref (g.1 (5 + 21 * i + 12))), (1, .int lim)]) S dX5_onlyLeft_26 hl (k := 2) rfl (by decide) (by decide) (by omega) (by omega) (fun _ => rfl) (fun v8 ls hv8 hl => ?_)
        refine lv_goto (tgt := 2) S.1 S.2.1 dX5_onlyLeft_29 (by decide) ?_
        exact ih2 _ _ _ _ v8 hI6 hT7 (by omega) (by omega) (by omega) hP hS (lv_sub hl [1, 2, 0] rfl)
  refine w_iconst S dX5_onlyLeft_0 (by decide) (fun k9 hk9 => ?_)
  refine lv_istore_n (lv' := [(2, .int k9), (0, .ref (g.1 (5 + 21 * i + 12))), (1, .int lim)]) S.1 S.2.1 dX5_onlyLeft_1 rfl hl (by decide) rfl (fun ls hl => ?_)
  exact J2 _ _ _ _ _ k9 hI hT (by omega) (by omega) (Nat.lt_succ_self _) hP hS (lv_sub hl [1, 2, 0] rfl)
end
section
set_option maxRecDepth 100000 in
set_option maxHeartbeats 4000000 in
theorem c_X2_isPlain (l : Launch) (D : va_G) (g : GA) (hg : Inj g) (x : St) (hI : Inv x) (a : Int32) : Met l yX2_isPlain wsX2_isPlain ({ frames := 0, cells := 0, slots := 0, locals := 0 } : Room) (va_Pc [.int a] (WI D g x)) (va_Qi (fun r x2 => x2 = x ∧ (0 ≤ r.toInt ∧ r.toInt ≤ 1)) (WO D g) (AQ g)) 0 0 (AQ g) := by
  refine w_met (cc := cX2_isPlain) (maxL := 1) (ret := (some .boolean)) (own := RX2) (by decide) rfl rfl (Nat.le_of_ble_eq_true rfl) (fun p e s m below meth co S hr0 hlk hK hN hP hS ls hl => ?_)
  have hts := S.2.2.2.2
  have hl : lv_has ls 1 [(0, .int a)] := hl
  refine lv_iload_n S.1 S.2.1 dX2_isPlain_0 rfl (lv_at hl 0 rfl) ?_
  refine w_bipush S dX2_isPlain_1 (by decide) (fun k1 hk1 => ?_)
  refine w_icmp_lt (tgt := 16) S dX2_isPlain_3 (by decide) (fun hb2 => ?_) (fun hb2 => ?_)
  · refine w_iconst S dX2_isPlain_16 (by decide) (fun k3 hk3 => ?_)
    exact w_zret S hr0 hlk hP hS dX2_isPlain_17 (z01 (by omega) (by omega)) (⟨rfl, by omega⟩)
  · refine lv_iload_n S.1 S.2.1 dX2_isPlain_6 rfl (lv_at hl 0 rfl) ?_
    refine w_bipush S dX2_isPlain_7 (by decide) (fun k4 hk4 => ?_)
    refine w_icmp_eq (tgt := 16) S dX2_isPlain_9 (by decide) (fun hb5 => ?_) (fun hb5 => ?_)
    · refine w_iconst S dX2_isPlain_16 (by decide) (fun k6 hk6 => ?_)
      exact w_zret S hr0 hlk hP hS dX2_isPlain_17 (z01 (by omega) (by omega)) (⟨rfl, by omega⟩)
    · refine w_iconst S dX2_isPlain_12 (by decide) (fun k7 hk7 => ?_)
      refine lv_goto (tgt := 17) S.1 S.2.1 dX2_isPlain_13 (by decide) ?_
      exact w_zret S hr0 hlk hP hS dX2_isPlain_17 (z01 (by omega) (by omega)) (⟨rfl, by omega⟩)
set_option maxRecDepth 100000 in
set_option maxHeartbeats 4000000 in
theorem c_X2_isOn (l : Launch) (D : va_G) (g : GA) (hg : Inj g) (x : St) (hI : Inv x) (i : Nat) (h4 : i < 4) (a : Int32) (ha : 0 ≤ a.toInt ∧ a.toInt < 25) : Met l yX2_isOn wsX2_isOn ({ frames := 0, cells := 0, slots := 0, locals := 0 } : Room) (va_Pc [.ref (g.1 (5 + 21 * i)), .int a] (WI D g x)) (va_Qi (fun r x2 => x2 = x ∧ (0 ≤ r.toInt ∧ r.toInt ≤ 1)) (WO D g) (AQ g)) 0 0 (AQ g) := by
  refine w_met (cc := cX2_isOn) (maxL := 2) (ret := (some .boolean)) (own := RX2) (by decide) rfl rfl (Nat.le_of_ble_eq_true rfl) (fun p e s m below meth co S hr0 hlk hK hN hP hS ls hl => ?_)
  have hts := S.2.2.2.2
  have hl : lv_has ls 2 [(0, .ref (g.1 (5 + 21 * i))), (1, .int a)] := hl
  refine lv_aload_n S.1 S.2.1 dX2_isOn_0 rfl (lv_at hl 0 rfl) ?_
  refine w_get (C := RX2) (T := TX2) (N := 15) S (fun _ h => List.mem_cons_of_mem _ (List.mem_append_right _ h)) hK hP (5 + 21 * i) (by have := h4; omega) ((ceP0 h4) _) rfl 1 (by decide) (hts _ (List.mem_of_getElem? (i := 1) rfl)) (v := .ref (g.1 (5 + 21 * i + 1))) rfl dX2_isOn_1 ?_
  refine lv_iload_n S.1 S.2.1 dX2_isOn_4 rfl (lv_at hl 1 rfl) ?_
  refine w_iald S hK hP (5 + 21 * i + 1) (by have := h4; omega) (ceP1 h4) (by omega) (by omega) dX2_isOn_5 (fun v1 ev1 => ?_)
  have wv1 : v1.toInt = (x (5 + 21 * i + 1) a.toInt.toNat).toInt := by rw [ev1]
  refine w_iconst S dX2_isOn_6 (by decide) (fun k2 hk2 => ?_)
  refine w_icmp_ne (tgt := 14) S dX2_isOn_7 (by decide) (fun hb3 => ?_) (fun hb3 => ?_)
  · refine w_iconst S dX2_isOn_14 (by decide) (fun k4 hk4 => ?_)
    exact w_zret S hr0 hlk hP hS dX2_isOn_15 (z01 (by omega) (by omega)) (⟨rfl, by omega⟩)
  · refine w_iconst S dX2_isOn_10 (by decide) (fun k5 hk5 => ?_)
    refine lv_goto (tgt := 15) S.1 S.2.1 dX2_isOn_11 (by decide) ?_
    exact w_zret S hr0 hlk hP hS dX2_isOn_15 (z01 (by omega) (by omega)) (⟨rfl, by omega⟩)
set_option maxRecDepth 100000 in
set_option maxHeartbeats 4000000 in
theorem c_X2_urgentByte (l : Launch) (D : va_G) (g : GA) (hg : Inj g) (x : St) (hI : Inv x) (i : Nat) (h4 : i < 4) : Met l yX2_urgentByte wsX2_urgentByte ({ frames := 0, cells := 0, slots := 0, locals := 0 } : Room) (va_Pc [.ref (g.1 (5 + 21 * i))] (WI D g x)) (va_Qi (fun r x2 => x2 = x ∧ ((x (5 + 21 * i) 14).toInt = -1 → r.toInt = 256)) (WO D g) (AQ g)) 0 0 (AQ g) := by
  refine w_met (cc := cX2_urgentByte) (maxL := 1) (ret := (some .int)) (own := RX2) (by decide) rfl rfl (Nat.le_of_ble_eq_true rfl) (fun p e s m below meth co S hr0 hlk hK hN hP hS ls hl => ?_)
  have hts := S.2.2.2.2
  have hl : lv_has ls 1 [(0, .ref (g.1 (5 + 21 * i)))] := hl
  refine lv_aload_n S.1 S.2.1 dX2_urgentByte_0 rfl (lv_at hl 0 rfl) ?_
  refine w_get (C := RX2) (T := TX2) (N := 15) S (fun _ h => List.mem_cons_of_mem _ (List.mem_append_right _ h)) hK hP (5 + 21 * i) (by have := h4; omega) ((ceP0 h4) _) rfl 14 (by decide) (hts _ (List.mem_of_getElem? (i := 1) rfl)) (v := .int (x (5 + 21 * i) 14)) rfl dX2_urgentByte_1 ?_
  refine lv_topi (fun v1 ev1 => ?_)
  have wv1 : v1.toInt = (x (5 + 21 * i) 14).toInt := by rw [ev1]
  have rv1 : (-1 : Int) ≤ v1.toInt ∧ v1.toInt ≤ (24 : Int) := by rw [ev1]; exact hI.atP0 (k := 14) h4
  refine w_iconst S dX2_urgentByte_4 (by decide) (fun k2 hk2 => ?_)
  refine w_icmp_ne (tgt := 14) S dX2_urgentByte_5 (by decide) (fun hb3 => ?_) (fun hb3 => ?_)
  · refine lv_aload_n S.1 S.2.1 dX2_urgentByte_14 rfl (lv_at hl 0 rfl) ?_
    refine w_get (C := RX2) (T := TX2) (N := 15) S (fun _ h => List.mem_cons_of_mem _ (List.mem_append_right _ h)) hK hP (5 + 21 * i) (by have := h4; omega) ((ceP0 h4) _) rfl 1 (by decide) (hts _ (List.mem_of_getElem? (i := 2) rfl)) (v := .ref (g.1 (5 + 21 * i + 1))) rfl dX2_urgentByte_15 ?_
    refine lv_aload_n S.1 S.2.1 dX2_urgentByte_18 rfl (lv_at hl 0 rfl) ?_
    refine w_get (C := RX2) (T := TX2) (N := 15) S (fun _ h => List.mem_cons_of_mem _ (List.mem_append_right _ h)) hK hP (5 + 21 * i) (by have := h4; omega) ((ceP0 h4) _) rfl 14 (by decide) (hts _ (List.mem_of_getElem? (i := 1) rfl)) (v := .int (x (5 + 21 * i) 14)) rfl dX2_urgentByte_19 ?_
    refine lv_topi (fun v4 ev4 => ?_)
    have wv4 : v4.toInt = (x (5 + 21 * i) 14).toInt := by rw [ev4]
    have rv4 : (-1 : Int) ≤ v4.toInt ∧ v4.toInt ≤ (24 : Int) := by rw [ev4]; exact hI.atP0 (k := 14) h4
    refine w_iald S hK hP (5 + 21 * i + 1) (by have := h4; omega) (ceP1 h4) (by omega) (by omega) dX2_urgentByte_22 (fun v5 ev5 => ?_)
    have wv5 : v5.toInt = (x (5 + 21 * i + 1) v4.toInt.toNat).toInt := by rw [ev5]
    exact w_iret S hr0 hlk hP hS dX2_urgentByte_23 (⟨rfl, by omega⟩)
  · refine w_sipush S dX2_urgentByte_8 (by decide) (fun k6 hk6 => ?_)
    refine lv_goto (tgt := 23) S.1 S.2.1 dX2_urgentByte_11 (by decide) ?_
    exact w_iret S hr0 hlk hP hS dX2_urgentByte_23 (⟨rfl, by omega⟩)
set_option maxRecDepth 100000 in
set_option maxHeartbeats 4000000 in
theorem c_X2_isBackground (l : Launch) (D : va_G) (g : GA) (hg : Inj g) (x : St) (hI : Inv x) (i : Nat) (h4 : i < 4) (a : Int32) (ha : 0 ≤ a.toInt ∧ a.toInt < 8) : Met l yX2_isBackground wsX2_isBackground ({ frames := 0, cells := 0, slots := 0, locals := 0 } : Room) (va_Pc [.ref (g.1 (5 + 21 * i)), .int a] (WI D g x)) (va_Qi (fun r x2 => x2 = x ∧ (0 ≤ r.toInt ∧ r.toInt ≤ 1)) (WO D g) (AQ g)) 0 0 (AQ g) := by
  refine w_met (cc := cX2_isBackground) (maxL := 2) (ret := (some .boolean)) (own := RX2) (by decide) rfl rfl (Nat.le_of_ble_eq_true rfl) (fun p e s m below meth co S hr0 hlk hK hN hP hS ls hl => ?_)
  have hts := S.2.2.2.2
  have hl : lv_has ls 2 [(0, .ref (g.1 (5 + 21 * i))), (1, .int a)] := hl
  refine lv_aload_n S.1 S.2.1 dX2_isBackground_0 rfl (lv_at hl 0 rfl) ?_
  refine w_get (C := RX2) (T := TX2) (N := 15) S (fun _ h => List.mem_cons_of_mem _ (List.mem_append_left _ (List.mem_append_right _ h))) hK hP (5 + 21 * i) (by have := h4; omega) ((ceP0 h4) _) rfl 12 (by decide) (hts _ (List.mem_of_getElem? (i := 1) rfl)) (v := .int (x (5 + 21 * i) 12)) rfl dX2_isBackground_1 ?_
  refine lv_topi (fun v1 ev1 => ?_)
  have wv1 : v1.toInt = (x (5 + 21 * i) 12).toInt := by rw [ev1]
  refine w_iconst S dX2_isBackground_4 (by decide) (fun k2 hk2 => ?_)
  refine w_icmp_eq (tgt := 28) S dX2_isBackground_5 (by decide) (fun hb3 => ?_) (fun hb3 => ?_)
  · refine w_iconst S dX2_isBackground_28 (by decide) (fun k4 hk4 => ?_)
    exact w_zret S hr0 hlk hP hS dX2_isBackground_29 (z01 (by omega) (by omega)) (⟨rfl, by omega⟩)
  · refine lv_aload_n S.1 S.2.1 dX2_isBackground_8 rfl (lv_at hl 0 rfl) ?_
    refine w_get (C := RX2) (T := TX2) (N := 15) S (fun _ h => List.mem_cons_of_mem _ (List.mem_append_left _ (List.mem_append_right _ h))) hK hP (5 + 21 * i) (by have := h4; omega) ((ceP0 h4) _) rfl 0 (by decide) (hts _ (List.mem_of_getElem? (i := 2) rfl)) (v := .ref (g.1 2)) rfl dX2_isBackground_9 ?_
    refine w_getN (C := RX0) (T := TX0) (N := 2) S (fun _ h => List.mem_cons_of_mem _ (List.mem_append_right _ h)) hK hP 2 (by decide) (ceK2 _) rfl 0 (by decide) (hN.1 _ (List.mem_of_getElem? (i := 0) rfl)) (v := .ref (g.1 3)) rfl dX2_isBackground_12 ?_
    refine lv_iload_n S.1 S.2.1 dX2_isBackground_15 rfl (lv_at hl 1 rfl) ?_
    refine w_iald S hK hP 3 (by decide) ceK3 (by omega) (by omega) dX2_isBackground_16 (fun v5 ev5 => ?_)
    have wv5 : v5.toInt = (x 3 a.toInt.toNat).toInt := by rw [ev5]
    refine lv_aload_n S.1 S.2.1 dX2_isBackground_17 rfl (lv_at hl 0 rfl) ?_
    refine w_get (C := RX2) (T := TX2) (N := 15) S (fun _ h => List.mem_cons_of_mem _ (List.mem_append_left _ (List.mem_append_right _ h))) hK hP (5 + 21 * i) (by have := h4; omega) ((ceP0 h4) _) rfl 12 (by decide) (hts _ (List.mem_of_getElem? (i := 1) rfl)) (v := .int (x (5 + 21 * i) 12)) rfl dX2_isBackground_18 ?_
    refine lv_topi (fun v6 ev6 => ?_)
    have wv6 : v6.toInt = (x (5 + 21 * i) 12).toInt := by rw [ev6]
    refine w_icmp_eq (tgt := 28) S dX2_isBackground_21 (by decide) (fun hb7 => ?_) (fun hb7 => ?_)
    · refine w_iconst S dX2_isBackground_28 (by decide) (fun k8 hk8 => ?_)
      exact w_zret S hr0 hlk hP hS dX2_isBackground_29 (z01 (by omega) (by omega)) (⟨rfl, by omega⟩)
    · refine w_iconst S dX2_isBackground_24 (by decide) (fun k9 hk9 => ?_)
      refine lv_goto (tgt := 29) S.1 S.2.1 dX2_isBackground_25 (by decide) ?_
      exact w_zret S hr0 hlk hP hS dX2_isBackground_29 (z01 (by omega) (by omega)) (⟨rfl, by omega⟩)
set_option maxRecDepth 100000 in
set_option maxHeartbeats 4000000 in
theorem c_X2_readingWaits (l : Launch) (D : va_G) (g : GA) (hg : Inj g) (x : St) (hI : Inv x) (i : Nat) (h4 : i < 4) (a : Int32) (ha : 0 ≤ a.toInt ∧ a.toInt < 8) : Met l yX2_readingWaits wsX2_readingWaits ({ frames := 1, cells := 0, slots := 0, locals := 21 } : Room) (va_Pc [.ref (g.1 (5 + 21 * i)), .int a] (WI D g x)) (va_Qi (fun r x2 => x2 = x ∧ ((x (5 + 21 * i + 19) a.toInt.toNat).toInt = 0 → r.toInt = 0) ∧ 0 ≤ r.toInt ∧ r.toInt ≤ 1) (WO D g) (AQ g)) 0 0 (AQ g) := by
  refine w_met (cc := cX2_readingWaits) (maxL := 2) (ret := (some .boolean)) (own := RX2) (by decide) rfl rfl (Nat.le_of_ble_eq_true rfl) (fun p e s m below meth co S hr0 hlk hK hN hP hS ls hl => ?_)
  have hts := S.2.2.2.2
  have hl : lv_has ls 2 [(0, .ref (g.1 (5 + 21 * i))), (1, .int a)] := hl
  refine lv_aload_n S.1 S.2.1 dX2_readingWaits_0 rfl (lv_at hl 0 rfl) ?_
  refine w_get (C := RX2) (T := TX2) (N := 15) S (fun _ h => List.mem_cons_of_mem _ (List.mem_append_left _ (List.mem_append_left _ (List.mem_append_right _ h)))) hK hP (5 + 21 * i) (by have := h4; omega) ((ceP0 h4) _) rfl 7 (by decide) (hts _ (List.mem_of_getElem? (i := 1) rfl)) (v := .ref (g.1 (5 + 21 * i + 19))) rfl dX2_readingWaits_1 ?_
  refine lv_iload_n S.1 S.2.1 dX2_readingWaits_4 rfl (lv_at hl 1 rfl) ?_
  refine w_zald S hK hP (5 + 21 * i + 19) (by have := h4; omega) (ceP19 h4) (by omega) (by omega) dX2_readingWaits_5 (fun v1 ev1 => ?_)
  have wv1 : v1.toInt = (x (5 + 21 * i + 19) a.toInt.toNat).toInt := by rw [ev1]
  have rv1 : (0 : Int) ≤ v1.toInt ∧ v1.toInt ≤ (1 : Int) := by rw [ev1]; exact hI.atP (j := 19) (k := _) h4 (by decide)
  refine w_if_eq (tgt := 38) S dX2_readingWaits_6 (by decide) (fun hb2 => ?_) (fun hb2 => ?_)
  · refine w_iconst S dX2_readingWaits_38 (by decide) (fun k3 hk3 => ?_)
    exact w_zret S hr0 hlk hP hS dX2_readingWaits_39 (z01 (by omega) (by omega)) (⟨rfl, by omega, by omega⟩)
  · refine lv_aload_n S.1 S.2.1 dX2_readingWaits_9 rfl (lv_at hl 0 rfl) ?_
    refine lv_iload_n S.1 S.2.1 dX2_readingWaits_10 rfl (lv_at hl 1 rfl) ?_
    refine w_cVi (As := [.int a]) (rest := []) S hK hN hP hS hl (5 + 21 * i) (by have := h4; omega) ((ceP0 h4) _) rfl (c_X2_isBackground l D g hg x hI i h4 a (by omega)) (cwV 1 hts gX2_readingWaits_X2_isBackground rfl rfl rfl (by decide +kernel) ⟨Nat.le_of_ble_eq_true rfl, Nat.le_of_ble_eq_true rfl⟩) rfl rfl (Nat.le_of_ble_eq_true rfl) dX2_readingWaits_11 ⟨Nat.zero_le _, Nat.zero_le _⟩ (fun r5 x4 H locs hq6 hP hS => ?_)
    obtain ⟨ex7, hf8⟩ := hq6
    rw [ex7] at hP
    refine w_if_ne (tgt := 38) S dX2_readingWaits_14 (by decide) (fun hb9 => ?_) (fun hb9 => ?_)
    · refine w_iconst S dX2_readingWaits_38 (by decide) (fun k10 hk10 => ?_)
      exact w_zret S hr0 hlk hP hS dX2_readingWaits_39 (z01 (by omega) (by omega)) (⟨rfl, by omega, by omega⟩)
    · refine lv_aload_n S.1 S.2.1 dX2_readingWaits_17 rfl (lv_at hl 0 rfl) ?_
      refine w_get (C := RX2) (T := TX2) (N := 15) S (fun _ h => List.mem_cons_of_mem _ (List.mem_append_left _ (List.mem_append_left _ (List.mem_append_right _ h)))) hK hP (5 + 21 * i) (by have := h4; omega) ((ceP0 h4) _) rfl 3 (by decide) (hts _ (List.mem_of_getElem? (i := 2) rfl)) (v := .ref (g.1 (5 + 21 * i + 4))) rfl dX2_readingWaits_18 ?_
      refine w_getN (C := RX4) (T := TX4) (N := 3) S (fun _ h => List.mem_cons_of_mem _ (List.mem_append_left _ (List.mem_append_right _ h))) hK hP (5 + 21 * i + 4) (by have := h4; omega) ((ceP4 h4) _) rfl 1 (by decide) (hN.1 _ (List.mem_of_getElem? (i := 8) rfl)) (v := .int (x (5 + 21 * i + 4) 1)) rfl dX2_readingWaits_21 ?_
      refine lv_topi (fun v11 ev11 => ?_)
      have wv11 : v11.toInt = (x (5 + 21 * i + 4) 1).toInt := by rw [ev11]
      refine w_if_ne (tgt := 38) S dX2_readingWaits_24 (by decide) (fun hb12 => ?_) (fun hb12 => ?_)
      · refine w_iconst S dX2_readingWaits_38 (by decide) (fun k13 hk13 => ?_)
        exact w_zret S hr0 hlk hP hS dX2_readingWaits_39 (z01 (by omega) (by omega)) (⟨rfl, by omega, by omega⟩)
      · refine lv_aload_n S.1 S.2.1 dX2_readingWaits_27 rfl (lv_at hl 0 rfl) ?_
        refine w_get (C := RX2) (T := TX2) (N := 15) S (fun _ h => List.mem_cons_of_mem _ (List.mem_append_left _ (List.mem_append_left _ (List.mem_append_right _ h)))) hK hP (5 + 21 * i) (by have := h4; omega) ((ceP0 h4) _) rfl 11 (by decide) (hts _ (List.mem_of_getElem? (i := 3) rfl)) (v := .int (x (5 + 21 * i) 11)) rfl dX2_readingWaits_28 ?_
        refine lv_topi (fun v14 ev14 => ?_)
        have wv14 : v14.toInt = (x (5 + 21 * i) 11).toInt := by rw [ev14]
        have rv14 : (0 : Int) ≤ v14.toInt ∧ v14.toInt ≤ (1 : Int) := by rw [ev14]; exact hI.atP0 (k := 11) h4
        refine w_if_ne (tgt := 38) S dX2_readingWaits_31 (by decide) (fun hb15 => ?_) (fun hb15 => ?_)
        · refine w_iconst S dX2_readingWaits_38 (by decide) (fun k16 hk16 => ?_)
          exact w_zret S hr0 hlk hP hS dX2_readingWaits_39 (z01 (by omega) (by omega)) (⟨rfl, by omega, by omega⟩)
        · refine w_iconst S dX2_readingWaits_34 (by decide) (fun k17 hk17 => ?_)
          refine lv_goto (tgt := 39) S.1 S.2.1 dX2_readingWaits_35 (by decide) ?_
          exact w_zret S hr0 hlk hP hS dX2_readingWaits_39 (z01 (by omega) (by omega)) (⟨rfl, by omega, by omega⟩)
set_option maxRecDepth 100000 in
set_option maxHeartbeats 4000000 in
theorem c_X2_takeFromLine (l : Launch) (D : va_G) (g : GA) (hg : Inj g) (x : St) (hI : Inv x) (i : Nat) (h4 : i < 4) (b : Int32) (fl : Int32) : Met l yX2_takeFromLine wsX2_takeFromLine ({ frames := 1, cells := 0, slots := 0, locals := 22 } : Room) (va_Pc [.ref (g.1 (5 + 21 * i)), .int b, .int fl] (WI D g x)) (va_Qi (fun r x2 => Inv x2 ∧ Same (TCr i) x x2 ∧ ((x (5 + 21 * i + 2) 2).toInt < 8 → r.toInt = 1 ∧ (x2 (5 + 21 * i + 2) 2).toInt = (x (5 + 21 * i + 2) 2).toInt + 1) ∧ ((x (5 + 21 * i + 2) 2).toInt = 8 → r.toInt = 0 ∧ (x2 (5 + 21 * i + 2) 2).toInt = (x (5 + 21 * i + 2) 2).toInt) ∧ 0 ≤ r.toInt ∧ r.toInt ≤ 1) (WO D g) (AQ g)) 0 0 (AQ g) := by
  refine w_met (cc := cX2_takeFromLine) (maxL := 3) (ret := (some .boolean)) (own := RX2) (by decide) rfl rfl (Nat.le_of_ble_eq_true rfl) (fun p e s m below meth co S hr0 hlk hK hN hP hS ls hl => ?_)
  have hts := S.2.2.2.2
  have hl : lv_has ls 3 [(0, .ref (g.1 (5 + 21 * i))), (1, .int b), (2, .int fl)] := hl
  have hT : Same (TCr i) x x := Same.rf
  refine lv_aload_n S.1 S.2.1 dX2_takeFromLine_0 rfl (lv_at hl 0 rfl) ?_
  refine w_get (C := RX2) (T := TX2) (N := 15) S (fun _ h => List.mem_cons_of_mem _ (List.mem_append_left _ (List.mem_append_right _ h))) hK hP (5 + 21 * i) (by have := h4; omega) ((ceP0 h4) _) rfl 2 (by decide) (hts _ (List.mem_of_getElem? (i := 1) rfl)) (v := .ref (g.1 (5 + 21 * i + 2))) rfl dX2_takeFromLine_1 ?_
  refine w_iconst S dX2_takeFromLine_4 (by decide) (fun k1 hk1 => ?_)
  refine w_cVi (As := [.int k1]) (rest := []) S hK hN hP hS hl (5 + 21 * i + 2) (by have := h4; omega) ((ceP2 h4) _) rfl (c_X3_fits l D g hg x hI (5 + 21 * i + 2) 8 (isRow2 h4) k1) (cwV 1 hts gX2_takeFromLine_X3_fits rfl rfl rfl (by decide +kernel) ⟨Nat.le_of_ble_eq_true rfl, Nat.le_of_ble_eq_true rfl⟩) rfl rfl (Nat.le_of_ble_eq_true rfl) dX2_takeFromLine_5 ⟨Nat.zero_le _, Nat.zero_le _⟩ (fun r3 x2 H locs hq4 hP hS => ?_)
  obtain ⟨ex5, hf6⟩ := hq4
  rw [ex5] at hP
  refine w_if_ne (tgt := 23) S dX2_takeFromLine_8 (by decide) (fun hb7 => ?_) (fun hb7 => ?_)
  · refine lv_aload_n S.1 S.2.1 dX2_takeFromLine_23 rfl (lv_at hl 0 rfl) ?_
    refine w_get (C := RX2) (T := TX2) (N := 15) S (fun _ h => List.mem_cons_of_mem _ (List.mem_append_left _ (List.mem_append_right _ h))) hK hP (5 + 21 * i) (by have := h4; omega) ((ceP0 h4) _) rfl 2 (by decide) (hts _ (List.mem_of_getElem? (i := 1) rfl)) (v := .ref (g.1 (5 + 21 * i + 2))) rfl dX2_takeFromLine_24 ?_
    refine lv_iload_n S.1 S.2.1 dX2_takeFromLine_27 rfl (lv_at hl 2 rfl) ?_
    refine w_bipush S dX2_takeFromLine_28 (by decide) (fun k8 hk8 => ?_)
    refine lv_ishl S.1 S.2.1 dX2_takeFromLine_30 ?_
    refine w_any1 (fun v9 => ?_)
    refine lv_iload_n S.1 S.2.1 dX2_takeFromLine_31 rfl (lv_at hl 1 rfl) ?_
    refine lv_ior S.1 S.2.1 dX2_takeFromLine_32 ?_
    refine w_any1 (fun v10 => ?_)
    refine w_cVv (As := [.int v10]) (rest := []) S hK hN hP hS hl (5 + 21 * i + 2) (by have := h4; omega) ((ceP2 h4) _) rfl (c_X3_add l D g hg x hI (5 + 21 * i + 2) 8 (isRow2 h4) v10) (cwV 1 hts gX2_takeFromLine_X3_add rfl rfl rfl (by decide +kernel) ⟨Nat.le_of_ble_eq_true rfl, Nat.le_of_ble_eq_true rfl⟩) rfl rfl (Nat.le_of_ble_eq_true rfl) dX2_takeFromLine_33 ⟨Nat.zero_le _, Nat.zero_le _⟩ (fun x11 H locs hq13 hP hS => ?_)
    obtain ⟨hI14, hT15, hf16⟩ := hq13
    have hT17 : Same (TCr i) x x11 := hT.tr hT15 (fun c0 k0 h => by unfold TCr TC TrC at h; unfold TR; omega)
    refine lv_aload_n S.1 S.2.1 dX2_takeFromLine_36 rfl (lv_at hl 0 rfl) ?_
    refine w_get (C := RX2) (T := TX2) (N := 15) S (fun _ h => List.mem_cons_of_mem _ (List.mem_append_left _ (List.mem_append_right _ h))) hK hP (5 + 21 * i) (by have := h4; omega) ((ceP0 h4) _) rfl 8 (by decide) (hts _ (List.mem_of_getElem? (i := 2) rfl)) (v := .ref (g.1 (5 + 21 * i + 20))) rfl dX2_takeFromLine_37 ?_
    refine w_iconst S dX2_takeFromLine_40 (by decide) (fun k18 hk18 => ?_)
    refine lv_dup2_11 S.1 S.2.1 dX2_takeFromLine_41 rfl rfl ?_
    refine w_iald S hK hP (5 + 21 * i + 20) (by have := h4; omega) (ceP20 h4) (by omega) (by omega) dX2_takeFromLine_42 (fun v19 ev19 => ?_)
    have wv19 : v19.toInt = (x11 (5 + 21 * i + 20) k18.toInt.toNat).toInt := by rw [ev19]
    refine w_iconst S dX2_takeFromLine_43 (by decide) (fun k20 hk20 => ?_)
    refine lv_iadd S.1 S.2.1 dX2_takeFromLine_44 ?_
    refine w_any1 (fun v21 => ?_)
    refine w_iast S hK hg hP hS (5 + 21 * i + 20) (by have := h4; omega) (ceP20 h4) (by omega) (by omega) dX2_takeFromLine_45 (fun x22 H locs ex22 hP hS => ?_)
    have hI23 : Inv x22 := by rw [ex22]; exact hI14.upP (j := 20) h4 (by decide) (i_ge _) (i_le _)
    have hT24 : Same (TCr i) x x22 := by rw [ex22]; exact hT17.up (by unfold TCr TC TrC; omega)
    have u25 : (x22 (5 + 21 * i + 2) 2).toInt = (x11 (5 + 21 * i + 2) 2).toInt := by rw [ex22, up2_ne _ _ (by omega)]
    refine w_iconst S dX2_takeFromLine_46 (by decide) (fun k26 hk26 => ?_)
    exact w_zret S hr0 hlk hP hS dX2_takeFromLine_47 (z01 (by omega) (by omega)) (⟨hI23, hT24, by omega, by omega, by omega⟩)
  · refine lv_aload_n S.1 S.2.1 dX2_takeFromLine_11 rfl (lv_at hl 0 rfl) ?_
    refine w_get (C := RX2) (T := TX2) (N := 15) S (fun _ h => List.mem_cons_of_mem _ (List.mem_append_left _ (List.mem_append_right _ h))) hK hP (5 + 21 * i) (by have := h4; omega) ((ceP0 h4) _) rfl 8 (by decide) (hts _ (List.mem_of_getElem? (i := 2) rfl)) (v := .ref (g.1 (5 + 21 * i + 20))) rfl dX2_takeFromLine_12 ?_
    refine w_iconst S dX2_takeFromLine_15 (by decide) (fun k27 hk27 => ?_)
    refine lv_dup2_11 S.1 S.2.1 dX2_takeFromLine_16 rfl rfl ?_
    refine w_iald S hK hP (5 + 21 * i + 20) (by have := h4; omega) (ceP20 h4) (by omega) (by omega) dX2_takeFromLine_17 (fun v28 ev28 => ?_)
    have wv28 : v28.toInt = (x (5 + 21 * i + 20) k27.toInt.toNat).toInt := by rw [ev28]
    refine w_iconst S dX2_takeFromLine_18 (by decide) (fun k29 hk29 => ?_)
    refine lv_iadd S.1 S.2.1 dX2_takeFromLine_19 ?_
    refine w_any1 (fun v30 => ?_)
    refine w_iast S hK hg hP hS (5 + 21 * i + 20) (by have := h4; omega) (ceP20 h4) (by omega) (by omega) dX2_takeFromLine_20 (fun x31 H locs ex31 hP hS => ?_)
    have hI32 : Inv x31 := by rw [ex31]; exact hI.upP (j := 20) h4 (by decide) (i_ge _) (i_le _)
    have hT33 : Same (TCr i) x x31 := by rw [ex31]; exact hT.up (by unfold TCr TC TrC; omega)
    have u34 : (x31 (5 + 21 * i + 2) 2).toInt = (x (5 + 21 * i + 2) 2).toInt := by rw [ex31, up2_ne _ _ (by omega)]
    refine w_iconst S dX2_takeFromLine_21 (by decide) (fun k35 hk35 => ?_)
    exact w_zret S hr0 hlk hP hS dX2_takeFromLine_22 (z01 (by omega) (by omega)) (⟨hI32, hT33, by omega, by omega, by omega⟩)
set_option maxRecDepth 100000 in
set_option maxHeartbeats 4000000 in
theorem c_X2_giveToLine (l : Launch) (D : va_G) (g : GA) (hg : Inj g) (x : St) (hI : Inv x) (i : Nat) (h4 : i < 4) : Met l yX2_giveToLine wsX2_giveToLine ({ frames := 2, cells := 0, slots := 0, locals := 42 } : Room) (va_Pc [.ref (g.1 (5 + 21 * i))] (WI D g x)) (va_Qi (fun r x2 => Inv x2 ∧ Same TC x x2 ∧ ((x (5 + 21 * i) 14).toInt = -1 → (x (5 + 21 * i + 10) 2).toInt = 0 → r.toInt = -1)) (WO D g) (AQ g)) 0 0 (AQ g) := by
  refine w_met (cc := cX2_giveToLine) (maxL := 2) (ret := (some .int)) (own := RX2) (by decide) rfl rfl (Nat.le_of_ble_eq_true rfl) (fun p e s m below meth co S hr0 hlk hK hN hP hS ls hl => ?_)
  have hts := S.2.2.2.2
  have hl : lv_has ls 2 [(0, .ref (g.1 (5 + 21 * i)))] := hl
  have hT : Same (TC) x x := Same.rf
  refine lv_aload_n S.1 S.2.1 dX2_giveToLine_0 rfl (lv_at hl 0 rfl) ?_
  refine w_cVi (As := []) (rest := []) S hK hN hP hS hl (5 + 21 * i) (by have := h4; omega) ((ceP0 h4) _) rfl (c_X2_urgentByte l D g hg x hI i h4) (cwV 0 hts gX2_giveToLine_X2_urgentByte rfl rfl rfl (by decide +kernel) ⟨Nat.le_of_ble_eq_true rfl, Nat.le_of_ble_eq_true rfl⟩) rfl rfl (Nat.le_of_ble_eq_true rfl) dX2_giveToLine_1 ⟨Nat.zero_le _, Nat.zero_le _⟩ (fun r2 x1 H locs hq3 hP hS => ?_)
  obtain ⟨ex4, hf5⟩ := hq3
  rw [ex4] at hP
  refine lv_istore_n (lv' := [(1, .int r2), (0, .ref (g.1 (5 + 21 * i)))]) S.1 S.2.1 dX2_giveToLine_4 rfl hl (by decide) rfl (fun ls hl => ?_)
  refine lv_aload_n S.1 S.2.1 dX2_giveToLine_5 rfl (lv_at hl 1 rfl) ?_
  refine w_iconst S dX2_giveToLine_6 (by decide) (fun k6 hk6 => ?_)
  refine w_put (C := RX2) (T := TX2) (N := 15) (F := FPort g (5 + 21 * i)) S (fun _ h => List.mem_cons_of_mem _ (List.mem_append_left _ (List.mem_append_left _ (List.mem_append_left _ (List.mem_append_right _ h))))) tyX2_ok nmX2 hK hg hP hS (5 + 21 * i) (by have := h4; omega) (ceP0 h4) rfl 14 (by decide) (hts _ (List.mem_of_getElem? (i := 1) rfl)) rfl rfl rfl (fun _ => Nat.le_of_ble_eq_true rfl) (fun _ => rfl) dX2_giveToLine_7 (fun x7 H locs ex7 hP hS => ?_)
  have hI8 : Inv x7 := by rw [ex7]; exact hI.upP0 h4 (show (-1 : Int) ≤ _ by omega) (show _ ≤ (24 : Int) by omega)
  have hT9 : Same (TC) x x7 := by rw [ex7]; exact hT.up (by unfold TC TrC; omega)
  have u10 : (x7 (5 + 21 * i + 10) 2).toInt = (x (5 + 21 * i + 10) 2).toInt := by rw [ex7, up2_ne _ _ (by omega)]
  refine lv_iload_n S.1 S.2.1 dX2_giveToLine_10 rfl (lv_at hl 0 rfl) ?_
  refine w_sipush S dX2_giveToLine_11 (by decide) (fun k11 hk11 => ?_)
  refine w_icmp_ne (tgt := 39) S dX2_giveToLine_14 (by decide) (fun hb12 => ?_) (fun hb12 => ?_)
  · refine lv_aload_n S.1 S.2.1 dX2_giveToLine_39 rfl (lv_at hl 1 rfl) ?_
    refine w_get (C := RX2) (T := TX2) (N := 15) S (fun _ h => List.mem_cons_of_mem _ (List.mem_append_left _ (List.mem_append_left _ (List.mem_append_left _ (List.mem_append_right _ h))))) hK hP (5 + 21 * i) (by have := h4; omega) ((ceP0 h4) _) rfl 8 (by decide) (hts _ (List.mem_of_getElem? (i := 4) rfl)) (v := .ref (g.1 (5 + 21 * i + 20))) rfl dX2_giveToLine_40 ?_
    refine w_iconst S dX2_giveToLine_43 (by decide) (fun k13 hk13 => ?_)
    refine lv_dup2_11 S.1 S.2.1 dX2_giveToLine_44 rfl rfl ?_
    refine w_iald S hK hP (5 + 21 * i + 20) (by have := h4; omega) (ceP20 h4) (by omega) (by omega) dX2_giveToLine_45 (fun v14 ev14 => ?_)
    have wv14 : v14.toInt = (x7 (5 + 21 * i + 20) k13.toInt.toNat).toInt := by rw [ev14]
    refine w_iconst S dX2_giveToLine_46 (by decide) (fun k15 hk15 => ?_)
    refine lv_iadd S.1 S.2.1 dX2_giveToLine_47 ?_
    refine w_any1 (fun v16 => ?_)
    refine w_iast S hK hg hP hS (5 + 21 * i + 20) (by have := h4; omega) (ceP20 h4) (by omega) (by omega) dX2_giveToLine_48 (fun x17 H locs ex17 hP hS => ?_)
    have hI18 : Inv x17 := by rw [ex17]; exact hI8.upP (j := 20) h4 (by decide) (i_ge _) (i_le _)
    have hT19 : Same (TC) x x17 := by rw [ex17]; exact hT9.up (by unfold TC TrC; omega)
    have u20 : (x17 (5 + 21 * i + 10) 2).toInt = (x7 (5 + 21 * i + 10) 2).toInt := by rw [ex17, up2_ne _ _ (by omega)]
    refine lv_iload_n S.1 S.2.1 dX2_giveToLine_49 rfl (lv_at hl 0 rfl) ?_
    exact w_iret S hr0 hlk hP hS dX2_giveToLine_50 (⟨hI18, hT19, by omega⟩)
  · refine lv_aload_n S.1 S.2.1 dX2_giveToLine_17 rfl (lv_at hl 1 rfl) ?_
    refine w_get (C := RX2) (T := TX2) (N := 15) S (fun _ h => List.mem_cons_of_mem _ (List.mem_append_left _ (List.mem_append_left _ (List.mem_append_left _ (List.mem_append_right _ h))))) hK hP (5 + 21 * i) (by have := h4; omega) ((ceP0 h4) _) rfl 4 (by decide) (hts _ (List.mem_of_getElem? (i := 2) rfl)) (v := .ref (g.1 (5 + 21 * i + 7))) rfl dX2_giveToLine_18 ?_
    refine w_cVi (As := []) (rest := []) S hK hN hP hS hl (5 + 21 * i + 7) (by have := h4; omega) ((ceP7 h4) _) rfl (c_X1_takeFromSender l D g hg x7 hI8 i h4) (cwV 0 hts gX2_giveToLine_X1_takeFromSender rfl rfl rfl (by decide +kernel) ⟨Nat.le_of_ble_eq_true rfl, Nat.le_of_ble_eq_true rfl⟩) rfl rfl (Nat.le_of_ble_eq_true rfl) dX2_giveToLine_21 ⟨Nat.zero_le _, Nat.zero_le _⟩ (fun r22 x21 H locs hq23 hP hS => ?_)
    obtain ⟨hI24, hT25, hf26⟩ := hq23
    have hT27 : Same (TC) x x21 := hT9.tr hT25 (fun _ _ h => h)
    refine lv_istore_n (lv' := [(1, .int r22), (0, .ref (g.1 (5 + 21 * i)))]) S.1 S.2.1 dX2_giveToLine_24 rfl hl (by decide) rfl (fun ls hl => ?_)
    refine lv_iload_n S.1 S.2.1 dX2_giveToLine_25 rfl (lv_at hl 0 rfl) ?_
    refine w_iconst S dX2_giveToLine_26 (by decide) (fun k28 hk28 => ?_)
    refine w_icmp_ne (tgt := 32) S dX2_giveToLine_27 (by decide) (fun hb29 => ?_) (fun hb29 => ?_)
    · refine lv_aload_n S.1 S.2.1 dX2_giveToLine_32 rfl (lv_at hl 1 rfl) ?_
      refine w_get (C := RX2) (T := TX2) (N := 15) S (fun _ h => List.mem_cons_of_mem _ (List.mem_append_left _ (List.mem_append_left _ (List.mem_append_left _ (List.mem_append_right _ h))))) hK hP (5 + 21 * i) (by have := h4; omega) ((ceP0 h4) _) rfl 5 (by decide) (hts _ (List.mem_of_getElem? (i := 3) rfl)) (v := .ref (g.1 (5 + 21 * i + 12))) rfl dX2_giveToLine_33 ?_
      refine w_cVv (As := []) (rest := []) S hK hN hP hS hl (5 + 21 * i + 12) (by have := h4; omega) ((ceP12 h4) _) rfl (c_X5_byteHasGone l D g hg x21 hI24 i h4) (cwV 0 hts gX2_giveToLine_X5_byteHasGone rfl rfl rfl (by decide +kernel) ⟨Nat.le_of_ble_eq_true rfl, Nat.le_of_ble_eq_true rfl⟩) rfl rfl (Nat.le_of_ble_eq_true rfl) dX2_giveToLine_36 ⟨Nat.zero_le _, Nat.zero_le _⟩ (fun x30 H locs hq32 hP hS => ?_)
      obtain ⟨hI33, hT34, hf35⟩ := hq32
      have hT36 : Same (TC) x x30 := hT27.tr hT34 (fun _ _ h => h)
      refine lv_aload_n S.1 S.2.1 dX2_giveToLine_39 rfl (lv_at hl 1 rfl) ?_
      refine w_get (C := RX2) (T := TX2) (N := 15) S (fun _ h => List.mem_cons_of_mem _ (List.mem_append_left _ (List.mem_append_left _ (List.mem_append_left _ (List.mem_append_right _ h))))) hK hP (5 + 21 * i) (by have := h4; omega) ((ceP0 h4) _) rfl 8 (by decide) (hts _ (List.mem_of_getElem? (i := 4) rfl)) (v := .ref (g.1 (5 + 21 * i + 20))) rfl dX2_giveToLine_40 ?_
      refine w_iconst S dX2_giveToLine_43 (by decide) (fun k37 hk37 => ?_)
      refine lv_dup2_11 S.1 S.2.1 dX2_giveToLine_44 rfl rfl ?_
      refine w_iald S hK hP (5 + 21 * i + 20) (by have := h4; omega) (ceP20 h4) (by omega) (by omega) dX2_giveToLine_45 (fun v38 ev38 => ?_)
      have wv38 : v38.toInt = (x30 (5 + 21 * i + 20) k37.toInt.toNat).toInt := by rw [ev38]
      refine w_iconst S dX2_giveToLine_46 (by decide) (fun k39 hk39 => ?_)
      refine lv_iadd S.1 S.2.1 dX2_giveToLine_47 ?_
      refine w_any1 (fun v40 => ?_)
      refine w_iast S hK hg hP hS (5 + 21 * i + 20) (by have := h4; omega) (ceP20 h4) (by omega) (by omega) dX2_giveToLine_48 (fun x41 H locs ex41 hP hS => ?_)
      have hI42 : Inv x41 := by rw [ex41]; exact hI33.upP (j := 20) h4 (by decide) (i_ge _) (i_le _)
      have hT43 : Same (TC) x x41 := by rw [ex41]; exact hT36.up (by unfold TC TrC; omega)
      have u44 : (x41 (5 + 21 * i + 10) 2).toInt = (x30 (5 + 21 * i + 10) 2).toInt := by rw [ex41, up2_ne _ _ (by omega)]
      refine lv_iload_n S.1 S.2.1 dX2_giveToLine_49 rfl (lv_at hl 0 rfl) ?_
      exact w_iret S hr0 hlk hP hS dX2_giveToLine_50 (⟨hI42, hT43, by omega⟩)
    · refine w_iconst S dX2_giveToLine_30 (by decide) (fun k45 hk45 => ?_)
      exact w_iret S hr0 hlk hP hS dX2_giveToLine_31 (⟨hI24, hT27, by omega⟩)
set_option maxRecDepth 100000 in
set_option maxHeartbeats 4000000 in
theorem c_X2_relax (l : Launch) (D : va_G) (g : GA) (hg : Inj g) (x : St) (hI : Inv x) (i : Nat) (h4 : i < 4) : Met l yX2_relax wsX2_relax ({ frames := 0, cells := 0, slots := 0, locals := 0 } : Room) (va_Pc [.ref (g.1 (5 + 21 * i))] (WI D g x)) (va_Qv (fun x2 => Inv x2 ∧ Same TC x x2 ∧ True) (WO D g) (AQ g)) 0 0 (AQ g) := by
  refine w_met (cc := cX2_relax) (maxL := 1) (ret := none) (own := RX2) (by decide) rfl rfl (Nat.le_of_ble_eq_true rfl) (fun p e s m below meth co S hr0 hlk hK hN hP hS ls hl => ?_)
  have hts := S.2.2.2.2
  have hl : lv_has ls 1 [(0, .ref (g.1 (5 + 21 * i)))] := hl
  have hT : Same (TC) x x := Same.rf
  refine lv_aload_n S.1 S.2.1 dX2_relax_0 rfl (lv_at hl 0 rfl) ?_
  refine w_get (C := RX2) (T := TX2) (N := 15) S (fun _ h => List.mem_cons_of_mem _ (List.mem_append_left _ (List.mem_append_left _ (List.mem_append_right _ h)))) hK hP (5 + 21 * i) (by have := h4; omega) ((ceP0 h4) _) rfl 13 (by decide) (hts _ (List.mem_of_getElem? (i := 1) rfl)) (v := .int (x (5 + 21 * i) 13)) rfl dX2_relax_1 ?_
  refine lv_topi (fun v1 ev1 => ?_)
  have wv1 : v1.toInt = (x (5 + 21 * i) 13).toInt := by rw [ev1]
  have rv1 : (0 : Int) ≤ v1.toInt ∧ v1.toInt ≤ (1 : Int) := by rw [ev1]; exact hI.atP0 (k := 13) h4
  refine w_if_eq (tgt := 33) S dX2_relax_4 (by decide) (fun hb2 => ?_) (fun hb2 => ?_)
  · exact w_vret S hr0 hlk hP hS dX2_relax_33 (⟨hI, hT, trivial⟩)
  · refine lv_aload_n S.1 S.2.1 dX2_relax_7 rfl (lv_at hl 0 rfl) ?_
    refine w_get (C := RX2) (T := TX2) (N := 15) S (fun _ h => List.mem_cons_of_mem _ (List.mem_append_left _ (List.mem_append_left _ (List.mem_append_right _ h)))) hK hP (5 + 21 * i) (by have := h4; omega) ((ceP0 h4) _) rfl 3 (by decide) (hts _ (List.mem_of_getElem? (i := 2) rfl)) (v := .ref (g.1 (5 + 21 * i + 4))) rfl dX2_relax_8 ?_
    refine w_getN (C := RX4) (T := TX4) (N := 3) S (fun _ h => List.mem_cons_of_mem _ (List.mem_append_left _ (List.mem_append_right _ h))) hK hP (5 + 21 * i + 4) (by have := h4; omega) ((ceP4 h4) _) rfl 0 (by decide) (hN.1 _ (List.mem_of_getElem? (i := 7) rfl)) (v := .ref (g.1 (5 + 21 * i + 5))) rfl dX2_relax_11 ?_
    refine w_getN (C := RX3) (T := TX3) (N := 3) S (fun _ h => List.mem_cons_of_mem _ (List.mem_append_right _ h)) hK hP (5 + 21 * i + 5) (by have := h4; omega) ((ceP5 h4) _) rfl 2 (by decide) (hN.1 _ (List.mem_of_getElem? (i := 6) rfl)) (v := .int (x (5 + 21 * i + 5) 2)) rfl dX2_relax_14 ?_
    refine lv_topi (fun v3 ev3 => ?_)
    have wv3 : v3.toInt = (x (5 + 21 * i + 5) 2).toInt := by rw [ev3]
    have rv3 : (0 : Int) ≤ v3.toInt ∧ v3.toInt ≤ (65 : Int) := by rw [ev3]; exact hI.atP (j := 5) (k := 2) h4 (by decide)
    refine w_bipush S dX2_relax_17 (by decide) (fun k4 hk4 => ?_)
    refine w_icmp_gt (tgt := 33) S dX2_relax_19 (by decide) (fun hb5 => ?_) (fun hb5 => ?_)
    · exact w_vret S hr0 hlk hP hS dX2_relax_33 (⟨hI, hT, trivial⟩)
    · refine lv_aload_n S.1 S.2.1 dX2_relax_22 rfl (lv_at hl 0 rfl) ?_
      refine w_iconst S dX2_relax_23 (by decide) (fun k6 hk6 => ?_)
      refine w_put (C := RX2) (T := TX2) (N := 15) (F := FPort g (5 + 21 * i)) S (fun _ h => List.mem_cons_of_mem _ (List.mem_append_left _ (List.mem_append_left _ (List.mem_append_right _ h)))) tyX2_ok nmX2 hK hg hP hS (5 + 21 * i) (by have := h4; omega) (ceP0 h4) rfl 13 (by decide) (hts _ (List.mem_of_getElem? (i := 1) rfl)) rfl (tz_narrow (z01 (by omega) (by omega))) (tz_fits (z01 (by omega) (by omega))) (fun _ => Nat.le_of_ble_eq_true rfl) (fun _ => rfl) dX2_relax_24 (fun x7 H locs ex7 hP hS => ?_)
      have hI8 : Inv x7 := by rw [ex7]; exact hI.upP0 h4 (show (0 : Int) ≤ _ by omega) (show _ ≤ (1 : Int) by omega)
      have hT9 : Same (TC) x x7 := by rw [ex7]; exact hT.up (by unfold TC TrC; omega)
      refine lv_aload_n S.1 S.2.1 dX2_relax_27 rfl (lv_at hl 0 rfl) ?_
      refine w_bipush S dX2_relax_28 (by decide) (fun k10 hk10 => ?_)
      refine w_put (C := RX2) (T := TX2) (N := 15) (F := FPort g (5 + 21 * i)) S (fun _ h => List.mem_cons_of_mem _ (List.mem_append_left _ (List.mem_append_left _ (List.mem_append_right _ h)))) tyX2_ok nmX2 hK hg hP hS (5 + 21 * i) (by have := h4; omega) (ceP0 h4) rfl 14 (by decide) (hts _ (List.mem_of_getElem? (i := 3) rfl)) rfl rfl rfl (fun _ => Nat.le_of_ble_eq_true rfl) (fun _ => rfl) dX2_relax_30 (fun x11 H locs ex11 hP hS => ?_)
      have hI12 : Inv x11 := by rw [ex11]; exact hI8.upP0 h4 (show (-1 : Int) ≤ _ by omega) (show _ ≤ (24 : Int) by omega)
      have hT13 : Same (TC) x x11 := by rw [ex11]; exact hT9.up (by unfold TC TrC; omega)
      exact w_vret S hr0 hlk hP hS dX2_relax_33 (⟨hI12, hT13, trivial⟩)
set_option maxRecDepth 100000 in
set_option maxHeartbeats 4000000 in
theorem c_X2_emptyStore (l : Launch) (D : va_G) (g : GA) (hg : Inj g) (x : St) (hI : Inv x) (i : Nat) (h4 : i < 4) : Met l yX2_emptyStore wsX2_emptyStore ({ frames := 2, cells := 0, slots := 0, locals := 40 } : Room) (va_Pc [.ref (g.1 (5 + 21 * i))] (WI D g x)) (va_Qv (fun x2 => Inv x2 ∧ Same TC x x2 ∧ True) (WO D g) (AQ g)) 0 0 (AQ g) := by
  refine w_met (cc := cX2_emptyStore) (maxL := 1) (ret := none) (own := RX2) (by decide) rfl rfl (Nat.le_of_ble_eq_true rfl) (fun p e s m below meth co S hr0 hlk hK hN hP hS ls hl => ?_)
  have hts := S.2.2.2.2
  have hl : lv_has ls 1 [(0, .ref (g.1 (5 + 21 * i)))] := hl
  have hT : Same (TC) x x := Same.rf
  refine lv_aload_n S.1 S.2.1 dX2_emptyStore_0 rfl (lv_at hl 0 rfl) ?_
  refine w_get (C := RX2) (T := TX2) (N := 15) S (fun _ h => List.mem_cons_of_mem _ (List.mem_append_left _ (List.mem_append_left _ (List.mem_append_right _ h)))) hK hP (5 + 21 * i) (by have := h4; omega) ((ceP0 h4) _) rfl 3 (by decide) (hts _ (List.mem_of_getElem? (i := 1) rfl)) (v := .ref (g.1 (5 + 21 * i + 4))) rfl dX2_emptyStore_1 ?_
  refine w_cVv (As := []) (rest := []) S hK hN hP hS hl (5 + 21 * i + 4) (by have := h4; omega) ((ceP4 h4) _) rfl (c_X4_empty l D g hg x hI i h4) (cwV 0 hts gX2_emptyStore_X4_empty rfl rfl rfl (by decide +kernel) ⟨Nat.le_of_ble_eq_true rfl, Nat.le_of_ble_eq_true rfl⟩) rfl rfl (Nat.le_of_ble_eq_true rfl) dX2_emptyStore_4 ⟨Nat.zero_le _, Nat.zero_le _⟩ (fun x1 H locs hq3 hP hS => ?_)
  obtain ⟨hI4, hT5, hf6⟩ := hq3
  have hT7 : Same (TC) x x1 := hT.tr hT5 (fun _ _ h => h)
  refine lv_aload_n S.1 S.2.1 dX2_emptyStore_7 rfl (lv_at hl 0 rfl) ?_
  refine w_cVv (As := []) (rest := []) S hK hN hP hS hl (5 + 21 * i) (by have := h4; omega) ((ceP0 h4) _) rfl (c_X2_relax l D g hg x1 hI4 i h4) (cwV 0 hts gX2_emptyStore_X2_relax rfl rfl rfl (by decide +kernel) ⟨Nat.le_of_ble_eq_true rfl, Nat.le_of_ble_eq_true rfl⟩) rfl rfl (Nat.le_of_ble_eq_true rfl) dX2_emptyStore_8 ⟨Nat.zero_le _, Nat.zero_le _⟩ (fun x8 H locs hq10 hP hS => ?_)
  obtain ⟨hI11, hT12, hf13⟩ := hq10
  have hT14 : Same (TC) x x8 := hT7.tr hT12 (fun _ _ h => h)
  exact w_vret S hr0 hlk hP hS dX2_emptyStore_11 (⟨hI11, hT14, trivial⟩)
set_option maxRecDepth 100000 in
set_option maxHeartbeats 4000000 in
theorem c_X2_releaseIfEnough (l : Launch) (D : va_G) (g : GA) (hg : Inj g) (x : St) (hI : Inv x) (i : Nat) (h4 : i < 4) : Met l yX2_releaseIfEnough wsX2_releaseIfEnough ({ frames := 1, cells := 0, slots := 0, locals := 21 } : Room) (va_Pc [.ref (g.1 (5 + 21 * i))] (WI D g x)) (va_Qv (fun x2 => Inv x2 ∧ Same TC x x2 ∧ True) (WO D g) (AQ g)) 0 0 (AQ g) := by
  refine w_met (cc := cX2_releaseIfEnough) (maxL := 1) (ret := none) (own := RX2) (by decide) rfl rfl (Nat.le_of_ble_eq_true rfl) (fun p e s m below meth co S hr0 hlk hK hN hP hS ls hl => ?_)
  have hts := S.2.2.2.2
  have hl : lv_has ls 1 [(0, .ref (g.1 (5 + 21 * i)))] := hl
  have hT : Same (TC) x x := Same.rf
  refine lv_aload_n S.1 S.2.1 dX2_releaseIfEnough_0 rfl (lv_at hl 0 rfl) ?_
  refine w_iconst S dX2_releaseIfEnough_1 (by decide) (fun k1 hk1 => ?_)
  refine w_cVi (As := [.int k1]) (rest := []) S hK hN hP hS hl (5 + 21 * i) (by have := h4; omega) ((ceP0 h4) _) rfl (c_X2_isOn l D g hg x hI i h4 k1 (by omega)) (cwV 1 hts gX2_releaseIfEnough_X2_isOn rfl rfl rfl (by decide +kernel) ⟨Nat.le_of_ble_eq_true rfl, Nat.le_of_ble_eq_true rfl⟩) rfl rfl (Nat.le_of_ble_eq_true rfl) dX2_releaseIfEnough_2 ⟨Nat.zero_le _, Nat.zero_le _⟩ (fun r3 x2 H locs hq4 hP hS => ?_)
  obtain ⟨ex5, hf6⟩ := hq4
  rw [ex5] at hP
  refine w_if_ne (tgt := 39) S dX2_releaseIfEnough_5 (by decide) (fun hb7 => ?_) (fun hb7 => ?_)
  · exact w_vret S hr0 hlk hP hS dX2_releaseIfEnough_39 (⟨hI, hT, trivial⟩)
  · refine lv_aload_n S.1 S.2.1 dX2_releaseIfEnough_8 rfl (lv_at hl 0 rfl) ?_
    refine w_get (C := RX2) (T := TX2) (N := 15) S (fun _ h => List.mem_cons_of_mem _ (List.mem_append_left _ (List.mem_append_left _ (List.mem_append_right _ h)))) hK hP (5 + 21 * i) (by have := h4; omega) ((ceP0 h4) _) rfl 3 (by decide) (hts _ (List.mem_of_getElem? (i := 1) rfl)) (v := .ref (g.1 (5 + 21 * i + 4))) rfl dX2_releaseIfEnough_9 ?_
    refine w_getN (C := RX4) (T := TX4) (N := 3) S (fun _ h => List.mem_cons_of_mem _ (List.mem_append_left _ (List.mem_append_right _ h))) hK hP (5 + 21 * i + 4) (by have := h4; omega) ((ceP4 h4) _) rfl 0 (by decide) (hN.1 _ (List.mem_of_getElem? (i := 7) rfl)) (v := .ref (g.1 (5 + 21 * i + 5))) rfl dX2_releaseIfEnough_12 ?_
    refine w_getN (C := RX3) (T := TX3) (N := 3) S (fun _ h => List.mem_cons_of_mem _ (List.mem_append_right _ h)) hK hP (5 + 21 * i + 5) (by have := h4; omega) ((ceP5 h4) _) rfl 2 (by decide) (hN.1 _ (List.mem_of_getElem? (i := 6) rfl)) (v := .int (x (5 + 21 * i + 5) 2)) rfl dX2_releaseIfEnough_15 ?_
    refine lv_topi (fun v8 ev8 => ?_)
    have wv8 : v8.toInt = (x (5 + 21 * i + 5) 2).toInt := by rw [ev8]
    have rv8 : (0 : Int) ≤ v8.toInt ∧ v8.toInt ≤ (65 : Int) := by rw [ev8]; exact hI.atP (j := 5) (k := 2) h4 (by decide)
    refine w_iconst S dX2_releaseIfEnough_18 (by decide) (fun k9 hk9 => ?_)
    refine lv_aload_n S.1 S.2.1 dX2_releaseIfEnough_19 rfl (lv_at hl 0 rfl) ?_
    refine w_get (C := RX2) (T := TX2) (N := 15) S (fun _ h => List.mem_cons_of_mem _ (List.mem_append_left _ (List.mem_append_left _ (List.mem_append_right _ h)))) hK hP (5 + 21 * i) (by have := h4; omega) ((ceP0 h4) _) rfl 1 (by decide) (hts _ (List.mem_of_getElem? (i := 2) rfl)) (v := .ref (g.1 (5 + 21 * i + 1))) rfl dX2_releaseIfEnough_20 ?_
    refine w_bipush S dX2_releaseIfEnough_23 (by decide) (fun k10 hk10 => ?_)
    refine w_iald S hK hP (5 + 21 * i + 1) (by have := h4; omega) (ceP1 h4) (by omega) (by omega) dX2_releaseIfEnough_25 (fun v11 ev11 => ?_)
    have wv11 : v11.toInt = (x (5 + 21 * i + 1) k10.toInt.toNat).toInt := by rw [ev11]
    refine va_mmax S.1 S.2.1 (by rw [S.2.2.1]; exact hl.1.symm) S.2.2.2.1 (hts _ (List.mem_of_getElem? (i := 3) rfl)) (hts _ (List.mem_of_getElem? (i := 4) rfl)) (hts _ (List.mem_of_getElem? (i := 5) rfl)) (hts _ (List.mem_of_getElem? (i := 6) rfl)) (Nat.le_of_ble_eq_true rfl) (Nat.le_of_ble_eq_true rfl) (Nat.zero_le _) (Nat.zero_le _) dX2_releaseIfEnough_26 ?_
    refine lv_topi (fun v12 ev12 => ?_)
    have hv12 := t_max ev12
    refine w_icmp_lt (tgt := 39) S dX2_releaseIfEnough_29 (by decide) (fun hb13 => ?_) (fun hb13 => ?_)
    · exact w_vret S hr0 hlk hP hS dX2_releaseIfEnough_39 (⟨hI, hT, trivial⟩)
    · refine lv_aload_n S.1 S.2.1 dX2_releaseIfEnough_32 rfl (lv_at hl 0 rfl) ?_
      refine w_get (C := RX2) (T := TX2) (N := 15) S (fun _ h => List.mem_cons_of_mem _ (List.mem_append_left _ (List.mem_append_left _ (List.mem_append_right _ h)))) hK hP (5 + 21 * i) (by have := h4; omega) ((ceP0 h4) _) rfl 3 (by decide) (hts _ (List.mem_of_getElem? (i := 1) rfl)) (v := .ref (g.1 (5 + 21 * i + 4))) rfl dX2_releaseIfEnough_33 ?_
      refine w_cVv (As := []) (rest := []) S hK hN hP hS hl (5 + 21 * i + 4) (by have := h4; omega) ((ceP4 h4) _) rfl (c_X4_releaseAll l D g hg x hI i h4) (cwV 0 hts gX2_releaseIfEnough_X4_releaseAll rfl rfl rfl (by decide +kernel) ⟨Nat.le_of_ble_eq_true rfl, Nat.le_of_ble_eq_true rfl⟩) rfl rfl (Nat.le_of_ble_eq_true rfl) dX2_releaseIfEnough_36 ⟨Nat.zero_le _, Nat.zero_le _⟩ (fun x14 H locs hq16 hP hS => ?_)
      obtain ⟨hI17, hT18, hf19⟩ := hq16
      have hT20 : Same (TC) x x14 := hT.tr hT18 (fun _ _ h => h)
      exact w_vret S hr0 hlk hP hS dX2_releaseIfEnough_39 (⟨hI17, hT20, trivial⟩)
set_option maxRecDepth 100000 in
set_option maxHeartbeats 4000000 in
theorem c_X2_setMode (l : Launch) (D : va_G) (g : GA) (hg : Inj g) (x : St) (hI : Inv x) (i : Nat) (h4 : i < 4) (a : Int32) (b : Int32) (ha : 0 ≤ a.toInt ∧ a.toInt ≤ 24) : Met l yX2_setMode wsX2_setMode ({ frames := 2, cells := 0, slots := 0, locals := 45 } : Room) (va_Pc [.ref (g.1 (5 + 21 * i)), .int a, .int b] (WI D g x)) (va_Qv (fun x2 => Inv x2 ∧ Same TC x x2 ∧ True) (WO D g) (AQ g)) 0 0 (AQ g) := by
  refine w_met (cc := cX2_setMode) (maxL := 3) (ret := none) (own := RX2) (by decide) rfl rfl (Nat.le_of_ble_eq_true rfl) (fun p e s m below meth co S hr0 hlk hK hN hP hS ls hl => ?_)
  have hts := S.2.2.2.2
  have hl : lv_has ls 3 [(0, .ref (g.1 (5 + 21 * i))), (1, .int a), (2, .int b)] := hl
  have hT : Same (TC) x x := Same.rf
  have J33 : ∀ (x_33 : St) (H : Heap) (locs : List Loc) (ls : Array Slot), Inv x_33 → Same (TC) x x_33 → va_P D vwCl (WL g x_33) H → va_S (AQ g) s.heap H locs → lv_has ls 3 [(0, .ref (g.1 (5 + 21 * i))), (1, .int a), (2, .int b)] → W p l e ({ frames := 2, cells := 0, slots := 0, locals := 45 } : Room) s m ([.ref (g.1 (5 + 21 * i)), .int a, .int b] : List Value).toArray below meth co H locs 0 0 (MQ below (va_Qv (fun x2 => Inv x2 ∧ Same TC x x2 ∧ True) (WO D g) (AQ g)) ([.ref (g.1 (5 + 21 * i)), .int a, .int b] : List Value).toArray s 0 0 (AQ g)) (F0 m 33 ls []) := by
    intro x_33 H locs ls hI_33 hT_33 hP hS hl
    refine lv_iload_n S.1 S.2.1 dX2_setMode_33 rfl (lv_at hl 1 rfl) ?_
    refine w_bipush S dX2_setMode_34 (by decide) (fun k1 hk1 => ?_)
    refine w_icmp_ne (tgt := 43) S dX2_setMode_36 (by decide) (fun hb2 => ?_) (fun hb2 => ?_)
    · exact w_vret S hr0 hlk hP hS dX2_setMode_43 (⟨hI_33, hT_33, trivial⟩)
    · refine lv_aload_n S.1 S.2.1 dX2_setMode_39 rfl (lv_at hl 0 rfl) ?_
      refine w_cVv (As := []) (rest := []) S hK hN hP hS hl (5 + 21 * i) (by have := h4; omega) ((ceP0 h4) _) rfl (c_X2_releaseIfEnough l D g hg x_33 hI_33 i h4) (cwV 0 hts gX2_setMode_X2_releaseIfEnough rfl rfl rfl (by decide +kernel) ⟨Nat.le_of_ble_eq_true rfl, Nat.le_of_ble_eq_true rfl⟩) rfl rfl (Nat.le_of_ble_eq_true rfl) dX2_setMode_40 ⟨Nat.zero_le _, Nat.zero_le _⟩ (fun x3 H locs hq5 hP hS => ?_)
      obtain ⟨hI6, hT7, hf8⟩ := hq5
      have hT9 : Same (TC) x x3 := hT_33.tr hT7 (fun _ _ h => h)
      exact w_vret S hr0 hlk hP hS dX2_setMode_43 (⟨hI6, hT9, trivial⟩)
  refine lv_aload_n S.1 S.2.1 dX2_setMode_0 rfl (lv_at hl 0 rfl) ?_
  refine w_get (C := RX2) (T := TX2) (N := 15) S (fun _ h => List.mem_cons_of_mem _ (List.mem_append_left _ (List.mem_append_left _ (List.mem_append_right _ h)))) hK hP (5 + 21 * i) (by have := h4; omega) ((ceP0 h4) _) rfl 1 (by decide) (hts _ (List.mem_of_getElem? (i := 1) rfl)) (v := .ref (g.1 (5 + 21 * i + 1))) rfl dX2_setMode_1 ?_
  refine lv_iload_n S.1 S.2.1 dX2_setMode_4 rfl (lv_at hl 1 rfl) ?_
  refine lv_iload_n S.1 S.2.1 dX2_setMode_5 rfl (lv_at hl 2 rfl) ?_
  refine w_iast S hK hg hP hS (5 + 21 * i + 1) (by have := h4; omega) (ceP1 h4) (by omega) (by omega) dX2_setMode_6 (fun x10 H locs ex10 hP hS => ?_)
  have hI11 : Inv x10 := by rw [ex10]; exact hI.upP (j := 1) h4 (by decide) (i_ge _) (i_le _)
  have hT12 : Same (TC) x x10 := by rw [ex10]; exact hT.up (by unfold TC TrC; omega)
  refine lv_iload_n S.1 S.2.1 dX2_setMode_7 rfl (lv_at hl 1 rfl) ?_
  refine w_if_ne (tgt := 33) S dX2_setMode_8 (by decide) (fun hb13 => ?_) (fun hb13 => ?_)
  · exact J33 _ _ _ _ hI11 hT12 hP hS (lv_sub hl [0, 1, 2] rfl)
  · refine lv_iload_n S.1 S.2.1 dX2_setMode_11 rfl (lv_at hl 2 rfl) ?_
    refine w_if_ne (tgt := 33) S dX2_setMode_12 (by decide) (fun hb14 => ?_) (fun hb14 => ?_)
    · exact J33 _ _ _ _ hI11 hT12 hP hS (lv_sub hl [0, 1, 2] rfl)
    · refine lv_aload_n S.1 S.2.1 dX2_setMode_15 rfl (lv_at hl 0 rfl) ?_
      refine w_get (C := RX2) (T := TX2) (N := 15) S (fun _ h => List.mem_cons_of_mem _ (List.mem_append_left _ (List.mem_append_left _ (List.mem_append_right _ h)))) hK hP (5 + 21 * i) (by have := h4; omega) ((ceP0 h4) _) rfl 3 (by decide) (hts _ (List.mem_of_getElem? (i := 2) rfl)) (v := .ref (g.1 (5 + 21 * i + 4))) rfl dX2_setMode_16 ?_
      refine w_cVv (As := []) (rest := []) S hK hN hP hS hl (5 + 21 * i + 4) (by have := h4; omega) ((ceP4 h4) _) rfl (c_X4_dropEndMarks l D g hg x10 hI11 i h4) (cwV 0 hts gX2_setMode_X4_dropEndMarks rfl rfl rfl (by decide +kernel) ⟨Nat.le_of_ble_eq_true rfl, Nat.le_of_ble_eq_true rfl⟩) rfl rfl (Nat.le_of_ble_eq_true rfl) dX2_setMode_19 ⟨Nat.zero_le _, Nat.zero_le _⟩ (fun x15 H locs hq17 hP hS => ?_)
      obtain ⟨hI18, hT19, hf20⟩ := hq17
      have hT21 : Same (TC) x x15 := hT12.tr hT19 (fun _ _ h => h)
      refine lv_aload_n S.1 S.2.1 dX2_setMode_22 rfl (lv_at hl 0 rfl) ?_
      refine w_get (C := RX2) (T := TX2) (N := 15) S (fun _ h => List.mem_cons_of_mem _ (List.mem_append_left _ (List.mem_append_left _ (List.mem_append_right _ h)))) hK hP (5 + 21 * i) (by have := h4; omega) ((ceP0 h4) _) rfl 3 (by decide) (hts _ (List.mem_of_getElem? (i := 2) rfl)) (v := .ref (g.1 (5 + 21 * i + 4))) rfl dX2_setMode_23 ?_
      refine w_cVv (As := []) (rest := []) S hK hN hP hS hl (5 + 21 * i + 4) (by have := h4; omega) ((ceP4 h4) _) rfl (c_X4_releaseAll l D g hg x15 hI18 i h4) (cwV 0 hts gX2_setMode_X4_releaseAll rfl rfl rfl (by decide +kernel) ⟨Nat.le_of_ble_eq_true rfl, Nat.le_of_ble_eq_true rfl⟩) rfl rfl (Nat.le_of_ble_eq_true rfl) dX2_setMode_26 ⟨Nat.zero_le _, Nat.zero_le _⟩ (fun x22 H locs hq24 hP hS => ?_)
      obtain ⟨hI25, hT26, hf27⟩ := hq24
      have hT28 : Same (TC) x x22 := hT21.tr hT26 (fun _ _ h => h)
      refine lv_aload_n S.1 S.2.1 dX2_setMode_29 rfl (lv_at hl 0 rfl) ?_
      refine w_cVv (As := []) (rest := []) S hK hN hP hS hl (5 + 21 * i) (by have := h4; omega) ((ceP0 h4) _) rfl (c_X2_relax l D g hg x22 hI25 i h4) (cwV 0 hts gX2_setMode_X2_relax rfl rfl rfl (by decide +kernel) ⟨Nat.le_of_ble_eq_true rfl, Nat.le_of_ble_eq_true rfl⟩) rfl rfl (Nat.le_of_ble_eq_true rfl) dX2_setMode_30 ⟨Nat.zero_le _, Nat.zero_le _⟩ (fun x29 H locs hq31 hP hS => ?_)
      obtain ⟨hI32, hT33, hf34⟩ := hq31
      have hT35 : Same (TC) x x29 := hT28.tr hT33 (fun _ _ h => h)
      exact J33 _ _ _ _ hI32 hT35 hP hS (lv_sub hl [0, 1, 2] rfl)
set_option maxRecDepth 100000 in
set_option maxHeartbeats 4000000 in
theorem c_X2_makeDueChanges (l : Launch) (D : va_G) (g : GA) (hg : Inj g) (x : St) (hI : Inv x) (i : Nat) (h4 : i < 4) : Met l yX2_makeDueChanges wsX2_makeDueChanges ({ frames := 3, cells := 0, slots := 0, locals := 67 } : Room) (va_Pc [.ref (g.1 (5 + 21 * i))] (WI D g x)) (va_Qv (fun x2 => Inv x2 ∧ Same TC x x2 ∧ True) (WO D g) (AQ g)) 0 0 (AQ g) := by
  refine w_met (cc := cX2_makeDueChanges) (maxL := 2) (ret := none) (own := RX2) (by decide) rfl rfl (Nat.le_of_ble_eq_true rfl) (fun p e s m below meth co S hr0 hlk hK hN hP hS ls hl => ?_)
  have hts := S.2.2.2.2
  have hl : lv_has ls 2 [(0, .ref (g.1 (5 + 21 * i)))] := hl
  have hT : Same (TC) x x := Same.rf
  have J2 : ∀ (n0 : Nat) (x_2 : St) (H : Heap) (locs : List Loc) (ls : Array Slot) (y2_1 : Int32), Inv x_2 → Same (TC) x x_2 → (0 ≤ y2_1.toInt) → (y2_1.toInt ≤ 3) → (3 - y2_1.toInt).toNat < n0 → va_P D vwCl (WL g x_2) H → va_S (AQ g) s.heap H locs → lv_has ls 2 [(0, .ref (g.1 (5 + 21 * i))), (1, .int y2_1)] → W p l e ({ frames := 3, cells := 0, slots := 0, locals := 67 } : Room) s m ([.ref (g.1 (5 + 21 * i))] : List Value).toArray below meth co H locs 0 0 (MQ below (va_Qv (fun x2 => Inv x2 ∧ Same TC x x2 ∧ True) (WO D g) (AQ g)) ([.ref (g.1 (5 + 21 * i))] : List Value).toArray s 0 0 (AQ g)) (F0 m 2 ls []) := by
    intro n0
    induction n0 with
    | zero => intro x_2 H locs ls y2_1 hI_2 hT_2 hf2_0 hf2_1 hm_2 hP hS hl; exact absurd hm_2 (Nat.not_lt_zero _)
    | succ n0 ih2 =>
      intro x_2 H locs ls y2_1 hI_2 hT_2 hf2_0 hf2_1 hm_2 hP hS hl
      refine lv_iload_n S.1 S.2.1 dX2_makeDueChanges_2 rfl (lv_at hl 1 rfl) ?_
      refine w_iconst S dX2_makeDueChanges_3 (by decide) (fun k1 hk1 => ?_)
      refine w_icmp_ge (tgt := 68) S dX2_makeDueChanges_4 (by decide) (fun hb2 => ?_) (fun hb2 => ?_)
      · exact w_vret S hr0 hlk hP hS dX2_makeDueChanges_68 (⟨hI_2, hT_2, trivial⟩)
      · refine lv_aload_n S.1 S.2.1 dX2_makeDueChanges_7 rfl (lv_at hl 0 rfl) ?_
        refine w_get (C := RX2) (T := TX2) (N := 15) S (fun _ h => List.mem_cons_of_mem _ (List.mem_append_left _ (List.mem_append_left _ (List.mem_append_left _ (List.mem_append_right _ h))))) hK hP (5 + 21 * i) (by have := h4; omega) ((ceP0 h4) _) rfl 5 (by decide) (hts _ (List.mem_of_getElem? (i := 1) rfl)) (v := .ref (g.1 (5 + 21 * i + 12))) rfl dX2_makeDueChanges_8 ?_
        refine w_cVi (As := []) (rest := []) S hK hN hP hS hl (5 + 21 * i + 12) (by have := h4; omega) ((ceP12 h4) _) rfl (c_X5_isFirstDue l D g hg x_2 hI_2 i h4) (cwV 0 hts gX2_makeDueChanges_X5_isFirstDue rfl rfl rfl (by decide +kernel) ⟨Nat.le_of_ble_eq_true rfl, Nat.le_of_ble_eq_true rfl⟩) rfl rfl (Nat.le_of_ble_eq_true rfl) dX2_makeDueChanges_11 ⟨Nat.zero_le _, Nat.zero_le _⟩ (fun r4 x3 H locs hq5 hP hS => ?_)
        obtain ⟨ex6, hf7⟩ := hq5
        rw [ex6] at hP
        refine w_if_eq (tgt := 68) S dX2_makeDueChanges_14 (by decide) (fun hb8 => ?_) (fun hb8 => ?_)
        · exact w_vret S hr0 hlk hP hS dX2_makeDueChanges_68 (⟨hI_2, hT_2, trivial⟩)
        · refine lv_aload_n S.1 S.2.1 dX2_makeDueChanges_17 rfl (lv_at hl 0 rfl) ?_
          refine w_get (C := RX2) (T := TX2) (N := 15) S (fun _ h => List.mem_cons_of_mem _ (List.mem_append_left _ (List.mem_append_left _ (List.mem_append_left _ (List.mem_append_right _ h))))) hK hP (5 + 21 * i) (by have := h4; omega) ((ceP0 h4) _) rfl 5 (by decide) (hts _ (List.mem_of_getElem? (i := 1) rfl)) (v := .ref (g.1 (5 + 21 * i + 12))) rfl dX2_makeDueChanges_18 ?_
          refine w_getN (C := RX5) (T := TX5) (N := 5) S (fun _ h => List.mem_cons_of_mem _ (List.mem_append_left _ (List.mem_append_left _ (List.mem_append_right _ h)))) hK hP (5 + 21 * i + 12) (by have := h4; omega) ((ceP12 h4) _) rfl 2 (by decide) (hN.1 _ (List.mem_of_getElem? (i := 20) rfl)) (v := .ref (g.1 (5 + 21 * i + 15))) rfl dX2_makeDueChanges_21 ?_
          refine w_iconst S dX2_makeDueChanges_24 (by decide) (fun k9 hk9 => ?_)
          refine w_zald S hK hP (5 + 21 * i + 15) (by have := h4; omega) (ceP15 h4) (by omega) (by omega) dX2_makeDueChanges_25 (fun v10 ev10 => ?_)
          have wv10 : v10.toInt = (x_2 (5 + 21 * i + 15) k9.toInt.toNat).toInt := by rw [ev10]
          have rv10 : (0 : Int) ≤ v10.toInt ∧ v10.toInt ≤ (1 : Int) := by rw [ev10]; exact hI_2.atP (j := 15) (k := _) h4 (by decide)
          refine w_if_eq (tgt := 33) S dX2_makeDueChanges_26 (by decide) (fun hb11 => ?_) (fun hb11 => ?_)
          · refine lv_aload_n S.1 S.2.1 dX2_makeDueChanges_33 rfl (lv_at hl 0 rfl) ?_
            refine lv_aload_n S.1 S.2.1 dX2_makeDueChanges_34 rfl (lv_at hl 0 rfl) ?_
            refine w_get (C := RX2) (T := TX2) (N := 15) S (fun _ h => List.mem_cons_of_mem _ (List.mem_append_left _ (List.mem_append_left _ (List.mem_append_left _ (List.mem_append_right _ h))))) hK hP (5 + 21 * i) (by have := h4; omega) ((ceP0 h4) _) rfl 5 (by decide) (hts _ (List.mem_of_getElem? (i := 1) rfl)) (v := .ref (g.1 (5 + 21 * i + 12))) rfl dX2_makeDueChanges_35 ?_
            refine w_getN (C := RX5) (T := TX5) (N := 5) S (fun _ h => List.mem_cons_of_mem _ (List.mem_append_left _ (List.mem_append_left _ (List.mem_append_right _ h)))) hK hP (5 + 21 * i + 12) (by have := h4; omega) ((ceP12 h4) _) rfl 0 (by decide) (hN.1 _ (List.mem_of_getElem? (i := 18) rfl)) (v := .ref (g.1 (5 + 21 * i + 13))) rfl dX2_makeDueChanges_38 ?_
            refine w_iconst S dX2_makeDueChanges_41 (by decide) (fun k12 hk12 => ?_)
            refine w_iald S hK hP (5 + 21 * i + 13) (by have := h4; omega) (ceP13 h4) (by omega) (by omega) dX2_makeDueChanges_42 (fun v13 ev13 => ?_)
            have wv13 : v13.toInt = (x_2 (5 + 21 * i + 13) k12.toInt.toNat).toInt := by rw [ev13]
            have rv13 : (0 : Int) ≤ v13.toInt ∧ v13.toInt ≤ (24 : Int) := by rw [ev13]; exact hI_2.atP (j := 13) (k := _) h4 (by decide)
            refine lv_aload_n S.1 S.2.1 dX2_makeDueChanges_43 rfl (lv_at hl 0 rfl) ?_
            refine w_get (C := RX2) (T := TX2) (N := 15) S (fun _ h => List.mem_cons_of_mem _ (List.mem_append_left _ (List.mem_append_left _ (List.mem_append_left _ (List.mem_append_right _ h))))) hK hP (5 + 21 * i) (by have := h4; omega) ((ceP0 h4) _) rfl 5 (by decide) (hts _ (List.mem_of_getElem? (i := 1) rfl)) (v := .ref (g.1 (5 + 21 * i + 12))) rfl dX2_makeDueChanges_44 ?_
            refine w_getN (C := RX5) (T := TX5) (N := 5) S (fun _ h => List.mem_cons_of_mem _ (List.mem_append_left _ (List.mem_append_left _ (List.mem_append_right _ h)))) hK hP (5 + 21 * i + 12) (by have := h4; omega) ((ceP12 h4) _) rfl 1 (by decide) (hN.1 _ (List.mem_of_getElem? (i := 19) rfl)) (v := .ref (g.1 (5 + 21 * i + 14))) rfl dX2_makeDueChanges_47 ?_
            refine w_iconst S dX2_makeDueChanges_50 (by decide) (fun k14 hk14 => ?_)
            refine w_iald S hK hP (5 + 21 * i + 14) (by have := h4; omega) (ceP14 h4) (by omega) (by omega) dX2_makeDueChanges_51 (fun v15 ev15 => ?_)
            have wv15 : v15.toInt = (x_2 (5 + 21 * i + 14) k14.toInt.toNat).toInt := by rw [ev15]
            refine w_cVv (As := [.int v13, .int v15]) (rest := []) S hK hN hP hS hl (5 + 21 * i) (by have := h4; omega) ((ceP0 h4) _) rfl (c_X2_setMode l D g hg x_2 hI_2 i h4 v13 v15 (by omega)) (cwV 2 hts gX2_makeDueChanges_X2_setMode rfl rfl rfl (by decide +kernel) ⟨Nat.le_of_ble_eq_true rfl, Nat.le_of_ble_eq_true rfl⟩) rfl rfl (Nat.le_of_ble_eq_true rfl) dX2_makeDueChanges_52 ⟨Nat.zero_le _, Nat.zero_le _⟩ (fun x16 H locs hq18 hP hS => ?_)
            obtain ⟨hI19, hT20, hf21⟩ := hq18
            have hT22 : Same (TC) x x16 := hT_2.tr hT20 (fun _ _ h => h)
            refine lv_aload_n S.1 S.2.1 dX2_makeDueChanges_55 rfl (lv_at hl 0 rfl) ?_
            refine w_get (C := RX2) (T := TX2) (N := 15) S (fun _ h => List.mem_cons_of_mem _ (List.mem_append_left _ (List.mem_append_left _ (List.mem_append_left _ (List.mem_append_right _ h))))) hK hP (5 + 21 * i) (by have := h4; omega) ((ceP0 h4) _) rfl 5 (by decide) (hts _ (List.mem_of_getElem? (i := 1) rfl)) (v := .ref (g.1 (5 + 21 * i + 12))) rfl dX2_makeDueChanges_56 ?_
            refine w_cVv (As := []) (rest := []) S hK hN hP hS hl (5 + 21 * i + 12) (by have := h4; omega) ((ceP12 h4) _) rfl (c_X5_removeFirst l D g hg x16 hI19 i h4) (cwV 0 hts gX2_makeDueChanges_X5_removeFirst rfl rfl rfl (by decide +kernel) ⟨Nat.le_of_ble_eq_true rfl, Nat.le_of_ble_eq_true rfl⟩) rfl rfl (Nat.le_of_ble_eq_true rfl) dX2_makeDueChanges_59 ⟨Nat.zero_le _, Nat.zero_le _⟩ (fun x23 H locs hq25 hP hS => ?_)
            obtain ⟨hI26, hT27, hf28⟩ := hq25
            have hT29 : Same (TC) x x23 := hT22.tr hT27 (fun _ _ h => h)
            refine w_iinc (lv' := [(0, .ref (g.1 (5 + 21 * i)))]) S dX2_makeDueChanges_62 hl (k := 1) rfl (by decide) (by decide) (by omega) (by omega) (fun _ => rfl) (fun v30 ls hv30 hl => ?_)
            refine lv_goto (tgt := 2) S.1 S.2.1 dX2_makeDueChanges_65 (by decide) ?_
            exact ih2 _ _ _ _ v30 hI26 hT29 (by omega) (by omega) (by omega) hP hS (lv_sub hl [1, 0] rfl)
          · refine lv_aload_n S.1 S.2.1 dX2_makeDueChanges_29 rfl (lv_at hl 0 rfl) ?_
            refine w_cVv (As := []) (rest := []) S hK hN hP hS hl (5 + 21 * i) (by have := h4; omega) ((ceP0 h4) _) rfl (c_X2_emptyStore l D g hg x_2 hI_2 i h4) (cwV 0 hts gX2_makeDueChanges_X2_emptyStore rfl rfl rfl (by decide +kernel) ⟨Nat.le_of_ble_eq_true rfl, Nat.le_of_ble_eq_true rfl⟩) rfl rfl (Nat.le_of_ble_eq_true rfl) dX2_makeDueChanges_30 ⟨Nat.zero_le _, Nat.zero_le _⟩ (fun x31 H locs hq33 hP hS => ?_)
            obtain ⟨hI34, hT35, hf36⟩ := hq33
            have hT37 : Same (TC) x x31 := hT_2.tr hT35 (fun _ _ h => h)
            refine lv_aload_n S.1 S.2.1 dX2_makeDueChanges_33 rfl (lv_at hl 0 rfl) ?_
            refine lv_aload_n S.1 S.2.1 dX2_makeDueChanges_34 rfl (lv_at hl 0 rfl) ?_
            refine w_get (C := RX2) (T := TX2) (N := 15) S (fun _ h => List.mem_cons_of_mem _ (List.mem_append_left _ (List.mem_append_left _ (List.mem_append_left _ (List.mem_append_right _ h))))) hK hP (5 + 21 * i) (by have := h4; omega) ((ceP0 h4) _) rfl 5 (by decide) (hts _ (List.mem_of_getElem? (i := 1) rfl)) (v := .ref (g.1 (5 + 21 * i + 12))) rfl dX2_makeDueChanges_35 ?_
            refine w_getN (C := RX5) (T := TX5) (N := 5) S (fun _ h => List.mem_cons_of_mem _ (List.mem_append_left _ (List.mem_append_left _ (List.mem_append_right _ h)))) hK hP (5 + 21 * i + 12) (by have := h4; omega) ((ceP12 h4) _) rfl 0 (by decide) (hN.1 _ (List.mem_of_getElem? (i := 18) rfl)) (v := .ref (g.1 (5 + 21 * i + 13))) rfl dX2_makeDueChanges_38 ?_
            refine w_iconst S dX2_makeDueChanges_41 (by decide) (fun k38 hk38 => ?_)
            refine w_iald S hK hP (5 + 21 * i + 13) (by have := h4; omega) (ceP13 h4) (by omega) (by omega) dX2_makeDueChanges_42 (fun v39 ev39 => ?_)
            have wv39 : v39.toInt = (x31 (5 + 21 * i + 13) k38.toInt.toNat).toInt := by rw [ev39]
            have rv39 : (0 : Int) ≤ v39.toInt ∧ v39.toInt ≤ (24 : Int) := by rw [ev39]; exact hI34.atP (j := 13) (k := _) h4 (by decide)
            refine lv_aload_n S.1 S.2.1 dX2_makeDueChanges_43 rfl (lv_at hl 0 rfl) ?_
            refine w_get (C := RX2) (T := TX2) (N := 15) S (fun _ h => List.mem_cons_of_mem _ (List.mem_append_left _ (List.mem_append_left _ (List.mem_append_left _ (List.mem_append_right _ h))))) hK hP (5 + 21 * i) (by have := h4; omega) ((ceP0 h4) _) rfl 5 (by decide) (hts _ (List.mem_of_getElem? (i := 1) rfl)) (v := .ref (g.1 (5 + 21 * i + 12))) rfl dX2_makeDueChanges_44 ?_
            refine w_getN (C := RX5) (T := TX5) (N := 5) S (fun _ h => List.mem_cons_of_mem _ (List.mem_append_left _ (List.mem_append_left _ (List.mem_append_right _ h)))) hK hP (5 + 21 * i + 12) (by have := h4; omega) ((ceP12 h4) _) rfl 1 (by decide) (hN.1 _ (List.mem_of_getElem? (i := 19) rfl)) (v := .ref (g.1 (5 + 21 * i + 14))) rfl dX2_makeDueChanges_47 ?_
            refine w_iconst S dX2_makeDueChanges_50 (by decide) (fun k40 hk40 => ?_)
            refine w_iald S hK hP (5 + 21 * i + 14) (by have := h4; omega) (ceP14 h4) (by omega) (by omega) dX2_makeDueChanges_51 (fun v41 ev41 => ?_)
            have wv41 : v41.toInt = (x31 (5 + 21 * i + 14) k40.toInt.toNat).toInt := by rw [ev41]
            refine w_cVv (As := [.int v39, .int v41]) (rest := []) S hK hN hP hS hl (5 + 21 * i) (by have := h4; omega) ((ceP0 h4) _) rfl (c_X2_setMode l D g hg x31 hI34 i h4 v39 v41 (by omega)) (cwV 2 hts gX2_makeDueChanges_X2_setMode rfl rfl rfl (by decide +kernel) ⟨Nat.le_of_ble_eq_true rfl, Nat.le_of_ble_eq_true rfl⟩) rfl rfl (Nat.le_of_ble_eq_true rfl) dX2_makeDueChanges_52 ⟨Nat.zero_le _, Nat.zero_le _⟩ (fun x42 H locs hq44 hP hS => ?_)
            obtain ⟨hI45, hT46, hf47⟩ := hq44
            have hT48 : Same (TC) x x42 := hT37.tr hT46 (fun _ _ h => h)
            refine lv_aload_n S.1 S.2.1 dX2_makeDueChanges_55 rfl (lv_at hl 0 rfl) ?_
            refine w_get (C := RX2) (T := TX2) (N := 15) S (fun _ h => List.mem_cons_of_mem _ (List.mem_append_left _ (List.mem_append_left _ (List.mem_append_left _ (List.mem_append_right _ h))))) hK hP (5 + 21 * i) (by have := h4; omega) ((ceP0 h4) _) rfl 5 (by decide) (hts _ (List.mem_of_getElem? (i := 1) rfl)) (v := .ref (g.1 (5 + 21 * i + 12))) rfl dX2_makeDueChanges_56 ?_
            refine w_cVv (As := []) (rest := []) S hK hN hP hS hl (5 + 21 * i + 12) (by have := h4; omega) ((ceP12 h4) _) rfl (c_X5_removeFirst l D g hg x42 hI45 i h4) (cwV 0 hts gX2_makeDueChanges_X5_removeFirst rfl rfl rfl (by decide +kernel) ⟨Nat.le_of_ble_eq_true rfl, Nat.le_of_ble_eq_true rfl⟩) rfl rfl (Nat.le_of_ble_eq_true rfl) dX2_makeDueChanges_59 ⟨Nat.zero_le _, Nat.zero_le _⟩ (fun x49 H locs hq51 hP hS => ?_)
            obtain ⟨hI52, hT53, hf54⟩ := hq51
            have hT55 : Same (TC) x x49 := hT48.tr hT53 (fun _ _ h => h)
            refine w_iinc (lv' := [(0, .ref (g.1 (5 + 21 * i)))]) S dX2_makeDueChanges_62 hl (k := 1) rfl (by decide) (by decide) (by omega) (by omega) (fun _ => rfl) (fun v56 ls hv56 hl => ?_)
            refine lv_goto (tgt := 2) S.1 S.2.1 dX2_makeDueChanges_65 (by decide) ?_
            exact ih2 _ _ _ _ v56 hI52 hT55 (by omega) (by omega) (by omega) hP hS (lv_sub hl [1, 0] rfl)
  refine w_iconst S dX2_makeDueChanges_0 (by decide) (fun k57 hk57 => ?_)
  refine lv_istore_n (lv' := [(1, .int k57), (0, .ref (g.1 (5 + 21 * i)))]) S.1 S.2.1 dX2_makeDueChanges_1 rfl hl (by decide) rfl (fun ls hl => ?_)
  exact J2 _ _ _ _ _ k57 hI hT (by omega) (by omega) (Nat.lt_succ_self _) hP hS (lv_sub hl [1, 0] rfl)
set_option maxRecDepth 100000 in
set_option maxHeartbeats 4000000 in
theorem c_X2_settle (l : Launch) (D : va_G) (g : GA) (hg : Inj g) (x : St) (hI : Inv x) (i : Nat) (h4 : i < 4) : Met l yX2_settle wsX2_settle ({ frames := 4, cells := 0, slots := 0, locals := 88 } : Room) (va_Pc [.ref (g.1 (5 + 21 * i))] (WI D g x)) (va_Qv (fun x2 => Inv x2 ∧ Same TC x x2 ∧ True) (WO D g) (AQ g)) 0 0 (AQ g) := by
  refine w_met (cc := cX2_settle) (maxL := 1) (ret := none) (own := RX2) (by decide) rfl rfl (Nat.le_of_ble_eq_true rfl) (fun p e s m below meth co S hr0 hlk hK hN hP hS ls hl => ?_)
  have hts := S.2.2.2.2
  have hl : lv_has ls 1 [(0, .ref (g.1 (5 + 21 * i)))] := hl
  have hT : Same (TC) x x := Same.rf
  refine lv_aload_n S.1 S.2.1 dX2_settle_0 rfl (lv_at hl 0 rfl) ?_
  refine w_get (C := RX2) (T := TX2) (N := 15) S (fun _ h => List.mem_cons_of_mem _ (List.mem_append_left _ (List.mem_append_left _ (List.mem_append_left _ (List.mem_append_left _ (List.mem_append_right _ h)))))) hK hP (5 + 21 * i) (by have := h4; omega) ((ceP0 h4) _) rfl 4 (by decide) (hts _ (List.mem_of_getElem? (i := 1) rfl)) (v := .ref (g.1 (5 + 21 * i + 7))) rfl dX2_settle_1 ?_
  refine w_cVv (As := []) (rest := []) S hK hN hP hS hl (5 + 21 * i + 7) (by have := h4; omega) ((ceP7 h4) _) rfl (c_X1_push l D g hg x hI i h4) (cwV 0 hts gX2_settle_X1_push rfl rfl rfl (by decide +kernel) ⟨Nat.le_of_ble_eq_true rfl, Nat.le_of_ble_eq_true rfl⟩) rfl rfl (Nat.le_of_ble_eq_true rfl) dX2_settle_4 ⟨Nat.zero_le _, Nat.zero_le _⟩ (fun x1 H locs hq3 hP hS => ?_)
  obtain ⟨hI4, hT5, hf6⟩ := hq3
  have hT7 : Same (TC) x x1 := hT.tr hT5 (fun _ _ h => h)
  refine lv_aload_n S.1 S.2.1 dX2_settle_7 rfl (lv_at hl 0 rfl) ?_
  refine w_cVv (As := []) (rest := []) S hK hN hP hS hl (5 + 21 * i) (by have := h4; omega) ((ceP0 h4) _) rfl (c_X2_makeDueChanges l D g hg x1 hI4 i h4) (cwV 0 hts gX2_settle_X2_makeDueChanges rfl rfl rfl (by decide +kernel) ⟨Nat.le_of_ble_eq_true rfl, Nat.le_of_ble_eq_true rfl⟩) rfl rfl (Nat.le_of_ble_eq_true rfl) dX2_settle_8 ⟨Nat.zero_le _, Nat.zero_le _⟩ (fun x8 H locs hq10 hP hS => ?_)
  obtain ⟨hI11, hT12, hf13⟩ := hq10
  have hT14 : Same (TC) x x8 := hT7.tr hT12 (fun _ _ h => h)
  exact w_vret S hr0 hlk hP hS dX2_settle_11 (⟨hI11, hT14, trivial⟩)
set_option maxRecDepth 100000 in
set_option maxHeartbeats 4000000 in
theorem c_X2_emptyOutput (l : Launch) (D : va_G) (g : GA) (hg : Inj g) (x : St) (hI : Inv x) (i : Nat) (h4 : i < 4) : Met l yX2_emptyOutput wsX2_emptyOutput ({ frames := 4, cells := 0, slots := 0, locals := 88 } : Room) (va_Pc [.ref (g.1 (5 + 21 * i))] (WI D g x)) (va_Qv (fun x2 => Inv x2 ∧ Same TC x x2 ∧ True) (WO D g) (AQ g)) 0 0 (AQ g) := by
  refine w_met (cc := cX2_emptyOutput) (maxL := 1) (ret := none) (own := RX2) (by decide) rfl rfl (Nat.le_of_ble_eq_true rfl) (fun p e s m below meth co S hr0 hlk hK hN hP hS ls hl => ?_)
  have hts := S.2.2.2.2
  have hl : lv_has ls 1 [(0, .ref (g.1 (5 + 21 * i)))] := hl
  have hT : Same (TC) x x := Same.rf
  refine lv_aload_n S.1 S.2.1 dX2_emptyOutput_0 rfl (lv_at hl 0 rfl) ?_
  refine w_get (C := RX2) (T := TX2) (N := 15) S (fun _ h => List.mem_cons_of_mem _ (List.mem_append_left _ (List.mem_append_left _ (List.mem_append_left _ (List.mem_append_left _ (List.mem_append_right _ h)))))) hK hP (5 + 21 * i) (by have := h4; omega) ((ceP0 h4) _) rfl 4 (by decide) (hts _ (List.mem_of_getElem? (i := 1) rfl)) (v := .ref (g.1 (5 + 21 * i + 7))) rfl dX2_emptyOutput_1 ?_
  refine w_getN (C := RX1) (T := TX1) (N := 5) S (fun _ h => List.mem_cons_of_mem _ (List.mem_append_left _ (List.mem_append_left _ (List.mem_append_left _ (List.mem_append_right _ h))))) hK hP (5 + 21 * i + 7) (by have := h4; omega) ((ceP7 h4) _) rfl 0 (by decide) (hN.1 _ (List.mem_of_getElem? (i := 11) rfl)) (v := .ref (g.1 (5 + 21 * i + 8))) rfl dX2_emptyOutput_4 ?_
  refine w_cVv (As := []) (rest := []) S hK hN hP hS hl (5 + 21 * i + 8) (by have := h4; omega) ((ceP8 h4) _) rfl (c_X3_empty l D g hg x hI (5 + 21 * i + 8) 64 (isRow8 h4)) (cwV 0 hts gX2_emptyOutput_X3_empty rfl rfl rfl (by decide +kernel) ⟨Nat.le_of_ble_eq_true rfl, Nat.le_of_ble_eq_true rfl⟩) rfl rfl (Nat.le_of_ble_eq_true rfl) dX2_emptyOutput_7 ⟨Nat.zero_le _, Nat.zero_le _⟩ (fun x1 H locs hq3 hP hS => ?_)
  obtain ⟨hI4, hT5, hf6⟩ := hq3
  have hT7 : Same (TC) x x1 := hT.tr hT5 (fun c0 k0 h => by unfold TC TrC at h; unfold TR; omega)
  refine lv_aload_n S.1 S.2.1 dX2_emptyOutput_10 rfl (lv_at hl 0 rfl) ?_
  refine w_get (C := RX2) (T := TX2) (N := 15) S (fun _ h => List.mem_cons_of_mem _ (List.mem_append_left _ (List.mem_append_left _ (List.mem_append_left _ (List.mem_append_left _ (List.mem_append_right _ h)))))) hK hP (5 + 21 * i) (by have := h4; omega) ((ceP0 h4) _) rfl 4 (by decide) (hts _ (List.mem_of_getElem? (i := 1) rfl)) (v := .ref (g.1 (5 + 21 * i + 7))) rfl dX2_emptyOutput_11 ?_
  refine w_getN (C := RX1) (T := TX1) (N := 5) S (fun _ h => List.mem_cons_of_mem _ (List.mem_append_left _ (List.mem_append_left _ (List.mem_append_left _ (List.mem_append_right _ h))))) hK hP (5 + 21 * i + 7) (by have := h4; omega) ((ceP7 h4) _) rfl 1 (by decide) (hN.1 _ (List.mem_of_getElem? (i := 13) rfl)) (v := .ref (g.1 (5 + 21 * i + 10))) rfl dX2_emptyOutput_14 ?_
  refine w_cVv (As := []) (rest := []) S hK hN hP hS hl (5 + 21 * i + 10) (by have := h4; omega) ((ceP10 h4) _) rfl (c_X3_empty l D g hg x1 hI4 (5 + 21 * i + 10) 8 (isRow10 h4)) (cwV 0 hts gX2_emptyOutput_X3_empty rfl rfl rfl (by decide +kernel) ⟨Nat.le_of_ble_eq_true rfl, Nat.le_of_ble_eq_true rfl⟩) rfl rfl (Nat.le_of_ble_eq_true rfl) dX2_emptyOutput_17 ⟨Nat.zero_le _, Nat.zero_le _⟩ (fun x8 H locs hq10 hP hS => ?_)
  obtain ⟨hI11, hT12, hf13⟩ := hq10
  have hT14 : Same (TC) x x8 := hT7.tr hT12 (fun c0 k0 h => by unfold TC TrC at h; unfold TR; omega)
  refine lv_aload_n S.1 S.2.1 dX2_emptyOutput_20 rfl (lv_at hl 0 rfl) ?_
  refine w_get (C := RX2) (T := TX2) (N := 15) S (fun _ h => List.mem_cons_of_mem _ (List.mem_append_left _ (List.mem_append_left _ (List.mem_append_left _ (List.mem_append_left _ (List.mem_append_right _ h)))))) hK hP (5 + 21 * i) (by have := h4; omega) ((ceP0 h4) _) rfl 5 (by decide) (hts _ (List.mem_of_getElem? (i := 2) rfl)) (v := .ref (g.1 (5 + 21 * i + 12))) rfl dX2_emptyOutput_21 ?_
  refine w_iconst S dX2_emptyOutput_24 (by decide) (fun k15 hk15 => ?_)
  refine w_cVv (As := [.int k15]) (rest := []) S hK hN hP hS hl (5 + 21 * i + 12) (by have := h4; omega) ((ceP12 h4) _) rfl (c_X5_onlyLeft l D g hg x8 hI11 i h4 k15) (cwV 1 hts gX2_emptyOutput_X5_onlyLeft rfl rfl rfl (by decide +kernel) ⟨Nat.le_of_ble_eq_true rfl, Nat.le_of_ble_eq_true rfl⟩) rfl rfl (Nat.le_of_ble_eq_true rfl) dX2_emptyOutput_25 ⟨Nat.zero_le _, Nat.zero_le _⟩ (fun x16 H locs hq18 hP hS => ?_)
  obtain ⟨hI19, hT20, hf21⟩ := hq18
  have hT22 : Same (TC) x x16 := hT14.tr hT20 (fun _ _ h => h)
  refine lv_aload_n S.1 S.2.1 dX2_emptyOutput_28 rfl (lv_at hl 0 rfl) ?_
  refine w_cVv (As := []) (rest := []) S hK hN hP hS hl (5 + 21 * i) (by have := h4; omega) ((ceP0 h4) _) rfl (c_X2_makeDueChanges l D g hg x16 hI19 i h4) (cwV 0 hts gX2_emptyOutput_X2_makeDueChanges rfl rfl rfl (by decide +kernel) ⟨Nat.le_of_ble_eq_true rfl, Nat.le_of_ble_eq_true rfl⟩) rfl rfl (Nat.le_of_ble_eq_true rfl) dX2_emptyOutput_29 ⟨Nat.zero_le _, Nat.zero_le _⟩ (fun x23 H locs hq25 hP hS => ?_)
  obtain ⟨hI26, hT27, hf28⟩ := hq25
  have hT29 : Same (TC) x x23 := hT22.tr hT27 (fun _ _ h => h)
  exact w_vret S hr0 hlk hP hS dX2_emptyOutput_32 (⟨hI26, hT29, trivial⟩)
set_option maxRecDepth 100000 in
set_option maxHeartbeats 4000000 in
theorem c_X2_hangUp (l : Launch) (D : va_G) (g : GA) (hg : Inj g) (x : St) (hI : Inv x) (i : Nat) (h4 : i < 4) : Met l yX2_hangUp wsX2_hangUp ({ frames := 5, cells := 0, slots := 0, locals := 108 } : Room) (va_Pc [.ref (g.1 (5 + 21 * i))] (WI D g x)) (va_Qv (fun x2 => Inv x2 ∧ Same (TCh i) x x2 ∧ (x2 (5 + 21 * i) 11).toInt = 1) (WO D g) (AQ g)) 0 0 (AQ g) := by
  refine w_met (cc := cX2_hangUp) (maxL := 1) (ret := none) (own := RX2) (by decide) rfl rfl (Nat.le_of_ble_eq_true rfl) (fun p e s m below meth co S hr0 hlk hK hN hP hS ls hl => ?_)
  have hts := S.2.2.2.2
  have hl : lv_has ls 1 [(0, .ref (g.1 (5 + 21 * i)))] := hl
  have hT : Same (TCh i) x x := Same.rf
  refine lv_aload_n S.1 S.2.1 dX2_hangUp_0 rfl (lv_at hl 0 rfl) ?_
  refine w_iconst S dX2_hangUp_1 (by decide) (fun k1 hk1 => ?_)
  refine w_put (C := RX2) (T := TX2) (N := 15) (F := FPort g (5 + 21 * i)) S (fun _ h => List.mem_cons_of_mem _ (List.mem_append_left _ (List.mem_append_left _ (List.mem_append_left _ (List.mem_append_left _ (List.mem_append_left _ (List.mem_append_right _ h))))))) tyX2_ok nmX2 hK hg hP hS (5 + 21 * i) (by have := h4; omega) (ceP0 h4) rfl 11 (by decide) (hts _ (List.mem_of_getElem? (i := 1) rfl)) rfl (tz_narrow (z01 (by omega) (by omega))) (tz_fits (z01 (by omega) (by omega))) (fun _ => Nat.le_of_ble_eq_true rfl) (fun _ => rfl) dX2_hangUp_2 (fun x2 H locs ex2 hP hS => ?_)
  have hI3 : Inv x2 := by rw [ex2]; exact hI.upP0 h4 (show (0 : Int) ≤ _ by omega) (show _ ≤ (1 : Int) by omega)
  have hT4 : Same (TCh i) x x2 := by rw [ex2]; exact hT.up (by unfold TCh TC TrC; omega)
  have u5 : (x2 (5 + 21 * i) 11).toInt = k1.toInt := by rw [ex2, up2_at]
  refine lv_aload_n S.1 S.2.1 dX2_hangUp_5 rfl (lv_at hl 0 rfl) ?_
  refine w_get (C := RX2) (T := TX2) (N := 15) S (fun _ h => List.mem_cons_of_mem _ (List.mem_append_left _ (List.mem_append_left _ (List.mem_append_left _ (List.mem_append_left _ (List.mem_append_left _ (List.mem_append_right _ h))))))) hK hP (5 + 21 * i) (by have := h4; omega) ((ceP0 h4) _) rfl 0 (by decide) (hts _ (List.mem_of_getElem? (i := 2) rfl)) (v := .ref (g.1 2)) rfl dX2_hangUp_6 ?_
  refine lv_aload_n S.1 S.2.1 dX2_hangUp_9 rfl (lv_at hl 0 rfl) ?_
  refine w_get (C := RX2) (T := TX2) (N := 15) S (fun _ h => List.mem_cons_of_mem _ (List.mem_append_left _ (List.mem_append_left _ (List.mem_append_left _ (List.mem_append_left _ (List.mem_append_left _ (List.mem_append_right _ h))))))) hK hP (5 + 21 * i) (by have := h4; omega) ((ceP0 h4) _) rfl 12 (by decide) (hts _ (List.mem_of_getElem? (i := 3) rfl)) (v := .int (x2 (5 + 21 * i) 12)) rfl dX2_hangUp_10 ?_
  refine lv_topi (fun v6 ev6 => ?_)
  have wv6 : v6.toInt = (x2 (5 + 21 * i) 12).toInt := by rw [ev6]
  refine w_bipush S dX2_hangUp_13 (by decide) (fun k7 hk7 => ?_)
  refine w_cVv (As := [.int v6, .int k7]) (rest := []) S hK hN hP hS hl 2 (by decide) (ceK2 _) rfl (c_X0_raise l D g hg x2 hI3 v6 k7) (cwV 2 hts gX2_hangUp_X0_raise rfl rfl rfl (by decide +kernel) ⟨Nat.le_of_ble_eq_true rfl, Nat.le_of_ble_eq_true rfl⟩) rfl rfl (Nat.le_of_ble_eq_true rfl) dX2_hangUp_15 ⟨Nat.zero_le _, Nat.zero_le _⟩ (fun x8 H locs hq10 hP hS => ?_)
  obtain ⟨hI11, hT12, hf13⟩ := hq10
  have hT14 : Same (TCh i) x x8 := hT4.tr hT12 (fun _ _ h => h.1)
  have u15 : (x8 (5 + 21 * i) 11).toInt = (x2 (5 + 21 * i) 11).toInt := by rw [hT12 (5 + 21 * i) 11 (by unfold TC TrC; omega)]
  refine lv_aload_n S.1 S.2.1 dX2_hangUp_18 rfl (lv_at hl 0 rfl) ?_
  refine w_cVv (As := []) (rest := []) S hK hN hP hS hl (5 + 21 * i) (by have := h4; omega) ((ceP0 h4) _) rfl (c_X2_emptyOutput l D g hg x8 hI11 i h4) (cwV 0 hts gX2_hangUp_X2_emptyOutput rfl rfl rfl (by decide +kernel) ⟨Nat.le_of_ble_eq_true rfl, Nat.le_of_ble_eq_true rfl⟩) rfl rfl (Nat.le_of_ble_eq_true rfl) dX2_hangUp_19 ⟨Nat.zero_le _, Nat.zero_le _⟩ (fun x16 H locs hq18 hP hS => ?_)
  obtain ⟨hI19, hT20, hf21⟩ := hq18
  have hT22 : Same (TCh i) x x16 := hT14.tr hT20 (fun _ _ h => h.1)
  have u23 : (x16 (5 + 21 * i) 11).toInt = (x8 (5 + 21 * i) 11).toInt := by rw [hT20 (5 + 21 * i) 11 (by unfold TC TrC; omega)]
  exact w_vret S hr0 hlk hP hS dX2_hangUp_22 (⟨hI19, hT22, by omega⟩)
set_option maxRecDepth 100000 in
set_option maxHeartbeats 4000000 in
theorem c_X2_takeEntry (l : Launch) (D : va_G) (g : GA) (hg : Inj g) (x : St) (hI : Inv x) (i : Nat) (h4 : i < 4) : Met l yX2_takeEntry wsX2_takeEntry ({ frames := 2, cells := 0, slots := 0, locals := 41 } : Room) (va_Pc [.ref (g.1 (5 + 21 * i))] (WI D g x)) (va_Qi (fun _ x2 => Inv x2 ∧ Same TC x x2 ∧ True) (WO D g) (AQ g)) 0 0 (AQ g) := by
  refine w_met (cc := cX2_takeEntry) (maxL := 2) (ret := (some .int)) (own := RX2) (by decide) rfl rfl (Nat.le_of_ble_eq_true rfl) (fun p e s m below meth co S hr0 hlk hK hN hP hS ls hl => ?_)
  have hts := S.2.2.2.2
  have hl : lv_has ls 2 [(0, .ref (g.1 (5 + 21 * i)))] := hl
  have hT : Same (TC) x x := Same.rf
  refine lv_aload_n S.1 S.2.1 dX2_takeEntry_0 rfl (lv_at hl 0 rfl) ?_
  refine w_get (C := RX2) (T := TX2) (N := 15) S (fun _ h => List.mem_cons_of_mem _ (List.mem_append_left _ (List.mem_append_left _ (List.mem_append_right _ h)))) hK hP (5 + 21 * i) (by have := h4; omega) ((ceP0 h4) _) rfl 3 (by decide) (hts _ (List.mem_of_getElem? (i := 1) rfl)) (v := .ref (g.1 (5 + 21 * i + 4))) rfl dX2_takeEntry_1 ?_
  refine w_cVi (As := []) (rest := []) S hK hN hP hS hl (5 + 21 * i + 4) (by have := h4; omega) ((ceP4 h4) _) rfl (c_X4_takeReleased l D g hg x hI i h4) (cwV 0 hts gX2_takeEntry_X4_takeReleased rfl rfl rfl (by decide +kernel) ⟨Nat.le_of_ble_eq_true rfl, Nat.le_of_ble_eq_true rfl⟩) rfl rfl (Nat.le_of_ble_eq_true rfl) dX2_takeEntry_4 ⟨Nat.zero_le _, Nat.zero_le _⟩ (fun r2 x1 H locs hq3 hP hS => ?_)
  obtain ⟨hI4, hT5, hf6⟩ := hq3
  have hT7 : Same (TC) x x1 := hT.tr hT5 (fun _ _ h => h)
  refine lv_istore_n (lv' := [(1, .int r2), (0, .ref (g.1 (5 + 21 * i)))]) S.1 S.2.1 dX2_takeEntry_7 rfl hl (by decide) rfl (fun ls hl => ?_)
  refine lv_aload_n S.1 S.2.1 dX2_takeEntry_8 rfl (lv_at hl 1 rfl) ?_
  refine w_cVv (As := []) (rest := []) S hK hN hP hS hl (5 + 21 * i) (by have := h4; omega) ((ceP0 h4) _) rfl (c_X2_relax l D g hg x1 hI4 i h4) (cwV 0 hts gX2_takeEntry_X2_relax rfl rfl rfl (by decide +kernel) ⟨Nat.le_of_ble_eq_true rfl, Nat.le_of_ble_eq_true rfl⟩) rfl rfl (Nat.le_of_ble_eq_true rfl) dX2_takeEntry_9 ⟨Nat.zero_le _, Nat.zero_le _⟩ (fun x8 H locs hq10 hP hS => ?_)
  obtain ⟨hI11, hT12, hf13⟩ := hq10
  have hT14 : Same (TC) x x8 := hT7.tr hT12 (fun _ _ h => h)
  refine lv_iload_n S.1 S.2.1 dX2_takeEntry_12 rfl (lv_at hl 0 rfl) ?_
  refine w_sipush S dX2_takeEntry_13 (by decide) (fun k15 hk15 => ?_)
  refine w_icmp_ne (tgt := 24) S dX2_takeEntry_16 (by decide) (fun hb16 => ?_) (fun hb16 => ?_)
  · refine lv_iload_n S.1 S.2.1 dX2_takeEntry_24 rfl (lv_at hl 0 rfl) ?_
    exact w_iret S hr0 hlk hP hS dX2_takeEntry_25 (⟨hI11, hT14, trivial⟩)
  · refine w_bipush S dX2_takeEntry_19 (by decide) (fun k17 hk17 => ?_)
    refine lv_goto (tgt := 25) S.1 S.2.1 dX2_takeEntry_21 (by decide) ?_
    exact w_iret S hr0 hlk hP hS dX2_takeEntry_25 (⟨hI11, hT14, trivial⟩)
set_option maxRecDepth 100000 in
set_option maxHeartbeats 4000000 in
theorem c_X2_changeLater (l : Launch) (D : va_G) (g : GA) (hg : Inj g) (x : St) (hI : Inv x) (i : Nat) (h4 : i < 4) (a : Int32) (b : Int32) (tk : Int32) (ha : 0 ≤ a.toInt ∧ a.toInt ≤ 24) (hz : 0 ≤ tk.toInt ∧ tk.toInt ≤ 1) : Met l yX2_changeLater wsX2_changeLater ({ frames := 4, cells := 0, slots := 0, locals := 88 } : Room) (va_Pc [.ref (g.1 (5 + 21 * i)), .int a, .int b, .int tk] (WI D g x)) (va_Qi (fun r x2 => Inv x2 ∧ Same TC x x2 ∧ ((x (5 + 21 * i + 12) 4).toInt < 3 → r.toInt = 1) ∧ 0 ≤ r.toInt ∧ r.toInt ≤ 1) (WO D g) (AQ g)) 0 0 (AQ g) := by
  refine w_met (cc := cX2_changeLater) (maxL := 4) (ret := (some .boolean)) (own := RX2) (by decide) rfl rfl (Nat.le_of_ble_eq_true rfl) (fun p e s m below meth co S hr0 hlk hK hN hP hS ls hl => ?_)
  have hts := S.2.2.2.2
  have hl : lv_has ls 4 [(0, .ref (g.1 (5 + 21 * i))), (1, .int a), (2, .int b), (3, .int tk)] := hl
  have hT : Same (TC) x x := Same.rf
  refine lv_aload_n S.1 S.2.1 dX2_changeLater_0 rfl (lv_at hl 0 rfl) ?_
  refine w_get (C := RX2) (T := TX2) (N := 15) S (fun _ h => List.mem_cons_of_mem _ (List.mem_append_left _ (List.mem_append_left _ (List.mem_append_left _ (List.mem_append_left _ (List.mem_append_right _ h)))))) hK hP (5 + 21 * i) (by have := h4; omega) ((ceP0 h4) _) rfl 5 (by decide) (hts _ (List.mem_of_getElem? (i := 1) rfl)) (v := .ref (g.1 (5 + 21 * i + 12))) rfl dX2_changeLater_1 ?_
  refine lv_iload_n S.1 S.2.1 dX2_changeLater_4 rfl (lv_at hl 1 rfl) ?_
  refine lv_iload_n S.1 S.2.1 dX2_changeLater_5 rfl (lv_at hl 2 rfl) ?_
  refine lv_iload_n S.1 S.2.1 dX2_changeLater_6 rfl (lv_at hl 3 rfl) ?_
  refine lv_aload_n S.1 S.2.1 dX2_changeLater_7 rfl (lv_at hl 0 rfl) ?_
  refine w_get (C := RX2) (T := TX2) (N := 15) S (fun _ h => List.mem_cons_of_mem _ (List.mem_append_left _ (List.mem_append_left _ (List.mem_append_left _ (List.mem_append_left _ (List.mem_append_right _ h)))))) hK hP (5 + 21 * i) (by have := h4; omega) ((ceP0 h4) _) rfl 4 (by decide) (hts _ (List.mem_of_getElem? (i := 2) rfl)) (v := .ref (g.1 (5 + 21 * i + 7))) rfl dX2_changeLater_8 ?_
  refine w_cVi (As := []) (rest := [.int tk, .int b, .int a, .ref (g.1 (5 + 21 * i + 12))]) S hK hN hP hS hl (5 + 21 * i + 7) (by have := h4; omega) ((ceP7 h4) _) rfl (c_X1_size l D g hg x hI i h4) (cwV 0 hts gX2_changeLater_X1_size rfl rfl rfl (by decide +kernel) ⟨Nat.le_of_ble_eq_true rfl, Nat.le_of_ble_eq_true rfl⟩) rfl rfl (Nat.le_of_ble_eq_true rfl) dX2_changeLater_11 ⟨Nat.zero_le _, Nat.zero_le _⟩ (fun r2 x1 H locs hq3 hP hS => ?_)
  obtain ⟨ex4, hf5⟩ := hq3
  rw [ex4] at hP
  refine w_cVi (As := [.int a, .int b, .int tk, .int r2]) (rest := []) S hK hN hP hS hl (5 + 21 * i + 12) (by have := h4; omega) ((ceP12 h4) _) rfl (c_X5_add l D g hg x hI i h4 a b tk r2 (by omega) (by omega)) (cwV 4 hts gX2_changeLater_X5_add rfl rfl rfl (by decide +kernel) ⟨Nat.le_of_ble_eq_true rfl, Nat.le_of_ble_eq_true rfl⟩) rfl rfl (Nat.le_of_ble_eq_true rfl) dX2_changeLater_14 ⟨Nat.zero_le _, Nat.zero_le _⟩ (fun r7 x6 H locs hq8 hP hS => ?_)
  obtain ⟨hI9, hT10, hf11⟩ := hq8
  have hT12 : Same (TC) x x6 := hT.tr hT10 (fun _ _ h => h)
  refine w_if_ne (tgt := 22) S dX2_changeLater_17 (by decide) (fun hb13 => ?_) (fun hb13 => ?_)
  · refine lv_aload_n S.1 S.2.1 dX2_changeLater_22 rfl (lv_at hl 0 rfl) ?_
    refine w_cVv (As := []) (rest := []) S hK hN hP hS hl (5 + 21 * i) (by have := h4; omega) ((ceP0 h4) _) rfl (c_X2_makeDueChanges l D g hg x6 hI9 i h4) (cwV 0 hts gX2_changeLater_X2_makeDueChanges rfl rfl rfl (by decide +kernel) ⟨Nat.le_of_ble_eq_true rfl, Nat.le_of_ble_eq_true rfl⟩) rfl rfl (Nat.le_of_ble_eq_true rfl) dX2_changeLater_23 ⟨Nat.zero_le _, Nat.zero_le _⟩ (fun x14 H locs hq16 hP hS => ?_)
    obtain ⟨hI17, hT18, hf19⟩ := hq16
    have hT20 : Same (TC) x x14 := hT12.tr hT18 (fun _ _ h => h)
    refine w_iconst S dX2_changeLater_26 (by decide) (fun k21 hk21 => ?_)
    exact w_zret S hr0 hlk hP hS dX2_changeLater_27 (z01 (by omega) (by omega)) (⟨hI17, hT20, by omega, by omega⟩)
  · refine w_iconst S dX2_changeLater_20 (by decide) (fun k22 hk22 => ?_)
    exact w_zret S hr0 hlk hP hS dX2_changeLater_21 (z01 (by omega) (by omega)) (⟨hI9, hT12, by omega, by omega⟩)
set_option maxRecDepth 100000 in
set_option maxHeartbeats 4000000 in
theorem c_X2_letTimePass (l : Launch) (D : va_G) (g : GA) (hg : Inj g) (x : St) (hI : Inv x) (i : Nat) (h4 : i < 4) : Met l yX2_letTimePass wsX2_letTimePass ({ frames := 1, cells := 0, slots := 0, locals := 21 } : Room) (va_Pc [.ref (g.1 (5 + 21 * i))] (WI D g x)) (va_Qv (fun x2 => Inv x2 ∧ Same TC x x2 ∧ True) (WO D g) (AQ g)) 0 0 (AQ g) := by
  refine w_met (cc := cX2_letTimePass) (maxL := 1) (ret := none) (own := RX2) (by decide) rfl rfl (Nat.le_of_ble_eq_true rfl) (fun p e s m below meth co S hr0 hlk hK hN hP hS ls hl => ?_)
  have hts := S.2.2.2.2
  have hl : lv_has ls 1 [(0, .ref (g.1 (5 + 21 * i)))] := hl
  have hT : Same (TC) x x := Same.rf
  refine lv_aload_n S.1 S.2.1 dX2_letTimePass_0 rfl (lv_at hl 0 rfl) ?_
  refine w_get (C := RX2) (T := TX2) (N := 15) S (fun _ h => List.mem_cons_of_mem _ (List.mem_append_left _ (List.mem_append_left _ (List.mem_append_right _ h)))) hK hP (5 + 21 * i) (by have := h4; omega) ((ceP0 h4) _) rfl 3 (by decide) (hts _ (List.mem_of_getElem? (i := 1) rfl)) (v := .ref (g.1 (5 + 21 * i + 4))) rfl dX2_letTimePass_1 ?_
  refine lv_dup S.1 S.2.1 dX2_letTimePass_4 rfl ?_
  refine w_getN (C := RX4) (T := TX4) (N := 3) S (fun _ h => List.mem_cons_of_mem _ (List.mem_append_left _ (List.mem_append_right _ h))) hK hP (5 + 21 * i + 4) (by have := h4; omega) ((ceP4 h4) _) rfl 2 (by decide) (hN.1 _ (List.mem_of_getElem? (i := 10) rfl)) (v := .int (x (5 + 21 * i + 4) 2)) rfl dX2_letTimePass_5 ?_
  refine lv_topi (fun v1 ev1 => ?_)
  have wv1 : v1.toInt = (x (5 + 21 * i + 4) 2).toInt := by rw [ev1]
  refine w_iconst S dX2_letTimePass_8 (by decide) (fun k2 hk2 => ?_)
  refine lv_iadd S.1 S.2.1 dX2_letTimePass_9 ?_
  refine w_any1 (fun v3 => ?_)
  refine w_putN (C := RX4) (T := TX4) (N := 3) (F := FStore g (5 + 21 * i)) S (fun _ h => List.mem_cons_of_mem _ (List.mem_append_left _ (List.mem_append_right _ h))) tyX4_ok nmX4 hK hg hP hS (5 + 21 * i + 4) (by have := h4; omega) (ceP4 h4) rfl 2 (by decide) (hN.1 _ (List.mem_of_getElem? (i := 10) rfl)) rfl rfl rfl (fun _ => Nat.le_of_ble_eq_true rfl) (fun _ => rfl) dX2_letTimePass_10 (fun x4 H locs ex4 hP hS => ?_)
  have hI5 : Inv x4 := by rw [ex4]; exact hI.upP (j := 4) h4 (by decide) (i_ge _) (i_le _)
  have hT6 : Same (TC) x x4 := by rw [ex4]; exact hT.up (by unfold TC TrC; omega)
  refine lv_aload_n S.1 S.2.1 dX2_letTimePass_13 rfl (lv_at hl 0 rfl) ?_
  refine w_iconst S dX2_letTimePass_14 (by decide) (fun k7 hk7 => ?_)
  refine w_cVi (As := [.int k7]) (rest := []) S hK hN hP hS hl (5 + 21 * i) (by have := h4; omega) ((ceP0 h4) _) rfl (c_X2_isOn l D g hg x4 hI5 i h4 k7 (by omega)) (cwV 1 hts gX2_letTimePass_X2_isOn rfl rfl rfl (by decide +kernel) ⟨Nat.le_of_ble_eq_true rfl, Nat.le_of_ble_eq_true rfl⟩) rfl rfl (Nat.le_of_ble_eq_true rfl) dX2_letTimePass_15 ⟨Nat.zero_le _, Nat.zero_le _⟩ (fun r9 x8 H locs hq10 hP hS => ?_)
  obtain ⟨ex11, hf12⟩ := hq10
  rw [ex11] at hP
  refine w_if_ne (tgt := 55) S dX2_letTimePass_18 (by decide) (fun hb13 => ?_) (fun hb13 => ?_)
  · exact w_vret S hr0 hlk hP hS dX2_letTimePass_55 (⟨hI5, hT6, trivial⟩)
  · refine lv_aload_n S.1 S.2.1 dX2_letTimePass_21 rfl (lv_at hl 0 rfl) ?_
    refine w_get (C := RX2) (T := TX2) (N := 15) S (fun _ h => List.mem_cons_of_mem _ (List.mem_append_left _ (List.mem_append_left _ (List.mem_append_right _ h)))) hK hP (5 + 21 * i) (by have := h4; omega) ((ceP0 h4) _) rfl 1 (by decide) (hts _ (List.mem_of_getElem? (i := 2) rfl)) (v := .ref (g.1 (5 + 21 * i + 1))) rfl dX2_letTimePass_22 ?_
    refine w_bipush S dX2_letTimePass_25 (by decide) (fun k14 hk14 => ?_)
    refine w_iald S hK hP (5 + 21 * i + 1) (by have := h4; omega) (ceP1 h4) (by omega) (by omega) dX2_letTimePass_27 (fun v15 ev15 => ?_)
    have wv15 : v15.toInt = (x4 (5 + 21 * i + 1) k14.toInt.toNat).toInt := by rw [ev15]
    refine w_if_le (tgt := 55) S dX2_letTimePass_28 (by decide) (fun hb16 => ?_) (fun hb16 => ?_)
    · exact w_vret S hr0 hlk hP hS dX2_letTimePass_55 (⟨hI5, hT6, trivial⟩)
    · refine lv_aload_n S.1 S.2.1 dX2_letTimePass_31 rfl (lv_at hl 0 rfl) ?_
      refine w_get (C := RX2) (T := TX2) (N := 15) S (fun _ h => List.mem_cons_of_mem _ (List.mem_append_left _ (List.mem_append_left _ (List.mem_append_right _ h)))) hK hP (5 + 21 * i) (by have := h4; omega) ((ceP0 h4) _) rfl 3 (by decide) (hts _ (List.mem_of_getElem? (i := 1) rfl)) (v := .ref (g.1 (5 + 21 * i + 4))) rfl dX2_letTimePass_32 ?_
      refine w_getN (C := RX4) (T := TX4) (N := 3) S (fun _ h => List.mem_cons_of_mem _ (List.mem_append_left _ (List.mem_append_right _ h))) hK hP (5 + 21 * i + 4) (by have := h4; omega) ((ceP4 h4) _) rfl 2 (by decide) (hN.1 _ (List.mem_of_getElem? (i := 10) rfl)) (v := .int (x4 (5 + 21 * i + 4) 2)) rfl dX2_letTimePass_35 ?_
      refine lv_topi (fun v17 ev17 => ?_)
      have wv17 : v17.toInt = (x4 (5 + 21 * i + 4) 2).toInt := by rw [ev17]
      refine lv_aload_n S.1 S.2.1 dX2_letTimePass_38 rfl (lv_at hl 0 rfl) ?_
      refine w_get (C := RX2) (T := TX2) (N := 15) S (fun _ h => List.mem_cons_of_mem _ (List.mem_append_left _ (List.mem_append_left _ (List.mem_append_right _ h)))) hK hP (5 + 21 * i) (by have := h4; omega) ((ceP0 h4) _) rfl 1 (by decide) (hts _ (List.mem_of_getElem? (i := 2) rfl)) (v := .ref (g.1 (5 + 21 * i + 1))) rfl dX2_letTimePass_39 ?_
      refine w_bipush S dX2_letTimePass_42 (by decide) (fun k18 hk18 => ?_)
      refine w_iald S hK hP (5 + 21 * i + 1) (by have := h4; omega) (ceP1 h4) (by omega) (by omega) dX2_letTimePass_44 (fun v19 ev19 => ?_)
      have wv19 : v19.toInt = (x4 (5 + 21 * i + 1) k18.toInt.toNat).toInt := by rw [ev19]
      refine w_icmp_lt (tgt := 55) S dX2_letTimePass_45 (by decide) (fun hb20 => ?_) (fun hb20 => ?_)
      · exact w_vret S hr0 hlk hP hS dX2_letTimePass_55 (⟨hI5, hT6, trivial⟩)
      · refine lv_aload_n S.1 S.2.1 dX2_letTimePass_48 rfl (lv_at hl 0 rfl) ?_
        refine w_get (C := RX2) (T := TX2) (N := 15) S (fun _ h => List.mem_cons_of_mem _ (List.mem_append_left _ (List.mem_append_left _ (List.mem_append_right _ h)))) hK hP (5 + 21 * i) (by have := h4; omega) ((ceP0 h4) _) rfl 3 (by decide) (hts _ (List.mem_of_getElem? (i := 1) rfl)) (v := .ref (g.1 (5 + 21 * i + 4))) rfl dX2_letTimePass_49 ?_
        refine w_cVv (As := []) (rest := []) S hK hN hP hS hl (5 + 21 * i + 4) (by have := h4; omega) ((ceP4 h4) _) rfl (c_X4_releaseAll l D g hg x4 hI5 i h4) (cwV 0 hts gX2_letTimePass_X4_releaseAll rfl rfl rfl (by decide +kernel) ⟨Nat.le_of_ble_eq_true rfl, Nat.le_of_ble_eq_true rfl⟩) rfl rfl (Nat.le_of_ble_eq_true rfl) dX2_letTimePass_52 ⟨Nat.zero_le _, Nat.zero_le _⟩ (fun x21 H locs hq23 hP hS => ?_)
        obtain ⟨hI24, hT25, hf26⟩ := hq23
        have hT27 : Same (TC) x x21 := hT6.tr hT25 (fun _ _ h => h)
        exact w_vret S hr0 hlk hP hS dX2_letTimePass_55 (⟨hI24, hT27, trivial⟩)
set_option maxRecDepth 100000 in
set_option maxHeartbeats 4000000 in
theorem c_X2_draftNewline (l : Launch) (D : va_G) (g : GA) (hg : Inj g) (x : St) (hI : Inv x) (i : Nat) (h4 : i < 4) : Met l yX2_draftNewline wsX2_draftNewline ({ frames := 1, cells := 0, slots := 0, locals := 22 } : Room) (va_Pc [.ref (g.1 (5 + 21 * i))] (WI D g x)) (va_Qv (fun x2 => Inv x2 ∧ Same TC x x2 ∧ True) (WO D g) (AQ g)) 0 0 (AQ g) := by
  refine w_met (cc := cX2_draftNewline) (maxL := 1) (ret := none) (own := RX2) (by decide) rfl rfl (Nat.le_of_ble_eq_true rfl) (fun p e s m below meth co S hr0 hlk hK hN hP hS ls hl => ?_)
  have hts := S.2.2.2.2
  have hl : lv_has ls 1 [(0, .ref (g.1 (5 + 21 * i)))] := hl
  have hT : Same (TC) x x := Same.rf
  refine lv_aload_n S.1 S.2.1 dX2_draftNewline_0 rfl (lv_at hl 0 rfl) ?_
  refine w_get (C := RX2) (T := TX2) (N := 15) S (fun _ h => List.mem_cons_of_mem _ (List.mem_append_left _ (List.mem_append_right _ h))) hK hP (5 + 21 * i) (by have := h4; omega) ((ceP0 h4) _) rfl 6 (by decide) (hts _ (List.mem_of_getElem? (i := 1) rfl)) (v := .ref (g.1 (5 + 21 * i + 17))) rfl dX2_draftNewline_1 ?_
  refine w_cVv (As := []) (rest := []) S hK hN hP hS hl (5 + 21 * i + 17) (by have := h4; omega) ((ceP17 h4) _) rfl (c_X3_empty l D g hg x hI (5 + 21 * i + 17) 134 (isRow17 h4)) (cwV 0 hts gX2_draftNewline_X3_empty rfl rfl rfl (by decide +kernel) ⟨Nat.le_of_ble_eq_true rfl, Nat.le_of_ble_eq_true rfl⟩) rfl rfl (Nat.le_of_ble_eq_true rfl) dX2_draftNewline_4 ⟨Nat.zero_le _, Nat.zero_le _⟩ (fun x1 H locs hq3 hP hS => ?_)
  obtain ⟨hI4, hT5, hf6⟩ := hq3
  have hT7 : Same (TC) x x1 := hT.tr hT5 (fun c0 k0 h => by unfold TC TrC at h; unfold TR; omega)
  refine lv_aload_n S.1 S.2.1 dX2_draftNewline_7 rfl (lv_at hl 0 rfl) ?_
  refine w_get (C := RX2) (T := TX2) (N := 15) S (fun _ h => List.mem_cons_of_mem _ (List.mem_append_left _ (List.mem_append_right _ h))) hK hP (5 + 21 * i) (by have := h4; omega) ((ceP0 h4) _) rfl 6 (by decide) (hts _ (List.mem_of_getElem? (i := 1) rfl)) (v := .ref (g.1 (5 + 21 * i + 17))) rfl dX2_draftNewline_8 ?_
  refine w_bipush S dX2_draftNewline_11 (by decide) (fun k8 hk8 => ?_)
  refine w_cVv (As := [.int k8]) (rest := []) S hK hN hP hS hl (5 + 21 * i + 17) (by have := h4; omega) ((ceP17 h4) _) rfl (c_X3_add l D g hg x1 hI4 (5 + 21 * i + 17) 134 (isRow17 h4) k8) (cwV 1 hts gX2_draftNewline_X3_add rfl rfl rfl (by decide +kernel) ⟨Nat.le_of_ble_eq_true rfl, Nat.le_of_ble_eq_true rfl⟩) rfl rfl (Nat.le_of_ble_eq_true rfl) dX2_draftNewline_13 ⟨Nat.zero_le _, Nat.zero_le _⟩ (fun x9 H locs hq11 hP hS => ?_)
  obtain ⟨hI12, hT13, hf14⟩ := hq11
  have hT15 : Same (TC) x x9 := hT7.tr hT13 (fun c0 k0 h => by unfold TC TrC at h; unfold TR; omega)
  refine lv_aload_n S.1 S.2.1 dX2_draftNewline_16 rfl (lv_at hl 0 rfl) ?_
  refine w_get (C := RX2) (T := TX2) (N := 15) S (fun _ h => List.mem_cons_of_mem _ (List.mem_append_left _ (List.mem_append_right _ h))) hK hP (5 + 21 * i) (by have := h4; omega) ((ceP0 h4) _) rfl 6 (by decide) (hts _ (List.mem_of_getElem? (i := 1) rfl)) (v := .ref (g.1 (5 + 21 * i + 17))) rfl dX2_draftNewline_17 ?_
  refine w_bipush S dX2_draftNewline_20 (by decide) (fun k16 hk16 => ?_)
  refine w_cVv (As := [.int k16]) (rest := []) S hK hN hP hS hl (5 + 21 * i + 17) (by have := h4; omega) ((ceP17 h4) _) rfl (c_X3_add l D g hg x9 hI12 (5 + 21 * i + 17) 134 (isRow17 h4) k16) (cwV 1 hts gX2_draftNewline_X3_add rfl rfl rfl (by decide +kernel) ⟨Nat.le_of_ble_eq_true rfl, Nat.le_of_ble_eq_true rfl⟩) rfl rfl (Nat.le_of_ble_eq_true rfl) dX2_draftNewline_22 ⟨Nat.zero_le _, Nat.zero_le _⟩ (fun x17 H locs hq19 hP hS => ?_)
  obtain ⟨hI20, hT21, hf22⟩ := hq19
  have hT23 : Same (TC) x x17 := hT15.tr hT21 (fun c0 k0 h => by unfold TC TrC at h; unfold TR; omega)
  exact w_vret S hr0 hlk hP hS dX2_draftNewline_25 (⟨hI20, hT23, trivial⟩)
set_option maxRecDepth 100000 in
set_option maxHeartbeats 4000000 in
theorem c_X2_addForm (l : Launch) (D : va_G) (g : GA) (hg : Inj g) (x : St) (hI : Inv x) (i : Nat) (h4 : i < 4) (b : Int32) : Met l yX2_addForm wsX2_addForm ({ frames := 1, cells := 0, slots := 0, locals := 22 } : Room) (va_Pc [.ref (g.1 (5 + 21 * i)), .int b] (WI D g x)) (va_Qv (fun x2 => Inv x2 ∧ Same TC x x2 ∧ True) (WO D g) (AQ g)) 0 0 (AQ g) := by
  refine w_met (cc := cX2_addForm) (maxL := 2) (ret := none) (own := RX2) (by decide) rfl rfl (Nat.le_of_ble_eq_true rfl) (fun p e s m below meth co S hr0 hlk hK hN hP hS ls hl => ?_)
  have hts := S.2.2.2.2
  have hl : lv_has ls 2 [(0, .ref (g.1 (5 + 21 * i))), (1, .int b)] := hl
  have hT : Same (TC) x x := Same.rf
  refine lv_iload_n S.1 S.2.1 dX2_addForm_0 rfl (lv_at hl 1 rfl) ?_
  refine w_cSi (As := [.int b]) (rest := []) S hK hN hP hS hl (c_X2_isPlain l D g hg x hI b) (va_cwS 1 hts gX2_addForm_X2_isPlain rfl rfl rfl (by decide +kernel) ⟨Nat.le_of_ble_eq_true rfl, Nat.le_of_ble_eq_true rfl⟩) rfl rfl (Nat.le_of_ble_eq_true rfl) dX2_addForm_1 ⟨Nat.zero_le _, Nat.zero_le _⟩ (fun r2 x1 H locs hq3 hP hS => ?_)
  obtain ⟨ex4, hf5⟩ := hq3
  rw [ex4] at hP
  refine w_if_eq (tgt := 18) S dX2_addForm_4 (by decide) (fun hb6 => ?_) (fun hb6 => ?_)
  · refine lv_aload_n S.1 S.2.1 dX2_addForm_18 rfl (lv_at hl 0 rfl) ?_
    refine w_get (C := RX2) (T := TX2) (N := 15) S (fun _ h => List.mem_cons_of_mem _ (List.mem_append_left _ (List.mem_append_right _ h))) hK hP (5 + 21 * i) (by have := h4; omega) ((ceP0 h4) _) rfl 6 (by decide) (hts _ (List.mem_of_getElem? (i := 1) rfl)) (v := .ref (g.1 (5 + 21 * i + 17))) rfl dX2_addForm_19 ?_
    refine w_bipush S dX2_addForm_22 (by decide) (fun k7 hk7 => ?_)
    refine w_cVv (As := [.int k7]) (rest := []) S hK hN hP hS hl (5 + 21 * i + 17) (by have := h4; omega) ((ceP17 h4) _) rfl (c_X3_add l D g hg x hI (5 + 21 * i + 17) 134 (isRow17 h4) k7) (cwV 1 hts gX2_addForm_X3_add rfl rfl rfl (by decide +kernel) ⟨Nat.le_of_ble_eq_true rfl, Nat.le_of_ble_eq_true rfl⟩) rfl rfl (Nat.le_of_ble_eq_true rfl) dX2_addForm_24 ⟨Nat.zero_le _, Nat.zero_le _⟩ (fun x8 H locs hq10 hP hS => ?_)
    obtain ⟨hI11, hT12, hf13⟩ := hq10
    have hT14 : Same (TC) x x8 := hT.tr hT12 (fun c0 k0 h => by unfold TC TrC at h; unfold TR; omega)
    refine lv_aload_n S.1 S.2.1 dX2_addForm_27 rfl (lv_at hl 0 rfl) ?_
    refine w_get (C := RX2) (T := TX2) (N := 15) S (fun _ h => List.mem_cons_of_mem _ (List.mem_append_left _ (List.mem_append_right _ h))) hK hP (5 + 21 * i) (by have := h4; omega) ((ceP0 h4) _) rfl 6 (by decide) (hts _ (List.mem_of_getElem? (i := 1) rfl)) (v := .ref (g.1 (5 + 21 * i + 17))) rfl dX2_addForm_28 ?_
    refine lv_iload_n S.1 S.2.1 dX2_addForm_31 rfl (lv_at hl 1 rfl) ?_
    refine w_bipush S dX2_addForm_32 (by decide) (fun k15 hk15 => ?_)
    refine w_icmp_ne (tgt := 42) S dX2_addForm_34 (by decide) (fun hb16 => ?_) (fun hb16 => ?_)
    · refine lv_iload_n S.1 S.2.1 dX2_addForm_42 rfl (lv_at hl 1 rfl) ?_
      refine w_bipush S dX2_addForm_43 (by decide) (fun k17 hk17 => ?_)
      refine lv_iadd S.1 S.2.1 dX2_addForm_45 ?_
      refine w_any1 (fun v18 => ?_)
      refine w_cVv (As := [.int v18]) (rest := []) S hK hN hP hS hl (5 + 21 * i + 17) (by have := h4; omega) ((ceP17 h4) _) rfl (c_X3_add l D g hg x8 hI11 (5 + 21 * i + 17) 134 (isRow17 h4) v18) (cwV 1 hts gX2_addForm_X3_add rfl rfl rfl (by decide +kernel) ⟨Nat.le_of_ble_eq_true rfl, Nat.le_of_ble_eq_true rfl⟩) rfl rfl (Nat.le_of_ble_eq_true rfl) dX2_addForm_46 ⟨Nat.zero_le _, Nat.zero_le _⟩ (fun x19 H locs hq21 hP hS => ?_)
      obtain ⟨hI22, hT23, hf24⟩ := hq21
      have hT25 : Same (TC) x x19 := hT14.tr hT23 (fun c0 k0 h => by unfold TC TrC at h; unfold TR; omega)
      exact w_vret S hr0 hlk hP hS dX2_addForm_49 (⟨hI22, hT25, trivial⟩)
    · refine w_bipush S dX2_addForm_37 (by decide) (fun k26 hk26 => ?_)
      refine lv_goto (tgt := 46) S.1 S.2.1 dX2_addForm_39 (by decide) ?_
      refine w_cVv (As := [.int k26]) (rest := []) S hK hN hP hS hl (5 + 21 * i + 17) (by have := h4; omega) ((ceP17 h4) _) rfl (c_X3_add l D g hg x8 hI11 (5 + 21 * i + 17) 134 (isRow17 h4) k26) (cwV 1 hts gX2_addForm_X3_add rfl rfl rfl (by decide +kernel) ⟨Nat.le_of_ble_eq_true rfl, Nat.le_of_ble_eq_true rfl⟩) rfl rfl (Nat.le_of_ble_eq_true rfl) dX2_addForm_46 ⟨Nat.zero_le _, Nat.zero_le _⟩ (fun x27 H locs hq29 hP hS => ?_)
      obtain ⟨hI30, hT31, hf32⟩ := hq29
      have hT33 : Same (TC) x x27 := hT14.tr hT31 (fun c0 k0 h => by unfold TC TrC at h; unfold TR; omega)
      exact w_vret S hr0 hlk hP hS dX2_addForm_49 (⟨hI30, hT33, trivial⟩)
  · refine lv_aload_n S.1 S.2.1 dX2_addForm_7 rfl (lv_at hl 0 rfl) ?_
    refine w_get (C := RX2) (T := TX2) (N := 15) S (fun _ h => List.mem_cons_of_mem _ (List.mem_append_left _ (List.mem_append_right _ h))) hK hP (5 + 21 * i) (by have := h4; omega) ((ceP0 h4) _) rfl 6 (by decide) (hts _ (List.mem_of_getElem? (i := 1) rfl)) (v := .ref (g.1 (5 + 21 * i + 17))) rfl dX2_addForm_8 ?_
    refine lv_iload_n S.1 S.2.1 dX2_addForm_11 rfl (lv_at hl 1 rfl) ?_
    refine w_cVv (As := [.int b]) (rest := []) S hK hN hP hS hl (5 + 21 * i + 17) (by have := h4; omega) ((ceP17 h4) _) rfl (c_X3_add l D g hg x hI (5 + 21 * i + 17) 134 (isRow17 h4) b) (cwV 1 hts gX2_addForm_X3_add rfl rfl rfl (by decide +kernel) ⟨Nat.le_of_ble_eq_true rfl, Nat.le_of_ble_eq_true rfl⟩) rfl rfl (Nat.le_of_ble_eq_true rfl) dX2_addForm_12 ⟨Nat.zero_le _, Nat.zero_le _⟩ (fun x34 H locs hq36 hP hS => ?_)
    obtain ⟨hI37, hT38, hf39⟩ := hq36
    have hT40 : Same (TC) x x34 := hT.tr hT38 (fun c0 k0 h => by unfold TC TrC at h; unfold TR; omega)
    refine lv_goto (tgt := 49) S.1 S.2.1 dX2_addForm_15 (by decide) ?_
    exact w_vret S hr0 hlk hP hS dX2_addForm_49 (⟨hI37, hT40, trivial⟩)
set_option maxRecDepth 100000 in
set_option maxHeartbeats 4000000 in
theorem c_X2_draftForm (l : Launch) (D : va_G) (g : GA) (hg : Inj g) (x : St) (hI : Inv x) (i : Nat) (h4 : i < 4) (b : Int32) : Met l yX2_draftForm wsX2_draftForm ({ frames := 2, cells := 0, slots := 0, locals := 43 } : Room) (va_Pc [.ref (g.1 (5 + 21 * i)), .int b] (WI D g x)) (va_Qv (fun x2 => Inv x2 ∧ Same TC x x2 ∧ True) (WO D g) (AQ g)) 0 0 (AQ g) := by
  refine w_met (cc := cX2_draftForm) (maxL := 2) (ret := none) (own := RX2) (by decide) rfl rfl (Nat.le_of_ble_eq_true rfl) (fun p e s m below meth co S hr0 hlk hK hN hP hS ls hl => ?_)
  have hts := S.2.2.2.2
  have hl : lv_has ls 2 [(0, .ref (g.1 (5 + 21 * i))), (1, .int b)] := hl
  have hT : Same (TC) x x := Same.rf
  refine lv_aload_n S.1 S.2.1 dX2_draftForm_0 rfl (lv_at hl 0 rfl) ?_
  refine w_get (C := RX2) (T := TX2) (N := 15) S (fun _ h => List.mem_cons_of_mem _ (List.mem_append_left _ (List.mem_append_right _ h))) hK hP (5 + 21 * i) (by have := h4; omega) ((ceP0 h4) _) rfl 6 (by decide) (hts _ (List.mem_of_getElem? (i := 1) rfl)) (v := .ref (g.1 (5 + 21 * i + 17))) rfl dX2_draftForm_1 ?_
  refine w_cVv (As := []) (rest := []) S hK hN hP hS hl (5 + 21 * i + 17) (by have := h4; omega) ((ceP17 h4) _) rfl (c_X3_empty l D g hg x hI (5 + 21 * i + 17) 134 (isRow17 h4)) (cwV 0 hts gX2_draftForm_X3_empty rfl rfl rfl (by decide +kernel) ⟨Nat.le_of_ble_eq_true rfl, Nat.le_of_ble_eq_true rfl⟩) rfl rfl (Nat.le_of_ble_eq_true rfl) dX2_draftForm_4 ⟨Nat.zero_le _, Nat.zero_le _⟩ (fun x1 H locs hq3 hP hS => ?_)
  obtain ⟨hI4, hT5, hf6⟩ := hq3
  have hT7 : Same (TC) x x1 := hT.tr hT5 (fun c0 k0 h => by unfold TC TrC at h; unfold TR; omega)
  refine lv_aload_n S.1 S.2.1 dX2_draftForm_7 rfl (lv_at hl 0 rfl) ?_
  refine lv_iload_n S.1 S.2.1 dX2_draftForm_8 rfl (lv_at hl 1 rfl) ?_
  refine w_cVv (As := [.int b]) (rest := []) S hK hN hP hS hl (5 + 21 * i) (by have := h4; omega) ((ceP0 h4) _) rfl (c_X2_addForm l D g hg x1 hI4 i h4 b) (cwV 1 hts gX2_draftForm_X2_addForm rfl rfl rfl (by decide +kernel) ⟨Nat.le_of_ble_eq_true rfl, Nat.le_of_ble_eq_true rfl⟩) rfl rfl (Nat.le_of_ble_eq_true rfl) dX2_draftForm_9 ⟨Nat.zero_le _, Nat.zero_le _⟩ (fun x8 H locs hq10 hP hS => ?_)
  obtain ⟨hI11, hT12, hf13⟩ := hq10
  have hT14 : Same (TC) x x8 := hT7.tr hT12 (fun _ _ h => h)
  exact w_vret S hr0 hlk hP hS dX2_draftForm_12 (⟨hI11, hT14, trivial⟩)
set_option maxRecDepth 100000 in
set_option maxHeartbeats 4000000 in
theorem c_X2_echo (l : Launch) (D : va_G) (g : GA) (hg : Inj g) (x : St) (hI : Inv x) (i : Nat) (h4 : i < 4) : Met l yX2_echo wsX2_echo ({ frames := 2, cells := 0, slots := 0, locals := 45 } : Room) (va_Pc [.ref (g.1 (5 + 21 * i))] (WI D g x)) (va_Qv (fun x2 => Inv x2 ∧ Same TC x x2 ∧ True) (WO D g) (AQ g)) 0 0 (AQ g) := by
  refine w_met (cc := cX2_echo) (maxL := 1) (ret := none) (own := RX2) (by decide) rfl rfl (Nat.le_of_ble_eq_true rfl) (fun p e s m below meth co S hr0 hlk hK hN hP hS ls hl => ?_)
  have hts := S.2.2.2.2
  have hl : lv_has ls 1 [(0, .ref (g.1 (5 + 21 * i)))] := hl
  have hT : Same (TC) x x := Same.rf
  refine lv_aload_n S.1 S.2.1 dX2_echo_0 rfl (lv_at hl 0 rfl) ?_
  refine w_iconst S dX2_echo_1 (by decide) (fun k1 hk1 => ?_)
  refine w_cVi (As := [.int k1]) (rest := []) S hK hN hP hS hl (5 + 21 * i) (by have := h4; omega) ((ceP0 h4) _) rfl (c_X2_isOn l D g hg x hI i h4 k1 (by omega)) (cwV 1 hts gX2_echo_X2_isOn rfl rfl rfl (by decide +kernel) ⟨Nat.le_of_ble_eq_true rfl, Nat.le_of_ble_eq_true rfl⟩) rfl rfl (Nat.le_of_ble_eq_true rfl) dX2_echo_2 ⟨Nat.zero_le _, Nat.zero_le _⟩ (fun r3 x2 H locs hq4 hP hS => ?_)
  obtain ⟨ex5, hf6⟩ := hq4
  rw [ex5] at hP
  refine w_if_eq (tgt := 38) S dX2_echo_5 (by decide) (fun hb7 => ?_) (fun hb7 => ?_)
  · exact w_vret S hr0 hlk hP hS dX2_echo_38 (⟨hI, hT, trivial⟩)
  · refine lv_aload_n S.1 S.2.1 dX2_echo_8 rfl (lv_at hl 0 rfl) ?_
    refine w_get (C := RX2) (T := TX2) (N := 15) S (fun _ h => List.mem_cons_of_mem _ (List.mem_append_left _ (List.mem_append_left _ (List.mem_append_right _ h)))) hK hP (5 + 21 * i) (by have := h4; omega) ((ceP0 h4) _) rfl 4 (by decide) (hts _ (List.mem_of_getElem? (i := 1) rfl)) (v := .ref (g.1 (5 + 21 * i + 7))) rfl dX2_echo_9 ?_
    refine lv_aload_n S.1 S.2.1 dX2_echo_12 rfl (lv_at hl 0 rfl) ?_
    refine w_get (C := RX2) (T := TX2) (N := 15) S (fun _ h => List.mem_cons_of_mem _ (List.mem_append_left _ (List.mem_append_left _ (List.mem_append_right _ h)))) hK hP (5 + 21 * i) (by have := h4; omega) ((ceP0 h4) _) rfl 6 (by decide) (hts _ (List.mem_of_getElem? (i := 2) rfl)) (v := .ref (g.1 (5 + 21 * i + 17))) rfl dX2_echo_13 ?_
    refine w_cVi (As := [.ref (g.1 (5 + 21 * i + 17))]) (rest := []) S hK hN hP hS hl (5 + 21 * i + 7) (by have := h4; omega) ((ceP7 h4) _) rfl (c_X1_accept l D g hg x hI i h4) (cwV 1 hts gX2_echo_X1_accept rfl rfl rfl (by decide +kernel) ⟨Nat.le_of_ble_eq_true rfl, Nat.le_of_ble_eq_true rfl⟩) rfl rfl (Nat.le_of_ble_eq_true rfl) dX2_echo_16 ⟨Nat.zero_le _, Nat.zero_le _⟩ (fun r9 x8 H locs hq10 hP hS => ?_)
    obtain ⟨hI11, hT12, hf13⟩ := hq10
    have hT14 : Same (TC) x x8 := hT.tr hT12 (fun _ _ h => h)
    refine w_if_eq (tgt := 38) S dX2_echo_19 (by decide) (fun hb15 => ?_) (fun hb15 => ?_)
    · exact w_vret S hr0 hlk hP hS dX2_echo_38 (⟨hI11, hT14, trivial⟩)
    · refine lv_aload_n S.1 S.2.1 dX2_echo_22 rfl (lv_at hl 0 rfl) ?_
      refine w_get (C := RX2) (T := TX2) (N := 15) S (fun _ h => List.mem_cons_of_mem _ (List.mem_append_left _ (List.mem_append_left _ (List.mem_append_right _ h)))) hK hP (5 + 21 * i) (by have := h4; omega) ((ceP0 h4) _) rfl 8 (by decide) (hts _ (List.mem_of_getElem? (i := 3) rfl)) (v := .ref (g.1 (5 + 21 * i + 20))) rfl dX2_echo_23 ?_
      refine w_iconst S dX2_echo_26 (by decide) (fun k16 hk16 => ?_)
      refine lv_dup2_11 S.1 S.2.1 dX2_echo_27 rfl rfl ?_
      refine w_iald S hK hP (5 + 21 * i + 20) (by have := h4; omega) (ceP20 h4) (by omega) (by omega) dX2_echo_28 (fun v17 ev17 => ?_)
      have wv17 : v17.toInt = (x8 (5 + 21 * i + 20) k16.toInt.toNat).toInt := by rw [ev17]
      refine lv_aload_n S.1 S.2.1 dX2_echo_29 rfl (lv_at hl 0 rfl) ?_
      refine w_get (C := RX2) (T := TX2) (N := 15) S (fun _ h => List.mem_cons_of_mem _ (List.mem_append_left _ (List.mem_append_left _ (List.mem_append_right _ h)))) hK hP (5 + 21 * i) (by have := h4; omega) ((ceP0 h4) _) rfl 6 (by decide) (hts _ (List.mem_of_getElem? (i := 2) rfl)) (v := .ref (g.1 (5 + 21 * i + 17))) rfl dX2_echo_30 ?_
      refine w_getN (C := RX3) (T := TX3) (N := 3) S (fun _ h => List.mem_cons_of_mem _ (List.mem_append_left _ (List.mem_append_right _ h))) hK hP (5 + 21 * i + 17) (by have := h4; omega) ((ceP17 h4) _) rfl 2 (by decide) (hN.1 _ (List.mem_of_getElem? (i := 6) rfl)) (v := .int (x8 (5 + 21 * i + 17) 2)) rfl dX2_echo_33 ?_
      refine lv_topi (fun v18 ev18 => ?_)
      have wv18 : v18.toInt = (x8 (5 + 21 * i + 17) 2).toInt := by rw [ev18]
      have rv18 : (0 : Int) ≤ v18.toInt ∧ v18.toInt ≤ (134 : Int) := by rw [ev18]; exact hI11.atP (j := 17) (k := 2) h4 (by decide)
      refine lv_iadd S.1 S.2.1 dX2_echo_36 ?_
      refine w_any1 (fun v19 => ?_)
      refine w_iast S hK hg hP hS (5 + 21 * i + 20) (by have := h4; omega) (ceP20 h4) (by omega) (by omega) dX2_echo_37 (fun x20 H locs ex20 hP hS => ?_)
      have hI21 : Inv x20 := by rw [ex20]; exact hI11.upP (j := 20) h4 (by decide) (i_ge _) (i_le _)
      have hT22 : Same (TC) x x20 := by rw [ex20]; exact hT14.up (by unfold TC TrC; omega)
      exact w_vret S hr0 hlk hP hS dX2_echo_38 (⟨hI21, hT22, trivial⟩)
set_option maxRecDepth 100000 in
set_option maxHeartbeats 4000000 in
theorem c_X2_expand (l : Launch) (D : va_G) (g : GA) (hg : Inj g) (x : St) (hI : Inv x) (i : Nat) (h4 : i < 4) (b : Int32) : Met l yX2_expand wsX2_expand ({ frames := 2, cells := 0, slots := 0, locals := 42 } : Room) (va_Pc [.ref (g.1 (5 + 21 * i)), .int b] (WI D g x)) (va_Qv (fun x2 => Inv x2 ∧ Same TC x x2 ∧ True) (WO D g) (AQ g)) 0 0 (AQ g) := by
  refine w_met (cc := cX2_expand) (maxL := 5) (ret := none) (own := RX2) (by decide) rfl rfl (Nat.le_of_ble_eq_true rfl) (fun p e s m below meth co S hr0 hlk hK hN hP hS ls hl => ?_)
  have hts := S.2.2.2.2
  have hl : lv_has ls 5 [(0, .ref (g.1 (5 + 21 * i))), (1, .int b)] := hl
  have hT : Same (TC) x x := Same.rf
  have J67 : ∀ (n0 : Nat) (x_67 : St) (H : Heap) (locs : List Loc) (ls : Array Slot) (y67_2 : Int32) (y67_3 : Int32) (y67_4 : Int32), Inv x_67 → Same (TC) x x_67 → (0 ≤ y67_4.toInt) → (y67_3.toInt - y67_4.toInt).toNat < n0 → va_P D vwCl (WL g x_67) H → va_S (AQ g) s.heap H locs → lv_has ls 5 [(0, .ref (g.1 (5 + 21 * i))), (1, .int b), (2, .int y67_2), (3, .int y67_3), (4, .int y67_4)] → W p l e ({ frames := 2, cells := 0, slots := 0, locals := 42 } : Room) s m ([.ref (g.1 (5 + 21 * i)), .int b] : List Value).toArray below meth co H locs 0 0 (MQ below (va_Qv (fun x2 => Inv x2 ∧ Same TC x x2 ∧ True) (WO D g) (AQ g)) ([.ref (g.1 (5 + 21 * i)), .int b] : List Value).toArray s 0 0 (AQ g)) (F0 m 67 ls []) := by
    intro n0
    induction n0 with
    | zero => intro x_67 H locs ls y67_2 y67_3 y67_4 hI_67 hT_67 hf67_0 hm_67 hP hS hl; exact absurd hm_67 (Nat.not_lt_zero _)
    | succ n0 ih67 =>
      intro x_67 H locs ls y67_2 y67_3 y67_4 hI_67 hT_67 hf67_0 hm_67 hP hS hl
      have hb_ := i_le y67_3
      refine lv_iload S.1 S.2.1 dX2_expand_67 (lv_at hl 4 rfl) ?_
      refine lv_iload_n S.1 S.2.1 dX2_expand_69 rfl (lv_at hl 3 rfl) ?_
      refine w_icmp_ge (tgt := 96) S dX2_expand_70 (by decide) (fun hb1 => ?_) (fun hb1 => ?_)
      · exact w_vret S hr0 hlk hP hS dX2_expand_96 (⟨hI_67, hT_67, trivial⟩)
      · refine lv_aload_n S.1 S.2.1 dX2_expand_73 rfl (lv_at hl 0 rfl) ?_
        refine w_get (C := RX2) (T := TX2) (N := 15) S (fun _ h => List.mem_cons_of_mem _ (List.mem_append_left _ (List.mem_append_left _ (List.mem_append_right _ h)))) hK hP (5 + 21 * i) (by have := h4; omega) ((ceP0 h4) _) rfl 6 (by decide) (hts _ (List.mem_of_getElem? (i := 2) rfl)) (v := .ref (g.1 (5 + 21 * i + 17))) rfl dX2_expand_74 ?_
        refine lv_iload_n S.1 S.2.1 dX2_expand_77 rfl (lv_at hl 2 rfl) ?_
        refine w_if_eq (tgt := 86) S dX2_expand_78 (by decide) (fun hb2 => ?_) (fun hb2 => ?_)
        · refine lv_iload_n S.1 S.2.1 dX2_expand_86 rfl (lv_at hl 1 rfl) ?_
          refine w_cVv (As := [.int b]) (rest := []) S hK hN hP hS hl (5 + 21 * i + 17) (by have := h4; omega) ((ceP17 h4) _) rfl (c_X3_add l D g hg x_67 hI_67 (5 + 21 * i + 17) 134 (isRow17 h4) b) (cwV 1 hts gX2_expand_X3_add rfl rfl rfl (by decide +kernel) ⟨Nat.le_of_ble_eq_true rfl, Nat.le_of_ble_eq_true rfl⟩) rfl rfl (Nat.le_of_ble_eq_true rfl) dX2_expand_87 ⟨Nat.zero_le _, Nat.zero_le _⟩ (fun x3 H locs hq5 hP hS => ?_)
          obtain ⟨hI6, hT7, hf8⟩ := hq5
          have hT9 : Same (TC) x x3 := hT_67.tr hT7 (fun c0 k0 h => by unfold TC TrC at h; unfold TR; omega)
          refine w_iinc (lv' := [(0, .ref (g.1 (5 + 21 * i))), (1, .int b), (2, .int y67_2), (3, .int y67_3)]) S dX2_expand_90 hl (k := 4) rfl (by decide) (by decide) (by omega) (by omega) (fun _ => rfl) (fun v10 ls hv10 hl => ?_)
          refine lv_goto (tgt := 67) S.1 S.2.1 dX2_expand_93 (by decide) ?_
          exact ih67 _ _ _ _ y67_2 y67_3 v10 hI6 hT9 (by omega) (by omega) hP hS (lv_sub hl [1, 2, 3, 4, 0] rfl)
        · refine w_bipush S dX2_expand_81 (by decide) (fun k11 hk11 => ?_)
          refine lv_goto (tgt := 87) S.1 S.2.1 dX2_expand_83 (by decide) ?_
          refine w_cVv (As := [.int k11]) (rest := []) S hK hN hP hS hl (5 + 21 * i + 17) (by have := h4; omega) ((ceP17 h4) _) rfl (c_X3_add l D g hg x_67 hI_67 (5 + 21 * i + 17) 134 (isRow17 h4) k11) (cwV 1 hts gX2_expand_X3_add rfl rfl rfl (by decide +kernel) ⟨Nat.le_of_ble_eq_true rfl, Nat.le_of_ble_eq_true rfl⟩) rfl rfl (Nat.le_of_ble_eq_true rfl) dX2_expand_87 ⟨Nat.zero_le _, Nat.zero_le _⟩ (fun x12 H locs hq14 hP hS => ?_)
          obtain ⟨hI15, hT16, hf17⟩ := hq14
          have hT18 : Same (TC) x x12 := hT_67.tr hT16 (fun c0 k0 h => by unfold TC TrC at h; unfold TR; omega)
          refine w_iinc (lv' := [(0, .ref (g.1 (5 + 21 * i))), (1, .int b), (2, .int y67_2), (3, .int y67_3)]) S dX2_expand_90 hl (k := 4) rfl (by decide) (by decide) (by omega) (by omega) (fun _ => rfl) (fun v19 ls hv19 hl => ?_)
          refine lv_goto (tgt := 67) S.1 S.2.1 dX2_expand_93 (by decide) ?_
          exact ih67 _ _ _ _ y67_2 y67_3 v19 hI15 hT18 (by omega) (by omega) hP hS (lv_sub hl [1, 2, 3, 4, 0] rfl)
  have J56 : ∀ (H : Heap) (locs : List Loc) (ls : Array Slot) (y56_2 : Int32) (z56_0 : Int32), va_P D vwCl (WL g x) H → va_S (AQ g) s.heap H locs → lv_has ls 5 [(0, .ref (g.1 (5 + 21 * i))), (1, .int b), (2, .int y56_2)] → W p l e ({ frames := 2, cells := 0, slots := 0, locals := 42 } : Room) s m ([.ref (g.1 (5 + 21 * i)), .int b] : List Value).toArray below meth co H locs 0 0 (MQ below (va_Qv (fun x2 => Inv x2 ∧ Same TC x x2 ∧ True) (WO D g) (AQ g)) ([.ref (g.1 (5 + 21 * i)), .int b] : List Value).toArray s 0 0 (AQ g)) (F0 m 56 ls [.int z56_0]) := by
    intro H locs ls y56_2 z56_0 hP hS hl
    refine lv_istore_n (lv' := [(3, .int z56_0), (0, .ref (g.1 (5 + 21 * i))), (1, .int b), (2, .int y56_2)]) S.1 S.2.1 dX2_expand_56 rfl hl (by decide) rfl (fun ls hl => ?_)
    refine lv_aload_n S.1 S.2.1 dX2_expand_57 rfl (lv_at hl 1 rfl) ?_
    refine w_get (C := RX2) (T := TX2) (N := 15) S (fun _ h => List.mem_cons_of_mem _ (List.mem_append_left _ (List.mem_append_left _ (List.mem_append_right _ h)))) hK hP (5 + 21 * i) (by have := h4; omega) ((ceP0 h4) _) rfl 6 (by decide) (hts _ (List.mem_of_getElem? (i := 2) rfl)) (v := .ref (g.1 (5 + 21 * i + 17))) rfl dX2_expand_58 ?_
    refine w_cVv (As := []) (rest := []) S hK hN hP hS hl (5 + 21 * i + 17) (by have := h4; omega) ((ceP17 h4) _) rfl (c_X3_empty l D g hg x hI (5 + 21 * i + 17) 134 (isRow17 h4)) (cwV 0 hts gX2_expand_X3_empty rfl rfl rfl (by decide +kernel) ⟨Nat.le_of_ble_eq_true rfl, Nat.le_of_ble_eq_true rfl⟩) rfl rfl (Nat.le_of_ble_eq_true rfl) dX2_expand_61 ⟨Nat.zero_le _, Nat.zero_le _⟩ (fun x20 H locs hq22 hP hS => ?_)
    obtain ⟨hI23, hT24, hf25⟩ := hq22
    have hT26 : Same (TC) x x20 := hT.tr hT24 (fun c0 k0 h => by unfold TC TrC at h; unfold TR; omega)
    refine w_iconst S dX2_expand_64 (by decide) (fun k27 hk27 => ?_)
    refine lv_istore (lv' := [(4, .int k27), (3, .int z56_0), (0, .ref (g.1 (5 + 21 * i))), (1, .int b), (2, .int y56_2)]) S.1 S.2.1 dX2_expand_65 hl (by decide) rfl (fun ls hl => ?_)
    exact J67 _ _ _ _ _ y56_2 z56_0 k27 hI23 hT26 (by omega) (Nat.lt_succ_self _) hP hS (lv_sub hl [2, 3, 4, 1, 0] rfl)
  have J40 : ∀ (H : Heap) (locs : List Loc) (ls : Array Slot) (z40_0 : Int32), (0 ≤ z40_0.toInt ∧ z40_0.toInt ≤ 1) → va_P D vwCl (WL g x) H → va_S (AQ g) s.heap H locs → lv_has ls 5 [(0, .ref (g.1 (5 + 21 * i))), (1, .int b)] → W p l e ({ frames := 2, cells := 0, slots := 0, locals := 42 } : Room) s m ([.ref (g.1 (5 + 21 * i)), .int b] : List Value).toArray below meth co H locs 0 0 (MQ below (va_Qv (fun x2 => Inv x2 ∧ Same TC x x2 ∧ True) (WO D g) (AQ g)) ([.ref (g.1 (5 + 21 * i)), .int b] : List Value).toArray s 0 0 (AQ g)) (F0 m 40 ls [.int z40_0]) := by
    intro H locs ls z40_0 hf40_0 hP hS hl
    refine lv_istore_n (lv' := [(2, .int z40_0), (0, .ref (g.1 (5 + 21 * i))), (1, .int b)]) S.1 S.2.1 dX2_expand_40 rfl hl (by decide) rfl (fun ls hl => ?_)
    refine lv_iload_n S.1 S.2.1 dX2_expand_41 rfl (lv_at hl 0 rfl) ?_
    refine w_if_eq (tgt := 55) S dX2_expand_42 (by decide) (fun hb28 => ?_) (fun hb28 => ?_)
    · refine w_iconst S dX2_expand_55 (by decide) (fun k29 hk29 => ?_)
      exact J56 _ _ _ z40_0 k29 hP hS (lv_sub hl [1, 2, 0] rfl)
    · refine lv_aload_n S.1 S.2.1 dX2_expand_45 rfl (lv_at hl 1 rfl) ?_
      refine w_get (C := RX2) (T := TX2) (N := 15) S (fun _ h => List.mem_cons_of_mem _ (List.mem_append_left _ (List.mem_append_left _ (List.mem_append_right _ h)))) hK hP (5 + 21 * i) (by have := h4; omega) ((ceP0 h4) _) rfl 4 (by decide) (hts _ (List.mem_of_getElem? (i := 1) rfl)) (v := .ref (g.1 (5 + 21 * i + 7))) rfl dX2_expand_46 ?_
      refine w_cVi (As := []) (rest := []) S hK hN hP hS hl (5 + 21 * i + 7) (by have := h4; omega) ((ceP7 h4) _) rfl (c_X1_blanksOfTab l D g hg x hI i h4) (cwV 0 hts gX2_expand_X1_blanksOfTab rfl rfl rfl (by decide +kernel) ⟨Nat.le_of_ble_eq_true rfl, Nat.le_of_ble_eq_true rfl⟩) rfl rfl (Nat.le_of_ble_eq_true rfl) dX2_expand_49 ⟨Nat.zero_le _, Nat.zero_le _⟩ (fun r31 x30 H locs hq32 hP hS => ?_)
      obtain ⟨ex33, hf34⟩ := hq32
      rw [ex33] at hP
      refine lv_goto (tgt := 56) S.1 S.2.1 dX2_expand_52 (by decide) ?_
      exact J56 _ _ _ z40_0 r31 hP hS (lv_sub hl [1, 2, 0] rfl)
  have J20 : ∀ (H : Heap) (locs : List Loc) (ls : Array Slot), va_P D vwCl (WL g x) H → va_S (AQ g) s.heap H locs → lv_has ls 5 [(0, .ref (g.1 (5 + 21 * i))), (1, .int b)] → W p l e ({ frames := 2, cells := 0, slots := 0, locals := 42 } : Room) s m ([.ref (g.1 (5 + 21 * i)), .int b] : List Value).toArray below meth co H locs 0 0 (MQ below (va_Qv (fun x2 => Inv x2 ∧ Same TC x x2 ∧ True) (WO D g) (AQ g)) ([.ref (g.1 (5 + 21 * i)), .int b] : List Value).toArray s 0 0 (AQ g)) (F0 m 20 ls []) := by
    intro H locs ls hP hS hl
    refine lv_iload_n S.1 S.2.1 dX2_expand_20 rfl (lv_at hl 1 rfl) ?_
    refine w_bipush S dX2_expand_21 (by decide) (fun k35 hk35 => ?_)
    refine w_icmp_ne (tgt := 39) S dX2_expand_23 (by decide) (fun hb36 => ?_) (fun hb36 => ?_)
    · refine w_iconst S dX2_expand_39 (by decide) (fun k37 hk37 => ?_)
      exact J40 _ _ _ k37 (by omega) hP hS (lv_sub hl [0, 1] rfl)
    · refine lv_aload_n S.1 S.2.1 dX2_expand_26 rfl (lv_at hl 0 rfl) ?_
      refine w_bipush S dX2_expand_27 (by decide) (fun k38 hk38 => ?_)
      refine w_cVi (As := [.int k38]) (rest := []) S hK hN hP hS hl (5 + 21 * i) (by have := h4; omega) ((ceP0 h4) _) rfl (c_X2_isOn l D g hg x hI i h4 k38 (by omega)) (cwV 1 hts gX2_expand_X2_isOn rfl rfl rfl (by decide +kernel) ⟨Nat.le_of_ble_eq_true rfl, Nat.le_of_ble_eq_true rfl⟩) rfl rfl (Nat.le_of_ble_eq_true rfl) dX2_expand_29 ⟨Nat.zero_le _, Nat.zero_le _⟩ (fun r40 x39 H locs hq41 hP hS => ?_)
      obtain ⟨ex42, hf43⟩ := hq41
      rw [ex42] at hP
      refine w_if_eq (tgt := 39) S dX2_expand_32 (by decide) (fun hb44 => ?_) (fun hb44 => ?_)
      · refine w_iconst S dX2_expand_39 (by decide) (fun k45 hk45 => ?_)
        exact J40 _ _ _ k45 (by omega) hP hS (lv_sub hl [0, 1] rfl)
      · refine w_iconst S dX2_expand_35 (by decide) (fun k46 hk46 => ?_)
        refine lv_goto (tgt := 40) S.1 S.2.1 dX2_expand_36 (by decide) ?_
        exact J40 _ _ _ k46 (by omega) hP hS (lv_sub hl [0, 1] rfl)
  refine lv_iload_n S.1 S.2.1 dX2_expand_0 rfl (lv_at hl 1 rfl) ?_
  refine w_bipush S dX2_expand_1 (by decide) (fun k47 hk47 => ?_)
  refine w_icmp_ne (tgt := 20) S dX2_expand_3 (by decide) (fun hb48 => ?_) (fun hb48 => ?_)
  · exact J20 _ _ _ hP hS (lv_sub hl [0, 1] rfl)
  · refine lv_aload_n S.1 S.2.1 dX2_expand_6 rfl (lv_at hl 0 rfl) ?_
    refine w_bipush S dX2_expand_7 (by decide) (fun k49 hk49 => ?_)
    refine w_cVi (As := [.int k49]) (rest := []) S hK hN hP hS hl (5 + 21 * i) (by have := h4; omega) ((ceP0 h4) _) rfl (c_X2_isOn l D g hg x hI i h4 k49 (by omega)) (cwV 1 hts gX2_expand_X2_isOn rfl rfl rfl (by decide +kernel) ⟨Nat.le_of_ble_eq_true rfl, Nat.le_of_ble_eq_true rfl⟩) rfl rfl (Nat.le_of_ble_eq_true rfl) dX2_expand_9 ⟨Nat.zero_le _, Nat.zero_le _⟩ (fun r51 x50 H locs hq52 hP hS => ?_)
    obtain ⟨ex53, hf54⟩ := hq52
    rw [ex53] at hP
    refine w_if_eq (tgt := 20) S dX2_expand_12 (by decide) (fun hb55 => ?_) (fun hb55 => ?_)
    · exact J20 _ _ _ hP hS (lv_sub hl [0, 1] rfl)
    · refine lv_aload_n S.1 S.2.1 dX2_expand_15 rfl (lv_at hl 0 rfl) ?_
      refine w_cVv (As := []) (rest := []) S hK hN hP hS hl (5 + 21 * i) (by have := h4; omega) ((ceP0 h4) _) rfl (c_X2_draftNewline l D g hg x hI i h4) (cwV 0 hts gX2_expand_X2_draftNewline rfl rfl rfl (by decide +kernel) ⟨Nat.le_of_ble_eq_true rfl, Nat.le_of_ble_eq_true rfl⟩) rfl rfl (Nat.le_of_ble_eq_true rfl) dX2_expand_16 ⟨Nat.zero_le _, Nat.zero_le _⟩ (fun x56 H locs hq58 hP hS => ?_)
      obtain ⟨hI59, hT60, hf61⟩ := hq58
      have hT62 : Same (TC) x x56 := hT.tr hT60 (fun _ _ h => h)
      exact w_vret S hr0 hlk hP hS dX2_expand_19 (⟨hI59, hT62, trivial⟩)
set_option maxRecDepth 100000 in
set_option maxHeartbeats 4000000 in
theorem c_X2_keep (l : Launch) (D : va_G) (g : GA) (hg : Inj g) (x : St) (hI : Inv x) (i : Nat) (h4 : i < 4) (b : Int32) : Met l yX2_keep wsX2_keep ({ frames := 2, cells := 0, slots := 0, locals := 44 } : Room) (va_Pc [.ref (g.1 (5 + 21 * i)), .int b] (WI D g x)) (va_Qi (fun r x2 => Inv x2 ∧ Same TC x x2 ∧ (0 ≤ r.toInt ∧ r.toInt ≤ 1)) (WO D g) (AQ g)) 0 0 (AQ g) := by
  refine w_met (cc := cX2_keep) (maxL := 3) (ret := (some .boolean)) (own := RX2) (by decide) rfl rfl (Nat.le_of_ble_eq_true rfl) (fun p e s m below meth co S hr0 hlk hK hN hP hS ls hl => ?_)
  have hts := S.2.2.2.2
  have hl : lv_has ls 3 [(0, .ref (g.1 (5 + 21 * i))), (1, .int b)] := hl
  have hT : Same (TC) x x := Same.rf
  have J26 : ∀ (H : Heap) (locs : List Loc) (ls : Array Slot) (z26_0 : Int32), (0 ≤ z26_0.toInt ∧ z26_0.toInt ≤ 1) → va_P D vwCl (WL g x) H → va_S (AQ g) s.heap H locs → lv_has ls 3 [(0, .ref (g.1 (5 + 21 * i))), (1, .int b)] → W p l e ({ frames := 2, cells := 0, slots := 0, locals := 44 } : Room) s m ([.ref (g.1 (5 + 21 * i)), .int b] : List Value).toArray below meth co H locs 0 0 (MQ below (va_Qi (fun r x2 => Inv x2 ∧ Same TC x x2 ∧ (0 ≤ r.toInt ∧ r.toInt ≤ 1)) (WO D g) (AQ g)) ([.ref (g.1 (5 + 21 * i)), .int b] : List Value).toArray s 0 0 (AQ g)) (F0 m 26 ls [.int z26_0]) := by
    intro H locs ls z26_0 hf26_0 hP hS hl
    refine lv_istore_n (lv' := [(2, .int z26_0), (0, .ref (g.1 (5 + 21 * i))), (1, .int b)]) S.1 S.2.1 dX2_keep_26 rfl hl (by decide) rfl (fun ls hl => ?_)
    refine lv_aload_n S.1 S.2.1 dX2_keep_27 rfl (lv_at hl 1 rfl) ?_
    refine w_get (C := RX2) (T := TX2) (N := 15) S (fun _ h => List.mem_cons_of_mem _ (List.mem_append_left _ (List.mem_append_left _ (List.mem_append_right _ h)))) hK hP (5 + 21 * i) (by have := h4; omega) ((ceP0 h4) _) rfl 3 (by decide) (hts _ (List.mem_of_getElem? (i := 1) rfl)) (v := .ref (g.1 (5 + 21 * i + 4))) rfl dX2_keep_28 ?_
    refine lv_iload_n S.1 S.2.1 dX2_keep_31 rfl (lv_at hl 2 rfl) ?_
    refine lv_iload_n S.1 S.2.1 dX2_keep_32 rfl (lv_at hl 0 rfl) ?_
    refine w_cVi (As := [.int b, .int z26_0]) (rest := []) S hK hN hP hS hl (5 + 21 * i + 4) (by have := h4; omega) ((ceP4 h4) _) rfl (c_X4_add l D g hg x hI i h4 b z26_0) (cwV 2 hts gX2_keep_X4_add rfl rfl rfl (by decide +kernel) ⟨Nat.le_of_ble_eq_true rfl, Nat.le_of_ble_eq_true rfl⟩) rfl rfl (Nat.le_of_ble_eq_true rfl) dX2_keep_33 ⟨Nat.zero_le _, Nat.zero_le _⟩ (fun r2 x1 H locs hq3 hP hS => ?_)
    obtain ⟨hI4, hT5, hf6⟩ := hq3
    have hT7 : Same (TC) x x1 := hT.tr hT5 (fun _ _ h => h)
    refine w_if_ne (tgt := 51) S dX2_keep_36 (by decide) (fun hb8 => ?_) (fun hb8 => ?_)
    · refine lv_aload_n S.1 S.2.1 dX2_keep_51 rfl (lv_at hl 1 rfl) ?_
      refine w_cVv (As := []) (rest := []) S hK hN hP hS hl (5 + 21 * i) (by have := h4; omega) ((ceP0 h4) _) rfl (c_X2_releaseIfEnough l D g hg x1 hI4 i h4) (cwV 0 hts gX2_keep_X2_releaseIfEnough rfl rfl rfl (by decide +kernel) ⟨Nat.le_of_ble_eq_true rfl, Nat.le_of_ble_eq_true rfl⟩) rfl rfl (Nat.le_of_ble_eq_true rfl) dX2_keep_52 ⟨Nat.zero_le _, Nat.zero_le _⟩ (fun x9 H locs hq11 hP hS => ?_)
      obtain ⟨hI12, hT13, hf14⟩ := hq11
      have hT15 : Same (TC) x x9 := hT7.tr hT13 (fun _ _ h => h)
      refine lv_aload_n S.1 S.2.1 dX2_keep_55 rfl (lv_at hl 1 rfl) ?_
      refine w_bipush S dX2_keep_56 (by decide) (fun k16 hk16 => ?_)
      refine w_cVi (As := [.int k16]) (rest := []) S hK hN hP hS hl (5 + 21 * i) (by have := h4; omega) ((ceP0 h4) _) rfl (c_X2_isOn l D g hg x9 hI12 i h4 k16 (by omega)) (cwV 1 hts gX2_keep_X2_isOn rfl rfl rfl (by decide +kernel) ⟨Nat.le_of_ble_eq_true rfl, Nat.le_of_ble_eq_true rfl⟩) rfl rfl (Nat.le_of_ble_eq_true rfl) dX2_keep_58 ⟨Nat.zero_le _, Nat.zero_le _⟩ (fun r18 x17 H locs hq19 hP hS => ?_)
      obtain ⟨ex20, hf21⟩ := hq19
      rw [ex20] at hP
      refine w_if_eq (tgt := 97) S dX2_keep_61 (by decide) (fun hb22 => ?_) (fun hb22 => ?_)
      · refine w_iconst S dX2_keep_97 (by decide) (fun k23 hk23 => ?_)
        exact w_zret S hr0 hlk hP hS dX2_keep_98 (z01 (by omega) (by omega)) (⟨hI12, hT15, by omega⟩)
      · refine lv_aload_n S.1 S.2.1 dX2_keep_64 rfl (lv_at hl 1 rfl) ?_
        refine w_get (C := RX2) (T := TX2) (N := 15) S (fun _ h => List.mem_cons_of_mem _ (List.mem_append_left _ (List.mem_append_left _ (List.mem_append_right _ h)))) hK hP (5 + 21 * i) (by have := h4; omega) ((ceP0 h4) _) rfl 13 (by decide) (hts _ (List.mem_of_getElem? (i := 3) rfl)) (v := .int (x9 (5 + 21 * i) 13)) rfl dX2_keep_65 ?_
        refine lv_topi (fun v24 ev24 => ?_)
        have wv24 : v24.toInt = (x9 (5 + 21 * i) 13).toInt := by rw [ev24]
        have rv24 : (0 : Int) ≤ v24.toInt ∧ v24.toInt ≤ (1 : Int) := by rw [ev24]; exact hI12.atP0 (k := 13) h4
        refine w_if_ne (tgt := 97) S dX2_keep_68 (by decide) (fun hb25 => ?_) (fun hb25 => ?_)
        · refine w_iconst S dX2_keep_97 (by decide) (fun k26 hk26 => ?_)
          exact w_zret S hr0 hlk hP hS dX2_keep_98 (z01 (by omega) (by omega)) (⟨hI12, hT15, by omega⟩)
        · refine lv_aload_n S.1 S.2.1 dX2_keep_71 rfl (lv_at hl 1 rfl) ?_
          refine w_get (C := RX2) (T := TX2) (N := 15) S (fun _ h => List.mem_cons_of_mem _ (List.mem_append_left _ (List.mem_append_left _ (List.mem_append_right _ h)))) hK hP (5 + 21 * i) (by have := h4; omega) ((ceP0 h4) _) rfl 3 (by decide) (hts _ (List.mem_of_getElem? (i := 1) rfl)) (v := .ref (g.1 (5 + 21 * i + 4))) rfl dX2_keep_72 ?_
          refine w_getN (C := RX4) (T := TX4) (N := 3) S (fun _ h => List.mem_cons_of_mem _ (List.mem_append_left _ (List.mem_append_right _ h))) hK hP (5 + 21 * i + 4) (by have := h4; omega) ((ceP4 h4) _) rfl 0 (by decide) (hN.1 _ (List.mem_of_getElem? (i := 7) rfl)) (v := .ref (g.1 (5 + 21 * i + 5))) rfl dX2_keep_75 ?_
          refine w_getN (C := RX3) (T := TX3) (N := 3) S (fun _ h => List.mem_cons_of_mem _ (List.mem_append_right _ h)) hK hP (5 + 21 * i + 5) (by have := h4; omega) ((ceP5 h4) _) rfl 2 (by decide) (hN.1 _ (List.mem_of_getElem? (i := 6) rfl)) (v := .int (x9 (5 + 21 * i + 5) 2)) rfl dX2_keep_78 ?_
          refine lv_topi (fun v27 ev27 => ?_)
          have wv27 : v27.toInt = (x9 (5 + 21 * i + 5) 2).toInt := by rw [ev27]
          have rv27 : (0 : Int) ≤ v27.toInt ∧ v27.toInt ≤ (65 : Int) := by rw [ev27]; exact hI12.atP (j := 5) (k := 2) h4 (by decide)
          refine w_bipush S dX2_keep_81 (by decide) (fun k28 hk28 => ?_)
          refine w_icmp_le (tgt := 97) S dX2_keep_83 (by decide) (fun hb29 => ?_) (fun hb29 => ?_)
          · refine w_iconst S dX2_keep_97 (by decide) (fun k30 hk30 => ?_)
            exact w_zret S hr0 hlk hP hS dX2_keep_98 (z01 (by omega) (by omega)) (⟨hI12, hT15, by omega⟩)
          · refine lv_aload_n S.1 S.2.1 dX2_keep_86 rfl (lv_at hl 1 rfl) ?_
            refine w_iconst S dX2_keep_87 (by decide) (fun k31 hk31 => ?_)
            refine w_put (C := RX2) (T := TX2) (N := 15) (F := FPort g (5 + 21 * i)) S (fun _ h => List.mem_cons_of_mem _ (List.mem_append_left _ (List.mem_append_left _ (List.mem_append_right _ h)))) tyX2_ok nmX2 hK hg hP hS (5 + 21 * i) (by have := h4; omega) (ceP0 h4) rfl 13 (by decide) (hts _ (List.mem_of_getElem? (i := 3) rfl)) rfl (tz_narrow (z01 (by omega) (by omega))) (tz_fits (z01 (by omega) (by omega))) (fun _ => Nat.le_of_ble_eq_true rfl) (fun _ => rfl) dX2_keep_88 (fun x32 H locs ex32 hP hS => ?_)
            have hI33 : Inv x32 := by rw [ex32]; exact hI12.upP0 h4 (show (0 : Int) ≤ _ by omega) (show _ ≤ (1 : Int) by omega)
            have hT34 : Same (TC) x x32 := by rw [ex32]; exact hT15.up (by unfold TC TrC; omega)
            refine lv_aload_n S.1 S.2.1 dX2_keep_91 rfl (lv_at hl 1 rfl) ?_
            refine w_bipush S dX2_keep_92 (by decide) (fun k35 hk35 => ?_)
            refine w_put (C := RX2) (T := TX2) (N := 15) (F := FPort g (5 + 21 * i)) S (fun _ h => List.mem_cons_of_mem _ (List.mem_append_left _ (List.mem_append_left _ (List.mem_append_right _ h)))) tyX2_ok nmX2 hK hg hP hS (5 + 21 * i) (by have := h4; omega) (ceP0 h4) rfl 14 (by decide) (hts _ (List.mem_of_getElem? (i := 4) rfl)) rfl rfl rfl (fun _ => Nat.le_of_ble_eq_true rfl) (fun _ => rfl) dX2_keep_94 (fun x36 H locs ex36 hP hS => ?_)
            have hI37 : Inv x36 := by rw [ex36]; exact hI33.upP0 h4 (show (-1 : Int) ≤ _ by omega) (show _ ≤ (24 : Int) by omega)
            have hT38 : Same (TC) x x36 := by rw [ex36]; exact hT34.up (by unfold TC TrC; omega)
            refine w_iconst S dX2_keep_97 (by decide) (fun k39 hk39 => ?_)
            exact w_zret S hr0 hlk hP hS dX2_keep_98 (z01 (by omega) (by omega)) (⟨hI37, hT38, by omega⟩)
    · refine lv_aload_n S.1 S.2.1 dX2_keep_39 rfl (lv_at hl 1 rfl) ?_
      refine w_get (C := RX2) (T := TX2) (N := 15) S (fun _ h => List.mem_cons_of_mem _ (List.mem_append_left _ (List.mem_append_left _ (List.mem_append_right _ h)))) hK hP (5 + 21 * i) (by have := h4; omega) ((ceP0 h4) _) rfl 8 (by decide) (hts _ (List.mem_of_getElem? (i := 2) rfl)) (v := .ref (g.1 (5 + 21 * i + 20))) rfl dX2_keep_40 ?_
      refine w_iconst S dX2_keep_43 (by decide) (fun k40 hk40 => ?_)
      refine lv_dup2_11 S.1 S.2.1 dX2_keep_44 rfl rfl ?_
      refine w_iald S hK hP (5 + 21 * i + 20) (by have := h4; omega) (ceP20 h4) (by omega) (by omega) dX2_keep_45 (fun v41 ev41 => ?_)
      have wv41 : v41.toInt = (x1 (5 + 21 * i + 20) k40.toInt.toNat).toInt := by rw [ev41]
      refine w_iconst S dX2_keep_46 (by decide) (fun k42 hk42 => ?_)
      refine lv_iadd S.1 S.2.1 dX2_keep_47 ?_
      refine w_any1 (fun v43 => ?_)
      refine w_iast S hK hg hP hS (5 + 21 * i + 20) (by have := h4; omega) (ceP20 h4) (by omega) (by omega) dX2_keep_48 (fun x44 H locs ex44 hP hS => ?_)
      have hI45 : Inv x44 := by rw [ex44]; exact hI4.upP (j := 20) h4 (by decide) (i_ge _) (i_le _)
      have hT46 : Same (TC) x x44 := by rw [ex44]; exact hT7.up (by unfold TC TrC; omega)
      refine w_iconst S dX2_keep_49 (by decide) (fun k47 hk47 => ?_)
      exact w_zret S hr0 hlk hP hS dX2_keep_50 (z01 (by omega) (by omega)) (⟨hI45, hT46, by omega⟩)
  refine lv_aload_n S.1 S.2.1 dX2_keep_0 rfl (lv_at hl 0 rfl) ?_
  refine w_iconst S dX2_keep_1 (by decide) (fun k48 hk48 => ?_)
  refine w_cVi (As := [.int k48]) (rest := []) S hK hN hP hS hl (5 + 21 * i) (by have := h4; omega) ((ceP0 h4) _) rfl (c_X2_isOn l D g hg x hI i h4 k48 (by omega)) (cwV 1 hts gX2_keep_X2_isOn rfl rfl rfl (by decide +kernel) ⟨Nat.le_of_ble_eq_true rfl, Nat.le_of_ble_eq_true rfl⟩) rfl rfl (Nat.le_of_ble_eq_true rfl) dX2_keep_2 ⟨Nat.zero_le _, Nat.zero_le _⟩ (fun r50 x49 H locs hq51 hP hS => ?_)
  obtain ⟨ex52, hf53⟩ := hq51
  rw [ex52] at hP
  refine w_if_eq (tgt := 25) S dX2_keep_5 (by decide) (fun hb54 => ?_) (fun hb54 => ?_)
  · refine w_iconst S dX2_keep_25 (by decide) (fun k55 hk55 => ?_)
    exact J26 _ _ _ k55 (by omega) hP hS (lv_sub hl [0, 1] rfl)
  · refine lv_iload_n S.1 S.2.1 dX2_keep_8 rfl (lv_at hl 1 rfl) ?_
    refine w_bipush S dX2_keep_9 (by decide) (fun k56 hk56 => ?_)
    refine w_icmp_eq (tgt := 21) S dX2_keep_11 (by decide) (fun hb57 => ?_) (fun hb57 => ?_)
    · refine w_iconst S dX2_keep_21 (by decide) (fun k58 hk58 => ?_)
      refine lv_goto (tgt := 26) S.1 S.2.1 dX2_keep_22 (by decide) ?_
      exact J26 _ _ _ k58 (by omega) hP hS (lv_sub hl [0, 1] rfl)
    · refine lv_iload_n S.1 S.2.1 dX2_keep_14 rfl (lv_at hl 1 rfl) ?_
      refine w_sipush S dX2_keep_15 (by decide) (fun k59 hk59 => ?_)
      refine w_icmp_ne (tgt := 25) S dX2_keep_18 (by decide) (fun hb60 => ?_) (fun hb60 => ?_)
      · refine w_iconst S dX2_keep_25 (by decide) (fun k61 hk61 => ?_)
        exact J26 _ _ _ k61 (by omega) hP hS (lv_sub hl [0, 1] rfl)
      · refine w_iconst S dX2_keep_21 (by decide) (fun k62 hk62 => ?_)
        refine lv_goto (tgt := 26) S.1 S.2.1 dX2_keep_22 (by decide) ?_
        exact J26 _ _ _ k62 (by omega) hP hS (lv_sub hl [0, 1] rfl)
set_option maxRecDepth 100000 in
set_option maxHeartbeats 4000000 in
theorem c_X2_keepAndEcho (l : Launch) (D : va_G) (g : GA) (hg : Inj g) (x : St) (hI : Inv x) (i : Nat) (h4 : i < 4) (b : Int32) : Met l yX2_keepAndEcho wsX2_keepAndEcho ({ frames := 3, cells := 0, slots := 0, locals := 66 } : Room) (va_Pc [.ref (g.1 (5 + 21 * i)), .int b] (WI D g x)) (va_Qv (fun x2 => Inv x2 ∧ Same TC x x2 ∧ True) (WO D g) (AQ g)) 0 0 (AQ g) := by
  refine w_met (cc := cX2_keepAndEcho) (maxL := 2) (ret := none) (own := RX2) (by decide) rfl rfl (Nat.le_of_ble_eq_true rfl) (fun p e s m below meth co S hr0 hlk hK hN hP hS ls hl => ?_)
  have hts := S.2.2.2.2
  have hl : lv_has ls 2 [(0, .ref (g.1 (5 + 21 * i))), (1, .int b)] := hl
  have hT : Same (TC) x x := Same.rf
  refine lv_aload_n S.1 S.2.1 dX2_keepAndEcho_0 rfl (lv_at hl 0 rfl) ?_
  refine lv_iload_n S.1 S.2.1 dX2_keepAndEcho_1 rfl (lv_at hl 1 rfl) ?_
  refine w_cVi (As := [.int b]) (rest := []) S hK hN hP hS hl (5 + 21 * i) (by have := h4; omega) ((ceP0 h4) _) rfl (c_X2_keep l D g hg x hI i h4 b) (cwV 1 hts gX2_keepAndEcho_X2_keep rfl rfl rfl (by decide +kernel) ⟨Nat.le_of_ble_eq_true rfl, Nat.le_of_ble_eq_true rfl⟩) rfl rfl (Nat.le_of_ble_eq_true rfl) dX2_keepAndEcho_2 ⟨Nat.zero_le _, Nat.zero_le _⟩ (fun r2 x1 H locs hq3 hP hS => ?_)
  obtain ⟨hI4, hT5, hf6⟩ := hq3
  have hT7 : Same (TC) x x1 := hT.tr hT5 (fun _ _ h => h)
  refine w_if_eq (tgt := 17) S dX2_keepAndEcho_5 (by decide) (fun hb8 => ?_) (fun hb8 => ?_)
  · exact w_vret S hr0 hlk hP hS dX2_keepAndEcho_17 (⟨hI4, hT7, trivial⟩)
  · refine lv_aload_n S.1 S.2.1 dX2_keepAndEcho_8 rfl (lv_at hl 0 rfl) ?_
    refine lv_iload_n S.1 S.2.1 dX2_keepAndEcho_9 rfl (lv_at hl 1 rfl) ?_
    refine w_cVv (As := [.int b]) (rest := []) S hK hN hP hS hl (5 + 21 * i) (by have := h4; omega) ((ceP0 h4) _) rfl (c_X2_draftForm l D g hg x1 hI4 i h4 b) (cwV 1 hts gX2_keepAndEcho_X2_draftForm rfl rfl rfl (by decide +kernel) ⟨Nat.le_of_ble_eq_true rfl, Nat.le_of_ble_eq_true rfl⟩) rfl rfl (Nat.le_of_ble_eq_true rfl) dX2_keepAndEcho_10 ⟨Nat.zero_le _, Nat.zero_le _⟩ (fun x9 H locs hq11 hP hS => ?_)
    obtain ⟨hI12, hT13, hf14⟩ := hq11
    have hT15 : Same (TC) x x9 := hT7.tr hT13 (fun _ _ h => h)
    refine lv_aload_n S.1 S.2.1 dX2_keepAndEcho_13 rfl (lv_at hl 0 rfl) ?_
    refine w_cVv (As := []) (rest := []) S hK hN hP hS hl (5 + 21 * i) (by have := h4; omega) ((ceP0 h4) _) rfl (c_X2_echo l D g hg x9 hI12 i h4) (cwV 0 hts gX2_keepAndEcho_X2_echo rfl rfl rfl (by decide +kernel) ⟨Nat.le_of_ble_eq_true rfl, Nat.le_of_ble_eq_true rfl⟩) rfl rfl (Nat.le_of_ble_eq_true rfl) dX2_keepAndEcho_14 ⟨Nat.zero_le _, Nat.zero_le _⟩ (fun x16 H locs hq18 hP hS => ?_)
    obtain ⟨hI19, hT20, hf21⟩ := hq18
    have hT22 : Same (TC) x x16 := hT15.tr hT20 (fun _ _ h => h)
    exact w_vret S hr0 hlk hP hS dX2_keepAndEcho_17 (⟨hI19, hT22, trivial⟩)
set_option maxRecDepth 100000 in
set_option maxHeartbeats 4000000 in
theorem c_X2_endLine (l : Launch) (D : va_G) (g : GA) (hg : Inj g) (x : St) (hI : Inv x) (i : Nat) (h4 : i < 4) (b : Int32) : Met l yX2_endLine wsX2_endLine ({ frames := 3, cells := 0, slots := 0, locals := 66 } : Room) (va_Pc [.ref (g.1 (5 + 21 * i)), .int b] (WI D g x)) (va_Qi (fun r x2 => Inv x2 ∧ Same TC x x2 ∧ (0 ≤ r.toInt ∧ r.toInt ≤ 1)) (WO D g) (AQ g)) 0 0 (AQ g) := by
  refine w_met (cc := cX2_endLine) (maxL := 3) (ret := (some .boolean)) (own := RX2) (by decide) rfl rfl (Nat.le_of_ble_eq_true rfl) (fun p e s m below meth co S hr0 hlk hK hN hP hS ls hl => ?_)
  have hts := S.2.2.2.2
  have hl : lv_has ls 3 [(0, .ref (g.1 (5 + 21 * i))), (1, .int b)] := hl
  have hT : Same (TC) x x := Same.rf
  refine lv_aload_n S.1 S.2.1 dX2_endLine_0 rfl (lv_at hl 0 rfl) ?_
  refine lv_iload_n S.1 S.2.1 dX2_endLine_1 rfl (lv_at hl 1 rfl) ?_
  refine w_cVi (As := [.int b]) (rest := []) S hK hN hP hS hl (5 + 21 * i) (by have := h4; omega) ((ceP0 h4) _) rfl (c_X2_keep l D g hg x hI i h4 b) (cwV 1 hts gX2_endLine_X2_keep rfl rfl rfl (by decide +kernel) ⟨Nat.le_of_ble_eq_true rfl, Nat.le_of_ble_eq_true rfl⟩) rfl rfl (Nat.le_of_ble_eq_true rfl) dX2_endLine_2 ⟨Nat.zero_le _, Nat.zero_le _⟩ (fun r2 x1 H locs hq3 hP hS => ?_)
  obtain ⟨hI4, hT5, hf6⟩ := hq3
  have hT7 : Same (TC) x x1 := hT.tr hT5 (fun _ _ h => h)
  refine lv_istore_n (lv' := [(2, .int r2), (0, .ref (g.1 (5 + 21 * i))), (1, .int b)]) S.1 S.2.1 dX2_endLine_5 rfl hl (by decide) rfl (fun ls hl => ?_)
  refine lv_iload_n S.1 S.2.1 dX2_endLine_6 rfl (lv_at hl 0 rfl) ?_
  refine w_if_eq (tgt := 17) S dX2_endLine_7 (by decide) (fun hb8 => ?_) (fun hb8 => ?_)
  · refine lv_iload_n S.1 S.2.1 dX2_endLine_17 rfl (lv_at hl 0 rfl) ?_
    exact w_zret S hr0 hlk hP hS dX2_endLine_18 (z01 (by omega) (by omega)) (⟨hI4, hT7, by omega⟩)
  · refine lv_aload_n S.1 S.2.1 dX2_endLine_10 rfl (lv_at hl 1 rfl) ?_
    refine w_get (C := RX2) (T := TX2) (N := 15) S (fun _ h => List.mem_cons_of_mem _ (List.mem_append_left _ (List.mem_append_left _ (List.mem_append_right _ h)))) hK hP (5 + 21 * i) (by have := h4; omega) ((ceP0 h4) _) rfl 3 (by decide) (hts _ (List.mem_of_getElem? (i := 1) rfl)) (v := .ref (g.1 (5 + 21 * i + 4))) rfl dX2_endLine_11 ?_
    refine w_cVv (As := []) (rest := []) S hK hN hP hS hl (5 + 21 * i + 4) (by have := h4; omega) ((ceP4 h4) _) rfl (c_X4_releaseAll l D g hg x1 hI4 i h4) (cwV 0 hts gX2_endLine_X4_releaseAll rfl rfl rfl (by decide +kernel) ⟨Nat.le_of_ble_eq_true rfl, Nat.le_of_ble_eq_true rfl⟩) rfl rfl (Nat.le_of_ble_eq_true rfl) dX2_endLine_14 ⟨Nat.zero_le _, Nat.zero_le _⟩ (fun x9 H locs hq11 hP hS => ?_)
    obtain ⟨hI12, hT13, hf14⟩ := hq11
    have hT15 : Same (TC) x x9 := hT7.tr hT13 (fun _ _ h => h)
    refine lv_iload_n S.1 S.2.1 dX2_endLine_17 rfl (lv_at hl 0 rfl) ?_
    exact w_zret S hr0 hlk hP hS dX2_endLine_18 (z01 (by omega) (by omega)) (⟨hI12, hT15, by omega⟩)
set_option maxRecDepth 100000 in
set_option maxHeartbeats 4000000 in
theorem c_X2_signal (l : Launch) (D : va_G) (g : GA) (hg : Inj g) (x : St) (hI : Inv x) (i : Nat) (h4 : i < 4) (sg : Int32) (b : Int32) : Met l yX2_signal wsX2_signal ({ frames := 3, cells := 0, slots := 0, locals := 65 } : Room) (va_Pc [.ref (g.1 (5 + 21 * i)), .int sg, .int b] (WI D g x)) (va_Qv (fun x2 => Inv x2 ∧ Same TC x x2 ∧ True) (WO D g) (AQ g)) 0 0 (AQ g) := by
  refine w_met (cc := cX2_signal) (maxL := 3) (ret := none) (own := RX2) (by decide) rfl rfl (Nat.le_of_ble_eq_true rfl) (fun p e s m below meth co S hr0 hlk hK hN hP hS ls hl => ?_)
  have hts := S.2.2.2.2
  have hl : lv_has ls 3 [(0, .ref (g.1 (5 + 21 * i))), (1, .int sg), (2, .int b)] := hl
  have hT : Same (TC) x x := Same.rf
  have J57 : ∀ (x_57 : St) (H : Heap) (locs : List Loc) (ls : Array Slot), Inv x_57 → Same (TC) x x_57 → va_P D vwCl (WL g x_57) H → va_S (AQ g) s.heap H locs → lv_has ls 3 [(0, .ref (g.1 (5 + 21 * i))), (1, .int sg), (2, .int b)] → W p l e ({ frames := 3, cells := 0, slots := 0, locals := 65 } : Room) s m ([.ref (g.1 (5 + 21 * i)), .int sg, .int b] : List Value).toArray below meth co H locs 0 0 (MQ below (va_Qv (fun x2 => Inv x2 ∧ Same TC x x2 ∧ True) (WO D g) (AQ g)) ([.ref (g.1 (5 + 21 * i)), .int sg, .int b] : List Value).toArray s 0 0 (AQ g)) (F0 m 57 ls []) := by
    intro x_57 H locs ls hI_57 hT_57 hP hS hl
    refine lv_iload_n S.1 S.2.1 dX2_signal_57 rfl (lv_at hl 2 rfl) ?_
    refine w_sipush S dX2_signal_58 (by decide) (fun k1 hk1 => ?_)
    refine w_icmp_eq (tgt := 73) S dX2_signal_61 (by decide) (fun hb2 => ?_) (fun hb2 => ?_)
    · exact w_vret S hr0 hlk hP hS dX2_signal_73 (⟨hI_57, hT_57, trivial⟩)
    · refine lv_aload_n S.1 S.2.1 dX2_signal_64 rfl (lv_at hl 0 rfl) ?_
      refine lv_iload_n S.1 S.2.1 dX2_signal_65 rfl (lv_at hl 2 rfl) ?_
      refine w_cVv (As := [.int b]) (rest := []) S hK hN hP hS hl (5 + 21 * i) (by have := h4; omega) ((ceP0 h4) _) rfl (c_X2_draftForm l D g hg x_57 hI_57 i h4 b) (cwV 1 hts gX2_signal_X2_draftForm rfl rfl rfl (by decide +kernel) ⟨Nat.le_of_ble_eq_true rfl, Nat.le_of_ble_eq_true rfl⟩) rfl rfl (Nat.le_of_ble_eq_true rfl) dX2_signal_66 ⟨Nat.zero_le _, Nat.zero_le _⟩ (fun x3 H locs hq5 hP hS => ?_)
      obtain ⟨hI6, hT7, hf8⟩ := hq5
      have hT9 : Same (TC) x x3 := hT_57.tr hT7 (fun _ _ h => h)
      refine lv_aload_n S.1 S.2.1 dX2_signal_69 rfl (lv_at hl 0 rfl) ?_
      refine w_cVv (As := []) (rest := []) S hK hN hP hS hl (5 + 21 * i) (by have := h4; omega) ((ceP0 h4) _) rfl (c_X2_echo l D g hg x3 hI6 i h4) (cwV 0 hts gX2_signal_X2_echo rfl rfl rfl (by decide +kernel) ⟨Nat.le_of_ble_eq_true rfl, Nat.le_of_ble_eq_true rfl⟩) rfl rfl (Nat.le_of_ble_eq_true rfl) dX2_signal_70 ⟨Nat.zero_le _, Nat.zero_le _⟩ (fun x10 H locs hq12 hP hS => ?_)
      obtain ⟨hI13, hT14, hf15⟩ := hq12
      have hT16 : Same (TC) x x10 := hT9.tr hT14 (fun _ _ h => h)
      exact w_vret S hr0 hlk hP hS dX2_signal_73 (⟨hI13, hT16, trivial⟩)
  refine lv_aload_n S.1 S.2.1 dX2_signal_0 rfl (lv_at hl 0 rfl) ?_
  refine w_get (C := RX2) (T := TX2) (N := 15) S (fun _ h => List.mem_cons_of_mem _ (List.mem_append_left _ (List.mem_append_left _ (List.mem_append_left _ (List.mem_append_left _ (List.mem_append_left _ (List.mem_append_right _ h))))))) hK hP (5 + 21 * i) (by have := h4; omega) ((ceP0 h4) _) rfl 0 (by decide) (hts _ (List.mem_of_getElem? (i := 1) rfl)) (v := .ref (g.1 2)) rfl dX2_signal_1 ?_
  refine lv_aload_n S.1 S.2.1 dX2_signal_4 rfl (lv_at hl 0 rfl) ?_
  refine w_get (C := RX2) (T := TX2) (N := 15) S (fun _ h => List.mem_cons_of_mem _ (List.mem_append_left _ (List.mem_append_left _ (List.mem_append_left _ (List.mem_append_left _ (List.mem_append_left _ (List.mem_append_right _ h))))))) hK hP (5 + 21 * i) (by have := h4; omega) ((ceP0 h4) _) rfl 12 (by decide) (hts _ (List.mem_of_getElem? (i := 2) rfl)) (v := .int (x (5 + 21 * i) 12)) rfl dX2_signal_5 ?_
  refine lv_topi (fun v17 ev17 => ?_)
  have wv17 : v17.toInt = (x (5 + 21 * i) 12).toInt := by rw [ev17]
  refine lv_iload_n S.1 S.2.1 dX2_signal_8 rfl (lv_at hl 1 rfl) ?_
  refine w_cVv (As := [.int v17, .int sg]) (rest := []) S hK hN hP hS hl 2 (by decide) (ceK2 _) rfl (c_X0_raise l D g hg x hI v17 sg) (cwV 2 hts gX2_signal_X0_raise rfl rfl rfl (by decide +kernel) ⟨Nat.le_of_ble_eq_true rfl, Nat.le_of_ble_eq_true rfl⟩) rfl rfl (Nat.le_of_ble_eq_true rfl) dX2_signal_9 ⟨Nat.zero_le _, Nat.zero_le _⟩ (fun x18 H locs hq20 hP hS => ?_)
  obtain ⟨hI21, hT22, hf23⟩ := hq20
  have hT24 : Same (TC) x x18 := hT.tr hT22 (fun _ _ h => h)
  refine lv_aload_n S.1 S.2.1 dX2_signal_12 rfl (lv_at hl 0 rfl) ?_
  refine w_bipush S dX2_signal_13 (by decide) (fun k25 hk25 => ?_)
  refine w_cVi (As := [.int k25]) (rest := []) S hK hN hP hS hl (5 + 21 * i) (by have := h4; omega) ((ceP0 h4) _) rfl (c_X2_isOn l D g hg x18 hI21 i h4 k25 (by omega)) (cwV 1 hts gX2_signal_X2_isOn rfl rfl rfl (by decide +kernel) ⟨Nat.le_of_ble_eq_true rfl, Nat.le_of_ble_eq_true rfl⟩) rfl rfl (Nat.le_of_ble_eq_true rfl) dX2_signal_15 ⟨Nat.zero_le _, Nat.zero_le _⟩ (fun r27 x26 H locs hq28 hP hS => ?_)
  obtain ⟨ex29, hf30⟩ := hq28
  rw [ex29] at hP
  refine w_if_ne (tgt := 57) S dX2_signal_18 (by decide) (fun hb31 => ?_) (fun hb31 => ?_)
  · exact J57 _ _ _ _ hI21 hT24 hP hS (lv_sub hl [0, 1, 2] rfl)
  · refine lv_aload_n S.1 S.2.1 dX2_signal_21 rfl (lv_at hl 0 rfl) ?_
    refine w_cVv (As := []) (rest := []) S hK hN hP hS hl (5 + 21 * i) (by have := h4; omega) ((ceP0 h4) _) rfl (c_X2_emptyStore l D g hg x18 hI21 i h4) (cwV 0 hts gX2_signal_X2_emptyStore rfl rfl rfl (by decide +kernel) ⟨Nat.le_of_ble_eq_true rfl, Nat.le_of_ble_eq_true rfl⟩) rfl rfl (Nat.le_of_ble_eq_true rfl) dX2_signal_22 ⟨Nat.zero_le _, Nat.zero_le _⟩ (fun x32 H locs hq34 hP hS => ?_)
    obtain ⟨hI35, hT36, hf37⟩ := hq34
    have hT38 : Same (TC) x x32 := hT24.tr hT36 (fun _ _ h => h)
    refine lv_iload_n S.1 S.2.1 dX2_signal_25 rfl (lv_at hl 1 rfl) ?_
    refine w_iconst S dX2_signal_26 (by decide) (fun k39 hk39 => ?_)
    refine w_icmp_eq (tgt := 57) S dX2_signal_27 (by decide) (fun hb40 => ?_) (fun hb40 => ?_)
    · exact J57 _ _ _ _ hI35 hT38 hP hS (lv_sub hl [0, 1, 2] rfl)
    · refine lv_aload_n S.1 S.2.1 dX2_signal_30 rfl (lv_at hl 0 rfl) ?_
      refine w_get (C := RX2) (T := TX2) (N := 15) S (fun _ h => List.mem_cons_of_mem _ (List.mem_append_left _ (List.mem_append_left _ (List.mem_append_left _ (List.mem_append_left _ (List.mem_append_left _ (List.mem_append_right _ h))))))) hK hP (5 + 21 * i) (by have := h4; omega) ((ceP0 h4) _) rfl 4 (by decide) (hts _ (List.mem_of_getElem? (i := 3) rfl)) (v := .ref (g.1 (5 + 21 * i + 7))) rfl dX2_signal_31 ?_
      refine w_getN (C := RX1) (T := TX1) (N := 5) S (fun _ h => List.mem_cons_of_mem _ (List.mem_append_left _ (List.mem_append_left _ (List.mem_append_left _ (List.mem_append_left _ (List.mem_append_right _ h)))))) hK hP (5 + 21 * i + 7) (by have := h4; omega) ((ceP7 h4) _) rfl 0 (by decide) (hN.1 _ (List.mem_of_getElem? (i := 11) rfl)) (v := .ref (g.1 (5 + 21 * i + 8))) rfl dX2_signal_34 ?_
      refine w_cVv (As := []) (rest := []) S hK hN hP hS hl (5 + 21 * i + 8) (by have := h4; omega) ((ceP8 h4) _) rfl (c_X3_empty l D g hg x32 hI35 (5 + 21 * i + 8) 64 (isRow8 h4)) (cwV 0 hts gX2_signal_X3_empty rfl rfl rfl (by decide +kernel) ⟨Nat.le_of_ble_eq_true rfl, Nat.le_of_ble_eq_true rfl⟩) rfl rfl (Nat.le_of_ble_eq_true rfl) dX2_signal_37 ⟨Nat.zero_le _, Nat.zero_le _⟩ (fun x41 H locs hq43 hP hS => ?_)
      obtain ⟨hI44, hT45, hf46⟩ := hq43
      have hT47 : Same (TC) x x41 := hT38.tr hT45 (fun c0 k0 h => by unfold TC TrC at h; unfold TR; omega)
      refine lv_aload_n S.1 S.2.1 dX2_signal_40 rfl (lv_at hl 0 rfl) ?_
      refine w_get (C := RX2) (T := TX2) (N := 15) S (fun _ h => List.mem_cons_of_mem _ (List.mem_append_left _ (List.mem_append_left _ (List.mem_append_left _ (List.mem_append_left _ (List.mem_append_left _ (List.mem_append_right _ h))))))) hK hP (5 + 21 * i) (by have := h4; omega) ((ceP0 h4) _) rfl 5 (by decide) (hts _ (List.mem_of_getElem? (i := 4) rfl)) (v := .ref (g.1 (5 + 21 * i + 12))) rfl dX2_signal_41 ?_
      refine lv_aload_n S.1 S.2.1 dX2_signal_44 rfl (lv_at hl 0 rfl) ?_
      refine w_get (C := RX2) (T := TX2) (N := 15) S (fun _ h => List.mem_cons_of_mem _ (List.mem_append_left _ (List.mem_append_left _ (List.mem_append_left _ (List.mem_append_left _ (List.mem_append_left _ (List.mem_append_right _ h))))))) hK hP (5 + 21 * i) (by have := h4; omega) ((ceP0 h4) _) rfl 4 (by decide) (hts _ (List.mem_of_getElem? (i := 3) rfl)) (v := .ref (g.1 (5 + 21 * i + 7))) rfl dX2_signal_45 ?_
      refine w_getN (C := RX1) (T := TX1) (N := 5) S (fun _ h => List.mem_cons_of_mem _ (List.mem_append_left _ (List.mem_append_left _ (List.mem_append_left _ (List.mem_append_left _ (List.mem_append_right _ h)))))) hK hP (5 + 21 * i + 7) (by have := h4; omega) ((ceP7 h4) _) rfl 1 (by decide) (hN.1 _ (List.mem_of_getElem? (i := 13) rfl)) (v := .ref (g.1 (5 + 21 * i + 10))) rfl dX2_signal_48 ?_
      refine w_getN (C := RX3) (T := TX3) (N := 3) S (fun _ h => List.mem_cons_of_mem _ (List.mem_append_left _ (List.mem_append_left _ (List.mem_append_left _ (List.mem_append_right _ h))))) hK hP (5 + 21 * i + 10) (by have := h4; omega) ((ceP10 h4) _) rfl 2 (by decide) (hN.1 _ (List.mem_of_getElem? (i := 6) rfl)) (v := .int (x41 (5 + 21 * i + 10) 2)) rfl dX2_signal_51 ?_
      refine lv_topi (fun v48 ev48 => ?_)
      have wv48 : v48.toInt = (x41 (5 + 21 * i + 10) 2).toInt := by rw [ev48]
      have rv48 : (0 : Int) ≤ v48.toInt ∧ v48.toInt ≤ (8 : Int) := by rw [ev48]; exact hI44.atP (j := 10) (k := 2) h4 (by decide)
      refine w_cVv (As := [.int v48]) (rest := []) S hK hN hP hS hl (5 + 21 * i + 12) (by have := h4; omega) ((ceP12 h4) _) rfl (c_X5_onlyLeft l D g hg x41 hI44 i h4 v48) (cwV 1 hts gX2_signal_X5_onlyLeft rfl rfl rfl (by decide +kernel) ⟨Nat.le_of_ble_eq_true rfl, Nat.le_of_ble_eq_true rfl⟩) rfl rfl (Nat.le_of_ble_eq_true rfl) dX2_signal_54 ⟨Nat.zero_le _, Nat.zero_le _⟩ (fun x49 H locs hq51 hP hS => ?_)
      obtain ⟨hI52, hT53, hf54⟩ := hq51
      have hT55 : Same (TC) x x49 := hT47.tr hT53 (fun _ _ h => h)
      exact J57 _ _ _ _ hI52 hT55 hP hS (lv_sub hl [0, 1, 2] rfl)
set_option maxRecDepth 100000 in
set_option maxHeartbeats 4000000 in
theorem c_X2_takeFlagged (l : Launch) (D : va_G) (g : GA) (hg : Inj g) (x : St) (hI : Inv x) (i : Nat) (h4 : i < 4) (br : Int32) : Met l yX2_takeFlagged wsX2_takeFlagged ({ frames := 4, cells := 0, slots := 0, locals := 87 } : Room) (va_Pc [.ref (g.1 (5 + 21 * i)), .int br] (WI D g x)) (va_Qv (fun x2 => Inv x2 ∧ Same TC x x2 ∧ True) (WO D g) (AQ g)) 0 0 (AQ g) := by
  refine w_met (cc := cX2_takeFlagged) (maxL := 2) (ret := none) (own := RX2) (by decide) rfl rfl (Nat.le_of_ble_eq_true rfl) (fun p e s m below meth co S hr0 hlk hK hN hP hS ls hl => ?_)
  have hts := S.2.2.2.2
  have hl : lv_has ls 2 [(0, .ref (g.1 (5 + 21 * i))), (1, .int br)] := hl
  have hT : Same (TC) x x := Same.rf
  have J40 : ∀ (H : Heap) (locs : List Loc) (ls : Array Slot), va_P D vwCl (WL g x) H → va_S (AQ g) s.heap H locs → lv_has ls 2 [(0, .ref (g.1 (5 + 21 * i))), (1, .int br)] → W p l e ({ frames := 4, cells := 0, slots := 0, locals := 87 } : Room) s m ([.ref (g.1 (5 + 21 * i)), .int br] : List Value).toArray below meth co H locs 0 0 (MQ below (va_Qv (fun x2 => Inv x2 ∧ Same TC x x2 ∧ True) (WO D g) (AQ g)) ([.ref (g.1 (5 + 21 * i)), .int br] : List Value).toArray s 0 0 (AQ g)) (F0 m 40 ls []) := by
    intro H locs ls hP hS hl
    refine lv_aload_n S.1 S.2.1 dX2_takeFlagged_40 rfl (lv_at hl 0 rfl) ?_
    refine w_iconst S dX2_takeFlagged_41 (by decide) (fun k1 hk1 => ?_)
    refine w_put (C := RX2) (T := TX2) (N := 15) (F := FPort g (5 + 21 * i)) S (fun _ h => List.mem_cons_of_mem _ (List.mem_append_left _ (List.mem_append_left _ (List.mem_append_left _ (List.mem_append_left _ (List.mem_append_left _ (List.mem_append_right _ h))))))) tyX2_ok nmX2 hK hg hP hS (5 + 21 * i) (by have := h4; omega) (ceP0 h4) rfl 9 (by decide) (hts _ (List.mem_of_getElem? (i := 2) rfl)) rfl (tz_narrow (z01 (by omega) (by omega))) (tz_fits (z01 (by omega) (by omega))) (fun _ => Nat.le_of_ble_eq_true rfl) (fun _ => rfl) dX2_takeFlagged_42 (fun x2 H locs ex2 hP hS => ?_)
    have hI3 : Inv x2 := by rw [ex2]; exact hI.upP0 h4 (show (0 : Int) ≤ _ by omega) (show _ ≤ (1 : Int) by omega)
    have hT4 : Same (TC) x x2 := by rw [ex2]; exact hT.up (by unfold TC TrC; omega)
    refine lv_aload_n S.1 S.2.1 dX2_takeFlagged_45 rfl (lv_at hl 0 rfl) ?_
    refine w_iconst S dX2_takeFlagged_46 (by decide) (fun k5 hk5 => ?_)
    refine w_cVv (As := [.int k5]) (rest := []) S hK hN hP hS hl (5 + 21 * i) (by have := h4; omega) ((ceP0 h4) _) rfl (c_X2_keepAndEcho l D g hg x2 hI3 i h4 k5) (cwV 1 hts gX2_takeFlagged_X2_keepAndEcho rfl rfl rfl (by decide +kernel) ⟨Nat.le_of_ble_eq_true rfl, Nat.le_of_ble_eq_true rfl⟩) rfl rfl (Nat.le_of_ble_eq_true rfl) dX2_takeFlagged_47 ⟨Nat.zero_le _, Nat.zero_le _⟩ (fun x6 H locs hq8 hP hS => ?_)
    obtain ⟨hI9, hT10, hf11⟩ := hq8
    have hT12 : Same (TC) x x6 := hT4.tr hT10 (fun _ _ h => h)
    refine lv_goto (tgt := 63) S.1 S.2.1 dX2_takeFlagged_50 (by decide) ?_
    exact w_vret S hr0 hlk hP hS dX2_takeFlagged_63 (⟨hI9, hT12, trivial⟩)
  have J27 : ∀ (H : Heap) (locs : List Loc) (ls : Array Slot), va_P D vwCl (WL g x) H → va_S (AQ g) s.heap H locs → lv_has ls 2 [(0, .ref (g.1 (5 + 21 * i))), (1, .int br)] → W p l e ({ frames := 4, cells := 0, slots := 0, locals := 87 } : Room) s m ([.ref (g.1 (5 + 21 * i)), .int br] : List Value).toArray below meth co H locs 0 0 (MQ below (va_Qv (fun x2 => Inv x2 ∧ Same TC x x2 ∧ True) (WO D g) (AQ g)) ([.ref (g.1 (5 + 21 * i)), .int br] : List Value).toArray s 0 0 (AQ g)) (F0 m 27 ls []) := by
    intro H locs ls hP hS hl
    refine lv_iload_n S.1 S.2.1 dX2_takeFlagged_27 rfl (lv_at hl 1 rfl) ?_
    refine w_if_ne (tgt := 40) S dX2_takeFlagged_28 (by decide) (fun hb13 => ?_) (fun hb13 => ?_)
    · exact J40 _ _ _ hP hS (lv_sub hl [0, 1] rfl)
    · refine lv_aload_n S.1 S.2.1 dX2_takeFlagged_31 rfl (lv_at hl 0 rfl) ?_
      refine w_bipush S dX2_takeFlagged_32 (by decide) (fun k14 hk14 => ?_)
      refine w_cVi (As := [.int k14]) (rest := []) S hK hN hP hS hl (5 + 21 * i) (by have := h4; omega) ((ceP0 h4) _) rfl (c_X2_isOn l D g hg x hI i h4 k14 (by omega)) (cwV 1 hts gX2_takeFlagged_X2_isOn rfl rfl rfl (by decide +kernel) ⟨Nat.le_of_ble_eq_true rfl, Nat.le_of_ble_eq_true rfl⟩) rfl rfl (Nat.le_of_ble_eq_true rfl) dX2_takeFlagged_34 ⟨Nat.zero_le _, Nat.zero_le _⟩ (fun r16 x15 H locs hq17 hP hS => ?_)
      obtain ⟨ex18, hf19⟩ := hq17
      rw [ex18] at hP
      refine w_if_eq (tgt := 53) S dX2_takeFlagged_37 (by decide) (fun hb20 => ?_) (fun hb20 => ?_)
      · refine lv_aload_n S.1 S.2.1 dX2_takeFlagged_53 rfl (lv_at hl 0 rfl) ?_
        refine w_get (C := RX2) (T := TX2) (N := 15) S (fun _ h => List.mem_cons_of_mem _ (List.mem_append_left _ (List.mem_append_left _ (List.mem_append_left _ (List.mem_append_left _ (List.mem_append_left _ (List.mem_append_right _ h))))))) hK hP (5 + 21 * i) (by have := h4; omega) ((ceP0 h4) _) rfl 8 (by decide) (hts _ (List.mem_of_getElem? (i := 3) rfl)) (v := .ref (g.1 (5 + 21 * i + 20))) rfl dX2_takeFlagged_54 ?_
        refine w_iconst S dX2_takeFlagged_57 (by decide) (fun k21 hk21 => ?_)
        refine lv_dup2_11 S.1 S.2.1 dX2_takeFlagged_58 rfl rfl ?_
        refine w_iald S hK hP (5 + 21 * i + 20) (by have := h4; omega) (ceP20 h4) (by omega) (by omega) dX2_takeFlagged_59 (fun v22 ev22 => ?_)
        have wv22 : v22.toInt = (x (5 + 21 * i + 20) k21.toInt.toNat).toInt := by rw [ev22]
        refine w_iconst S dX2_takeFlagged_60 (by decide) (fun k23 hk23 => ?_)
        refine lv_iadd S.1 S.2.1 dX2_takeFlagged_61 ?_
        refine w_any1 (fun v24 => ?_)
        refine w_iast S hK hg hP hS (5 + 21 * i + 20) (by have := h4; omega) (ceP20 h4) (by omega) (by omega) dX2_takeFlagged_62 (fun x25 H locs ex25 hP hS => ?_)
        have hI26 : Inv x25 := by rw [ex25]; exact hI.upP (j := 20) h4 (by decide) (i_ge _) (i_le _)
        have hT27 : Same (TC) x x25 := by rw [ex25]; exact hT.up (by unfold TC TrC; omega)
        exact w_vret S hr0 hlk hP hS dX2_takeFlagged_63 (⟨hI26, hT27, trivial⟩)
      · exact J40 _ _ _ hP hS (lv_sub hl [0, 1] rfl)
  refine lv_iload_n S.1 S.2.1 dX2_takeFlagged_0 rfl (lv_at hl 1 rfl) ?_
  refine w_if_eq (tgt := 27) S dX2_takeFlagged_1 (by decide) (fun hb28 => ?_) (fun hb28 => ?_)
  · exact J27 _ _ _ hP hS (lv_sub hl [0, 1] rfl)
  · refine lv_aload_n S.1 S.2.1 dX2_takeFlagged_4 rfl (lv_at hl 0 rfl) ?_
    refine w_iconst S dX2_takeFlagged_5 (by decide) (fun k29 hk29 => ?_)
    refine w_cVi (As := [.int k29]) (rest := []) S hK hN hP hS hl (5 + 21 * i) (by have := h4; omega) ((ceP0 h4) _) rfl (c_X2_isOn l D g hg x hI i h4 k29 (by omega)) (cwV 1 hts gX2_takeFlagged_X2_isOn rfl rfl rfl (by decide +kernel) ⟨Nat.le_of_ble_eq_true rfl, Nat.le_of_ble_eq_true rfl⟩) rfl rfl (Nat.le_of_ble_eq_true rfl) dX2_takeFlagged_6 ⟨Nat.zero_le _, Nat.zero_le _⟩ (fun r31 x30 H locs hq32 hP hS => ?_)
    obtain ⟨ex33, hf34⟩ := hq32
    rw [ex33] at hP
    refine w_if_eq (tgt := 27) S dX2_takeFlagged_9 (by decide) (fun hb35 => ?_) (fun hb35 => ?_)
    · exact J27 _ _ _ hP hS (lv_sub hl [0, 1] rfl)
    · refine lv_aload_n S.1 S.2.1 dX2_takeFlagged_12 rfl (lv_at hl 0 rfl) ?_
      refine w_iconst S dX2_takeFlagged_13 (by decide) (fun k36 hk36 => ?_)
      refine lv_aload_n S.1 S.2.1 dX2_takeFlagged_14 rfl (lv_at hl 0 rfl) ?_
      refine w_get (C := RX2) (T := TX2) (N := 15) S (fun _ h => List.mem_cons_of_mem _ (List.mem_append_left _ (List.mem_append_left _ (List.mem_append_left _ (List.mem_append_left _ (List.mem_append_left _ (List.mem_append_right _ h))))))) hK hP (5 + 21 * i) (by have := h4; omega) ((ceP0 h4) _) rfl 1 (by decide) (hts _ (List.mem_of_getElem? (i := 1) rfl)) (v := .ref (g.1 (5 + 21 * i + 1))) rfl dX2_takeFlagged_15 ?_
      refine w_bipush S dX2_takeFlagged_18 (by decide) (fun k37 hk37 => ?_)
      refine w_iald S hK hP (5 + 21 * i + 1) (by have := h4; omega) (ceP1 h4) (by omega) (by omega) dX2_takeFlagged_20 (fun v38 ev38 => ?_)
      have wv38 : v38.toInt = (x (5 + 21 * i + 1) k37.toInt.toNat).toInt := by rw [ev38]
      refine w_cVv (As := [.int k36, .int v38]) (rest := []) S hK hN hP hS hl (5 + 21 * i) (by have := h4; omega) ((ceP0 h4) _) rfl (c_X2_signal l D g hg x hI i h4 k36 v38) (cwV 2 hts gX2_takeFlagged_X2_signal rfl rfl rfl (by decide +kernel) ⟨Nat.le_of_ble_eq_true rfl, Nat.le_of_ble_eq_true rfl⟩) rfl rfl (Nat.le_of_ble_eq_true rfl) dX2_takeFlagged_21 ⟨Nat.zero_le _, Nat.zero_le _⟩ (fun x39 H locs hq41 hP hS => ?_)
      obtain ⟨hI42, hT43, hf44⟩ := hq41
      have hT45 : Same (TC) x x39 := hT.tr hT43 (fun _ _ h => h)
      refine lv_goto (tgt := 63) S.1 S.2.1 dX2_takeFlagged_24 (by decide) ?_
      exact w_vret S hr0 hlk hP hS dX2_takeFlagged_63 (⟨hI42, hT45, trivial⟩)
set_option maxRecDepth 100000 in
set_option maxHeartbeats 4000000 in
theorem c_X2_settledAsFlow (l : Launch) (D : va_G) (g : GA) (hg : Inj g) (x : St) (hI : Inv x) (i : Nat) (h4 : i < 4) (b : Int32) : Met l yX2_settledAsFlow wsX2_settledAsFlow ({ frames := 1, cells := 0, slots := 0, locals := 21 } : Room) (va_Pc [.ref (g.1 (5 + 21 * i)), .int b] (WI D g x)) (va_Qi (fun r x2 => Inv x2 ∧ Same TC x x2 ∧ (0 ≤ r.toInt ∧ r.toInt ≤ 1)) (WO D g) (AQ g)) 0 0 (AQ g) := by
  refine w_met (cc := cX2_settledAsFlow) (maxL := 2) (ret := (some .boolean)) (own := RX2) (by decide) rfl rfl (Nat.le_of_ble_eq_true rfl) (fun p e s m below meth co S hr0 hlk hK hN hP hS ls hl => ?_)
  have hts := S.2.2.2.2
  have hl : lv_has ls 2 [(0, .ref (g.1 (5 + 21 * i))), (1, .int b)] := hl
  have hT : Same (TC) x x := Same.rf
  refine lv_aload_n S.1 S.2.1 dX2_settledAsFlow_0 rfl (lv_at hl 0 rfl) ?_
  refine w_iconst S dX2_settledAsFlow_1 (by decide) (fun k1 hk1 => ?_)
  refine w_cVi (As := [.int k1]) (rest := []) S hK hN hP hS hl (5 + 21 * i) (by have := h4; omega) ((ceP0 h4) _) rfl (c_X2_isOn l D g hg x hI i h4 k1 (by omega)) (cwV 1 hts gX2_settledAsFlow_X2_isOn rfl rfl rfl (by decide +kernel) ⟨Nat.le_of_ble_eq_true rfl, Nat.le_of_ble_eq_true rfl⟩) rfl rfl (Nat.le_of_ble_eq_true rfl) dX2_settledAsFlow_2 ⟨Nat.zero_le _, Nat.zero_le _⟩ (fun r3 x2 H locs hq4 hP hS => ?_)
  obtain ⟨ex5, hf6⟩ := hq4
  rw [ex5] at hP
  refine w_if_ne (tgt := 10) S dX2_settledAsFlow_5 (by decide) (fun hb7 => ?_) (fun hb7 => ?_)
  · refine lv_iload_n S.1 S.2.1 dX2_settledAsFlow_10 rfl (lv_at hl 1 rfl) ?_
    refine lv_aload_n S.1 S.2.1 dX2_settledAsFlow_11 rfl (lv_at hl 0 rfl) ?_
    refine w_get (C := RX2) (T := TX2) (N := 15) S (fun _ h => List.mem_cons_of_mem _ (List.mem_append_left _ (List.mem_append_right _ h))) hK hP (5 + 21 * i) (by have := h4; omega) ((ceP0 h4) _) rfl 1 (by decide) (hts _ (List.mem_of_getElem? (i := 1) rfl)) (v := .ref (g.1 (5 + 21 * i + 1))) rfl dX2_settledAsFlow_12 ?_
    refine w_bipush S dX2_settledAsFlow_15 (by decide) (fun k8 hk8 => ?_)
    refine w_iald S hK hP (5 + 21 * i + 1) (by have := h4; omega) (ceP1 h4) (by omega) (by omega) dX2_settledAsFlow_17 (fun v9 ev9 => ?_)
    have wv9 : v9.toInt = (x (5 + 21 * i + 1) k8.toInt.toNat).toInt := by rw [ev9]
    refine w_icmp_ne (tgt := 31) S dX2_settledAsFlow_18 (by decide) (fun hb10 => ?_) (fun hb10 => ?_)
    · refine lv_iload_n S.1 S.2.1 dX2_settledAsFlow_31 rfl (lv_at hl 1 rfl) ?_
      refine lv_aload_n S.1 S.2.1 dX2_settledAsFlow_32 rfl (lv_at hl 0 rfl) ?_
      refine w_get (C := RX2) (T := TX2) (N := 15) S (fun _ h => List.mem_cons_of_mem _ (List.mem_append_left _ (List.mem_append_right _ h))) hK hP (5 + 21 * i) (by have := h4; omega) ((ceP0 h4) _) rfl 1 (by decide) (hts _ (List.mem_of_getElem? (i := 1) rfl)) (v := .ref (g.1 (5 + 21 * i + 1))) rfl dX2_settledAsFlow_33 ?_
      refine w_bipush S dX2_settledAsFlow_36 (by decide) (fun k11 hk11 => ?_)
      refine w_iald S hK hP (5 + 21 * i + 1) (by have := h4; omega) (ceP1 h4) (by omega) (by omega) dX2_settledAsFlow_38 (fun v12 ev12 => ?_)
      have wv12 : v12.toInt = (x (5 + 21 * i + 1) k11.toInt.toNat).toInt := by rw [ev12]
      refine w_icmp_ne (tgt := 52) S dX2_settledAsFlow_39 (by decide) (fun hb13 => ?_) (fun hb13 => ?_)
      · refine lv_aload_n S.1 S.2.1 dX2_settledAsFlow_52 rfl (lv_at hl 0 rfl) ?_
        refine w_iconst S dX2_settledAsFlow_53 (by decide) (fun k14 hk14 => ?_)
        refine w_cVi (As := [.int k14]) (rest := []) S hK hN hP hS hl (5 + 21 * i) (by have := h4; omega) ((ceP0 h4) _) rfl (c_X2_isOn l D g hg x hI i h4 k14 (by omega)) (cwV 1 hts gX2_settledAsFlow_X2_isOn rfl rfl rfl (by decide +kernel) ⟨Nat.le_of_ble_eq_true rfl, Nat.le_of_ble_eq_true rfl⟩) rfl rfl (Nat.le_of_ble_eq_true rfl) dX2_settledAsFlow_54 ⟨Nat.zero_le _, Nat.zero_le _⟩ (fun r16 x15 H locs hq17 hP hS => ?_)
        obtain ⟨ex18, hf19⟩ := hq17
        rw [ex18] at hP
        refine w_if_eq (tgt := 68) S dX2_settledAsFlow_57 (by decide) (fun hb20 => ?_) (fun hb20 => ?_)
        · refine w_iconst S dX2_settledAsFlow_68 (by decide) (fun k21 hk21 => ?_)
          exact w_zret S hr0 hlk hP hS dX2_settledAsFlow_69 (z01 (by omega) (by omega)) (⟨hI, hT, by omega⟩)
        · refine lv_aload_n S.1 S.2.1 dX2_settledAsFlow_60 rfl (lv_at hl 0 rfl) ?_
          refine w_get (C := RX2) (T := TX2) (N := 15) S (fun _ h => List.mem_cons_of_mem _ (List.mem_append_left _ (List.mem_append_right _ h))) hK hP (5 + 21 * i) (by have := h4; omega) ((ceP0 h4) _) rfl 4 (by decide) (hts _ (List.mem_of_getElem? (i := 2) rfl)) (v := .ref (g.1 (5 + 21 * i + 7))) rfl dX2_settledAsFlow_61 ?_
          refine w_iconst S dX2_settledAsFlow_64 (by decide) (fun k22 hk22 => ?_)
          refine w_putN (C := RX1) (T := TX1) (N := 5) (F := FOut g (5 + 21 * i)) S (fun _ h => List.mem_cons_of_mem _ (List.mem_append_right _ h)) tyX1_ok nmX1 hK hg hP hS (5 + 21 * i + 7) (by have := h4; omega) (ceP7 h4) rfl 3 (by decide) (hN.1 _ (List.mem_of_getElem? (i := 16) rfl)) rfl (tz_narrow (z01 (by omega) (by omega))) (tz_fits (z01 (by omega) (by omega))) (fun _ => Nat.le_of_ble_eq_true rfl) (fun _ => rfl) dX2_settledAsFlow_65 (fun x23 H locs ex23 hP hS => ?_)
          have hI24 : Inv x23 := by rw [ex23]; exact hI.upP (j := 7) h4 (by decide) (show (0 : Int) ≤ _ by omega) (show _ ≤ (1 : Int) by omega)
          have hT25 : Same (TC) x x23 := by rw [ex23]; exact hT.up (by unfold TC TrC; omega)
          refine w_iconst S dX2_settledAsFlow_68 (by decide) (fun k26 hk26 => ?_)
          exact w_zret S hr0 hlk hP hS dX2_settledAsFlow_69 (z01 (by omega) (by omega)) (⟨hI24, hT25, by omega⟩)
      · refine lv_aload_n S.1 S.2.1 dX2_settledAsFlow_42 rfl (lv_at hl 0 rfl) ?_
        refine w_get (C := RX2) (T := TX2) (N := 15) S (fun _ h => List.mem_cons_of_mem _ (List.mem_append_left _ (List.mem_append_right _ h))) hK hP (5 + 21 * i) (by have := h4; omega) ((ceP0 h4) _) rfl 4 (by decide) (hts _ (List.mem_of_getElem? (i := 2) rfl)) (v := .ref (g.1 (5 + 21 * i + 7))) rfl dX2_settledAsFlow_43 ?_
        refine w_iconst S dX2_settledAsFlow_46 (by decide) (fun k27 hk27 => ?_)
        refine w_putN (C := RX1) (T := TX1) (N := 5) (F := FOut g (5 + 21 * i)) S (fun _ h => List.mem_cons_of_mem _ (List.mem_append_right _ h)) tyX1_ok nmX1 hK hg hP hS (5 + 21 * i + 7) (by have := h4; omega) (ceP7 h4) rfl 3 (by decide) (hN.1 _ (List.mem_of_getElem? (i := 16) rfl)) rfl (tz_narrow (z01 (by omega) (by omega))) (tz_fits (z01 (by omega) (by omega))) (fun _ => Nat.le_of_ble_eq_true rfl) (fun _ => rfl) dX2_settledAsFlow_47 (fun x28 H locs ex28 hP hS => ?_)
        have hI29 : Inv x28 := by rw [ex28]; exact hI.upP (j := 7) h4 (by decide) (show (0 : Int) ≤ _ by omega) (show _ ≤ (1 : Int) by omega)
        have hT30 : Same (TC) x x28 := by rw [ex28]; exact hT.up (by unfold TC TrC; omega)
        refine w_iconst S dX2_settledAsFlow_50 (by decide) (fun k31 hk31 => ?_)
        exact w_zret S hr0 hlk hP hS dX2_settledAsFlow_51 (z01 (by omega) (by omega)) (⟨hI29, hT30, by omega⟩)
    · refine lv_aload_n S.1 S.2.1 dX2_settledAsFlow_21 rfl (lv_at hl 0 rfl) ?_
      refine w_get (C := RX2) (T := TX2) (N := 15) S (fun _ h => List.mem_cons_of_mem _ (List.mem_append_left _ (List.mem_append_right _ h))) hK hP (5 + 21 * i) (by have := h4; omega) ((ceP0 h4) _) rfl 4 (by decide) (hts _ (List.mem_of_getElem? (i := 2) rfl)) (v := .ref (g.1 (5 + 21 * i + 7))) rfl dX2_settledAsFlow_22 ?_
      refine w_iconst S dX2_settledAsFlow_25 (by decide) (fun k32 hk32 => ?_)
      refine w_putN (C := RX1) (T := TX1) (N := 5) (F := FOut g (5 + 21 * i)) S (fun _ h => List.mem_cons_of_mem _ (List.mem_append_right _ h)) tyX1_ok nmX1 hK hg hP hS (5 + 21 * i + 7) (by have := h4; omega) (ceP7 h4) rfl 3 (by decide) (hN.1 _ (List.mem_of_getElem? (i := 16) rfl)) rfl (tz_narrow (z01 (by omega) (by omega))) (tz_fits (z01 (by omega) (by omega))) (fun _ => Nat.le_of_ble_eq_true rfl) (fun _ => rfl) dX2_settledAsFlow_26 (fun x33 H locs ex33 hP hS => ?_)
      have hI34 : Inv x33 := by rw [ex33]; exact hI.upP (j := 7) h4 (by decide) (show (0 : Int) ≤ _ by omega) (show _ ≤ (1 : Int) by omega)
      have hT35 : Same (TC) x x33 := by rw [ex33]; exact hT.up (by unfold TC TrC; omega)
      refine w_iconst S dX2_settledAsFlow_29 (by decide) (fun k36 hk36 => ?_)
      exact w_zret S hr0 hlk hP hS dX2_settledAsFlow_30 (z01 (by omega) (by omega)) (⟨hI34, hT35, by omega⟩)
  · refine w_iconst S dX2_settledAsFlow_8 (by decide) (fun k37 hk37 => ?_)
    exact w_zret S hr0 hlk hP hS dX2_settledAsFlow_9 (z01 (by omega) (by omega)) (⟨hI, hT, by omega⟩)
set_option maxRecDepth 100000 in
set_option maxHeartbeats 4000000 in
theorem c_X2_settledAsSignal (l : Launch) (D : va_G) (g : GA) (hg : Inj g) (x : St) (hI : Inv x) (i : Nat) (h4 : i < 4) (b : Int32) : Met l yX2_settledAsSignal wsX2_settledAsSignal ({ frames := 4, cells := 0, slots := 0, locals := 87 } : Room) (va_Pc [.ref (g.1 (5 + 21 * i)), .int b] (WI D g x)) (va_Qi (fun r x2 => Inv x2 ∧ Same TC x x2 ∧ (0 ≤ r.toInt ∧ r.toInt ≤ 1)) (WO D g) (AQ g)) 0 0 (AQ g) := by
  refine w_met (cc := cX2_settledAsSignal) (maxL := 2) (ret := (some .boolean)) (own := RX2) (by decide) rfl rfl (Nat.le_of_ble_eq_true rfl) (fun p e s m below meth co S hr0 hlk hK hN hP hS ls hl => ?_)
  have hts := S.2.2.2.2
  have hl : lv_has ls 2 [(0, .ref (g.1 (5 + 21 * i))), (1, .int b)] := hl
  have hT : Same (TC) x x := Same.rf
  refine lv_aload_n S.1 S.2.1 dX2_settledAsSignal_0 rfl (lv_at hl 0 rfl) ?_
  refine w_iconst S dX2_settledAsSignal_1 (by decide) (fun k1 hk1 => ?_)
  refine w_cVi (As := [.int k1]) (rest := []) S hK hN hP hS hl (5 + 21 * i) (by have := h4; omega) ((ceP0 h4) _) rfl (c_X2_isOn l D g hg x hI i h4 k1 (by omega)) (cwV 1 hts gX2_settledAsSignal_X2_isOn rfl rfl rfl (by decide +kernel) ⟨Nat.le_of_ble_eq_true rfl, Nat.le_of_ble_eq_true rfl⟩) rfl rfl (Nat.le_of_ble_eq_true rfl) dX2_settledAsSignal_2 ⟨Nat.zero_le _, Nat.zero_le _⟩ (fun r3 x2 H locs hq4 hP hS => ?_)
  obtain ⟨ex5, hf6⟩ := hq4
  rw [ex5] at hP
  refine w_if_ne (tgt := 10) S dX2_settledAsSignal_5 (by decide) (fun hb7 => ?_) (fun hb7 => ?_)
  · refine lv_iload_n S.1 S.2.1 dX2_settledAsSignal_10 rfl (lv_at hl 1 rfl) ?_
    refine lv_aload_n S.1 S.2.1 dX2_settledAsSignal_11 rfl (lv_at hl 0 rfl) ?_
    refine w_get (C := RX2) (T := TX2) (N := 15) S (fun _ h => List.mem_cons_of_mem _ (List.mem_append_left _ (List.mem_append_left _ (List.mem_append_left _ (List.mem_append_left _ (List.mem_append_left _ (List.mem_append_right _ h))))))) hK hP (5 + 21 * i) (by have := h4; omega) ((ceP0 h4) _) rfl 1 (by decide) (hts _ (List.mem_of_getElem? (i := 1) rfl)) (v := .ref (g.1 (5 + 21 * i + 1))) rfl dX2_settledAsSignal_12 ?_
    refine w_bipush S dX2_settledAsSignal_15 (by decide) (fun k8 hk8 => ?_)
    refine w_iald S hK hP (5 + 21 * i + 1) (by have := h4; omega) (ceP1 h4) (by omega) (by omega) dX2_settledAsSignal_17 (fun v9 ev9 => ?_)
    have wv9 : v9.toInt = (x (5 + 21 * i + 1) k8.toInt.toNat).toInt := by rw [ev9]
    refine w_icmp_ne (tgt := 30) S dX2_settledAsSignal_18 (by decide) (fun hb10 => ?_) (fun hb10 => ?_)
    · refine lv_iload_n S.1 S.2.1 dX2_settledAsSignal_30 rfl (lv_at hl 1 rfl) ?_
      refine lv_aload_n S.1 S.2.1 dX2_settledAsSignal_31 rfl (lv_at hl 0 rfl) ?_
      refine w_get (C := RX2) (T := TX2) (N := 15) S (fun _ h => List.mem_cons_of_mem _ (List.mem_append_left _ (List.mem_append_left _ (List.mem_append_left _ (List.mem_append_left _ (List.mem_append_left _ (List.mem_append_right _ h))))))) hK hP (5 + 21 * i) (by have := h4; omega) ((ceP0 h4) _) rfl 1 (by decide) (hts _ (List.mem_of_getElem? (i := 1) rfl)) (v := .ref (g.1 (5 + 21 * i + 1))) rfl dX2_settledAsSignal_32 ?_
      refine w_bipush S dX2_settledAsSignal_35 (by decide) (fun k11 hk11 => ?_)
      refine w_iald S hK hP (5 + 21 * i + 1) (by have := h4; omega) (ceP1 h4) (by omega) (by omega) dX2_settledAsSignal_37 (fun v12 ev12 => ?_)
      have wv12 : v12.toInt = (x (5 + 21 * i + 1) k11.toInt.toNat).toInt := by rw [ev12]
      refine w_icmp_ne (tgt := 50) S dX2_settledAsSignal_38 (by decide) (fun hb13 => ?_) (fun hb13 => ?_)
      · refine lv_iload_n S.1 S.2.1 dX2_settledAsSignal_50 rfl (lv_at hl 1 rfl) ?_
        refine lv_aload_n S.1 S.2.1 dX2_settledAsSignal_51 rfl (lv_at hl 0 rfl) ?_
        refine w_get (C := RX2) (T := TX2) (N := 15) S (fun _ h => List.mem_cons_of_mem _ (List.mem_append_left _ (List.mem_append_left _ (List.mem_append_left _ (List.mem_append_left _ (List.mem_append_left _ (List.mem_append_right _ h))))))) hK hP (5 + 21 * i) (by have := h4; omega) ((ceP0 h4) _) rfl 1 (by decide) (hts _ (List.mem_of_getElem? (i := 1) rfl)) (v := .ref (g.1 (5 + 21 * i + 1))) rfl dX2_settledAsSignal_52 ?_
        refine w_bipush S dX2_settledAsSignal_55 (by decide) (fun k14 hk14 => ?_)
        refine w_iald S hK hP (5 + 21 * i + 1) (by have := h4; omega) (ceP1 h4) (by omega) (by omega) dX2_settledAsSignal_57 (fun v15 ev15 => ?_)
        have wv15 : v15.toInt = (x (5 + 21 * i + 1) k14.toInt.toNat).toInt := by rw [ev15]
        refine w_icmp_ne (tgt := 70) S dX2_settledAsSignal_58 (by decide) (fun hb16 => ?_) (fun hb16 => ?_)
        · refine w_iconst S dX2_settledAsSignal_70 (by decide) (fun k17 hk17 => ?_)
          exact w_zret S hr0 hlk hP hS dX2_settledAsSignal_71 (z01 (by omega) (by omega)) (⟨hI, hT, by omega⟩)
        · refine lv_aload_n S.1 S.2.1 dX2_settledAsSignal_61 rfl (lv_at hl 0 rfl) ?_
          refine w_iconst S dX2_settledAsSignal_62 (by decide) (fun k18 hk18 => ?_)
          refine lv_iload_n S.1 S.2.1 dX2_settledAsSignal_63 rfl (lv_at hl 1 rfl) ?_
          refine w_cVv (As := [.int k18, .int b]) (rest := []) S hK hN hP hS hl (5 + 21 * i) (by have := h4; omega) ((ceP0 h4) _) rfl (c_X2_signal l D g hg x hI i h4 k18 b) (cwV 2 hts gX2_settledAsSignal_X2_signal rfl rfl rfl (by decide +kernel) ⟨Nat.le_of_ble_eq_true rfl, Nat.le_of_ble_eq_true rfl⟩) rfl rfl (Nat.le_of_ble_eq_true rfl) dX2_settledAsSignal_64 ⟨Nat.zero_le _, Nat.zero_le _⟩ (fun x19 H locs hq21 hP hS => ?_)
          obtain ⟨hI22, hT23, hf24⟩ := hq21
          have hT25 : Same (TC) x x19 := hT.tr hT23 (fun _ _ h => h)
          refine lv_goto (tgt := 72) S.1 S.2.1 dX2_settledAsSignal_67 (by decide) ?_
          refine w_iconst S dX2_settledAsSignal_72 (by decide) (fun k26 hk26 => ?_)
          exact w_zret S hr0 hlk hP hS dX2_settledAsSignal_73 (z01 (by omega) (by omega)) (⟨hI22, hT25, by omega⟩)
      · refine lv_aload_n S.1 S.2.1 dX2_settledAsSignal_41 rfl (lv_at hl 0 rfl) ?_
        refine w_iconst S dX2_settledAsSignal_42 (by decide) (fun k27 hk27 => ?_)
        refine lv_iload_n S.1 S.2.1 dX2_settledAsSignal_43 rfl (lv_at hl 1 rfl) ?_
        refine w_cVv (As := [.int k27, .int b]) (rest := []) S hK hN hP hS hl (5 + 21 * i) (by have := h4; omega) ((ceP0 h4) _) rfl (c_X2_signal l D g hg x hI i h4 k27 b) (cwV 2 hts gX2_settledAsSignal_X2_signal rfl rfl rfl (by decide +kernel) ⟨Nat.le_of_ble_eq_true rfl, Nat.le_of_ble_eq_true rfl⟩) rfl rfl (Nat.le_of_ble_eq_true rfl) dX2_settledAsSignal_44 ⟨Nat.zero_le _, Nat.zero_le _⟩ (fun x28 H locs hq30 hP hS => ?_)
        obtain ⟨hI31, hT32, hf33⟩ := hq30
        have hT34 : Same (TC) x x28 := hT.tr hT32 (fun _ _ h => h)
        refine lv_goto (tgt := 72) S.1 S.2.1 dX2_settledAsSignal_47 (by decide) ?_
        refine w_iconst S dX2_settledAsSignal_72 (by decide) (fun k35 hk35 => ?_)
        exact w_zret S hr0 hlk hP hS dX2_settledAsSignal_73 (z01 (by omega) (by omega)) (⟨hI31, hT34, by omega⟩)
    · refine lv_aload_n S.1 S.2.1 dX2_settledAsSignal_21 rfl (lv_at hl 0 rfl) ?_
      refine w_iconst S dX2_settledAsSignal_22 (by decide) (fun k36 hk36 => ?_)
      refine lv_iload_n S.1 S.2.1 dX2_settledAsSignal_23 rfl (lv_at hl 1 rfl) ?_
      refine w_cVv (As := [.int k36, .int b]) (rest := []) S hK hN hP hS hl (5 + 21 * i) (by have := h4; omega) ((ceP0 h4) _) rfl (c_X2_signal l D g hg x hI i h4 k36 b) (cwV 2 hts gX2_settledAsSignal_X2_signal rfl rfl rfl (by decide +kernel) ⟨Nat.le_of_ble_eq_true rfl, Nat.le_of_ble_eq_true rfl⟩) rfl rfl (Nat.le_of_ble_eq_true rfl) dX2_settledAsSignal_24 ⟨Nat.zero_le _, Nat.zero_le _⟩ (fun x37 H locs hq39 hP hS => ?_)
      obtain ⟨hI40, hT41, hf42⟩ := hq39
      have hT43 : Same (TC) x x37 := hT.tr hT41 (fun _ _ h => h)
      refine lv_goto (tgt := 72) S.1 S.2.1 dX2_settledAsSignal_27 (by decide) ?_
      refine w_iconst S dX2_settledAsSignal_72 (by decide) (fun k44 hk44 => ?_)
      exact w_zret S hr0 hlk hP hS dX2_settledAsSignal_73 (z01 (by omega) (by omega)) (⟨hI40, hT43, by omega⟩)
  · refine w_iconst S dX2_settledAsSignal_8 (by decide) (fun k45 hk45 => ?_)
    exact w_zret S hr0 hlk hP hS dX2_settledAsSignal_9 (z01 (by omega) (by omega)) (⟨hI, hT, by omega⟩)
set_option maxRecDepth 100000 in
set_option maxHeartbeats 4000000 in
theorem c_X2_takeAway (l : Launch) (D : va_G) (g : GA) (hg : Inj g) (x : St) (hI : Inv x) (i : Nat) (h4 : i < 4) (k : Int32) : Met l yX2_takeAway wsX2_takeAway ({ frames := 3, cells := 0, slots := 0, locals := 65 } : Room) (va_Pc [.ref (g.1 (5 + 21 * i)), .int k] (WI D g x)) (va_Qv (fun x2 => Inv x2 ∧ Same TC x x2 ∧ True) (WO D g) (AQ g)) 0 0 (AQ g) := by
  refine w_met (cc := cX2_takeAway) (maxL := 5) (ret := none) (own := RX2) (by decide) rfl rfl (Nat.le_of_ble_eq_true rfl) (fun p e s m below meth co S hr0 hlk hK hN hP hS ls hl => ?_)
  have hts := S.2.2.2.2
  have hl : lv_has ls 5 [(0, .ref (g.1 (5 + 21 * i))), (1, .int k)] := hl
  have hT : Same (TC) x x := Same.rf
  have J2 : ∀ (n0 : Nat) (x_2 : St) (H : Heap) (locs : List Loc) (ls : Array Slot) (y2_2 : Int32), Inv x_2 → Same (TC) x x_2 → (0 ≤ y2_2.toInt) → (k.toInt - y2_2.toInt).toNat < n0 → va_P D vwCl (WL g x_2) H → va_S (AQ g) s.heap H locs → lv_has ls 5 [(0, .ref (g.1 (5 + 21 * i))), (1, .int k), (2, .int y2_2)] → W p l e ({ frames := 3, cells := 0, slots := 0, locals := 65 } : Room) s m ([.ref (g.1 (5 + 21 * i)), .int k] : List Value).toArray below meth co H locs 0 0 (MQ below (va_Qv (fun x2 => Inv x2 ∧ Same TC x x2 ∧ True) (WO D g) (AQ g)) ([.ref (g.1 (5 + 21 * i)), .int k] : List Value).toArray s 0 0 (AQ g)) (F0 m 2 ls []) := by
    intro n0
    induction n0 with
    | zero => intro x_2 H locs ls y2_2 hI_2 hT_2 hf2_0 hm_2 hP hS hl; exact absurd hm_2 (Nat.not_lt_zero _)
    | succ n0 ih2 =>
      intro x_2 H locs ls y2_2 hI_2 hT_2 hf2_0 hm_2 hP hS hl
      have hb_ := i_le k
      have J39 : ∀ (n0 : Nat) (x_39 : St) (H : Heap) (locs : List Loc) (ls : Array Slot) (y39_3 : Int32) (y39_4 : Int32), Inv x_39 → Same (TC) x x_39 → (0 ≤ y39_4.toInt) → (y2_2.toInt < k.toInt) → (y39_3.toInt - y39_4.toInt).toNat < n0 → va_P D vwCl (WL g x_39) H → va_S (AQ g) s.heap H locs → lv_has ls 5 [(0, .ref (g.1 (5 + 21 * i))), (1, .int k), (2, .int y2_2), (3, .int y39_3), (4, .int y39_4)] → W p l e ({ frames := 3, cells := 0, slots := 0, locals := 65 } : Room) s m ([.ref (g.1 (5 + 21 * i)), .int k] : List Value).toArray below meth co H locs 0 0 (MQ below (va_Qv (fun x2 => Inv x2 ∧ Same TC x x2 ∧ True) (WO D g) (AQ g)) ([.ref (g.1 (5 + 21 * i)), .int k] : List Value).toArray s 0 0 (AQ g)) (F0 m 39 ls []) := by
        intro n0
        induction n0 with
        | zero => intro x_39 H locs ls y39_3 y39_4 hI_39 hT_39 hf39_0 hf39_1 hm_39 hP hS hl; exact absurd hm_39 (Nat.not_lt_zero _)
        | succ n0 ih39 =>
          intro x_39 H locs ls y39_3 y39_4 hI_39 hT_39 hf39_0 hf39_1 hm_39 hP hS hl
          have hc_ := i_le y39_3
          refine lv_iload S.1 S.2.1 dX2_takeAway_39 (lv_at hl 4 rfl) ?_
          refine lv_iload_n S.1 S.2.1 dX2_takeAway_41 rfl (lv_at hl 3 rfl) ?_
          refine w_icmp_ge (tgt := 78) S dX2_takeAway_42 (by decide) (fun hb1 => ?_) (fun hb1 => ?_)
          · refine lv_aload_n S.1 S.2.1 dX2_takeAway_78 rfl (lv_at hl 0 rfl) ?_
            refine w_cVv (As := []) (rest := []) S hK hN hP hS hl (5 + 21 * i) (by have := h4; omega) ((ceP0 h4) _) rfl (c_X2_echo l D g hg x_39 hI_39 i h4) (cwV 0 hts gX2_takeAway_X2_echo rfl rfl rfl (by decide +kernel) ⟨Nat.le_of_ble_eq_true rfl, Nat.le_of_ble_eq_true rfl⟩) rfl rfl (Nat.le_of_ble_eq_true rfl) dX2_takeAway_79 ⟨Nat.zero_le _, Nat.zero_le _⟩ (fun x2 H locs hq4 hP hS => ?_)
            obtain ⟨hI5, hT6, hf7⟩ := hq4
            have hT8 : Same (TC) x x2 := hT_39.tr hT6 (fun _ _ h => h)
            refine w_iinc (lv' := [(0, .ref (g.1 (5 + 21 * i))), (1, .int k), (3, .int y39_3), (4, .int y39_4)]) S dX2_takeAway_82 hl (k := 2) rfl (by decide) (by decide) (by omega) (by omega) (fun _ => rfl) (fun v9 ls hv9 hl => ?_)
            refine lv_goto (tgt := 2) S.1 S.2.1 dX2_takeAway_85 (by decide) ?_
            exact ih2 _ _ _ _ v9 hI5 hT8 (by omega) (by omega) hP hS (lv_sub hl [1, 2, 0] rfl)
          · refine lv_aload_n S.1 S.2.1 dX2_takeAway_45 rfl (lv_at hl 0 rfl) ?_
            refine w_get (C := RX2) (T := TX2) (N := 15) S (fun _ h => List.mem_cons_of_mem _ (List.mem_append_left _ (List.mem_append_left _ (List.mem_append_left _ (List.mem_append_right _ h))))) hK hP (5 + 21 * i) (by have := h4; omega) ((ceP0 h4) _) rfl 6 (by decide) (hts _ (List.mem_of_getElem? (i := 1) rfl)) (v := .ref (g.1 (5 + 21 * i + 17))) rfl dX2_takeAway_46 ?_
            refine w_bipush S dX2_takeAway_49 (by decide) (fun k10 hk10 => ?_)
            refine w_cVv (As := [.int k10]) (rest := []) S hK hN hP hS hl (5 + 21 * i + 17) (by have := h4; omega) ((ceP17 h4) _) rfl (c_X3_add l D g hg x_39 hI_39 (5 + 21 * i + 17) 134 (isRow17 h4) k10) (cwV 1 hts gX2_takeAway_X3_add rfl rfl rfl (by decide +kernel) ⟨Nat.le_of_ble_eq_true rfl, Nat.le_of_ble_eq_true rfl⟩) rfl rfl (Nat.le_of_ble_eq_true rfl) dX2_takeAway_51 ⟨Nat.zero_le _, Nat.zero_le _⟩ (fun x11 H locs hq13 hP hS => ?_)
            obtain ⟨hI14, hT15, hf16⟩ := hq13
            have hT17 : Same (TC) x x11 := hT_39.tr hT15 (fun c0 k0 h => by unfold TC TrC at h; unfold TR; omega)
            refine lv_aload_n S.1 S.2.1 dX2_takeAway_54 rfl (lv_at hl 0 rfl) ?_
            refine w_get (C := RX2) (T := TX2) (N := 15) S (fun _ h => List.mem_cons_of_mem _ (List.mem_append_left _ (List.mem_append_left _ (List.mem_append_left _ (List.mem_append_right _ h))))) hK hP (5 + 21 * i) (by have := h4; omega) ((ceP0 h4) _) rfl 6 (by decide) (hts _ (List.mem_of_getElem? (i := 1) rfl)) (v := .ref (g.1 (5 + 21 * i + 17))) rfl dX2_takeAway_55 ?_
            refine w_bipush S dX2_takeAway_58 (by decide) (fun k18 hk18 => ?_)
            refine w_cVv (As := [.int k18]) (rest := []) S hK hN hP hS hl (5 + 21 * i + 17) (by have := h4; omega) ((ceP17 h4) _) rfl (c_X3_add l D g hg x11 hI14 (5 + 21 * i + 17) 134 (isRow17 h4) k18) (cwV 1 hts gX2_takeAway_X3_add rfl rfl rfl (by decide +kernel) ⟨Nat.le_of_ble_eq_true rfl, Nat.le_of_ble_eq_true rfl⟩) rfl rfl (Nat.le_of_ble_eq_true rfl) dX2_takeAway_60 ⟨Nat.zero_le _, Nat.zero_le _⟩ (fun x19 H locs hq21 hP hS => ?_)
            obtain ⟨hI22, hT23, hf24⟩ := hq21
            have hT25 : Same (TC) x x19 := hT17.tr hT23 (fun c0 k0 h => by unfold TC TrC at h; unfold TR; omega)
            refine lv_aload_n S.1 S.2.1 dX2_takeAway_63 rfl (lv_at hl 0 rfl) ?_
            refine w_get (C := RX2) (T := TX2) (N := 15) S (fun _ h => List.mem_cons_of_mem _ (List.mem_append_left _ (List.mem_append_left _ (List.mem_append_left _ (List.mem_append_right _ h))))) hK hP (5 + 21 * i) (by have := h4; omega) ((ceP0 h4) _) rfl 6 (by decide) (hts _ (List.mem_of_getElem? (i := 1) rfl)) (v := .ref (g.1 (5 + 21 * i + 17))) rfl dX2_takeAway_64 ?_
            refine w_bipush S dX2_takeAway_67 (by decide) (fun k26 hk26 => ?_)
            refine w_cVv (As := [.int k26]) (rest := []) S hK hN hP hS hl (5 + 21 * i + 17) (by have := h4; omega) ((ceP17 h4) _) rfl (c_X3_add l D g hg x19 hI22 (5 + 21 * i + 17) 134 (isRow17 h4) k26) (cwV 1 hts gX2_takeAway_X3_add rfl rfl rfl (by decide +kernel) ⟨Nat.le_of_ble_eq_true rfl, Nat.le_of_ble_eq_true rfl⟩) rfl rfl (Nat.le_of_ble_eq_true rfl) dX2_takeAway_69 ⟨Nat.zero_le _, Nat.zero_le _⟩ (fun x27 H locs hq29 hP hS => ?_)
            obtain ⟨hI30, hT31, hf32⟩ := hq29
            have hT33 : Same (TC) x x27 := hT25.tr hT31 (fun c0 k0 h => by unfold TC TrC at h; unfold TR; omega)
            refine w_iinc (lv' := [(0, .ref (g.1 (5 + 21 * i))), (1, .int k), (2, .int y2_2), (3, .int y39_3)]) S dX2_takeAway_72 hl (k := 4) rfl (by decide) (by decide) (by omega) (by omega) (fun _ => rfl) (fun v34 ls hv34 hl => ?_)
            refine lv_goto (tgt := 39) S.1 S.2.1 dX2_takeAway_75 (by decide) ?_
            exact ih39 _ _ _ _ y39_3 v34 hI30 hT33 (by omega) (by omega) (by omega) hP hS (lv_sub hl [1, 2, 3, 4, 0] rfl)
      refine lv_iload_n S.1 S.2.1 dX2_takeAway_2 rfl (lv_at hl 2 rfl) ?_
      refine lv_iload_n S.1 S.2.1 dX2_takeAway_3 rfl (lv_at hl 1 rfl) ?_
      refine w_icmp_ge (tgt := 88) S dX2_takeAway_4 (by decide) (fun hb35 => ?_) (fun hb35 => ?_)
      · refine lv_aload_n S.1 S.2.1 dX2_takeAway_88 rfl (lv_at hl 0 rfl) ?_
        refine w_cVv (As := []) (rest := []) S hK hN hP hS hl (5 + 21 * i) (by have := h4; omega) ((ceP0 h4) _) rfl (c_X2_relax l D g hg x_2 hI_2 i h4) (cwV 0 hts gX2_takeAway_X2_relax rfl rfl rfl (by decide +kernel) ⟨Nat.le_of_ble_eq_true rfl, Nat.le_of_ble_eq_true rfl⟩) rfl rfl (Nat.le_of_ble_eq_true rfl) dX2_takeAway_89 ⟨Nat.zero_le _, Nat.zero_le _⟩ (fun x36 H locs hq38 hP hS => ?_)
        obtain ⟨hI39, hT40, hf41⟩ := hq38
        have hT42 : Same (TC) x x36 := hT_2.tr hT40 (fun _ _ h => h)
        exact w_vret S hr0 hlk hP hS dX2_takeAway_92 (⟨hI39, hT42, trivial⟩)
      · refine lv_aload_n S.1 S.2.1 dX2_takeAway_7 rfl (lv_at hl 0 rfl) ?_
        refine w_get (C := RX2) (T := TX2) (N := 15) S (fun _ h => List.mem_cons_of_mem _ (List.mem_append_left _ (List.mem_append_left _ (List.mem_append_left _ (List.mem_append_right _ h))))) hK hP (5 + 21 * i) (by have := h4; omega) ((ceP0 h4) _) rfl 6 (by decide) (hts _ (List.mem_of_getElem? (i := 1) rfl)) (v := .ref (g.1 (5 + 21 * i + 17))) rfl dX2_takeAway_8 ?_
        refine w_cVv (As := []) (rest := []) S hK hN hP hS hl (5 + 21 * i + 17) (by have := h4; omega) ((ceP17 h4) _) rfl (c_X3_empty l D g hg x_2 hI_2 (5 + 21 * i + 17) 134 (isRow17 h4)) (cwV 0 hts gX2_takeAway_X3_empty rfl rfl rfl (by decide +kernel) ⟨Nat.le_of_ble_eq_true rfl, Nat.le_of_ble_eq_true rfl⟩) rfl rfl (Nat.le_of_ble_eq_true rfl) dX2_takeAway_11 ⟨Nat.zero_le _, Nat.zero_le _⟩ (fun x43 H locs hq45 hP hS => ?_)
        obtain ⟨hI46, hT47, hf48⟩ := hq45
        have hT49 : Same (TC) x x43 := hT_2.tr hT47 (fun c0 k0 h => by unfold TC TrC at h; unfold TR; omega)
        refine lv_aload_n S.1 S.2.1 dX2_takeAway_14 rfl (lv_at hl 0 rfl) ?_
        refine w_get (C := RX2) (T := TX2) (N := 15) S (fun _ h => List.mem_cons_of_mem _ (List.mem_append_left _ (List.mem_append_left _ (List.mem_append_left _ (List.mem_append_right _ h))))) hK hP (5 + 21 * i) (by have := h4; omega) ((ceP0 h4) _) rfl 3 (by decide) (hts _ (List.mem_of_getElem? (i := 2) rfl)) (v := .ref (g.1 (5 + 21 * i + 4))) rfl dX2_takeAway_15 ?_
        refine w_getN (C := RX4) (T := TX4) (N := 3) S (fun _ h => List.mem_cons_of_mem _ (List.mem_append_left _ (List.mem_append_left _ (List.mem_append_right _ h)))) hK hP (5 + 21 * i + 4) (by have := h4; omega) ((ceP4 h4) _) rfl 0 (by decide) (hN.1 _ (List.mem_of_getElem? (i := 7) rfl)) (v := .ref (g.1 (5 + 21 * i + 5))) rfl dX2_takeAway_18 ?_
        refine w_cVi (As := []) (rest := []) S hK hN hP hS hl (5 + 21 * i + 5) (by have := h4; omega) ((ceP5 h4) _) rfl (c_X3_takeLast l D g hg x43 hI46 (5 + 21 * i + 5) 65 (isRow5 h4)) (cwV 0 hts gX2_takeAway_X3_takeLast rfl rfl rfl (by decide +kernel) ⟨Nat.le_of_ble_eq_true rfl, Nat.le_of_ble_eq_true rfl⟩) rfl rfl (Nat.le_of_ble_eq_true rfl) dX2_takeAway_21 ⟨Nat.zero_le _, Nat.zero_le _⟩ (fun r51 x50 H locs hq52 hP hS => ?_)
        obtain ⟨hI53, hT54, hf55⟩ := hq52
        have hT56 : Same (TC) x x50 := hT49.tr hT54 (fun c0 k0 h => by unfold TC TrC at h; unfold TR; omega)
        refine w_cSi (As := [.int r51]) (rest := []) S hK hN hP hS hl (c_X2_isPlain l D g hg x50 hI53 r51) (va_cwS 1 hts gX2_takeAway_X2_isPlain rfl rfl rfl (by decide +kernel) ⟨Nat.le_of_ble_eq_true rfl, Nat.le_of_ble_eq_true rfl⟩) rfl rfl (Nat.le_of_ble_eq_true rfl) dX2_takeAway_24 ⟨Nat.zero_le _, Nat.zero_le _⟩ (fun r58 x57 H locs hq59 hP hS => ?_)
        obtain ⟨ex60, hf61⟩ := hq59
        rw [ex60] at hP
        refine w_if_eq (tgt := 34) S dX2_takeAway_27 (by decide) (fun hb62 => ?_) (fun hb62 => ?_)
        · refine w_iconst S dX2_takeAway_34 (by decide) (fun k63 hk63 => ?_)
          refine lv_istore_n (lv' := [(3, .int k63), (0, .ref (g.1 (5 + 21 * i))), (1, .int k), (2, .int y2_2)]) S.1 S.2.1 dX2_takeAway_35 rfl hl (by decide) rfl (fun ls hl => ?_)
          refine w_iconst S dX2_takeAway_36 (by decide) (fun k64 hk64 => ?_)
          refine lv_istore (lv' := [(4, .int k64), (3, .int k63), (0, .ref (g.1 (5 + 21 * i))), (1, .int k), (2, .int y2_2)]) S.1 S.2.1 dX2_takeAway_37 hl (by decide) rfl (fun ls hl => ?_)
          exact J39 _ _ _ _ _ k63 k64 hI53 hT56 (by omega) (by omega) (Nat.lt_succ_self _) hP hS (lv_sub hl [2, 3, 4, 1, 0] rfl)
        · refine w_iconst S dX2_takeAway_30 (by decide) (fun k65 hk65 => ?_)
          refine lv_goto (tgt := 35) S.1 S.2.1 dX2_takeAway_31 (by decide) ?_
          refine lv_istore_n (lv' := [(3, .int k65), (0, .ref (g.1 (5 + 21 * i))), (1, .int k), (2, .int y2_2)]) S.1 S.2.1 dX2_takeAway_35 rfl hl (by decide) rfl (fun ls hl => ?_)
          refine w_iconst S dX2_takeAway_36 (by decide) (fun k66 hk66 => ?_)
          refine lv_istore (lv' := [(4, .int k66), (3, .int k65), (0, .ref (g.1 (5 + 21 * i))), (1, .int k), (2, .int y2_2)]) S.1 S.2.1 dX2_takeAway_37 hl (by decide) rfl (fun ls hl => ?_)
          exact J39 _ _ _ _ _ k65 k66 hI53 hT56 (by omega) (by omega) (Nat.lt_succ_self _) hP hS (lv_sub hl [2, 3, 4, 1, 0] rfl)
  refine w_iconst S dX2_takeAway_0 (by decide) (fun k67 hk67 => ?_)
  refine lv_istore_n (lv' := [(2, .int k67), (0, .ref (g.1 (5 + 21 * i))), (1, .int k)]) S.1 S.2.1 dX2_takeAway_1 rfl hl (by decide) rfl (fun ls hl => ?_)
  exact J2 _ _ _ _ _ k67 hI hT (by omega) (Nat.lt_succ_self _) hP hS (lv_sub hl [1, 2, 0] rfl)
set_option maxRecDepth 100000 in
set_option maxHeartbeats 4000000 in
theorem c_X2_reprint (l : Launch) (D : va_G) (g : GA) (hg : Inj g) (x : St) (hI : Inv x) (i : Nat) (h4 : i < 4) (b : Int32) : Met l yX2_reprint wsX2_reprint ({ frames := 3, cells := 0, slots := 0, locals := 65 } : Room) (va_Pc [.ref (g.1 (5 + 21 * i)), .int b] (WI D g x)) (va_Qv (fun x2 => Inv x2 ∧ Same TC x x2 ∧ True) (WO D g) (AQ g)) 0 0 (AQ g) := by
  refine w_met (cc := cX2_reprint) (maxL := 3) (ret := none) (own := RX2) (by decide) rfl rfl (Nat.le_of_ble_eq_true rfl) (fun p e s m below meth co S hr0 hlk hK hN hP hS ls hl => ?_)
  have hts := S.2.2.2.2
  have hl : lv_has ls 3 [(0, .ref (g.1 (5 + 21 * i))), (1, .int b)] := hl
  have hT : Same (TC) x x := Same.rf
  have J31 : ∀ (n0 : Nat) (x_31 : St) (H : Heap) (locs : List Loc) (ls : Array Slot) (y31_2 : Int32), Inv x_31 → Same (TC) x x_31 → (65 - y31_2.toInt).toNat < n0 → va_P D vwCl (WL g x_31) H → va_S (AQ g) s.heap H locs → lv_has ls 3 [(0, .ref (g.1 (5 + 21 * i))), (1, .int b), (2, .int y31_2)] → W p l e ({ frames := 3, cells := 0, slots := 0, locals := 65 } : Room) s m ([.ref (g.1 (5 + 21 * i)), .int b] : List Value).toArray below meth co H locs 0 0 (MQ below (va_Qv (fun x2 => Inv x2 ∧ Same TC x x2 ∧ True) (WO D g) (AQ g)) ([.ref (g.1 (5 + 21 * i)), .int b] : List Value).toArray s 0 0 (AQ g)) (F0 m 31 ls []) := by
    intro n0
    induction n0 with
    | zero => intro x_31 H locs ls y31_2 hI_31 hT_31 hm_31 hP hS hl; exact absurd hm_31 (Nat.not_lt_zero _)
    | succ n0 ih31 =>
      intro x_31 H locs ls y31_2 hI_31 hT_31 hm_31 hP hS hl
      have hb_ := i_ge y31_2
      refine lv_iload_n S.1 S.2.1 dX2_reprint_31 rfl (lv_at hl 2 rfl) ?_
      refine lv_aload_n S.1 S.2.1 dX2_reprint_32 rfl (lv_at hl 0 rfl) ?_
      refine w_get (C := RX2) (T := TX2) (N := 15) S (fun _ h => List.mem_cons_of_mem _ (List.mem_append_left _ (List.mem_append_left _ (List.mem_append_left _ (List.mem_append_right _ h))))) hK hP (5 + 21 * i) (by have := h4; omega) ((ceP0 h4) _) rfl 3 (by decide) (hts _ (List.mem_of_getElem? (i := 2) rfl)) (v := .ref (g.1 (5 + 21 * i + 4))) rfl dX2_reprint_33 ?_
      refine w_getN (C := RX4) (T := TX4) (N := 3) S (fun _ h => List.mem_cons_of_mem _ (List.mem_append_left _ (List.mem_append_left _ (List.mem_append_right _ h)))) hK hP (5 + 21 * i + 4) (by have := h4; omega) ((ceP4 h4) _) rfl 0 (by decide) (hN.1 _ (List.mem_of_getElem? (i := 7) rfl)) (v := .ref (g.1 (5 + 21 * i + 5))) rfl dX2_reprint_36 ?_
      refine w_getN (C := RX3) (T := TX3) (N := 3) S (fun _ h => List.mem_cons_of_mem _ (List.mem_append_left _ (List.mem_append_right _ h))) hK hP (5 + 21 * i + 5) (by have := h4; omega) ((ceP5 h4) _) rfl 2 (by decide) (hN.1 _ (List.mem_of_getElem? (i := 6) rfl)) (v := .int (x_31 (5 + 21 * i + 5) 2)) rfl dX2_reprint_39 ?_
      refine lv_topi (fun v1 ev1 => ?_)
      have wv1 : v1.toInt = (x_31 (5 + 21 * i + 5) 2).toInt := by rw [ev1]
      have rv1 : (0 : Int) ≤ v1.toInt ∧ v1.toInt ≤ (65 : Int) := by rw [ev1]; exact hI_31.atP (j := 5) (k := 2) h4 (by decide)
      refine w_icmp_ge (tgt := 66) S dX2_reprint_42 (by decide) (fun hb2 => ?_) (fun hb2 => ?_)
      · refine lv_aload_n S.1 S.2.1 dX2_reprint_66 rfl (lv_at hl 0 rfl) ?_
        refine w_cVv (As := []) (rest := []) S hK hN hP hS hl (5 + 21 * i) (by have := h4; omega) ((ceP0 h4) _) rfl (c_X2_echo l D g hg x_31 hI_31 i h4) (cwV 0 hts gX2_reprint_X2_echo rfl rfl rfl (by decide +kernel) ⟨Nat.le_of_ble_eq_true rfl, Nat.le_of_ble_eq_true rfl⟩) rfl rfl (Nat.le_of_ble_eq_true rfl) dX2_reprint_67 ⟨Nat.zero_le _, Nat.zero_le _⟩ (fun x3 H locs hq5 hP hS => ?_)
        obtain ⟨hI6, hT7, hf8⟩ := hq5
        have hT9 : Same (TC) x x3 := hT_31.tr hT7 (fun _ _ h => h)
        exact w_vret S hr0 hlk hP hS dX2_reprint_70 (⟨hI6, hT9, trivial⟩)
      · refine lv_aload_n S.1 S.2.1 dX2_reprint_45 rfl (lv_at hl 0 rfl) ?_
        refine lv_aload_n S.1 S.2.1 dX2_reprint_46 rfl (lv_at hl 0 rfl) ?_
        refine w_get (C := RX2) (T := TX2) (N := 15) S (fun _ h => List.mem_cons_of_mem _ (List.mem_append_left _ (List.mem_append_left _ (List.mem_append_left _ (List.mem_append_right _ h))))) hK hP (5 + 21 * i) (by have := h4; omega) ((ceP0 h4) _) rfl 3 (by decide) (hts _ (List.mem_of_getElem? (i := 2) rfl)) (v := .ref (g.1 (5 + 21 * i + 4))) rfl dX2_reprint_47 ?_
        refine w_getN (C := RX4) (T := TX4) (N := 3) S (fun _ h => List.mem_cons_of_mem _ (List.mem_append_left _ (List.mem_append_left _ (List.mem_append_right _ h)))) hK hP (5 + 21 * i + 4) (by have := h4; omega) ((ceP4 h4) _) rfl 0 (by decide) (hN.1 _ (List.mem_of_getElem? (i := 7) rfl)) (v := .ref (g.1 (5 + 21 * i + 5))) rfl dX2_reprint_50 ?_
        refine lv_iload_n S.1 S.2.1 dX2_reprint_53 rfl (lv_at hl 2 rfl) ?_
        refine w_cVi (As := [.int y31_2]) (rest := [.ref (g.1 (5 + 21 * i))]) S hK hN hP hS hl (5 + 21 * i + 5) (by have := h4; omega) ((ceP5 h4) _) rfl (c_X3_at l D g hg x_31 hI_31 (5 + 21 * i + 5) 65 (isRow5 h4) y31_2) (cwV 1 hts gX2_reprint_X3_at rfl rfl rfl (by decide +kernel) ⟨Nat.le_of_ble_eq_true rfl, Nat.le_of_ble_eq_true rfl⟩) rfl rfl (Nat.le_of_ble_eq_true rfl) dX2_reprint_54 ⟨Nat.zero_le _, Nat.zero_le _⟩ (fun r11 x10 H locs hq12 hP hS => ?_)
        obtain ⟨ex13, hf14⟩ := hq12
        rw [ex13] at hP
        refine w_cVv (As := [.int r11]) (rest := []) S hK hN hP hS hl (5 + 21 * i) (by have := h4; omega) ((ceP0 h4) _) rfl (c_X2_addForm l D g hg x_31 hI_31 i h4 r11) (cwV 1 hts gX2_reprint_X2_addForm rfl rfl rfl (by decide +kernel) ⟨Nat.le_of_ble_eq_true rfl, Nat.le_of_ble_eq_true rfl⟩) rfl rfl (Nat.le_of_ble_eq_true rfl) dX2_reprint_57 ⟨Nat.zero_le _, Nat.zero_le _⟩ (fun x15 H locs hq17 hP hS => ?_)
        obtain ⟨hI18, hT19, hf20⟩ := hq17
        have hT21 : Same (TC) x x15 := hT_31.tr hT19 (fun _ _ h => h)
        refine w_iinc (lv' := [(0, .ref (g.1 (5 + 21 * i))), (1, .int b)]) S dX2_reprint_60 hl (k := 2) rfl (by decide) (by decide) (by omega) (by omega) (fun _ => rfl) (fun v22 ls hv22 hl => ?_)
        refine lv_goto (tgt := 31) S.1 S.2.1 dX2_reprint_63 (by decide) ?_
        exact ih31 _ _ _ _ v22 hI18 hT21 (by omega) hP hS (lv_sub hl [1, 2, 0] rfl)
  refine lv_aload_n S.1 S.2.1 dX2_reprint_0 rfl (lv_at hl 0 rfl) ?_
  refine lv_iload_n S.1 S.2.1 dX2_reprint_1 rfl (lv_at hl 1 rfl) ?_
  refine w_cVv (As := [.int b]) (rest := []) S hK hN hP hS hl (5 + 21 * i) (by have := h4; omega) ((ceP0 h4) _) rfl (c_X2_draftForm l D g hg x hI i h4 b) (cwV 1 hts gX2_reprint_X2_draftForm rfl rfl rfl (by decide +kernel) ⟨Nat.le_of_ble_eq_true rfl, Nat.le_of_ble_eq_true rfl⟩) rfl rfl (Nat.le_of_ble_eq_true rfl) dX2_reprint_2 ⟨Nat.zero_le _, Nat.zero_le _⟩ (fun x23 H locs hq25 hP hS => ?_)
  obtain ⟨hI26, hT27, hf28⟩ := hq25
  have hT29 : Same (TC) x x23 := hT.tr hT27 (fun _ _ h => h)
  refine lv_aload_n S.1 S.2.1 dX2_reprint_5 rfl (lv_at hl 0 rfl) ?_
  refine w_get (C := RX2) (T := TX2) (N := 15) S (fun _ h => List.mem_cons_of_mem _ (List.mem_append_left _ (List.mem_append_left _ (List.mem_append_left _ (List.mem_append_right _ h))))) hK hP (5 + 21 * i) (by have := h4; omega) ((ceP0 h4) _) rfl 6 (by decide) (hts _ (List.mem_of_getElem? (i := 1) rfl)) (v := .ref (g.1 (5 + 21 * i + 17))) rfl dX2_reprint_6 ?_
  refine w_bipush S dX2_reprint_9 (by decide) (fun k30 hk30 => ?_)
  refine w_cVv (As := [.int k30]) (rest := []) S hK hN hP hS hl (5 + 21 * i + 17) (by have := h4; omega) ((ceP17 h4) _) rfl (c_X3_add l D g hg x23 hI26 (5 + 21 * i + 17) 134 (isRow17 h4) k30) (cwV 1 hts gX2_reprint_X3_add rfl rfl rfl (by decide +kernel) ⟨Nat.le_of_ble_eq_true rfl, Nat.le_of_ble_eq_true rfl⟩) rfl rfl (Nat.le_of_ble_eq_true rfl) dX2_reprint_11 ⟨Nat.zero_le _, Nat.zero_le _⟩ (fun x31 H locs hq33 hP hS => ?_)
  obtain ⟨hI34, hT35, hf36⟩ := hq33
  have hT37 : Same (TC) x x31 := hT29.tr hT35 (fun c0 k0 h => by unfold TC TrC at h; unfold TR; omega)
  refine lv_aload_n S.1 S.2.1 dX2_reprint_14 rfl (lv_at hl 0 rfl) ?_
  refine w_get (C := RX2) (T := TX2) (N := 15) S (fun _ h => List.mem_cons_of_mem _ (List.mem_append_left _ (List.mem_append_left _ (List.mem_append_left _ (List.mem_append_right _ h))))) hK hP (5 + 21 * i) (by have := h4; omega) ((ceP0 h4) _) rfl 6 (by decide) (hts _ (List.mem_of_getElem? (i := 1) rfl)) (v := .ref (g.1 (5 + 21 * i + 17))) rfl dX2_reprint_15 ?_
  refine w_bipush S dX2_reprint_18 (by decide) (fun k38 hk38 => ?_)
  refine w_cVv (As := [.int k38]) (rest := []) S hK hN hP hS hl (5 + 21 * i + 17) (by have := h4; omega) ((ceP17 h4) _) rfl (c_X3_add l D g hg x31 hI34 (5 + 21 * i + 17) 134 (isRow17 h4) k38) (cwV 1 hts gX2_reprint_X3_add rfl rfl rfl (by decide +kernel) ⟨Nat.le_of_ble_eq_true rfl, Nat.le_of_ble_eq_true rfl⟩) rfl rfl (Nat.le_of_ble_eq_true rfl) dX2_reprint_20 ⟨Nat.zero_le _, Nat.zero_le _⟩ (fun x39 H locs hq41 hP hS => ?_)
  obtain ⟨hI42, hT43, hf44⟩ := hq41
  have hT45 : Same (TC) x x39 := hT37.tr hT43 (fun c0 k0 h => by unfold TC TrC at h; unfold TR; omega)
  refine lv_aload_n S.1 S.2.1 dX2_reprint_23 rfl (lv_at hl 0 rfl) ?_
  refine w_get (C := RX2) (T := TX2) (N := 15) S (fun _ h => List.mem_cons_of_mem _ (List.mem_append_left _ (List.mem_append_left _ (List.mem_append_left _ (List.mem_append_right _ h))))) hK hP (5 + 21 * i) (by have := h4; omega) ((ceP0 h4) _) rfl 3 (by decide) (hts _ (List.mem_of_getElem? (i := 2) rfl)) (v := .ref (g.1 (5 + 21 * i + 4))) rfl dX2_reprint_24 ?_
  refine w_getN (C := RX4) (T := TX4) (N := 3) S (fun _ h => List.mem_cons_of_mem _ (List.mem_append_left _ (List.mem_append_left _ (List.mem_append_right _ h)))) hK hP (5 + 21 * i + 4) (by have := h4; omega) ((ceP4 h4) _) rfl 1 (by decide) (hN.1 _ (List.mem_of_getElem? (i := 8) rfl)) (v := .int (x39 (5 + 21 * i + 4) 1)) rfl dX2_reprint_27 ?_
  refine lv_topi (fun v46 ev46 => ?_)
  have wv46 : v46.toInt = (x39 (5 + 21 * i + 4) 1).toInt := by rw [ev46]
  refine lv_istore_n (lv' := [(2, .int v46), (0, .ref (g.1 (5 + 21 * i))), (1, .int b)]) S.1 S.2.1 dX2_reprint_30 rfl hl (by decide) rfl (fun ls hl => ?_)
  exact J31 _ _ _ _ _ v46 hI42 hT45 (Nat.lt_succ_self _) hP hS (lv_sub hl [1, 2, 0] rfl)
set_option maxRecDepth 100000 in
set_option maxHeartbeats 4000000 in
theorem c_X2_edit (l : Launch) (D : va_G) (g : GA) (hg : Inj g) (x : St) (hI : Inv x) (i : Nat) (h4 : i < 4) (b : Int32) : Met l yX2_edit wsX2_edit ({ frames := 4, cells := 0, slots := 0, locals := 89 } : Room) (va_Pc [.ref (g.1 (5 + 21 * i)), .int b] (WI D g x)) (va_Qv (fun x2 => Inv x2 ∧ Same TC x x2 ∧ True) (WO D g) (AQ g)) 0 0 (AQ g) := by
  refine w_met (cc := cX2_edit) (maxL := 2) (ret := none) (own := RX2) (by decide) rfl rfl (Nat.le_of_ble_eq_true rfl) (fun p e s m below meth co S hr0 hlk hK hN hP hS ls hl => ?_)
  have hts := S.2.2.2.2
  have hl : lv_has ls 2 [(0, .ref (g.1 (5 + 21 * i))), (1, .int b)] := hl
  have hT : Same (TC) x x := Same.rf
  refine lv_aload_n S.1 S.2.1 dX2_edit_0 rfl (lv_at hl 0 rfl) ?_
  refine w_iconst S dX2_edit_1 (by decide) (fun k1 hk1 => ?_)
  refine w_cVi (As := [.int k1]) (rest := []) S hK hN hP hS hl (5 + 21 * i) (by have := h4; omega) ((ceP0 h4) _) rfl (c_X2_isOn l D g hg x hI i h4 k1 (by omega)) (cwV 1 hts gX2_edit_X2_isOn rfl rfl rfl (by decide +kernel) ⟨Nat.le_of_ble_eq_true rfl, Nat.le_of_ble_eq_true rfl⟩) rfl rfl (Nat.le_of_ble_eq_true rfl) dX2_edit_2 ⟨Nat.zero_le _, Nat.zero_le _⟩ (fun r3 x2 H locs hq4 hP hS => ?_)
  obtain ⟨ex5, hf6⟩ := hq4
  rw [ex5] at hP
  refine w_if_ne (tgt := 16) S dX2_edit_5 (by decide) (fun hb7 => ?_) (fun hb7 => ?_)
  · refine lv_iload_n S.1 S.2.1 dX2_edit_16 rfl (lv_at hl 1 rfl) ?_
    refine lv_aload_n S.1 S.2.1 dX2_edit_17 rfl (lv_at hl 0 rfl) ?_
    refine w_get (C := RX2) (T := TX2) (N := 15) S (fun _ h => List.mem_cons_of_mem _ (List.mem_append_left _ (List.mem_append_left _ (List.mem_append_left _ (List.mem_append_right _ h))))) hK hP (5 + 21 * i) (by have := h4; omega) ((ceP0 h4) _) rfl 1 (by decide) (hts _ (List.mem_of_getElem? (i := 1) rfl)) (v := .ref (g.1 (5 + 21 * i + 1))) rfl dX2_edit_18 ?_
    refine w_bipush S dX2_edit_21 (by decide) (fun k8 hk8 => ?_)
    refine w_iald S hK hP (5 + 21 * i + 1) (by have := h4; omega) (ceP1 h4) (by omega) (by omega) dX2_edit_23 (fun v9 ev9 => ?_)
    have wv9 : v9.toInt = (x (5 + 21 * i + 1) k8.toInt.toNat).toInt := by rw [ev9]
    refine w_icmp_ne (tgt := 45) S dX2_edit_24 (by decide) (fun hb10 => ?_) (fun hb10 => ?_)
    · refine lv_iload_n S.1 S.2.1 dX2_edit_45 rfl (lv_at hl 1 rfl) ?_
      refine lv_aload_n S.1 S.2.1 dX2_edit_46 rfl (lv_at hl 0 rfl) ?_
      refine w_get (C := RX2) (T := TX2) (N := 15) S (fun _ h => List.mem_cons_of_mem _ (List.mem_append_left _ (List.mem_append_left _ (List.mem_append_left _ (List.mem_append_right _ h))))) hK hP (5 + 21 * i) (by have := h4; omega) ((ceP0 h4) _) rfl 1 (by decide) (hts _ (List.mem_of_getElem? (i := 1) rfl)) (v := .ref (g.1 (5 + 21 * i + 1))) rfl dX2_edit_47 ?_
      refine w_bipush S dX2_edit_50 (by decide) (fun k11 hk11 => ?_)
      refine w_iald S hK hP (5 + 21 * i + 1) (by have := h4; omega) (ceP1 h4) (by omega) (by omega) dX2_edit_52 (fun v12 ev12 => ?_)
      have wv12 : v12.toInt = (x (5 + 21 * i + 1) k11.toInt.toNat).toInt := by rw [ev12]
      refine w_icmp_ne (tgt := 70) S dX2_edit_53 (by decide) (fun hb13 => ?_) (fun hb13 => ?_)
      · refine lv_iload_n S.1 S.2.1 dX2_edit_70 rfl (lv_at hl 1 rfl) ?_
        refine lv_aload_n S.1 S.2.1 dX2_edit_71 rfl (lv_at hl 0 rfl) ?_
        refine w_get (C := RX2) (T := TX2) (N := 15) S (fun _ h => List.mem_cons_of_mem _ (List.mem_append_left _ (List.mem_append_left _ (List.mem_append_left _ (List.mem_append_right _ h))))) hK hP (5 + 21 * i) (by have := h4; omega) ((ceP0 h4) _) rfl 1 (by decide) (hts _ (List.mem_of_getElem? (i := 1) rfl)) (v := .ref (g.1 (5 + 21 * i + 1))) rfl dX2_edit_72 ?_
        refine w_bipush S dX2_edit_75 (by decide) (fun k14 hk14 => ?_)
        refine w_iald S hK hP (5 + 21 * i + 1) (by have := h4; omega) (ceP1 h4) (by omega) (by omega) dX2_edit_77 (fun v15 ev15 => ?_)
        have wv15 : v15.toInt = (x (5 + 21 * i + 1) k14.toInt.toNat).toInt := by rw [ev15]
        refine w_icmp_ne (tgt := 95) S dX2_edit_78 (by decide) (fun hb16 => ?_) (fun hb16 => ?_)
        · refine lv_iload_n S.1 S.2.1 dX2_edit_95 rfl (lv_at hl 1 rfl) ?_
          refine lv_aload_n S.1 S.2.1 dX2_edit_96 rfl (lv_at hl 0 rfl) ?_
          refine w_get (C := RX2) (T := TX2) (N := 15) S (fun _ h => List.mem_cons_of_mem _ (List.mem_append_left _ (List.mem_append_left _ (List.mem_append_left _ (List.mem_append_right _ h))))) hK hP (5 + 21 * i) (by have := h4; omega) ((ceP0 h4) _) rfl 1 (by decide) (hts _ (List.mem_of_getElem? (i := 1) rfl)) (v := .ref (g.1 (5 + 21 * i + 1))) rfl dX2_edit_97 ?_
          refine w_bipush S dX2_edit_100 (by decide) (fun k17 hk17 => ?_)
          refine w_iald S hK hP (5 + 21 * i + 1) (by have := h4; omega) (ceP1 h4) (by omega) (by omega) dX2_edit_102 (fun v18 ev18 => ?_)
          have wv18 : v18.toInt = (x (5 + 21 * i + 1) k17.toInt.toNat).toInt := by rw [ev18]
          refine w_icmp_ne (tgt := 114) S dX2_edit_103 (by decide) (fun hb19 => ?_) (fun hb19 => ?_)
          · refine lv_iload_n S.1 S.2.1 dX2_edit_114 rfl (lv_at hl 1 rfl) ?_
            refine lv_aload_n S.1 S.2.1 dX2_edit_115 rfl (lv_at hl 0 rfl) ?_
            refine w_get (C := RX2) (T := TX2) (N := 15) S (fun _ h => List.mem_cons_of_mem _ (List.mem_append_left _ (List.mem_append_left _ (List.mem_append_left _ (List.mem_append_right _ h))))) hK hP (5 + 21 * i) (by have := h4; omega) ((ceP0 h4) _) rfl 1 (by decide) (hts _ (List.mem_of_getElem? (i := 1) rfl)) (v := .ref (g.1 (5 + 21 * i + 1))) rfl dX2_edit_116 ?_
            refine w_bipush S dX2_edit_119 (by decide) (fun k20 hk20 => ?_)
            refine w_iald S hK hP (5 + 21 * i + 1) (by have := h4; omega) (ceP1 h4) (by omega) (by omega) dX2_edit_121 (fun v21 ev21 => ?_)
            have wv21 : v21.toInt = (x (5 + 21 * i + 1) k20.toInt.toNat).toInt := by rw [ev21]
            refine w_icmp_ne (tgt := 133) S dX2_edit_122 (by decide) (fun hb22 => ?_) (fun hb22 => ?_)
            · refine lv_iload_n S.1 S.2.1 dX2_edit_133 rfl (lv_at hl 1 rfl) ?_
              refine lv_aload_n S.1 S.2.1 dX2_edit_134 rfl (lv_at hl 0 rfl) ?_
              refine w_get (C := RX2) (T := TX2) (N := 15) S (fun _ h => List.mem_cons_of_mem _ (List.mem_append_left _ (List.mem_append_left _ (List.mem_append_left _ (List.mem_append_right _ h))))) hK hP (5 + 21 * i) (by have := h4; omega) ((ceP0 h4) _) rfl 1 (by decide) (hts _ (List.mem_of_getElem? (i := 1) rfl)) (v := .ref (g.1 (5 + 21 * i + 1))) rfl dX2_edit_135 ?_
              refine w_bipush S dX2_edit_138 (by decide) (fun k23 hk23 => ?_)
              refine w_iald S hK hP (5 + 21 * i + 1) (by have := h4; omega) (ceP1 h4) (by omega) (by omega) dX2_edit_140 (fun v24 ev24 => ?_)
              have wv24 : v24.toInt = (x (5 + 21 * i + 1) k23.toInt.toNat).toInt := by rw [ev24]
              refine w_icmp_ne (tgt := 155) S dX2_edit_141 (by decide) (fun hb25 => ?_) (fun hb25 => ?_)
              · refine lv_iload_n S.1 S.2.1 dX2_edit_155 rfl (lv_at hl 1 rfl) ?_
                refine w_bipush S dX2_edit_156 (by decide) (fun k26 hk26 => ?_)
                refine w_icmp_ne (tgt := 181) S dX2_edit_158 (by decide) (fun hb27 => ?_) (fun hb27 => ?_)
                · refine lv_aload_n S.1 S.2.1 dX2_edit_181 rfl (lv_at hl 0 rfl) ?_
                  refine lv_iload_n S.1 S.2.1 dX2_edit_182 rfl (lv_at hl 1 rfl) ?_
                  refine w_cVv (As := [.int b]) (rest := []) S hK hN hP hS hl (5 + 21 * i) (by have := h4; omega) ((ceP0 h4) _) rfl (c_X2_keepAndEcho l D g hg x hI i h4 b) (cwV 1 hts gX2_edit_X2_keepAndEcho rfl rfl rfl (by decide +kernel) ⟨Nat.le_of_ble_eq_true rfl, Nat.le_of_ble_eq_true rfl⟩) rfl rfl (Nat.le_of_ble_eq_true rfl) dX2_edit_183 ⟨Nat.zero_le _, Nat.zero_le _⟩ (fun x28 H locs hq30 hP hS => ?_)
                  obtain ⟨hI31, hT32, hf33⟩ := hq30
                  have hT34 : Same (TC) x x28 := hT.tr hT32 (fun _ _ h => h)
                  exact w_vret S hr0 hlk hP hS dX2_edit_186 (⟨hI31, hT34, trivial⟩)
                · refine lv_aload_n S.1 S.2.1 dX2_edit_161 rfl (lv_at hl 0 rfl) ?_
                  refine w_bipush S dX2_edit_162 (by decide) (fun k35 hk35 => ?_)
                  refine w_cVi (As := [.int k35]) (rest := []) S hK hN hP hS hl (5 + 21 * i) (by have := h4; omega) ((ceP0 h4) _) rfl (c_X2_endLine l D g hg x hI i h4 k35) (cwV 1 hts gX2_edit_X2_endLine rfl rfl rfl (by decide +kernel) ⟨Nat.le_of_ble_eq_true rfl, Nat.le_of_ble_eq_true rfl⟩) rfl rfl (Nat.le_of_ble_eq_true rfl) dX2_edit_164 ⟨Nat.zero_le _, Nat.zero_le _⟩ (fun r37 x36 H locs hq38 hP hS => ?_)
                  obtain ⟨hI39, hT40, hf41⟩ := hq38
                  have hT42 : Same (TC) x x36 := hT.tr hT40 (fun _ _ h => h)
                  refine w_if_eq (tgt := 186) S dX2_edit_167 (by decide) (fun hb43 => ?_) (fun hb43 => ?_)
                  · exact w_vret S hr0 hlk hP hS dX2_edit_186 (⟨hI39, hT42, trivial⟩)
                  · refine lv_aload_n S.1 S.2.1 dX2_edit_170 rfl (lv_at hl 0 rfl) ?_
                    refine w_cVv (As := []) (rest := []) S hK hN hP hS hl (5 + 21 * i) (by have := h4; omega) ((ceP0 h4) _) rfl (c_X2_draftNewline l D g hg x36 hI39 i h4) (cwV 0 hts gX2_edit_X2_draftNewline rfl rfl rfl (by decide +kernel) ⟨Nat.le_of_ble_eq_true rfl, Nat.le_of_ble_eq_true rfl⟩) rfl rfl (Nat.le_of_ble_eq_true rfl) dX2_edit_171 ⟨Nat.zero_le _, Nat.zero_le _⟩ (fun x44 H locs hq46 hP hS => ?_)
                    obtain ⟨hI47, hT48, hf49⟩ := hq46
                    have hT50 : Same (TC) x x44 := hT42.tr hT48 (fun _ _ h => h)
                    refine lv_aload_n S.1 S.2.1 dX2_edit_174 rfl (lv_at hl 0 rfl) ?_
                    refine w_cVv (As := []) (rest := []) S hK hN hP hS hl (5 + 21 * i) (by have := h4; omega) ((ceP0 h4) _) rfl (c_X2_echo l D g hg x44 hI47 i h4) (cwV 0 hts gX2_edit_X2_echo rfl rfl rfl (by decide +kernel) ⟨Nat.le_of_ble_eq_true rfl, Nat.le_of_ble_eq_true rfl⟩) rfl rfl (Nat.le_of_ble_eq_true rfl) dX2_edit_175 ⟨Nat.zero_le _, Nat.zero_le _⟩ (fun x51 H locs hq53 hP hS => ?_)
                    obtain ⟨hI54, hT55, hf56⟩ := hq53
                    have hT57 : Same (TC) x x51 := hT50.tr hT55 (fun _ _ h => h)
                    refine lv_goto (tgt := 186) S.1 S.2.1 dX2_edit_178 (by decide) ?_
                    exact w_vret S hr0 hlk hP hS dX2_edit_186 (⟨hI54, hT57, trivial⟩)
              · refine lv_aload_n S.1 S.2.1 dX2_edit_144 rfl (lv_at hl 0 rfl) ?_
                refine w_sipush S dX2_edit_145 (by decide) (fun k58 hk58 => ?_)
                refine w_cVi (As := [.int k58]) (rest := []) S hK hN hP hS hl (5 + 21 * i) (by have := h4; omega) ((ceP0 h4) _) rfl (c_X2_endLine l D g hg x hI i h4 k58) (cwV 1 hts gX2_edit_X2_endLine rfl rfl rfl (by decide +kernel) ⟨Nat.le_of_ble_eq_true rfl, Nat.le_of_ble_eq_true rfl⟩) rfl rfl (Nat.le_of_ble_eq_true rfl) dX2_edit_148 ⟨Nat.zero_le _, Nat.zero_le _⟩ (fun r60 x59 H locs hq61 hP hS => ?_)
                obtain ⟨hI62, hT63, hf64⟩ := hq61
                have hT65 : Same (TC) x x59 := hT.tr hT63 (fun _ _ h => h)
                refine lv_pop S.1 S.2.1 dX2_edit_151 rfl ?_
                refine lv_goto (tgt := 186) S.1 S.2.1 dX2_edit_152 (by decide) ?_
                exact w_vret S hr0 hlk hP hS dX2_edit_186 (⟨hI62, hT65, trivial⟩)
            · refine lv_aload_n S.1 S.2.1 dX2_edit_125 rfl (lv_at hl 0 rfl) ?_
              refine lv_iload_n S.1 S.2.1 dX2_edit_126 rfl (lv_at hl 1 rfl) ?_
              refine w_cVv (As := [.int b]) (rest := []) S hK hN hP hS hl (5 + 21 * i) (by have := h4; omega) ((ceP0 h4) _) rfl (c_X2_reprint l D g hg x hI i h4 b) (cwV 1 hts gX2_edit_X2_reprint rfl rfl rfl (by decide +kernel) ⟨Nat.le_of_ble_eq_true rfl, Nat.le_of_ble_eq_true rfl⟩) rfl rfl (Nat.le_of_ble_eq_true rfl) dX2_edit_127 ⟨Nat.zero_le _, Nat.zero_le _⟩ (fun x66 H locs hq68 hP hS => ?_)
              obtain ⟨hI69, hT70, hf71⟩ := hq68
              have hT72 : Same (TC) x x66 := hT.tr hT70 (fun _ _ h => h)
              refine lv_goto (tgt := 186) S.1 S.2.1 dX2_edit_130 (by decide) ?_
              exact w_vret S hr0 hlk hP hS dX2_edit_186 (⟨hI69, hT72, trivial⟩)
          · refine lv_aload_n S.1 S.2.1 dX2_edit_106 rfl (lv_at hl 0 rfl) ?_
            refine w_iconst S dX2_edit_107 (by decide) (fun k73 hk73 => ?_)
            refine w_put (C := RX2) (T := TX2) (N := 15) (F := FPort g (5 + 21 * i)) S (fun _ h => List.mem_cons_of_mem _ (List.mem_append_left _ (List.mem_append_left _ (List.mem_append_left _ (List.mem_append_right _ h))))) tyX2_ok nmX2 hK hg hP hS (5 + 21 * i) (by have := h4; omega) (ceP0 h4) rfl 9 (by decide) (hts _ (List.mem_of_getElem? (i := 7) rfl)) rfl (tz_narrow (z01 (by omega) (by omega))) (tz_fits (z01 (by omega) (by omega))) (fun _ => Nat.le_of_ble_eq_true rfl) (fun _ => rfl) dX2_edit_108 (fun x74 H locs ex74 hP hS => ?_)
            have hI75 : Inv x74 := by rw [ex74]; exact hI.upP0 h4 (show (0 : Int) ≤ _ by omega) (show _ ≤ (1 : Int) by omega)
            have hT76 : Same (TC) x x74 := by rw [ex74]; exact hT.up (by unfold TC TrC; omega)
            refine lv_goto (tgt := 186) S.1 S.2.1 dX2_edit_111 (by decide) ?_
            exact w_vret S hr0 hlk hP hS dX2_edit_186 (⟨hI75, hT76, trivial⟩)
        · refine lv_aload_n S.1 S.2.1 dX2_edit_81 rfl (lv_at hl 0 rfl) ?_
          refine lv_aload_n S.1 S.2.1 dX2_edit_82 rfl (lv_at hl 0 rfl) ?_
          refine w_get (C := RX2) (T := TX2) (N := 15) S (fun _ h => List.mem_cons_of_mem _ (List.mem_append_left _ (List.mem_append_left _ (List.mem_append_left _ (List.mem_append_right _ h))))) hK hP (5 + 21 * i) (by have := h4; omega) ((ceP0 h4) _) rfl 3 (by decide) (hts _ (List.mem_of_getElem? (i := 2) rfl)) (v := .ref (g.1 (5 + 21 * i + 4))) rfl dX2_edit_83 ?_
          refine w_cVi (As := []) (rest := [.ref (g.1 (5 + 21 * i))]) S hK hN hP hS hl (5 + 21 * i + 4) (by have := h4; omega) ((ceP4 h4) _) rfl (c_X4_openLine l D g hg x hI i h4) (cwV 0 hts gX2_edit_X4_openLine rfl rfl rfl (by decide +kernel) ⟨Nat.le_of_ble_eq_true rfl, Nat.le_of_ble_eq_true rfl⟩) rfl rfl (Nat.le_of_ble_eq_true rfl) dX2_edit_86 ⟨Nat.zero_le _, Nat.zero_le _⟩ (fun r78 x77 H locs hq79 hP hS => ?_)
          obtain ⟨ex80, hf81⟩ := hq79
          rw [ex80] at hP
          refine w_cVv (As := [.int r78]) (rest := []) S hK hN hP hS hl (5 + 21 * i) (by have := h4; omega) ((ceP0 h4) _) rfl (c_X2_takeAway l D g hg x hI i h4 r78) (cwV 1 hts gX2_edit_X2_takeAway rfl rfl rfl (by decide +kernel) ⟨Nat.le_of_ble_eq_true rfl, Nat.le_of_ble_eq_true rfl⟩) rfl rfl (Nat.le_of_ble_eq_true rfl) dX2_edit_89 ⟨Nat.zero_le _, Nat.zero_le _⟩ (fun x82 H locs hq84 hP hS => ?_)
          obtain ⟨hI85, hT86, hf87⟩ := hq84
          have hT88 : Same (TC) x x82 := hT.tr hT86 (fun _ _ h => h)
          refine lv_goto (tgt := 186) S.1 S.2.1 dX2_edit_92 (by decide) ?_
          exact w_vret S hr0 hlk hP hS dX2_edit_186 (⟨hI85, hT88, trivial⟩)
      · refine lv_aload_n S.1 S.2.1 dX2_edit_56 rfl (lv_at hl 0 rfl) ?_
        refine lv_aload_n S.1 S.2.1 dX2_edit_57 rfl (lv_at hl 0 rfl) ?_
        refine w_get (C := RX2) (T := TX2) (N := 15) S (fun _ h => List.mem_cons_of_mem _ (List.mem_append_left _ (List.mem_append_left _ (List.mem_append_left _ (List.mem_append_right _ h))))) hK hP (5 + 21 * i) (by have := h4; omega) ((ceP0 h4) _) rfl 3 (by decide) (hts _ (List.mem_of_getElem? (i := 2) rfl)) (v := .ref (g.1 (5 + 21 * i + 4))) rfl dX2_edit_58 ?_
        refine w_cVi (As := []) (rest := [.ref (g.1 (5 + 21 * i))]) S hK hN hP hS hl (5 + 21 * i + 4) (by have := h4; omega) ((ceP4 h4) _) rfl (c_X4_lastWord l D g hg x hI i h4) (cwV 0 hts gX2_edit_X4_lastWord rfl rfl rfl (by decide +kernel) ⟨Nat.le_of_ble_eq_true rfl, Nat.le_of_ble_eq_true rfl⟩) rfl rfl (Nat.le_of_ble_eq_true rfl) dX2_edit_61 ⟨Nat.zero_le _, Nat.zero_le _⟩ (fun r90 x89 H locs hq91 hP hS => ?_)
        obtain ⟨ex92, hf93⟩ := hq91
        rw [ex92] at hP
        refine w_cVv (As := [.int r90]) (rest := []) S hK hN hP hS hl (5 + 21 * i) (by have := h4; omega) ((ceP0 h4) _) rfl (c_X2_takeAway l D g hg x hI i h4 r90) (cwV 1 hts gX2_edit_X2_takeAway rfl rfl rfl (by decide +kernel) ⟨Nat.le_of_ble_eq_true rfl, Nat.le_of_ble_eq_true rfl⟩) rfl rfl (Nat.le_of_ble_eq_true rfl) dX2_edit_64 ⟨Nat.zero_le _, Nat.zero_le _⟩ (fun x94 H locs hq96 hP hS => ?_)
        obtain ⟨hI97, hT98, hf99⟩ := hq96
        have hT100 : Same (TC) x x94 := hT.tr hT98 (fun _ _ h => h)
        refine lv_goto (tgt := 186) S.1 S.2.1 dX2_edit_67 (by decide) ?_
        exact w_vret S hr0 hlk hP hS dX2_edit_186 (⟨hI97, hT100, trivial⟩)
    · refine lv_aload_n S.1 S.2.1 dX2_edit_27 rfl (lv_at hl 0 rfl) ?_
      refine w_iconst S dX2_edit_28 (by decide) (fun k101 hk101 => ?_)
      refine lv_aload_n S.1 S.2.1 dX2_edit_29 rfl (lv_at hl 0 rfl) ?_
      refine w_get (C := RX2) (T := TX2) (N := 15) S (fun _ h => List.mem_cons_of_mem _ (List.mem_append_left _ (List.mem_append_left _ (List.mem_append_left _ (List.mem_append_right _ h))))) hK hP (5 + 21 * i) (by have := h4; omega) ((ceP0 h4) _) rfl 3 (by decide) (hts _ (List.mem_of_getElem? (i := 2) rfl)) (v := .ref (g.1 (5 + 21 * i + 4))) rfl dX2_edit_30 ?_
      refine w_cVi (As := []) (rest := [.int k101, .ref (g.1 (5 + 21 * i))]) S hK hN hP hS hl (5 + 21 * i + 4) (by have := h4; omega) ((ceP4 h4) _) rfl (c_X4_openLine l D g hg x hI i h4) (cwV 0 hts gX2_edit_X4_openLine rfl rfl rfl (by decide +kernel) ⟨Nat.le_of_ble_eq_true rfl, Nat.le_of_ble_eq_true rfl⟩) rfl rfl (Nat.le_of_ble_eq_true rfl) dX2_edit_33 ⟨Nat.zero_le _, Nat.zero_le _⟩ (fun r103 x102 H locs hq104 hP hS => ?_)
      obtain ⟨ex105, hf106⟩ := hq104
      rw [ex105] at hP
      refine va_mmin S.1 S.2.1 (by rw [S.2.2.1]; exact hl.1.symm) S.2.2.2.1 (hts _ (List.mem_of_getElem? (i := 3) rfl)) (hts _ (List.mem_of_getElem? (i := 4) rfl)) (hts _ (List.mem_of_getElem? (i := 5) rfl)) (hts _ (List.mem_of_getElem? (i := 6) rfl)) (Nat.le_of_ble_eq_true rfl) (Nat.le_of_ble_eq_true rfl) (Nat.zero_le _) (Nat.zero_le _) dX2_edit_36 ?_
      refine lv_topi (fun v107 ev107 => ?_)
      have hv107 := t_min ev107
      refine w_cVv (As := [.int v107]) (rest := []) S hK hN hP hS hl (5 + 21 * i) (by have := h4; omega) ((ceP0 h4) _) rfl (c_X2_takeAway l D g hg x hI i h4 v107) (cwV 1 hts gX2_edit_X2_takeAway rfl rfl rfl (by decide +kernel) ⟨Nat.le_of_ble_eq_true rfl, Nat.le_of_ble_eq_true rfl⟩) rfl rfl (Nat.le_of_ble_eq_true rfl) dX2_edit_39 ⟨Nat.zero_le _, Nat.zero_le _⟩ (fun x108 H locs hq110 hP hS => ?_)
      obtain ⟨hI111, hT112, hf113⟩ := hq110
      have hT114 : Same (TC) x x108 := hT.tr hT112 (fun _ _ h => h)
      refine lv_goto (tgt := 186) S.1 S.2.1 dX2_edit_42 (by decide) ?_
      exact w_vret S hr0 hlk hP hS dX2_edit_186 (⟨hI111, hT114, trivial⟩)
  · refine lv_aload_n S.1 S.2.1 dX2_edit_8 rfl (lv_at hl 0 rfl) ?_
    refine lv_iload_n S.1 S.2.1 dX2_edit_9 rfl (lv_at hl 1 rfl) ?_
    refine w_cVv (As := [.int b]) (rest := []) S hK hN hP hS hl (5 + 21 * i) (by have := h4; omega) ((ceP0 h4) _) rfl (c_X2_keepAndEcho l D g hg x hI i h4 b) (cwV 1 hts gX2_edit_X2_keepAndEcho rfl rfl rfl (by decide +kernel) ⟨Nat.le_of_ble_eq_true rfl, Nat.le_of_ble_eq_true rfl⟩) rfl rfl (Nat.le_of_ble_eq_true rfl) dX2_edit_10 ⟨Nat.zero_le _, Nat.zero_le _⟩ (fun x115 H locs hq117 hP hS => ?_)
    obtain ⟨hI118, hT119, hf120⟩ := hq117
    have hT121 : Same (TC) x x115 := hT.tr hT119 (fun _ _ h => h)
    refine lv_goto (tgt := 186) S.1 S.2.1 dX2_edit_13 (by decide) ?_
    exact w_vret S hr0 hlk hP hS dX2_edit_186 (⟨hI118, hT121, trivial⟩)
set_option maxRecDepth 100000 in
set_option maxHeartbeats 4000000 in
theorem c_X2_pass (l : Launch) (D : va_G) (g : GA) (hg : Inj g) (x : St) (hI : Inv x) (i : Nat) (h4 : i < 4) : Met l yX2_pass wsX2_pass ({ frames := 5, cells := 0, slots := 0, locals := 110 } : Room) (va_Pc [.ref (g.1 (5 + 21 * i))] (WI D g x)) (va_Qv (fun x2 => Inv x2 ∧ Same (TCr i) x x2 ∧ (x2 (5 + 21 * i + 2) 2).toInt = 0 ∧ ((x (5 + 21 * i + 2) 2).toInt = 0 → x2 = x)) (WO D g) (AQ g)) 0 0 (AQ g) := by
  refine w_met (cc := cX2_pass) (maxL := 5) (ret := none) (own := RX2) (by decide) rfl rfl (Nat.le_of_ble_eq_true rfl) (fun p e s m below meth co S hr0 hlk hK hN hP hS ls hl => ?_)
  have hts := S.2.2.2.2
  have hl : lv_has ls 5 [(0, .ref (g.1 (5 + 21 * i)))] := hl
  have hT : Same (TCr i) x x := Same.rf
  have J2 : ∀ (n0 : Nat) (x_2 : St) (H : Heap) (locs : List Loc) (ls : Array Slot) (y2_1 : Int32), Inv x_2 → Same (TCr i) x x_2 → (0 ≤ y2_1.toInt) → (y2_1.toInt ≤ 8) → ((x_2 (5 + 21 * i + 2) 2).toInt + y2_1.toInt ≤ 8) → ((x (5 + 21 * i + 2) 2).toInt = 0 → x_2 = x) → (8 - y2_1.toInt).toNat < n0 → va_P D vwCl (WL g x_2) H → va_S (AQ g) s.heap H locs → lv_has ls 5 [(0, .ref (g.1 (5 + 21 * i))), (1, .int y2_1)] → W p l e ({ frames := 5, cells := 0, slots := 0, locals := 110 } : Room) s m ([.ref (g.1 (5 + 21 * i))] : List Value).toArray below meth co H locs 0 0 (MQ below (va_Qv (fun x2 => Inv x2 ∧ Same (TCr i) x x2 ∧ (x2 (5 + 21 * i + 2) 2).toInt = 0 ∧ ((x (5 + 21 * i + 2) 2).toInt = 0 → x2 = x)) (WO D g) (AQ g)) ([.ref (g.1 (5 + 21 * i))] : List Value).toArray s 0 0 (AQ g)) (F0 m 2 ls []) := by
    intro n0
    induction n0 with
    | zero => intro x_2 H locs ls y2_1 hI_2 hT_2 hf2_0 hf2_1 hf2_2 hf2_3 hm_2 hP hS hl; exact absurd hm_2 (Nat.not_lt_zero _)
    | succ n0 ih2 =>
      intro x_2 H locs ls y2_1 hI_2 hT_2 hf2_0 hf2_1 hf2_2 hf2_3 hm_2 hP hS hl
      have hz_ : (0 : Int) ≤ (x_2 (5 + 21 * i + 2) 2).toInt := (hI_2.atP (j := 2) (k := 2) h4 (by decide)).1
      have J122 : ∀ (x_122 : St) (H : Heap) (locs : List Loc) (ls : Array Slot), Inv x_122 → Same (TCr i) x x_122 → ((x_122 (5 + 21 * i + 2) 2).toInt + y2_1.toInt + 1 ≤ 8) → (0 < (x_2 (5 + 21 * i + 2) 2).toInt) → va_P D vwCl (WL g x_122) H → va_S (AQ g) s.heap H locs → lv_has ls 5 [(0, .ref (g.1 (5 + 21 * i))), (1, .int y2_1)] → W p l e ({ frames := 5, cells := 0, slots := 0, locals := 110 } : Room) s m ([.ref (g.1 (5 + 21 * i))] : List Value).toArray below meth co H locs 0 0 (MQ below (va_Qv (fun x2 => Inv x2 ∧ Same (TCr i) x x2 ∧ (x2 (5 + 21 * i + 2) 2).toInt = 0 ∧ ((x (5 + 21 * i + 2) 2).toInt = 0 → x2 = x)) (WO D g) (AQ g)) ([.ref (g.1 (5 + 21 * i))] : List Value).toArray s 0 0 (AQ g)) (F0 m 122 ls []) := by
        intro x_122 H locs ls hI_122 hT_122 hf122_0 hf122_1 hP hS hl
        refine w_iinc (lv' := [(0, .ref (g.1 (5 + 21 * i)))]) S dX2_pass_122 hl (k := 1) rfl (by decide) (by decide) (by omega) (by omega) (fun _ => rfl) (fun v1 ls hv1 hl => ?_)
        refine lv_goto (tgt := 2) S.1 S.2.1 dX2_pass_125 (by decide) ?_
        exact ih2 _ _ _ _ v1 hI_122 hT_122 (by omega) (by omega) (by first | omega | (have := hI.atP (j := 2) (k := 2) h4 (by decide); have h8 : (x (5 + 21 * i + 2) 2).toInt ≤ 8 := this.2; omega)) (by first | exact fun _ => rfl | (intro h0; exfalso; have e9 := hf2_3 h0; subst e9; omega)) (by omega) hP hS (lv_sub hl [1, 0] rfl)
      refine lv_iload_n S.1 S.2.1 dX2_pass_2 rfl (lv_at hl 1 rfl) ?_
      refine w_bipush S dX2_pass_3 (by decide) (fun k2 hk2 => ?_)
      refine w_icmp_ge (tgt := 128) S dX2_pass_5 (by decide) (fun hb3 => ?_) (fun hb3 => ?_)
      · exact w_vret S hr0 hlk hP hS dX2_pass_128 (⟨hI_2, hT_2, by omega, by assumption⟩)
      · refine lv_aload_n S.1 S.2.1 dX2_pass_8 rfl (lv_at hl 0 rfl) ?_
        refine w_get (C := RX2) (T := TX2) (N := 15) S (fun _ h => List.mem_cons_of_mem _ (List.mem_append_left _ (List.mem_append_left _ (List.mem_append_left _ (List.mem_append_left _ (List.mem_append_left _ (List.mem_append_right _ h))))))) hK hP (5 + 21 * i) (by have := h4; omega) ((ceP0 h4) _) rfl 2 (by decide) (hts _ (List.mem_of_getElem? (i := 1) rfl)) (v := .ref (g.1 (5 + 21 * i + 2))) rfl dX2_pass_9 ?_
        refine w_getN (C := RX3) (T := TX3) (N := 3) S (fun _ h => List.mem_cons_of_mem _ (List.mem_append_left _ (List.mem_append_left _ (List.mem_append_left _ (List.mem_append_left _ (List.mem_append_right _ h)))))) hK hP (5 + 21 * i + 2) (by have := h4; omega) ((ceP2 h4) _) rfl 2 (by decide) (hN.1 _ (List.mem_of_getElem? (i := 6) rfl)) (v := .int (x_2 (5 + 21 * i + 2) 2)) rfl dX2_pass_12 ?_
        refine lv_topi (fun v4 ev4 => ?_)
        have wv4 : v4.toInt = (x_2 (5 + 21 * i + 2) 2).toInt := by rw [ev4]
        have rv4 : (0 : Int) ≤ v4.toInt ∧ v4.toInt ≤ (8 : Int) := by rw [ev4]; exact hI_2.atP (j := 2) (k := 2) h4 (by decide)
        refine w_if_le (tgt := 128) S dX2_pass_15 (by decide) (fun hb5 => ?_) (fun hb5 => ?_)
        · exact w_vret S hr0 hlk hP hS dX2_pass_128 (⟨hI_2, hT_2, by omega, by assumption⟩)
        · refine lv_aload_n S.1 S.2.1 dX2_pass_18 rfl (lv_at hl 0 rfl) ?_
          refine w_get (C := RX2) (T := TX2) (N := 15) S (fun _ h => List.mem_cons_of_mem _ (List.mem_append_left _ (List.mem_append_left _ (List.mem_append_left _ (List.mem_append_left _ (List.mem_append_left _ (List.mem_append_right _ h))))))) hK hP (5 + 21 * i) (by have := h4; omega) ((ceP0 h4) _) rfl 2 (by decide) (hts _ (List.mem_of_getElem? (i := 1) rfl)) (v := .ref (g.1 (5 + 21 * i + 2))) rfl dX2_pass_19 ?_
          refine w_cVi (As := []) (rest := []) S hK hN hP hS hl (5 + 21 * i + 2) (by have := h4; omega) ((ceP2 h4) _) rfl (c_X3_takeFirst l D g hg x_2 hI_2 (5 + 21 * i + 2) 8 (isRow2 h4)) (cwV 0 hts gX2_pass_X3_takeFirst rfl rfl rfl (by decide +kernel) ⟨Nat.le_of_ble_eq_true rfl, Nat.le_of_ble_eq_true rfl⟩) rfl rfl (Nat.le_of_ble_eq_true rfl) dX2_pass_22 ⟨Nat.zero_le _, Nat.zero_le _⟩ (fun r7 x6 H locs hq8 hP hS => ?_)
          obtain ⟨hI9, hT10, hf11⟩ := hq8
          have hT12 : Same (TCr i) x x6 := hT_2.tr hT10 (fun c0 k0 h => by unfold TCr TC TrC at h; unfold TR; omega)
          refine lv_istore_n (lv' := [(2, .int r7), (0, .ref (g.1 (5 + 21 * i))), (1, .int y2_1)]) S.1 S.2.1 dX2_pass_25 rfl hl (by decide) rfl (fun ls hl => ?_)
          refine lv_iload_n S.1 S.2.1 dX2_pass_26 rfl (lv_at hl 0 rfl) ?_
          refine w_sipush S dX2_pass_27 (by decide) (fun k13 hk13 => ?_)
          refine lv_iand S.1 S.2.1 dX2_pass_30 ?_
          refine w_any1 (fun v14 => ?_)
          refine lv_istore_n (lv' := [(3, .int v14), (2, .int r7), (0, .ref (g.1 (5 + 21 * i))), (1, .int y2_1)]) S.1 S.2.1 dX2_pass_31 rfl hl (by decide) rfl (fun ls hl => ?_)
          refine lv_iload_n S.1 S.2.1 dX2_pass_32 rfl (lv_at hl 1 rfl) ?_
          refine w_bipush S dX2_pass_33 (by decide) (fun k15 hk15 => ?_)
          refine lv_ishr S.1 S.2.1 dX2_pass_35 ?_
          refine w_any1 (fun v16 => ?_)
          refine lv_istore (lv' := [(4, .int v16), (3, .int v14), (2, .int r7), (0, .ref (g.1 (5 + 21 * i))), (1, .int y2_1)]) S.1 S.2.1 dX2_pass_36 hl (by decide) rfl (fun ls hl => ?_)
          refine lv_iload S.1 S.2.1 dX2_pass_38 (lv_at hl 0 rfl) ?_
          refine w_if_eq (tgt := 62) S dX2_pass_40 (by decide) (fun hb17 => ?_) (fun hb17 => ?_)
          · refine lv_aload_n S.1 S.2.1 dX2_pass_62 rfl (lv_at hl 3 rfl) ?_
            refine w_get (C := RX2) (T := TX2) (N := 15) S (fun _ h => List.mem_cons_of_mem _ (List.mem_append_left _ (List.mem_append_left _ (List.mem_append_left _ (List.mem_append_left _ (List.mem_append_left _ (List.mem_append_right _ h))))))) hK hP (5 + 21 * i) (by have := h4; omega) ((ceP0 h4) _) rfl 9 (by decide) (hts _ (List.mem_of_getElem? (i := 2) rfl)) (v := .int (x6 (5 + 21 * i) 9)) rfl dX2_pass_63 ?_
            refine lv_topi (fun v18 ev18 => ?_)
            have wv18 : v18.toInt = (x6 (5 + 21 * i) 9).toInt := by rw [ev18]
            have rv18 : (0 : Int) ≤ v18.toInt ∧ v18.toInt ≤ (1 : Int) := by rw [ev18]; exact hI9.atP0 (k := 9) h4
            refine w_if_eq (tgt := 82) S dX2_pass_66 (by decide) (fun hb19 => ?_) (fun hb19 => ?_)
            · refine lv_aload_n S.1 S.2.1 dX2_pass_82 rfl (lv_at hl 3 rfl) ?_
              refine lv_iload_n S.1 S.2.1 dX2_pass_83 rfl (lv_at hl 1 rfl) ?_
              refine w_cVi (As := [.int v14]) (rest := []) S hK hN hP hS hl (5 + 21 * i) (by have := h4; omega) ((ceP0 h4) _) rfl (c_X2_settledAsFlow l D g hg x6 hI9 i h4 v14) (cwV 1 hts gX2_pass_X2_settledAsFlow rfl rfl rfl (by decide +kernel) ⟨Nat.le_of_ble_eq_true rfl, Nat.le_of_ble_eq_true rfl⟩) rfl rfl (Nat.le_of_ble_eq_true rfl) dX2_pass_84 ⟨Nat.zero_le _, Nat.zero_le _⟩ (fun r21 x20 H locs hq22 hP hS => ?_)
              obtain ⟨hI23, hT24, hf25⟩ := hq22
              have hT26 : Same (TCr i) x x20 := hT12.tr hT24 (fun _ _ h => h.1)
              have u27 : (x20 (5 + 21 * i + 2) 2).toInt = (x6 (5 + 21 * i + 2) 2).toInt := by rw [hT24 (5 + 21 * i + 2) 2 (by unfold TC TrC; omega)]
              refine w_if_ne (tgt := 122) S dX2_pass_87 (by decide) (fun hb28 => ?_) (fun hb28 => ?_)
              · exact J122 _ _ _ _ hI23 hT26 (by omega) (by omega) hP hS (lv_sub hl [3, 4] rfl)
              · refine lv_aload_n S.1 S.2.1 dX2_pass_90 rfl (lv_at hl 3 rfl) ?_
                refine lv_iload_n S.1 S.2.1 dX2_pass_91 rfl (lv_at hl 1 rfl) ?_
                refine w_cVi (As := [.int v14]) (rest := []) S hK hN hP hS hl (5 + 21 * i) (by have := h4; omega) ((ceP0 h4) _) rfl (c_X2_settledAsSignal l D g hg x20 hI23 i h4 v14) (cwV 1 hts gX2_pass_X2_settledAsSignal rfl rfl rfl (by decide +kernel) ⟨Nat.le_of_ble_eq_true rfl, Nat.le_of_ble_eq_true rfl⟩) rfl rfl (Nat.le_of_ble_eq_true rfl) dX2_pass_92 ⟨Nat.zero_le _, Nat.zero_le _⟩ (fun r30 x29 H locs hq31 hP hS => ?_)
                obtain ⟨hI32, hT33, hf34⟩ := hq31
                have hT35 : Same (TCr i) x x29 := hT26.tr hT33 (fun _ _ h => h.1)
                have u36 : (x29 (5 + 21 * i + 2) 2).toInt = (x20 (5 + 21 * i + 2) 2).toInt := by rw [hT33 (5 + 21 * i + 2) 2 (by unfold TC TrC; omega)]
                refine w_if_ne (tgt := 122) S dX2_pass_95 (by decide) (fun hb37 => ?_) (fun hb37 => ?_)
                · exact J122 _ _ _ _ hI32 hT35 (by omega) (by omega) hP hS (lv_sub hl [3, 4] rfl)
                · refine lv_aload_n S.1 S.2.1 dX2_pass_98 rfl (lv_at hl 3 rfl) ?_
                  refine lv_iload_n S.1 S.2.1 dX2_pass_99 rfl (lv_at hl 1 rfl) ?_
                  refine w_bipush S dX2_pass_100 (by decide) (fun k38 hk38 => ?_)
                  refine w_icmp_ne (tgt := 118) S dX2_pass_102 (by decide) (fun hb39 => ?_) (fun hb39 => ?_)
                  · refine lv_iload_n S.1 S.2.1 dX2_pass_118 rfl (lv_at hl 1 rfl) ?_
                    refine w_cVv (As := [.int v14]) (rest := []) S hK hN hP hS hl (5 + 21 * i) (by have := h4; omega) ((ceP0 h4) _) rfl (c_X2_edit l D g hg x29 hI32 i h4 v14) (cwV 1 hts gX2_pass_X2_edit rfl rfl rfl (by decide +kernel) ⟨Nat.le_of_ble_eq_true rfl, Nat.le_of_ble_eq_true rfl⟩) rfl rfl (Nat.le_of_ble_eq_true rfl) dX2_pass_119 ⟨Nat.zero_le _, Nat.zero_le _⟩ (fun x40 H locs hq42 hP hS => ?_)
                    obtain ⟨hI43, hT44, hf45⟩ := hq42
                    have hT46 : Same (TCr i) x x40 := hT35.tr hT44 (fun _ _ h => h.1)
                    have u47 : (x40 (5 + 21 * i + 2) 2).toInt = (x29 (5 + 21 * i + 2) 2).toInt := by rw [hT44 (5 + 21 * i + 2) 2 (by unfold TC TrC; omega)]
                    exact J122 _ _ _ _ hI43 hT46 (by omega) (by omega) hP hS (lv_sub hl [3, 4] rfl)
                  · refine lv_aload_n S.1 S.2.1 dX2_pass_105 rfl (lv_at hl 3 rfl) ?_
                    refine w_iconst S dX2_pass_106 (by decide) (fun k48 hk48 => ?_)
                    refine w_cVi (As := [.int k48]) (rest := [.ref (g.1 (5 + 21 * i))]) S hK hN hP hS hl (5 + 21 * i) (by have := h4; omega) ((ceP0 h4) _) rfl (c_X2_isOn l D g hg x29 hI32 i h4 k48 (by omega)) (cwV 1 hts gX2_pass_X2_isOn rfl rfl rfl (by decide +kernel) ⟨Nat.le_of_ble_eq_true rfl, Nat.le_of_ble_eq_true rfl⟩) rfl rfl (Nat.le_of_ble_eq_true rfl) dX2_pass_107 ⟨Nat.zero_le _, Nat.zero_le _⟩ (fun r50 x49 H locs hq51 hP hS => ?_)
                    obtain ⟨ex52, hf53⟩ := hq51
                    rw [ex52] at hP
                    refine w_if_eq (tgt := 118) S dX2_pass_110 (by decide) (fun hb54 => ?_) (fun hb54 => ?_)
                    · refine lv_iload_n S.1 S.2.1 dX2_pass_118 rfl (lv_at hl 1 rfl) ?_
                      refine w_cVv (As := [.int v14]) (rest := []) S hK hN hP hS hl (5 + 21 * i) (by have := h4; omega) ((ceP0 h4) _) rfl (c_X2_edit l D g hg x29 hI32 i h4 v14) (cwV 1 hts gX2_pass_X2_edit rfl rfl rfl (by decide +kernel) ⟨Nat.le_of_ble_eq_true rfl, Nat.le_of_ble_eq_true rfl⟩) rfl rfl (Nat.le_of_ble_eq_true rfl) dX2_pass_119 ⟨Nat.zero_le _, Nat.zero_le _⟩ (fun x55 H locs hq57 hP hS => ?_)
                      obtain ⟨hI58, hT59, hf60⟩ := hq57
                      have hT61 : Same (TCr i) x x55 := hT35.tr hT59 (fun _ _ h => h.1)
                      have u62 : (x55 (5 + 21 * i + 2) 2).toInt = (x29 (5 + 21 * i + 2) 2).toInt := by rw [hT59 (5 + 21 * i + 2) 2 (by unfold TC TrC; omega)]
                      exact J122 _ _ _ _ hI58 hT61 (by omega) (by omega) hP hS (lv_sub hl [3, 4] rfl)
                    · refine w_bipush S dX2_pass_113 (by decide) (fun k63 hk63 => ?_)
                      refine lv_goto (tgt := 119) S.1 S.2.1 dX2_pass_115 (by decide) ?_
                      refine w_cVv (As := [.int k63]) (rest := []) S hK hN hP hS hl (5 + 21 * i) (by have := h4; omega) ((ceP0 h4) _) rfl (c_X2_edit l D g hg x29 hI32 i h4 k63) (cwV 1 hts gX2_pass_X2_edit rfl rfl rfl (by decide +kernel) ⟨Nat.le_of_ble_eq_true rfl, Nat.le_of_ble_eq_true rfl⟩) rfl rfl (Nat.le_of_ble_eq_true rfl) dX2_pass_119 ⟨Nat.zero_le _, Nat.zero_le _⟩ (fun x64 H locs hq66 hP hS => ?_)
                      obtain ⟨hI67, hT68, hf69⟩ := hq66
                      have hT70 : Same (TCr i) x x64 := hT35.tr hT68 (fun _ _ h => h.1)
                      have u71 : (x64 (5 + 21 * i + 2) 2).toInt = (x29 (5 + 21 * i + 2) 2).toInt := by rw [hT68 (5 + 21 * i + 2) 2 (by unfold TC TrC; omega)]
                      exact J122 _ _ _ _ hI67 hT70 (by omega) (by omega) hP hS (lv_sub hl [3, 4] rfl)
            · refine lv_aload_n S.1 S.2.1 dX2_pass_69 rfl (lv_at hl 3 rfl) ?_
              refine w_iconst S dX2_pass_70 (by decide) (fun k72 hk72 => ?_)
              refine w_put (C := RX2) (T := TX2) (N := 15) (F := FPort g (5 + 21 * i)) S (fun _ h => List.mem_cons_of_mem _ (List.mem_append_left _ (List.mem_append_left _ (List.mem_append_left _ (List.mem_append_left _ (List.mem_append_left _ (List.mem_append_right _ h))))))) tyX2_ok nmX2 hK hg hP hS (5 + 21 * i) (by have := h4; omega) (ceP0 h4) rfl 9 (by decide) (hts _ (List.mem_of_getElem? (i := 2) rfl)) rfl (tz_narrow (z01 (by omega) (by omega))) (tz_fits (z01 (by omega) (by omega))) (fun _ => Nat.le_of_ble_eq_true rfl) (fun _ => rfl) dX2_pass_71 (fun x73 H locs ex73 hP hS => ?_)
              have hI74 : Inv x73 := by rw [ex73]; exact hI9.upP0 h4 (show (0 : Int) ≤ _ by omega) (show _ ≤ (1 : Int) by omega)
              have hT75 : Same (TCr i) x x73 := by rw [ex73]; exact hT12.up (by unfold TCr TC TrC; omega)
              have u76 : (x73 (5 + 21 * i + 2) 2).toInt = (x6 (5 + 21 * i + 2) 2).toInt := by rw [ex73, up2_ne _ _ (by omega)]
              refine lv_aload_n S.1 S.2.1 dX2_pass_74 rfl (lv_at hl 3 rfl) ?_
              refine lv_iload_n S.1 S.2.1 dX2_pass_75 rfl (lv_at hl 1 rfl) ?_
              refine w_cVv (As := [.int v14]) (rest := []) S hK hN hP hS hl (5 + 21 * i) (by have := h4; omega) ((ceP0 h4) _) rfl (c_X2_keepAndEcho l D g hg x73 hI74 i h4 v14) (cwV 1 hts gX2_pass_X2_keepAndEcho rfl rfl rfl (by decide +kernel) ⟨Nat.le_of_ble_eq_true rfl, Nat.le_of_ble_eq_true rfl⟩) rfl rfl (Nat.le_of_ble_eq_true rfl) dX2_pass_76 ⟨Nat.zero_le _, Nat.zero_le _⟩ (fun x77 H locs hq79 hP hS => ?_)
              obtain ⟨hI80, hT81, hf82⟩ := hq79
              have hT83 : Same (TCr i) x x77 := hT75.tr hT81 (fun _ _ h => h.1)
              have u84 : (x77 (5 + 21 * i + 2) 2).toInt = (x73 (5 + 21 * i + 2) 2).toInt := by rw [hT81 (5 + 21 * i + 2) 2 (by unfold TC TrC; omega)]
              refine lv_goto (tgt := 122) S.1 S.2.1 dX2_pass_79 (by decide) ?_
              exact J122 _ _ _ _ hI80 hT83 (by omega) (by omega) hP hS (lv_sub hl [3, 4] rfl)
          · refine lv_aload_n S.1 S.2.1 dX2_pass_43 rfl (lv_at hl 3 rfl) ?_
            refine lv_iload S.1 S.2.1 dX2_pass_44 (lv_at hl 0 rfl) ?_
            refine w_iconst S dX2_pass_46 (by decide) (fun k85 hk85 => ?_)
            refine lv_iand S.1 S.2.1 dX2_pass_47 ?_
            refine w_any1 (fun v86 => ?_)
            refine w_if_eq (tgt := 55) S dX2_pass_48 (by decide) (fun hb87 => ?_) (fun hb87 => ?_)
            · refine w_iconst S dX2_pass_55 (by decide) (fun k88 hk88 => ?_)
              refine w_cVv (As := [.int k88]) (rest := []) S hK hN hP hS hl (5 + 21 * i) (by have := h4; omega) ((ceP0 h4) _) rfl (c_X2_takeFlagged l D g hg x6 hI9 i h4 k88) (cwV 1 hts gX2_pass_X2_takeFlagged rfl rfl rfl (by decide +kernel) ⟨Nat.le_of_ble_eq_true rfl, Nat.le_of_ble_eq_true rfl⟩) rfl rfl (Nat.le_of_ble_eq_true rfl) dX2_pass_56 ⟨Nat.zero_le _, Nat.zero_le _⟩ (fun x89 H locs hq91 hP hS => ?_)
              obtain ⟨hI92, hT93, hf94⟩ := hq91
              have hT95 : Same (TCr i) x x89 := hT12.tr hT93 (fun _ _ h => h.1)
              have u96 : (x89 (5 + 21 * i + 2) 2).toInt = (x6 (5 + 21 * i + 2) 2).toInt := by rw [hT93 (5 + 21 * i + 2) 2 (by unfold TC TrC; omega)]
              refine lv_goto (tgt := 122) S.1 S.2.1 dX2_pass_59 (by decide) ?_
              exact J122 _ _ _ _ hI92 hT95 (by omega) (by omega) hP hS (lv_sub hl [3, 4] rfl)
            · refine w_iconst S dX2_pass_51 (by decide) (fun k97 hk97 => ?_)
              refine lv_goto (tgt := 56) S.1 S.2.1 dX2_pass_52 (by decide) ?_
              refine w_cVv (As := [.int k97]) (rest := []) S hK hN hP hS hl (5 + 21 * i) (by have := h4; omega) ((ceP0 h4) _) rfl (c_X2_takeFlagged l D g hg x6 hI9 i h4 k97) (cwV 1 hts gX2_pass_X2_takeFlagged rfl rfl rfl (by decide +kernel) ⟨Nat.le_of_ble_eq_true rfl, Nat.le_of_ble_eq_true rfl⟩) rfl rfl (Nat.le_of_ble_eq_true rfl) dX2_pass_56 ⟨Nat.zero_le _, Nat.zero_le _⟩ (fun x98 H locs hq100 hP hS => ?_)
              obtain ⟨hI101, hT102, hf103⟩ := hq100
              have hT104 : Same (TCr i) x x98 := hT12.tr hT102 (fun _ _ h => h.1)
              have u105 : (x98 (5 + 21 * i + 2) 2).toInt = (x6 (5 + 21 * i + 2) 2).toInt := by rw [hT102 (5 + 21 * i + 2) 2 (by unfold TC TrC; omega)]
              refine lv_goto (tgt := 122) S.1 S.2.1 dX2_pass_59 (by decide) ?_
              exact J122 _ _ _ _ hI101 hT104 (by omega) (by omega) hP hS (lv_sub hl [3, 4] rfl)
  refine w_iconst S dX2_pass_0 (by decide) (fun k106 hk106 => ?_)
  refine lv_istore_n (lv' := [(1, .int k106), (0, .ref (g.1 (5 + 21 * i)))]) S.1 S.2.1 dX2_pass_1 rfl hl (by decide) rfl (fun ls hl => ?_)
  exact J2 _ _ _ _ _ k106 hI hT (by omega) (by omega) (by first | omega | (have := hI.atP (j := 2) (k := 2) h4 (by decide); have h8 : (x (5 + 21 * i + 2) 2).toInt ≤ 8 := this.2; omega)) (by first | exact fun _ => rfl | (intro h0; exfalso; have e9 := hf2_3 h0; subst e9; omega)) (Nat.lt_succ_self _) hP hS (lv_sub hl [1, 0] rfl)
set_option maxRecDepth 100000 in
set_option maxHeartbeats 4000000 in
theorem c_X2_openFor (l : Launch) (D : va_G) (g : GA) (hg : Inj g) (x : St) (hI : Inv x) (i : Nat) (h4 : i < 4) (a : Int32) (ha : 0 ≤ a.toInt ∧ a.toInt < 8) : Met l yX2_openFor wsX2_openFor ({ frames := 0, cells := 0, slots := 0, locals := 0 } : Room) (va_Pc [.ref (g.1 (5 + 21 * i)), .int a] (WI D g x)) (va_Qi (fun r x2 => Inv x2 ∧ Same (TCo i) x x2 ∧ ((r.toInt = 0 ∧ x2 = x ∧ ((x (5 + 21 * i) 10).toInt = 0 ∨ ((x (5 + 21 * i + 19) a.toInt.toNat).toInt ≠ 0 ∧ (x (5 + 21 * i) 11).toInt = 0))) ∨ (r.toInt = 1 ∧ ((x (5 + 21 * i) 10).toInt ≠ 0 ∧ ((x (5 + 21 * i + 19) a.toInt.toNat).toInt = 0 ∨ (x (5 + 21 * i) 11).toInt ≠ 0)) ∧ (x2 (5 + 21 * i) 11).toInt = 0 ∧ ∀ k, k < 8 → (x2 (5 + 21 * i + 19) k) = if k = a.toInt.toNat then 1 else if (x (5 + 21 * i) 11).toInt = 0 then (x (5 + 21 * i + 19) k) else 0))) (WO D g) (AQ g)) 0 0 (AQ g) := by
  refine w_met (cc := cX2_openFor) (maxL := 3) (ret := (some .boolean)) (own := RX2) (by decide) rfl rfl (Nat.le_of_ble_eq_true rfl) (fun p e s m below meth co S hr0 hlk hK hN hP hS ls hl => ?_)
  have hts := S.2.2.2.2
  have hl : lv_has ls 3 [(0, .ref (g.1 (5 + 21 * i))), (1, .int a)] := hl
  have hT : Same (TCo i) x x := Same.rf
  have J53 : ∀ (x_53 : St) (H : Heap) (locs : List Loc) (ls : Array Slot), Inv x_53 → Same (TCo i) x x_53 → ((x (5 + 21 * i) 10).toInt ≠ 0 ∧ ((x (5 + 21 * i + 19) a.toInt.toNat).toInt = 0 ∨ (x (5 + 21 * i) 11).toInt ≠ 0)) → (∀ k, k < 8 → (x_53 (5 + 21 * i + 19) k) = if (x (5 + 21 * i) 11).toInt = 0 then (x (5 + 21 * i + 19) k) else 0) → va_P D vwCl (WL g x_53) H → va_S (AQ g) s.heap H locs → lv_has ls 3 [(0, .ref (g.1 (5 + 21 * i))), (1, .int a)] → W p l e ({ frames := 0, cells := 0, slots := 0, locals := 0 } : Room) s m ([.ref (g.1 (5 + 21 * i)), .int a] : List Value).toArray below meth co H locs 0 0 (MQ below (va_Qi (fun r x2 => Inv x2 ∧ Same (TCo i) x x2 ∧ ((r.toInt = 0 ∧ x2 = x ∧ ((x (5 + 21 * i) 10).toInt = 0 ∨ ((x (5 + 21 * i + 19) a.toInt.toNat).toInt ≠ 0 ∧ (x (5 + 21 * i) 11).toInt = 0))) ∨ (r.toInt = 1 ∧ ((x (5 + 21 * i) 10).toInt ≠ 0 ∧ ((x (5 + 21 * i + 19) a.toInt.toNat).toInt = 0 ∨ (x (5 + 21 * i) 11).toInt ≠ 0)) ∧ (x2 (5 + 21 * i) 11).toInt = 0 ∧ ∀ k, k < 8 → (x2 (5 + 21 * i + 19) k) = if k = a.toInt.toNat then 1 else if (x (5 + 21 * i) 11).toInt = 0 then (x (5 + 21 * i + 19) k) else 0))) (WO D g) (AQ g)) ([.ref (g.1 (5 + 21 * i)), .int a] : List Value).toArray s 0 0 (AQ g)) (F0 m 53 ls []) := by
    intro x_53 H locs ls hI_53 hT_53 hf53_0 hf53_1 hP hS hl
    refine lv_aload_n S.1 S.2.1 dX2_openFor_53 rfl (lv_at hl 0 rfl) ?_
    refine w_iconst S dX2_openFor_54 (by decide) (fun k1 hk1 => ?_)
    refine w_put (C := RX2) (T := TX2) (N := 15) (F := FPort g (5 + 21 * i)) S (fun _ h => List.mem_cons_of_mem _ (List.mem_append_right _ h)) tyX2_ok nmX2 hK hg hP hS (5 + 21 * i) (by have := h4; omega) (ceP0 h4) rfl 11 (by decide) (hts _ (List.mem_of_getElem? (i := 3) rfl)) rfl (tz_narrow (z01 (by omega) (by omega))) (tz_fits (z01 (by omega) (by omega))) (fun _ => Nat.le_of_ble_eq_true rfl) (fun _ => rfl) dX2_openFor_55 (fun x2 H locs ex2 hP hS => ?_)
    have hI3 : Inv x2 := by rw [ex2]; exact hI_53.upP0 h4 (show (0 : Int) ≤ _ by omega) (show _ ≤ (1 : Int) by omega)
    have hT4 : Same (TCo i) x x2 := by rw [ex2]; exact hT_53.up (by unfold TCo TC TrC; omega)
    have u5 : (x2 (5 + 21 * i) 11).toInt = k1.toInt := by rw [ex2, up2_at]
    have hp58 : ∀ k, (x2 (5 + 21 * i + 19) k) = (x_53 (5 + 21 * i + 19) k) := fun k => by rw [ex2, up2_ne _ _ (by omega)]
    refine lv_aload_n S.1 S.2.1 dX2_openFor_58 rfl (lv_at hl 0 rfl) ?_
    refine w_get (C := RX2) (T := TX2) (N := 15) S (fun _ h => List.mem_cons_of_mem _ (List.mem_append_right _ h)) hK hP (5 + 21 * i) (by have := h4; omega) ((ceP0 h4) _) rfl 7 (by decide) (hts _ (List.mem_of_getElem? (i := 2) rfl)) (v := .ref (g.1 (5 + 21 * i + 19))) rfl dX2_openFor_59 ?_
    refine lv_iload_n S.1 S.2.1 dX2_openFor_62 rfl (lv_at hl 1 rfl) ?_
    refine w_iconst S dX2_openFor_63 (by decide) (fun k6 hk6 => ?_)
    have hv64 : k6 = 1 := t_eq.mpr (by rw [hk6]; rfl)
    refine w_zast S hK hg hP hS (5 + 21 * i + 19) (by have := h4; omega) (ceP19 h4) (z01 (by omega) (by omega)) (by omega) (by omega) dX2_openFor_64 (fun x7 H locs ex7 hP hS => ?_)
    have hI8 : Inv x7 := by rw [ex7]; exact hI3.upP (j := 19) h4 (by decide) (show (0 : Int) ≤ _ by omega) (show _ ≤ (1 : Int) by omega)
    have hT9 : Same (TCo i) x x7 := by rw [ex7]; exact hT4.up (by unfold TCo TC TrC; omega)
    have u10 : (x7 (5 + 21 * i) 11).toInt = (x2 (5 + 21 * i) 11).toInt := by rw [ex7, up2_ne _ _ (by omega)]
    have hp66 : ∀ k, k < 8 → (x7 (5 + 21 * i + 19) k) = if k = a.toInt.toNat then 1 else if (x (5 + 21 * i) 11).toInt = 0 then (x (5 + 21 * i + 19) k) else 0 := by
      intro k hk
      rw [ex7]
      by_cases hk1 : k = a.toInt.toNat
      · rw [if_pos hk1, hk1, up2_at]; exact hv64
      · rw [if_neg hk1, up2_ne _ _ (by omega), hp58 k]; exact hf53_1 k hk
    refine w_iconst S dX2_openFor_65 (by decide) (fun k11 hk11 => ?_)
    exact w_zret S hr0 hlk hP hS dX2_openFor_66 (z01 (by omega) (by omega)) (⟨hI8, hT9, Or.inr ⟨by omega, hf53_0, by omega, hp66⟩⟩)
  have J34 : ∀ (n0 : Nat) (x_34 : St) (H : Heap) (locs : List Loc) (ls : Array Slot) (y34_2 : Int32), Inv x_34 → Same (TCo i) x x_34 → (0 ≤ y34_2.toInt) → (y34_2.toInt ≤ 8) → ((x (5 + 21 * i) 11).toInt ≠ 0) → (∀ k, k < 8 → (x_34 (5 + 21 * i + 19) k) = if (k : Int) < y34_2.toInt then 0 else (x (5 + 21 * i + 19) k)) → ((x (5 + 21 * i) 10).toInt ≠ 0 ∧ ((x (5 + 21 * i + 19) a.toInt.toNat).toInt = 0 ∨ (x (5 + 21 * i) 11).toInt ≠ 0)) → (8 - y34_2.toInt).toNat < n0 → va_P D vwCl (WL g x_34) H → va_S (AQ g) s.heap H locs → lv_has ls 3 [(0, .ref (g.1 (5 + 21 * i))), (1, .int a), (2, .int y34_2)] → W p l e ({ frames := 0, cells := 0, slots := 0, locals := 0 } : Room) s m ([.ref (g.1 (5 + 21 * i)), .int a] : List Value).toArray below meth co H locs 0 0 (MQ below (va_Qi (fun r x2 => Inv x2 ∧ Same (TCo i) x x2 ∧ ((r.toInt = 0 ∧ x2 = x ∧ ((x (5 + 21 * i) 10).toInt = 0 ∨ ((x (5 + 21 * i + 19) a.toInt.toNat).toInt ≠ 0 ∧ (x (5 + 21 * i) 11).toInt = 0))) ∨ (r.toInt = 1 ∧ ((x (5 + 21 * i) 10).toInt ≠ 0 ∧ ((x (5 + 21 * i + 19) a.toInt.toNat).toInt = 0 ∨ (x (5 + 21 * i) 11).toInt ≠ 0)) ∧ (x2 (5 + 21 * i) 11).toInt = 0 ∧ ∀ k, k < 8 → (x2 (5 + 21 * i + 19) k) = if k = a.toInt.toNat then 1 else if (x (5 + 21 * i) 11).toInt = 0 then (x (5 + 21 * i + 19) k) else 0))) (WO D g) (AQ g)) ([.ref (g.1 (5 + 21 * i)), .int a] : List Value).toArray s 0 0 (AQ g)) (F0 m 34 ls []) := by
    intro n0
    induction n0 with
    | zero => intro x_34 H locs ls y34_2 hI_34 hT_34 hf34_0 hf34_1 hf34_2 hf34_3 hf34_4 hm_34 hP hS hl; exact absurd hm_34 (Nat.not_lt_zero _)
    | succ n0 ih34 =>
      intro x_34 H locs ls y34_2 hI_34 hT_34 hf34_0 hf34_1 hf34_2 hf34_3 hf34_4 hm_34 hP hS hl
      refine lv_iload_n S.1 S.2.1 dX2_openFor_34 rfl (lv_at hl 2 rfl) ?_
      refine w_bipush S dX2_openFor_35 (by decide) (fun k12 hk12 => ?_)
      refine w_icmp_ge (tgt := 53) S dX2_openFor_37 (by decide) (fun hb13 => ?_) (fun hb13 => ?_)
      · exact J53 _ _ _ _ hI_34 hT_34 (by omega) (by intro k hk; first | (rw [if_pos (by omega)]; done) | (rw [if_neg (by omega), hf34_3 k hk, if_pos (by omega)])) hP hS (lv_sub hl [0, 1] rfl)
      · refine lv_aload_n S.1 S.2.1 dX2_openFor_40 rfl (lv_at hl 0 rfl) ?_
        refine w_get (C := RX2) (T := TX2) (N := 15) S (fun _ h => List.mem_cons_of_mem _ (List.mem_append_right _ h)) hK hP (5 + 21 * i) (by have := h4; omega) ((ceP0 h4) _) rfl 7 (by decide) (hts _ (List.mem_of_getElem? (i := 2) rfl)) (v := .ref (g.1 (5 + 21 * i + 19))) rfl dX2_openFor_41 ?_
        refine lv_iload_n S.1 S.2.1 dX2_openFor_44 rfl (lv_at hl 2 rfl) ?_
        refine w_iconst S dX2_openFor_45 (by decide) (fun k14 hk14 => ?_)
        have hv46 : k14 = 0 := t_eq.mpr (by rw [hk14]; rfl)
        refine w_zast S hK hg hP hS (5 + 21 * i + 19) (by have := h4; omega) (ceP19 h4) (z01 (by omega) (by omega)) (by omega) (by omega) dX2_openFor_46 (fun x15 H locs ex15 hP hS => ?_)
        have hI16 : Inv x15 := by rw [ex15]; exact hI_34.upP (j := 19) h4 (by decide) (show (0 : Int) ≤ _ by omega) (show _ ≤ (1 : Int) by omega)
        have hT17 : Same (TCo i) x x15 := by rw [ex15]; exact hT_34.up (by unfold TCo TC TrC; omega)
        have u18 : (x15 (5 + 21 * i) 11).toInt = (x_34 (5 + 21 * i) 11).toInt := by rw [ex15, up2_ne _ _ (by omega)]
        have hp47 : ∀ k, k < 8 → (x15 (5 + 21 * i + 19) k) = if (k : Int) < y34_2.toInt + 1 then 0 else (x (5 + 21 * i + 19) k) := by
          intro k hk
          rw [ex15]
          by_cases hk1 : k = y34_2.toInt.toNat
          · rw [hk1, up2_at, if_pos (by omega)]; exact hv46
          · rw [up2_ne _ _ (by omega), hf34_3 k hk]
            by_cases hk2 : (k : Int) < y34_2.toInt
            · rw [if_pos hk2, if_pos (by omega)]
            · rw [if_neg hk2, if_neg (by omega)]
        refine w_iinc (lv' := [(0, .ref (g.1 (5 + 21 * i))), (1, .int a)]) S dX2_openFor_47 hl (k := 2) rfl (by decide) (by decide) (by omega) (by omega) (fun _ => rfl) (fun v19 ls hv19 hl => ?_)
        refine lv_goto (tgt := 34) S.1 S.2.1 dX2_openFor_50 (by decide) ?_
        exact ih34 _ _ _ _ v19 hI16 hT17 (by omega) (by omega) (by omega) (by intro k hk; first | (rw [if_neg (by omega)]; done) | (rw [hp47 k hk]; by_cases h2 : (k : Int) < y34_2.toInt + 1; (rw [if_pos h2, if_pos (by omega)]); (rw [if_neg h2, if_neg (by omega)]))) (by omega) (by omega) hP hS (lv_sub hl [1, 2, 0] rfl)
  have J25 : ∀ (H : Heap) (locs : List Loc) (ls : Array Slot), ((x (5 + 21 * i) 10).toInt ≠ 0 ∧ ((x (5 + 21 * i + 19) a.toInt.toNat).toInt = 0 ∨ (x (5 + 21 * i) 11).toInt ≠ 0)) → va_P D vwCl (WL g x) H → va_S (AQ g) s.heap H locs → lv_has ls 3 [(0, .ref (g.1 (5 + 21 * i))), (1, .int a)] → W p l e ({ frames := 0, cells := 0, slots := 0, locals := 0 } : Room) s m ([.ref (g.1 (5 + 21 * i)), .int a] : List Value).toArray below meth co H locs 0 0 (MQ below (va_Qi (fun r x2 => Inv x2 ∧ Same (TCo i) x x2 ∧ ((r.toInt = 0 ∧ x2 = x ∧ ((x (5 + 21 * i) 10).toInt = 0 ∨ ((x (5 + 21 * i + 19) a.toInt.toNat).toInt ≠ 0 ∧ (x (5 + 21 * i) 11).toInt = 0))) ∨ (r.toInt = 1 ∧ ((x (5 + 21 * i) 10).toInt ≠ 0 ∧ ((x (5 + 21 * i + 19) a.toInt.toNat).toInt = 0 ∨ (x (5 + 21 * i) 11).toInt ≠ 0)) ∧ (x2 (5 + 21 * i) 11).toInt = 0 ∧ ∀ k, k < 8 → (x2 (5 + 21 * i + 19) k) = if k = a.toInt.toNat then 1 else if (x (5 + 21 * i) 11).toInt = 0 then (x (5 + 21 * i + 19) k) else 0))) (WO D g) (AQ g)) ([.ref (g.1 (5 + 21 * i)), .int a] : List Value).toArray s 0 0 (AQ g)) (F0 m 25 ls []) := by
    intro H locs ls hf25_0 hP hS hl
    refine lv_aload_n S.1 S.2.1 dX2_openFor_25 rfl (lv_at hl 0 rfl) ?_
    refine w_get (C := RX2) (T := TX2) (N := 15) S (fun _ h => List.mem_cons_of_mem _ (List.mem_append_right _ h)) hK hP (5 + 21 * i) (by have := h4; omega) ((ceP0 h4) _) rfl 11 (by decide) (hts _ (List.mem_of_getElem? (i := 3) rfl)) (v := .int (x (5 + 21 * i) 11)) rfl dX2_openFor_26 ?_
    refine lv_topi (fun v20 ev20 => ?_)
    have wv20 : v20.toInt = (x (5 + 21 * i) 11).toInt := by rw [ev20]
    have rv20 : (0 : Int) ≤ v20.toInt ∧ v20.toInt ≤ (1 : Int) := by rw [ev20]; exact hI.atP0 (k := 11) h4
    refine w_if_eq (tgt := 53) S dX2_openFor_29 (by decide) (fun hb21 => ?_) (fun hb21 => ?_)
    · exact J53 _ _ _ _ hI hT (by omega) (by intro k hk; first | (rw [if_pos (by omega)]; done) | (rw [if_neg (by omega), hf34_3 k hk, if_pos (by omega)])) hP hS (lv_sub hl [0, 1] rfl)
    · refine w_iconst S dX2_openFor_32 (by decide) (fun k22 hk22 => ?_)
      refine lv_istore_n (lv' := [(2, .int k22), (0, .ref (g.1 (5 + 21 * i))), (1, .int a)]) S.1 S.2.1 dX2_openFor_33 rfl hl (by decide) rfl (fun ls hl => ?_)
      exact J34 _ _ _ _ _ k22 hI hT (by omega) (by omega) (by omega) (by intro k hk; first | (rw [if_neg (by omega)]; done) | (rw [hp47 k hk]; by_cases h2 : (k : Int) < y34_2.toInt + 1; (rw [if_pos h2, if_pos (by omega)]); (rw [if_neg h2, if_neg (by omega)]))) (by omega) (Nat.lt_succ_self _) hP hS (lv_sub hl [1, 2, 0] rfl)
  refine lv_aload_n S.1 S.2.1 dX2_openFor_0 rfl (lv_at hl 0 rfl) ?_
  refine w_get (C := RX2) (T := TX2) (N := 15) S (fun _ h => List.mem_cons_of_mem _ (List.mem_append_right _ h)) hK hP (5 + 21 * i) (by have := h4; omega) ((ceP0 h4) _) rfl 10 (by decide) (hts _ (List.mem_of_getElem? (i := 1) rfl)) (v := .int (x (5 + 21 * i) 10)) rfl dX2_openFor_1 ?_
  refine lv_topi (fun v23 ev23 => ?_)
  have wv23 : v23.toInt = (x (5 + 21 * i) 10).toInt := by rw [ev23]
  have rv23 : (0 : Int) ≤ v23.toInt ∧ v23.toInt ≤ (1 : Int) := by rw [ev23]; exact hI.atP0 (k := 10) h4
  refine w_if_eq (tgt := 23) S dX2_openFor_4 (by decide) (fun hb24 => ?_) (fun hb24 => ?_)
  · refine w_iconst S dX2_openFor_23 (by decide) (fun k25 hk25 => ?_)
    exact w_zret S hr0 hlk hP hS dX2_openFor_24 (z01 (by omega) (by omega)) (⟨hI, hT, Or.inl ⟨by omega, rfl, by omega⟩⟩)
  · refine lv_aload_n S.1 S.2.1 dX2_openFor_7 rfl (lv_at hl 0 rfl) ?_
    refine w_get (C := RX2) (T := TX2) (N := 15) S (fun _ h => List.mem_cons_of_mem _ (List.mem_append_right _ h)) hK hP (5 + 21 * i) (by have := h4; omega) ((ceP0 h4) _) rfl 7 (by decide) (hts _ (List.mem_of_getElem? (i := 2) rfl)) (v := .ref (g.1 (5 + 21 * i + 19))) rfl dX2_openFor_8 ?_
    refine lv_iload_n S.1 S.2.1 dX2_openFor_11 rfl (lv_at hl 1 rfl) ?_
    refine w_zald S hK hP (5 + 21 * i + 19) (by have := h4; omega) (ceP19 h4) (by omega) (by omega) dX2_openFor_12 (fun v26 ev26 => ?_)
    have wv26 : v26.toInt = (x (5 + 21 * i + 19) a.toInt.toNat).toInt := by rw [ev26]
    have rv26 : (0 : Int) ≤ v26.toInt ∧ v26.toInt ≤ (1 : Int) := by rw [ev26]; exact hI.atP (j := 19) (k := _) h4 (by decide)
    refine w_if_eq (tgt := 25) S dX2_openFor_13 (by decide) (fun hb27 => ?_) (fun hb27 => ?_)
    · exact J25 _ _ _ (by omega) hP hS (lv_sub hl [0, 1] rfl)
    · refine lv_aload_n S.1 S.2.1 dX2_openFor_16 rfl (lv_at hl 0 rfl) ?_
      refine w_get (C := RX2) (T := TX2) (N := 15) S (fun _ h => List.mem_cons_of_mem _ (List.mem_append_right _ h)) hK hP (5 + 21 * i) (by have := h4; omega) ((ceP0 h4) _) rfl 11 (by decide) (hts _ (List.mem_of_getElem? (i := 3) rfl)) (v := .int (x (5 + 21 * i) 11)) rfl dX2_openFor_17 ?_
      refine lv_topi (fun v28 ev28 => ?_)
      have wv28 : v28.toInt = (x (5 + 21 * i) 11).toInt := by rw [ev28]
      have rv28 : (0 : Int) ≤ v28.toInt ∧ v28.toInt ≤ (1 : Int) := by rw [ev28]; exact hI.atP0 (k := 11) h4
      refine w_if_ne (tgt := 25) S dX2_openFor_20 (by decide) (fun hb29 => ?_) (fun hb29 => ?_)
      · exact J25 _ _ _ (by omega) hP hS (lv_sub hl [0, 1] rfl)
      · refine w_iconst S dX2_openFor_23 (by decide) (fun k30 hk30 => ?_)
        exact w_zret S hr0 hlk hP hS dX2_openFor_24 (z01 (by omega) (by omega)) (⟨hI, hT, Or.inl ⟨by omega, rfl, by omega⟩⟩)
end
